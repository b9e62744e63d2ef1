section
-- ===== PART A: goes FIRST, ahead of the names: the tables' words, and 'selects' of the private methods out of them =====
/-- a private method of a class that the tables say can be made, by its rows of tables_1 -/
def lw_okq (q : MethodName × Nat) : Prop := (q.1.cls ≠ "java/lang/invoke/MethodHandle" ∧ q.1.cls ≠ "java/lang/invoke/VarHandle") ∧ Cond.instantiable q.1.cls q.2 ∈ tables_1 ∧ Cond.privateMethod q.1 ∈ tables_1 ∧ Cond.instanceMethod q.1 ∈ tables_1
theorem lw_p0 : lw_okq (⟨"SpanCopier$Tape", "put", "(I)V"⟩, 11) := ⟨⟨by decide +kernel, by decide +kernel⟩, List.mem_of_getElem? (i := 32) (by decide +kernel), List.mem_of_getElem? (i := 422) (by decide +kernel), List.mem_of_getElem? (i := 423) (by decide +kernel)⟩
theorem lw_p1 : lw_okq (⟨"SpanCopier$Tape", "open", "(I)V"⟩, 11) := ⟨⟨by decide +kernel, by decide +kernel⟩, List.mem_of_getElem? (i := 32) (by decide +kernel), List.mem_of_getElem? (i := 434) (by decide +kernel), List.mem_of_getElem? (i := 435) (by decide +kernel)⟩
theorem lw_p2 : lw_okq (⟨"SpanCopier$Tape", "step", "()V"⟩, 11) := ⟨⟨by decide +kernel, by decide +kernel⟩, List.mem_of_getElem? (i := 32) (by decide +kernel), List.mem_of_getElem? (i := 441) (by decide +kernel), List.mem_of_getElem? (i := 442) (by decide +kernel)⟩
theorem lw_p3 : lw_okq (⟨"SpanCopier$Tape", "byteAt", "(I)I"⟩, 11) := ⟨⟨by decide +kernel, by decide +kernel⟩, List.mem_of_getElem? (i := 32) (by decide +kernel), List.mem_of_getElem? (i := 445) (by decide +kernel), List.mem_of_getElem? (i := 446) (by decide +kernel)⟩
theorem lw_p4 : lw_okq (⟨"SpanCopier$Tape", "readRun", "()V"⟩, 11) := ⟨⟨by decide +kernel, by decide +kernel⟩, List.mem_of_getElem? (i := 32) (by decide +kernel), List.mem_of_getElem? (i := 458) (by decide +kernel), List.mem_of_getElem? (i := 459) (by decide +kernel)⟩
theorem lw_p5 : lw_okq (⟨"SpanCopier$Order", "readLines", "(LSpanCopier$Tape;)I"⟩, 11) := ⟨⟨by decide +kernel, by decide +kernel⟩, List.mem_of_getElem? (i := 264) (by decide +kernel), List.mem_of_getElem? (i := 479) (by decide +kernel), List.mem_of_getElem? (i := 480) (by decide +kernel)⟩
theorem lw_p6 : lw_okq (⟨"SpanCopier$Order", "readLine", "(LSpanCopier$Tape;)Z"⟩, 11) := ⟨⟨by decide +kernel, by decide +kernel⟩, List.mem_of_getElem? (i := 264) (by decide +kernel), List.mem_of_getElem? (i := 483) (by decide +kernel), List.mem_of_getElem? (i := 484) (by decide +kernel)⟩
theorem lw_p7 : lw_okq (⟨"SpanCopier$Order", "readSetting", "(LSpanCopier$Tape;I)Z"⟩, 11) := ⟨⟨by decide +kernel, by decide +kernel⟩, List.mem_of_getElem? (i := 264) (by decide +kernel), List.mem_of_getElem? (i := 495) (by decide +kernel), List.mem_of_getElem? (i := 496) (by decide +kernel)⟩
theorem lw_p8 : lw_okq (⟨"SpanCopier$Order", "isToldFirst", "(LSpanCopier$Tape;I)Z"⟩, 11) := ⟨⟨by decide +kernel, by decide +kernel⟩, List.mem_of_getElem? (i := 264) (by decide +kernel), List.mem_of_getElem? (i := 499) (by decide +kernel), List.mem_of_getElem? (i := 500) (by decide +kernel)⟩
theorem lw_p9 : lw_okq (⟨"SpanCopier$Tape", "fail", "(I)Z"⟩, 11) := ⟨⟨by decide +kernel, by decide +kernel⟩, List.mem_of_getElem? (i := 32) (by decide +kernel), List.mem_of_getElem? (i := 503) (by decide +kernel), List.mem_of_getElem? (i := 504) (by decide +kernel)⟩
theorem lw_p10 : lw_okq (⟨"SpanCopier$Tape", "stepToNumber", "(II)Z"⟩, 11) := ⟨⟨by decide +kernel, by decide +kernel⟩, List.mem_of_getElem? (i := 32) (by decide +kernel), List.mem_of_getElem? (i := 509) (by decide +kernel), List.mem_of_getElem? (i := 510) (by decide +kernel)⟩
theorem lw_p11 : lw_okq (⟨"SpanCopier$Order", "readPolicy", "(LSpanCopier$Tape;)Z"⟩, 11) := ⟨⟨by decide +kernel, by decide +kernel⟩, List.mem_of_getElem? (i := 264) (by decide +kernel), List.mem_of_getElem? (i := 514) (by decide +kernel), List.mem_of_getElem? (i := 515) (by decide +kernel)⟩
theorem lw_p12 : lw_okq (⟨"SpanCopier$Order", "readTo", "(LSpanCopier$Tape;)Z"⟩, 11) := ⟨⟨by decide +kernel, by decide +kernel⟩, List.mem_of_getElem? (i := 264) (by decide +kernel), List.mem_of_getElem? (i := 519) (by decide +kernel), List.mem_of_getElem? (i := 520) (by decide +kernel)⟩
theorem lw_p13 : lw_okq (⟨"SpanCopier$Order", "readName", "(LSpanCopier$Tape;)Z"⟩, 11) := ⟨⟨by decide +kernel, by decide +kernel⟩, List.mem_of_getElem? (i := 264) (by decide +kernel), List.mem_of_getElem? (i := 523) (by decide +kernel), List.mem_of_getElem? (i := 524) (by decide +kernel)⟩
theorem lw_p14 : lw_okq (⟨"SpanCopier$Order", "readHas", "(LSpanCopier$Tape;)Z"⟩, 11) := ⟨⟨by decide +kernel, by decide +kernel⟩, List.mem_of_getElem? (i := 264) (by decide +kernel), List.mem_of_getElem? (i := 527) (by decide +kernel), List.mem_of_getElem? (i := 528) (by decide +kernel)⟩
theorem lw_p15 : lw_okq (⟨"SpanCopier$Order", "readAct", "(LSpanCopier$Tape;)Z"⟩, 11) := ⟨⟨by decide +kernel, by decide +kernel⟩, List.mem_of_getElem? (i := 264) (by decide +kernel), List.mem_of_getElem? (i := 531) (by decide +kernel), List.mem_of_getElem? (i := 532) (by decide +kernel)⟩
def lw_privs_1 : List (MethodName × Nat) := [(⟨"SpanCopier$Tape", "put", "(I)V"⟩, 11), (⟨"SpanCopier$Tape", "open", "(I)V"⟩, 11), (⟨"SpanCopier$Tape", "step", "()V"⟩, 11), (⟨"SpanCopier$Tape", "byteAt", "(I)I"⟩, 11), (⟨"SpanCopier$Tape", "readRun", "()V"⟩, 11), (⟨"SpanCopier$Order", "readLines", "(LSpanCopier$Tape;)I"⟩, 11), (⟨"SpanCopier$Order", "readLine", "(LSpanCopier$Tape;)Z"⟩, 11), (⟨"SpanCopier$Order", "readSetting", "(LSpanCopier$Tape;I)Z"⟩, 11), (⟨"SpanCopier$Order", "isToldFirst", "(LSpanCopier$Tape;I)Z"⟩, 11), (⟨"SpanCopier$Tape", "fail", "(I)Z"⟩, 11), (⟨"SpanCopier$Tape", "stepToNumber", "(II)Z"⟩, 11), (⟨"SpanCopier$Order", "readPolicy", "(LSpanCopier$Tape;)Z"⟩, 11), (⟨"SpanCopier$Order", "readTo", "(LSpanCopier$Tape;)Z"⟩, 11), (⟨"SpanCopier$Order", "readName", "(LSpanCopier$Tape;)Z"⟩, 11), (⟨"SpanCopier$Order", "readHas", "(LSpanCopier$Tape;)Z"⟩, 11), (⟨"SpanCopier$Order", "readAct", "(LSpanCopier$Tape;)Z"⟩, 11)]
theorem lw_r1 : ∀ q ∈ lw_privs_1, lw_okq q := List.forall_mem_cons.mpr ⟨lw_p0, List.forall_mem_cons.mpr ⟨lw_p1, List.forall_mem_cons.mpr ⟨lw_p2, List.forall_mem_cons.mpr ⟨lw_p3, List.forall_mem_cons.mpr ⟨lw_p4, List.forall_mem_cons.mpr ⟨lw_p5, List.forall_mem_cons.mpr ⟨lw_p6, List.forall_mem_cons.mpr ⟨lw_p7, List.forall_mem_cons.mpr ⟨lw_p8, List.forall_mem_cons.mpr ⟨lw_p9, List.forall_mem_cons.mpr ⟨lw_p10, List.forall_mem_cons.mpr ⟨lw_p11, List.forall_mem_cons.mpr ⟨lw_p12, List.forall_mem_cons.mpr ⟨lw_p13, List.forall_mem_cons.mpr ⟨lw_p14, List.forall_mem_cons.mpr ⟨lw_p15, fun _ h => absurd h List.not_mem_nil⟩⟩⟩⟩⟩⟩⟩⟩⟩⟩⟩⟩⟩⟩⟩⟩
theorem lw_p16 : lw_okq (⟨"SpanCopier$Tape", "stepOverEnd", "()Z"⟩, 11) := ⟨⟨by decide +kernel, by decide +kernel⟩, List.mem_of_getElem? (i := 32) (by decide +kernel), List.mem_of_getElem? (i := 543) (by decide +kernel), List.mem_of_getElem? (i := 544) (by decide +kernel)⟩
theorem lw_p17 : lw_okq (⟨"SpanCopier", "closeText", "()V"⟩, 12) := ⟨⟨by decide +kernel, by decide +kernel⟩, List.mem_of_getElem? (i := 24) (by decide +kernel), List.mem_of_getElem? (i := 547) (by decide +kernel), List.mem_of_getElem? (i := 548) (by decide +kernel)⟩
theorem lw_p18 : lw_okq (⟨"SpanCopier$World", "begin", "(LSpanCopier$Order;)V"⟩, 11) := ⟨⟨by decide +kernel, by decide +kernel⟩, List.mem_of_getElem? (i := 117) (by decide +kernel), List.mem_of_getElem? (i := 551) (by decide +kernel), List.mem_of_getElem? (i := 552) (by decide +kernel)⟩
theorem lw_p19 : lw_okq (⟨"SpanCopier$World", "restart", "([B)V"⟩, 11) := ⟨⟨by decide +kernel, by decide +kernel⟩, List.mem_of_getElem? (i := 117) (by decide +kernel), List.mem_of_getElem? (i := 555) (by decide +kernel), List.mem_of_getElem? (i := 556) (by decide +kernel)⟩
theorem lw_p20 : lw_okq (⟨"SpanCopier$Link", "clear", "()V"⟩, 5) := ⟨⟨by decide +kernel, by decide +kernel⟩, List.mem_of_getElem? (i := 123) (by decide +kernel), List.mem_of_getElem? (i := 559) (by decide +kernel), List.mem_of_getElem? (i := 560) (by decide +kernel)⟩
theorem lw_p21 : lw_okq (⟨"SpanCopier$Sender", "clear", "()V"⟩, 6) := ⟨⟨by decide +kernel, by decide +kernel⟩, List.mem_of_getElem? (i := 152) (by decide +kernel), List.mem_of_getElem? (i := 563) (by decide +kernel), List.mem_of_getElem? (i := 564) (by decide +kernel)⟩
theorem lw_p22 : lw_okq (⟨"SpanCopier$Places", "clear", "()V"⟩, 2) := ⟨⟨by decide +kernel, by decide +kernel⟩, List.mem_of_getElem? (i := 158) (by decide +kernel), List.mem_of_getElem? (i := 567) (by decide +kernel), List.mem_of_getElem? (i := 568) (by decide +kernel)⟩
theorem lw_p23 : lw_okq (⟨"SpanCopier$Taker", "clear", "()V"⟩, 9) := ⟨⟨by decide +kernel, by decide +kernel⟩, List.mem_of_getElem? (i := 197) (by decide +kernel), List.mem_of_getElem? (i := 574) (by decide +kernel), List.mem_of_getElem? (i := 575) (by decide +kernel)⟩
theorem lw_p24 : lw_okq (⟨"SpanCopier$Shelf", "clear", "(I)V"⟩, 5) := ⟨⟨by decide +kernel, by decide +kernel⟩, List.mem_of_getElem? (i := 241) (by decide +kernel), List.mem_of_getElem? (i := 579) (by decide +kernel), List.mem_of_getElem? (i := 580) (by decide +kernel)⟩
theorem lw_p25 : lw_okq (⟨"SpanCopier", "lookBefore", "()V"⟩, 12) := ⟨⟨by decide +kernel, by decide +kernel⟩, List.mem_of_getElem? (i := 24) (by decide +kernel), List.mem_of_getElem? (i := 594) (by decide +kernel), List.mem_of_getElem? (i := 595) (by decide +kernel)⟩
theorem lw_p26 : lw_okq (⟨"SpanCopier$World", "copyFrom", "(LSpanCopier$World;)V"⟩, 11) := ⟨⟨by decide +kernel, by decide +kernel⟩, List.mem_of_getElem? (i := 117) (by decide +kernel), List.mem_of_getElem? (i := 598) (by decide +kernel), List.mem_of_getElem? (i := 599) (by decide +kernel)⟩
theorem lw_p27 : lw_okq (⟨"SpanCopier$Link", "copyFrom", "(LSpanCopier$Link;)V"⟩, 5) := ⟨⟨by decide +kernel, by decide +kernel⟩, List.mem_of_getElem? (i := 123) (by decide +kernel), List.mem_of_getElem? (i := 602) (by decide +kernel), List.mem_of_getElem? (i := 603) (by decide +kernel)⟩
theorem lw_p28 : lw_okq (⟨"SpanCopier$Sender", "copyFrom", "(LSpanCopier$Sender;)V"⟩, 6) := ⟨⟨by decide +kernel, by decide +kernel⟩, List.mem_of_getElem? (i := 152) (by decide +kernel), List.mem_of_getElem? (i := 607) (by decide +kernel), List.mem_of_getElem? (i := 608) (by decide +kernel)⟩
theorem lw_p29 : lw_okq (⟨"SpanCopier$Places", "copyFrom", "(LSpanCopier$Places;)V"⟩, 2) := ⟨⟨by decide +kernel, by decide +kernel⟩, List.mem_of_getElem? (i := 158) (by decide +kernel), List.mem_of_getElem? (i := 611) (by decide +kernel), List.mem_of_getElem? (i := 612) (by decide +kernel)⟩
theorem lw_p30 : lw_okq (⟨"SpanCopier$Taker", "copyFrom", "(LSpanCopier$Taker;)V"⟩, 9) := ⟨⟨by decide +kernel, by decide +kernel⟩, List.mem_of_getElem? (i := 197) (by decide +kernel), List.mem_of_getElem? (i := 616) (by decide +kernel), List.mem_of_getElem? (i := 617) (by decide +kernel)⟩
theorem lw_p31 : lw_okq (⟨"SpanCopier$Shelf", "copyFrom", "(LSpanCopier$Shelf;)V"⟩, 5) := ⟨⟨by decide +kernel, by decide +kernel⟩, List.mem_of_getElem? (i := 241) (by decide +kernel), List.mem_of_getElem? (i := 622) (by decide +kernel), List.mem_of_getElem? (i := 623) (by decide +kernel)⟩
def lw_privs_2 : List (MethodName × Nat) := [(⟨"SpanCopier$Tape", "stepOverEnd", "()Z"⟩, 11), (⟨"SpanCopier", "closeText", "()V"⟩, 12), (⟨"SpanCopier$World", "begin", "(LSpanCopier$Order;)V"⟩, 11), (⟨"SpanCopier$World", "restart", "([B)V"⟩, 11), (⟨"SpanCopier$Link", "clear", "()V"⟩, 5), (⟨"SpanCopier$Sender", "clear", "()V"⟩, 6), (⟨"SpanCopier$Places", "clear", "()V"⟩, 2), (⟨"SpanCopier$Taker", "clear", "()V"⟩, 9), (⟨"SpanCopier$Shelf", "clear", "(I)V"⟩, 5), (⟨"SpanCopier", "lookBefore", "()V"⟩, 12), (⟨"SpanCopier$World", "copyFrom", "(LSpanCopier$World;)V"⟩, 11), (⟨"SpanCopier$Link", "copyFrom", "(LSpanCopier$Link;)V"⟩, 5), (⟨"SpanCopier$Sender", "copyFrom", "(LSpanCopier$Sender;)V"⟩, 6), (⟨"SpanCopier$Places", "copyFrom", "(LSpanCopier$Places;)V"⟩, 2), (⟨"SpanCopier$Taker", "copyFrom", "(LSpanCopier$Taker;)V"⟩, 9), (⟨"SpanCopier$Shelf", "copyFrom", "(LSpanCopier$Shelf;)V"⟩, 5)]
theorem lw_r2 : ∀ q ∈ lw_privs_2, lw_okq q := List.forall_mem_cons.mpr ⟨lw_p16, List.forall_mem_cons.mpr ⟨lw_p17, List.forall_mem_cons.mpr ⟨lw_p18, List.forall_mem_cons.mpr ⟨lw_p19, List.forall_mem_cons.mpr ⟨lw_p20, List.forall_mem_cons.mpr ⟨lw_p21, List.forall_mem_cons.mpr ⟨lw_p22, List.forall_mem_cons.mpr ⟨lw_p23, List.forall_mem_cons.mpr ⟨lw_p24, List.forall_mem_cons.mpr ⟨lw_p25, List.forall_mem_cons.mpr ⟨lw_p26, List.forall_mem_cons.mpr ⟨lw_p27, List.forall_mem_cons.mpr ⟨lw_p28, List.forall_mem_cons.mpr ⟨lw_p29, List.forall_mem_cons.mpr ⟨lw_p30, List.forall_mem_cons.mpr ⟨lw_p31, fun _ h => absurd h List.not_mem_nil⟩⟩⟩⟩⟩⟩⟩⟩⟩⟩⟩⟩⟩⟩⟩⟩
theorem lw_p32 : lw_okq (⟨"SpanCopier$World", "load", "([B)V"⟩, 11) := ⟨⟨by decide +kernel, by decide +kernel⟩, List.mem_of_getElem? (i := 117) (by decide +kernel), List.mem_of_getElem? (i := 639) (by decide +kernel), List.mem_of_getElem? (i := 640) (by decide +kernel)⟩
theorem lw_p33 : lw_okq (⟨"SpanCopier", "keepLooked", "()V"⟩, 12) := ⟨⟨by decide +kernel, by decide +kernel⟩, List.mem_of_getElem? (i := 24) (by decide +kernel), List.mem_of_getElem? (i := 643) (by decide +kernel), List.mem_of_getElem? (i := 644) (by decide +kernel)⟩
theorem lw_p34 : lw_okq (⟨"SpanCopier$World", "passTicks", "(I)I"⟩, 11) := ⟨⟨by decide +kernel, by decide +kernel⟩, List.mem_of_getElem? (i := 117) (by decide +kernel), List.mem_of_getElem? (i := 651) (by decide +kernel), List.mem_of_getElem? (i := 652) (by decide +kernel)⟩
theorem lw_p35 : lw_okq (⟨"SpanCopier$World", "passTick", "()V"⟩, 11) := ⟨⟨by decide +kernel, by decide +kernel⟩, List.mem_of_getElem? (i := 117) (by decide +kernel), List.mem_of_getElem? (i := 655) (by decide +kernel), List.mem_of_getElem? (i := 656) (by decide +kernel)⟩
theorem lw_p36 : lw_okq (⟨"SpanCopier$Link", "get", "(II)I"⟩, 5) := ⟨⟨by decide +kernel, by decide +kernel⟩, List.mem_of_getElem? (i := 123) (by decide +kernel), List.mem_of_getElem? (i := 659) (by decide +kernel), List.mem_of_getElem? (i := 660) (by decide +kernel)⟩
theorem lw_p37 : lw_okq (⟨"SpanCopier$Link", "has", "(I)Z"⟩, 5) := ⟨⟨by decide +kernel, by decide +kernel⟩, List.mem_of_getElem? (i := 123) (by decide +kernel), List.mem_of_getElem? (i := 663) (by decide +kernel), List.mem_of_getElem? (i := 664) (by decide +kernel)⟩
theorem lw_p38 : lw_okq (⟨"SpanCopier$Link", "take", "(I)V"⟩, 5) := ⟨⟨by decide +kernel, by decide +kernel⟩, List.mem_of_getElem? (i := 123) (by decide +kernel), List.mem_of_getElem? (i := 667) (by decide +kernel), List.mem_of_getElem? (i := 668) (by decide +kernel)⟩
theorem lw_p39 : lw_okq (⟨"SpanCopier$Link", "remove", "(I)I"⟩, 5) := ⟨⟨by decide +kernel, by decide +kernel⟩, List.mem_of_getElem? (i := 123) (by decide +kernel), List.mem_of_getElem? (i := 671) (by decide +kernel), List.mem_of_getElem? (i := 672) (by decide +kernel)⟩
theorem lw_p40 : lw_okq (⟨"SpanCopier$Taker", "meet", "(LSpanCopier$World;)V"⟩, 9) := ⟨⟨by decide +kernel, by decide +kernel⟩, List.mem_of_getElem? (i := 197) (by decide +kernel), List.mem_of_getElem? (i := 678) (by decide +kernel), List.mem_of_getElem? (i := 679) (by decide +kernel)⟩
theorem lw_p41 : lw_okq (⟨"SpanCopier$Taker", "meetData", "(LSpanCopier$World;)V"⟩, 9) := ⟨⟨by decide +kernel, by decide +kernel⟩, List.mem_of_getElem? (i := 197) (by decide +kernel), List.mem_of_getElem? (i := 682) (by decide +kernel), List.mem_of_getElem? (i := 683) (by decide +kernel)⟩
theorem lw_p42 : lw_okq (⟨"SpanCopier$Places", "mark", "(II)V"⟩, 2) := ⟨⟨by decide +kernel, by decide +kernel⟩, List.mem_of_getElem? (i := 158) (by decide +kernel), List.mem_of_getElem? (i := 686) (by decide +kernel), List.mem_of_getElem? (i := 687) (by decide +kernel)⟩
theorem lw_p43 : lw_okq (⟨"SpanCopier$Link", "sendNak", "(LSpanCopier$Places;II)V"⟩, 5) := ⟨⟨by decide +kernel, by decide +kernel⟩, List.mem_of_getElem? (i := 123) (by decide +kernel), List.mem_of_getElem? (i := 693) (by decide +kernel), List.mem_of_getElem? (i := 694) (by decide +kernel)⟩
theorem lw_p44 : lw_okq (⟨"SpanCopier$Places", "nextFrom", "(I)I"⟩, 2) := ⟨⟨by decide +kernel, by decide +kernel⟩, List.mem_of_getElem? (i := 158) (by decide +kernel), List.mem_of_getElem? (i := 697) (by decide +kernel), List.mem_of_getElem? (i := 698) (by decide +kernel)⟩
theorem lw_p45 : lw_okq (⟨"SpanCopier$Places", "endOf", "(I)I"⟩, 2) := ⟨⟨by decide +kernel, by decide +kernel⟩, List.mem_of_getElem? (i := 158) (by decide +kernel), List.mem_of_getElem? (i := 701) (by decide +kernel), List.mem_of_getElem? (i := 702) (by decide +kernel)⟩
theorem lw_p46 : lw_okq (⟨"SpanCopier$Link", "send", "(III)V"⟩, 5) := ⟨⟨by decide +kernel, by decide +kernel⟩, List.mem_of_getElem? (i := 123) (by decide +kernel), List.mem_of_getElem? (i := 706) (by decide +kernel), List.mem_of_getElem? (i := 707) (by decide +kernel)⟩
theorem lw_p47 : lw_okq (⟨"SpanCopier$Taker", "copyBytes", "(LSpanCopier$World;II)V"⟩, 9) := ⟨⟨by decide +kernel, by decide +kernel⟩, List.mem_of_getElem? (i := 197) (by decide +kernel), List.mem_of_getElem? (i := 711) (by decide +kernel), List.mem_of_getElem? (i := 712) (by decide +kernel)⟩
def lw_privs_3 : List (MethodName × Nat) := [(⟨"SpanCopier$World", "load", "([B)V"⟩, 11), (⟨"SpanCopier", "keepLooked", "()V"⟩, 12), (⟨"SpanCopier$World", "passTicks", "(I)I"⟩, 11), (⟨"SpanCopier$World", "passTick", "()V"⟩, 11), (⟨"SpanCopier$Link", "get", "(II)I"⟩, 5), (⟨"SpanCopier$Link", "has", "(I)Z"⟩, 5), (⟨"SpanCopier$Link", "take", "(I)V"⟩, 5), (⟨"SpanCopier$Link", "remove", "(I)I"⟩, 5), (⟨"SpanCopier$Taker", "meet", "(LSpanCopier$World;)V"⟩, 9), (⟨"SpanCopier$Taker", "meetData", "(LSpanCopier$World;)V"⟩, 9), (⟨"SpanCopier$Places", "mark", "(II)V"⟩, 2), (⟨"SpanCopier$Link", "sendNak", "(LSpanCopier$Places;II)V"⟩, 5), (⟨"SpanCopier$Places", "nextFrom", "(I)I"⟩, 2), (⟨"SpanCopier$Places", "endOf", "(I)I"⟩, 2), (⟨"SpanCopier$Link", "send", "(III)V"⟩, 5), (⟨"SpanCopier$Taker", "copyBytes", "(LSpanCopier$World;II)V"⟩, 9)]
theorem lw_r3 : ∀ q ∈ lw_privs_3, lw_okq q := List.forall_mem_cons.mpr ⟨lw_p32, List.forall_mem_cons.mpr ⟨lw_p33, List.forall_mem_cons.mpr ⟨lw_p34, List.forall_mem_cons.mpr ⟨lw_p35, List.forall_mem_cons.mpr ⟨lw_p36, List.forall_mem_cons.mpr ⟨lw_p37, List.forall_mem_cons.mpr ⟨lw_p38, List.forall_mem_cons.mpr ⟨lw_p39, List.forall_mem_cons.mpr ⟨lw_p40, List.forall_mem_cons.mpr ⟨lw_p41, List.forall_mem_cons.mpr ⟨lw_p42, List.forall_mem_cons.mpr ⟨lw_p43, List.forall_mem_cons.mpr ⟨lw_p44, List.forall_mem_cons.mpr ⟨lw_p45, List.forall_mem_cons.mpr ⟨lw_p46, List.forall_mem_cons.mpr ⟨lw_p47, fun _ h => absurd h List.not_mem_nil⟩⟩⟩⟩⟩⟩⟩⟩⟩⟩⟩⟩⟩⟩⟩⟩
theorem lw_p48 : lw_okq (⟨"SpanCopier$Places", "unmark", "(II)Z"⟩, 2) := ⟨⟨by decide +kernel, by decide +kernel⟩, List.mem_of_getElem? (i := 158) (by decide +kernel), List.mem_of_getElem? (i := 715) (by decide +kernel), List.mem_of_getElem? (i := 716) (by decide +kernel)⟩
theorem lw_p49 : lw_okq (⟨"SpanCopier$Taker", "meetEof", "(LSpanCopier$World;)V"⟩, 9) := ⟨⟨by decide +kernel, by decide +kernel⟩, List.mem_of_getElem? (i := 197) (by decide +kernel), List.mem_of_getElem? (i := 719) (by decide +kernel), List.mem_of_getElem? (i := 720) (by decide +kernel)⟩
theorem lw_p50 : lw_okq (⟨"SpanCopier$Taker", "sendNakOfAll", "(LSpanCopier$World;)V"⟩, 9) := ⟨⟨by decide +kernel, by decide +kernel⟩, List.mem_of_getElem? (i := 197) (by decide +kernel), List.mem_of_getElem? (i := 723) (by decide +kernel), List.mem_of_getElem? (i := 724) (by decide +kernel)⟩
theorem lw_p51 : lw_okq (⟨"SpanCopier$Sender", "meet", "(LSpanCopier$World;)V"⟩, 6) := ⟨⟨by decide +kernel, by decide +kernel⟩, List.mem_of_getElem? (i := 152) (by decide +kernel), List.mem_of_getElem? (i := 728) (by decide +kernel), List.mem_of_getElem? (i := 729) (by decide +kernel)⟩
theorem lw_p52 : lw_okq (⟨"SpanCopier$Sender", "meetNak", "(LSpanCopier$Link;)V"⟩, 6) := ⟨⟨by decide +kernel, by decide +kernel⟩, List.mem_of_getElem? (i := 152) (by decide +kernel), List.mem_of_getElem? (i := 732) (by decide +kernel), List.mem_of_getElem? (i := 733) (by decide +kernel)⟩
theorem lw_p53 : lw_okq (⟨"SpanCopier$Sender", "isActive", "()Z"⟩, 6) := ⟨⟨by decide +kernel, by decide +kernel⟩, List.mem_of_getElem? (i := 152) (by decide +kernel), List.mem_of_getElem? (i := 736) (by decide +kernel), List.mem_of_getElem? (i := 737) (by decide +kernel)⟩
theorem lw_p54 : lw_okq (⟨"SpanCopier$Sender", "meetFin", "(LSpanCopier$Link;)V"⟩, 6) := ⟨⟨by decide +kernel, by decide +kernel⟩, List.mem_of_getElem? (i := 152) (by decide +kernel), List.mem_of_getElem? (i := 748) (by decide +kernel), List.mem_of_getElem? (i := 749) (by decide +kernel)⟩
theorem lw_p55 : lw_okq (⟨"SpanCopier$Sender", "act", "(LSpanCopier$World;)V"⟩, 6) := ⟨⟨by decide +kernel, by decide +kernel⟩, List.mem_of_getElem? (i := 152) (by decide +kernel), List.mem_of_getElem? (i := 753) (by decide +kernel), List.mem_of_getElem? (i := 754) (by decide +kernel)⟩
theorem lw_p56 : lw_okq (⟨"SpanCopier$Sender", "sendAgain", "(LSpanCopier$World;)V"⟩, 6) := ⟨⟨by decide +kernel, by decide +kernel⟩, List.mem_of_getElem? (i := 152) (by decide +kernel), List.mem_of_getElem? (i := 757) (by decide +kernel), List.mem_of_getElem? (i := 758) (by decide +kernel)⟩
theorem lw_p57 : lw_okq (⟨"SpanCopier$Sender", "sendNext", "(LSpanCopier$World;)V"⟩, 6) := ⟨⟨by decide +kernel, by decide +kernel⟩, List.mem_of_getElem? (i := 152) (by decide +kernel), List.mem_of_getElem? (i := 764) (by decide +kernel), List.mem_of_getElem? (i := 765) (by decide +kernel)⟩
theorem lw_p58 : lw_okq (⟨"SpanCopier$Sender", "sendEof", "(LSpanCopier$World;)V"⟩, 6) := ⟨⟨by decide +kernel, by decide +kernel⟩, List.mem_of_getElem? (i := 152) (by decide +kernel), List.mem_of_getElem? (i := 768) (by decide +kernel), List.mem_of_getElem? (i := 769) (by decide +kernel)⟩
theorem lw_p59 : lw_okq (⟨"SpanCopier$Sender", "waitForAck", "(LSpanCopier$World;)V"⟩, 6) := ⟨⟨by decide +kernel, by decide +kernel⟩, List.mem_of_getElem? (i := 152) (by decide +kernel), List.mem_of_getElem? (i := 772) (by decide +kernel), List.mem_of_getElem? (i := 773) (by decide +kernel)⟩
theorem lw_p60 : lw_okq (⟨"SpanCopier$Taker", "act", "(LSpanCopier$World;)V"⟩, 9) := ⟨⟨by decide +kernel, by decide +kernel⟩, List.mem_of_getElem? (i := 197) (by decide +kernel), List.mem_of_getElem? (i := 776) (by decide +kernel), List.mem_of_getElem? (i := 777) (by decide +kernel)⟩
theorem lw_p61 : lw_okq (⟨"SpanCopier$Taker", "actTaking", "(LSpanCopier$World;)V"⟩, 9) := ⟨⟨by decide +kernel, by decide +kernel⟩, List.mem_of_getElem? (i := 197) (by decide +kernel), List.mem_of_getElem? (i := 780) (by decide +kernel), List.mem_of_getElem? (i := 781) (by decide +kernel)⟩
theorem lw_p62 : lw_okq (⟨"SpanCopier$Taker", "sumOfBytes", "()I"⟩, 9) := ⟨⟨by decide +kernel, by decide +kernel⟩, List.mem_of_getElem? (i := 197) (by decide +kernel), List.mem_of_getElem? (i := 784) (by decide +kernel), List.mem_of_getElem? (i := 785) (by decide +kernel)⟩
theorem lw_p63 : lw_okq (⟨"SpanCopier$Taker", "hasByte", "(I)Z"⟩, 9) := ⟨⟨by decide +kernel, by decide +kernel⟩, List.mem_of_getElem? (i := 197) (by decide +kernel), List.mem_of_getElem? (i := 788) (by decide +kernel), List.mem_of_getElem? (i := 789) (by decide +kernel)⟩
def lw_privs_4 : List (MethodName × Nat) := [(⟨"SpanCopier$Places", "unmark", "(II)Z"⟩, 2), (⟨"SpanCopier$Taker", "meetEof", "(LSpanCopier$World;)V"⟩, 9), (⟨"SpanCopier$Taker", "sendNakOfAll", "(LSpanCopier$World;)V"⟩, 9), (⟨"SpanCopier$Sender", "meet", "(LSpanCopier$World;)V"⟩, 6), (⟨"SpanCopier$Sender", "meetNak", "(LSpanCopier$Link;)V"⟩, 6), (⟨"SpanCopier$Sender", "isActive", "()Z"⟩, 6), (⟨"SpanCopier$Sender", "meetFin", "(LSpanCopier$Link;)V"⟩, 6), (⟨"SpanCopier$Sender", "act", "(LSpanCopier$World;)V"⟩, 6), (⟨"SpanCopier$Sender", "sendAgain", "(LSpanCopier$World;)V"⟩, 6), (⟨"SpanCopier$Sender", "sendNext", "(LSpanCopier$World;)V"⟩, 6), (⟨"SpanCopier$Sender", "sendEof", "(LSpanCopier$World;)V"⟩, 6), (⟨"SpanCopier$Sender", "waitForAck", "(LSpanCopier$World;)V"⟩, 6), (⟨"SpanCopier$Taker", "act", "(LSpanCopier$World;)V"⟩, 9), (⟨"SpanCopier$Taker", "actTaking", "(LSpanCopier$World;)V"⟩, 9), (⟨"SpanCopier$Taker", "sumOfBytes", "()I"⟩, 9), (⟨"SpanCopier$Taker", "hasByte", "(I)Z"⟩, 9)]
theorem lw_r4 : ∀ q ∈ lw_privs_4, lw_okq q := List.forall_mem_cons.mpr ⟨lw_p48, List.forall_mem_cons.mpr ⟨lw_p49, List.forall_mem_cons.mpr ⟨lw_p50, List.forall_mem_cons.mpr ⟨lw_p51, List.forall_mem_cons.mpr ⟨lw_p52, List.forall_mem_cons.mpr ⟨lw_p53, List.forall_mem_cons.mpr ⟨lw_p54, List.forall_mem_cons.mpr ⟨lw_p55, List.forall_mem_cons.mpr ⟨lw_p56, List.forall_mem_cons.mpr ⟨lw_p57, List.forall_mem_cons.mpr ⟨lw_p58, List.forall_mem_cons.mpr ⟨lw_p59, List.forall_mem_cons.mpr ⟨lw_p60, List.forall_mem_cons.mpr ⟨lw_p61, List.forall_mem_cons.mpr ⟨lw_p62, List.forall_mem_cons.mpr ⟨lw_p63, fun _ h => absurd h List.not_mem_nil⟩⟩⟩⟩⟩⟩⟩⟩⟩⟩⟩⟩⟩⟩⟩⟩
theorem lw_p64 : lw_okq (⟨"SpanCopier$Places", "has", "(I)Z"⟩, 2) := ⟨⟨by decide +kernel, by decide +kernel⟩, List.mem_of_getElem? (i := 158) (by decide +kernel), List.mem_of_getElem? (i := 792) (by decide +kernel), List.mem_of_getElem? (i := 793) (by decide +kernel)⟩
theorem lw_p65 : lw_okq (⟨"SpanCopier$Taker", "finish", "(LSpanCopier$World;I)V"⟩, 9) := ⟨⟨by decide +kernel, by decide +kernel⟩, List.mem_of_getElem? (i := 197) (by decide +kernel), List.mem_of_getElem? (i := 797) (by decide +kernel), List.mem_of_getElem? (i := 798) (by decide +kernel)⟩
theorem lw_p66 : lw_okq (⟨"SpanCopier$Taker", "sendFin", "(LSpanCopier$World;)V"⟩, 9) := ⟨⟨by decide +kernel, by decide +kernel⟩, List.mem_of_getElem? (i := 197) (by decide +kernel), List.mem_of_getElem? (i := 801) (by decide +kernel), List.mem_of_getElem? (i := 802) (by decide +kernel)⟩
theorem lw_p67 : lw_okq (⟨"SpanCopier$Shelf", "goOn", "(LSpanCopier$Order;)Z"⟩, 5) := ⟨⟨by decide +kernel, by decide +kernel⟩, List.mem_of_getElem? (i := 241) (by decide +kernel), List.mem_of_getElem? (i := 805) (by decide +kernel), List.mem_of_getElem? (i := 806) (by decide +kernel)⟩
theorem lw_p68 : lw_okq (⟨"SpanCopier$Shelf", "tryAct", "(LSpanCopier$Order;I)Z"⟩, 5) := ⟨⟨by decide +kernel, by decide +kernel⟩, List.mem_of_getElem? (i := 241) (by decide +kernel), List.mem_of_getElem? (i := 809) (by decide +kernel), List.mem_of_getElem? (i := 810) (by decide +kernel)⟩
theorem lw_p69 : lw_okq (⟨"SpanCopier$Taker", "actFinishing", "(LSpanCopier$World;)V"⟩, 9) := ⟨⟨by decide +kernel, by decide +kernel⟩, List.mem_of_getElem? (i := 197) (by decide +kernel), List.mem_of_getElem? (i := 816) (by decide +kernel), List.mem_of_getElem? (i := 817) (by decide +kernel)⟩
theorem lw_p70 : lw_okq (⟨"SpanCopier", "keptIfAbove", "(I)I"⟩, 12) := ⟨⟨by decide +kernel, by decide +kernel⟩, List.mem_of_getElem? (i := 24) (by decide +kernel), List.mem_of_getElem? (i := 820) (by decide +kernel), List.mem_of_getElem? (i := 821) (by decide +kernel)⟩
theorem lw_p71 : lw_okq (⟨"SpanCopier", "keptIfDone", "(I)I"⟩, 12) := ⟨⟨by decide +kernel, by decide +kernel⟩, List.mem_of_getElem? (i := 24) (by decide +kernel), List.mem_of_getElem? (i := 829) (by decide +kernel), List.mem_of_getElem? (i := 830) (by decide +kernel)⟩
theorem lw_p72 : lw_okq (⟨"SpanCopier$Link", "repeat", "(I)I"⟩, 5) := ⟨⟨by decide +kernel, by decide +kernel⟩, List.mem_of_getElem? (i := 123) (by decide +kernel), List.mem_of_getElem? (i := 837) (by decide +kernel), List.mem_of_getElem? (i := 838) (by decide +kernel)⟩
theorem lw_p73 : lw_okq (⟨"SpanCopier$Link", "delay", "(II)I"⟩, 5) := ⟨⟨by decide +kernel, by decide +kernel⟩, List.mem_of_getElem? (i := 123) (by decide +kernel), List.mem_of_getElem? (i := 845) (by decide +kernel), List.mem_of_getElem? (i := 846) (by decide +kernel)⟩
theorem lw_p74 : lw_okq (⟨"SpanCopier$Link", "flip", "(I)I"⟩, 5) := ⟨⟨by decide +kernel, by decide +kernel⟩, List.mem_of_getElem? (i := 123) (by decide +kernel), List.mem_of_getElem? (i := 853) (by decide +kernel), List.mem_of_getElem? (i := 854) (by decide +kernel)⟩
theorem lw_p75 : lw_okq (⟨"SpanCopier$World", "sendPrompt", "()I"⟩, 11) := ⟨⟨by decide +kernel, by decide +kernel⟩, List.mem_of_getElem? (i := 117) (by decide +kernel), List.mem_of_getElem? (i := 862) (by decide +kernel), List.mem_of_getElem? (i := 863) (by decide +kernel)⟩
theorem lw_p76 : lw_okq (⟨"SpanCopier$World", "crashTaker", "()I"⟩, 11) := ⟨⟨by decide +kernel, by decide +kernel⟩, List.mem_of_getElem? (i := 117) (by decide +kernel), List.mem_of_getElem? (i := 872) (by decide +kernel), List.mem_of_getElem? (i := 873) (by decide +kernel)⟩
theorem lw_p77 : lw_okq (⟨"SpanCopier$Taker", "isOver", "()Z"⟩, 9) := ⟨⟨by decide +kernel, by decide +kernel⟩, List.mem_of_getElem? (i := 197) (by decide +kernel), List.mem_of_getElem? (i := 876) (by decide +kernel), List.mem_of_getElem? (i := 877) (by decide +kernel)⟩
theorem lw_p78 : lw_okq (⟨"SpanCopier$Places", "countSpans", "()I"⟩, 2) := ⟨⟨by decide +kernel, by decide +kernel⟩, List.mem_of_getElem? (i := 158) (by decide +kernel), List.mem_of_getElem? (i := 888) (by decide +kernel), List.mem_of_getElem? (i := 889) (by decide +kernel)⟩
theorem lw_p79 : lw_okq (⟨"SpanCopier$Places", "startsSpan", "(I)Z"⟩, 2) := ⟨⟨by decide +kernel, by decide +kernel⟩, List.mem_of_getElem? (i := 158) (by decide +kernel), List.mem_of_getElem? (i := 892) (by decide +kernel), List.mem_of_getElem? (i := 893) (by decide +kernel)⟩
def lw_privs_5 : List (MethodName × Nat) := [(⟨"SpanCopier$Places", "has", "(I)Z"⟩, 2), (⟨"SpanCopier$Taker", "finish", "(LSpanCopier$World;I)V"⟩, 9), (⟨"SpanCopier$Taker", "sendFin", "(LSpanCopier$World;)V"⟩, 9), (⟨"SpanCopier$Shelf", "goOn", "(LSpanCopier$Order;)Z"⟩, 5), (⟨"SpanCopier$Shelf", "tryAct", "(LSpanCopier$Order;I)Z"⟩, 5), (⟨"SpanCopier$Taker", "actFinishing", "(LSpanCopier$World;)V"⟩, 9), (⟨"SpanCopier", "keptIfAbove", "(I)I"⟩, 12), (⟨"SpanCopier", "keptIfDone", "(I)I"⟩, 12), (⟨"SpanCopier$Link", "repeat", "(I)I"⟩, 5), (⟨"SpanCopier$Link", "delay", "(II)I"⟩, 5), (⟨"SpanCopier$Link", "flip", "(I)I"⟩, 5), (⟨"SpanCopier$World", "sendPrompt", "()I"⟩, 11), (⟨"SpanCopier$World", "crashTaker", "()I"⟩, 11), (⟨"SpanCopier$Taker", "isOver", "()Z"⟩, 9), (⟨"SpanCopier$Places", "countSpans", "()I"⟩, 2), (⟨"SpanCopier$Places", "startsSpan", "(I)Z"⟩, 2)]
theorem lw_r5 : ∀ q ∈ lw_privs_5, lw_okq q := List.forall_mem_cons.mpr ⟨lw_p64, List.forall_mem_cons.mpr ⟨lw_p65, List.forall_mem_cons.mpr ⟨lw_p66, List.forall_mem_cons.mpr ⟨lw_p67, List.forall_mem_cons.mpr ⟨lw_p68, List.forall_mem_cons.mpr ⟨lw_p69, List.forall_mem_cons.mpr ⟨lw_p70, List.forall_mem_cons.mpr ⟨lw_p71, List.forall_mem_cons.mpr ⟨lw_p72, List.forall_mem_cons.mpr ⟨lw_p73, List.forall_mem_cons.mpr ⟨lw_p74, List.forall_mem_cons.mpr ⟨lw_p75, List.forall_mem_cons.mpr ⟨lw_p76, List.forall_mem_cons.mpr ⟨lw_p77, List.forall_mem_cons.mpr ⟨lw_p78, List.forall_mem_cons.mpr ⟨lw_p79, fun _ h => absurd h List.not_mem_nil⟩⟩⟩⟩⟩⟩⟩⟩⟩⟩⟩⟩⟩⟩⟩⟩
theorem lw_p80 : lw_okq (⟨"SpanCopier$Places", "edge", "(II)I"⟩, 2) := ⟨⟨by decide +kernel, by decide +kernel⟩, List.mem_of_getElem? (i := 158) (by decide +kernel), List.mem_of_getElem? (i := 909) (by decide +kernel), List.mem_of_getElem? (i := 910) (by decide +kernel)⟩
theorem lw_p81 : lw_okq (⟨"SpanCopier$Taker", "byteAt", "(I)I"⟩, 9) := ⟨⟨by decide +kernel, by decide +kernel⟩, List.mem_of_getElem? (i := 197) (by decide +kernel), List.mem_of_getElem? (i := 922) (by decide +kernel), List.mem_of_getElem? (i := 923) (by decide +kernel)⟩
theorem lw_p82 : lw_okq (⟨"SpanCopier$Shelf", "entry", "(I)I"⟩, 5) := ⟨⟨by decide +kernel, by decide +kernel⟩, List.mem_of_getElem? (i := 241) (by decide +kernel), List.mem_of_getElem? (i := 934) (by decide +kernel), List.mem_of_getElem? (i := 935) (by decide +kernel)⟩
theorem lw_p83 : lw_okq (⟨"SpanCopier$World", "countNeed", "()I"⟩, 11) := ⟨⟨by decide +kernel, by decide +kernel⟩, List.mem_of_getElem? (i := 117) (by decide +kernel), List.mem_of_getElem? (i := 942) (by decide +kernel), List.mem_of_getElem? (i := 943) (by decide +kernel)⟩
theorem lw_p84 : lw_okq (⟨"SpanCopier", "trialWorld", "()LSpanCopier$World;"⟩, 12) := ⟨⟨by decide +kernel, by decide +kernel⟩, List.mem_of_getElem? (i := 24) (by decide +kernel), List.mem_of_getElem? (i := 951) (by decide +kernel), List.mem_of_getElem? (i := 952) (by decide +kernel)⟩
theorem lw_p85 : lw_okq (⟨"SpanCopier$World", "passUntilOver", "()I"⟩, 11) := ⟨⟨by decide +kernel, by decide +kernel⟩, List.mem_of_getElem? (i := 117) (by decide +kernel), List.mem_of_getElem? (i := 955) (by decide +kernel), List.mem_of_getElem? (i := 956) (by decide +kernel)⟩
theorem lw_p86 : lw_okq (⟨"SpanCopier$World", "bothOver", "()Z"⟩, 11) := ⟨⟨by decide +kernel, by decide +kernel⟩, List.mem_of_getElem? (i := 117) (by decide +kernel), List.mem_of_getElem? (i := 959) (by decide +kernel), List.mem_of_getElem? (i := 960) (by decide +kernel)⟩
theorem lw_p87 : lw_okq (⟨"SpanCopier$Sender", "isOver", "()Z"⟩, 6) := ⟨⟨by decide +kernel, by decide +kernel⟩, List.mem_of_getElem? (i := 152) (by decide +kernel), List.mem_of_getElem? (i := 963) (by decide +kernel), List.mem_of_getElem? (i := 964) (by decide +kernel)⟩
theorem lw_p88 : lw_okq (⟨"SpanCopier$World", "isStill", "()Z"⟩, 11) := ⟨⟨by decide +kernel, by decide +kernel⟩, List.mem_of_getElem? (i := 117) (by decide +kernel), List.mem_of_getElem? (i := 967) (by decide +kernel), List.mem_of_getElem? (i := 968) (by decide +kernel)⟩
theorem lw_p89 : lw_okq (⟨"SpanCopier$World", "drawWhatHappens", "()V"⟩, 11) := ⟨⟨by decide +kernel, by decide +kernel⟩, List.mem_of_getElem? (i := 117) (by decide +kernel), List.mem_of_getElem? (i := 979) (by decide +kernel), List.mem_of_getElem? (i := 980) (by decide +kernel)⟩
theorem lw_p90 : lw_okq (⟨"SpanCopier$World", "draw", "(I)I"⟩, 11) := ⟨⟨by decide +kernel, by decide +kernel⟩, List.mem_of_getElem? (i := 117) (by decide +kernel), List.mem_of_getElem? (i := 983) (by decide +kernel), List.mem_of_getElem? (i := 984) (by decide +kernel)⟩
theorem lw_p91 : lw_okq (⟨"SpanCopier", "isDoneByDraws", "(I)Z"⟩, 12) := ⟨⟨by decide +kernel, by decide +kernel⟩, List.mem_of_getElem? (i := 24) (by decide +kernel), List.mem_of_getElem? (i := 997) (by decide +kernel), List.mem_of_getElem? (i := 998) (by decide +kernel)⟩
theorem lw_p92 : lw_okq (⟨"SpanCopier$World", "bothDone", "()Z"⟩, 11) := ⟨⟨by decide +kernel, by decide +kernel⟩, List.mem_of_getElem? (i := 117) (by decide +kernel), List.mem_of_getElem? (i := 1001) (by decide +kernel), List.mem_of_getElem? (i := 1002) (by decide +kernel)⟩
theorem lw_p93 : lw_okq (⟨"SpanCopier$World", "oneFailed", "()Z"⟩, 11) := ⟨⟨by decide +kernel, by decide +kernel⟩, List.mem_of_getElem? (i := 117) (by decide +kernel), List.mem_of_getElem? (i := 1005) (by decide +kernel), List.mem_of_getElem? (i := 1006) (by decide +kernel)⟩
theorem lw_p94 : lw_okq (⟨"SpanCopier$Book", "readLines", "(LSpanCopier$Tape;)Z"⟩, 4) := ⟨⟨by decide +kernel, by decide +kernel⟩, List.mem_of_getElem? (i := 90) (by decide +kernel), List.mem_of_getElem? (i := 1013) (by decide +kernel), List.mem_of_getElem? (i := 1014) (by decide +kernel)⟩
theorem lw_p95 : lw_okq (⟨"SpanCopier$Book", "readLine", "(LSpanCopier$Tape;I)Z"⟩, 4) := ⟨⟨by decide +kernel, by decide +kernel⟩, List.mem_of_getElem? (i := 90) (by decide +kernel), List.mem_of_getElem? (i := 1017) (by decide +kernel), List.mem_of_getElem? (i := 1018) (by decide +kernel)⟩
def lw_privs_6 : List (MethodName × Nat) := [(⟨"SpanCopier$Places", "edge", "(II)I"⟩, 2), (⟨"SpanCopier$Taker", "byteAt", "(I)I"⟩, 9), (⟨"SpanCopier$Shelf", "entry", "(I)I"⟩, 5), (⟨"SpanCopier$World", "countNeed", "()I"⟩, 11), (⟨"SpanCopier", "trialWorld", "()LSpanCopier$World;"⟩, 12), (⟨"SpanCopier$World", "passUntilOver", "()I"⟩, 11), (⟨"SpanCopier$World", "bothOver", "()Z"⟩, 11), (⟨"SpanCopier$Sender", "isOver", "()Z"⟩, 6), (⟨"SpanCopier$World", "isStill", "()Z"⟩, 11), (⟨"SpanCopier$World", "drawWhatHappens", "()V"⟩, 11), (⟨"SpanCopier$World", "draw", "(I)I"⟩, 11), (⟨"SpanCopier", "isDoneByDraws", "(I)Z"⟩, 12), (⟨"SpanCopier$World", "bothDone", "()Z"⟩, 11), (⟨"SpanCopier$World", "oneFailed", "()Z"⟩, 11), (⟨"SpanCopier$Book", "readLines", "(LSpanCopier$Tape;)Z"⟩, 4), (⟨"SpanCopier$Book", "readLine", "(LSpanCopier$Tape;I)Z"⟩, 4)]
theorem lw_r6 : ∀ q ∈ lw_privs_6, lw_okq q := List.forall_mem_cons.mpr ⟨lw_p80, List.forall_mem_cons.mpr ⟨lw_p81, List.forall_mem_cons.mpr ⟨lw_p82, List.forall_mem_cons.mpr ⟨lw_p83, List.forall_mem_cons.mpr ⟨lw_p84, List.forall_mem_cons.mpr ⟨lw_p85, List.forall_mem_cons.mpr ⟨lw_p86, List.forall_mem_cons.mpr ⟨lw_p87, List.forall_mem_cons.mpr ⟨lw_p88, List.forall_mem_cons.mpr ⟨lw_p89, List.forall_mem_cons.mpr ⟨lw_p90, List.forall_mem_cons.mpr ⟨lw_p91, List.forall_mem_cons.mpr ⟨lw_p92, List.forall_mem_cons.mpr ⟨lw_p93, List.forall_mem_cons.mpr ⟨lw_p94, List.forall_mem_cons.mpr ⟨lw_p95, fun _ h => absurd h List.not_mem_nil⟩⟩⟩⟩⟩⟩⟩⟩⟩⟩⟩⟩⟩⟩⟩⟩
theorem lw_p96 : lw_okq (⟨"SpanCopier$World", "live", "(LSpanCopier$Book;I)I"⟩, 11) := ⟨⟨by decide +kernel, by decide +kernel⟩, List.mem_of_getElem? (i := 117) (by decide +kernel), List.mem_of_getElem? (i := 1044) (by decide +kernel), List.mem_of_getElem? (i := 1045) (by decide +kernel)⟩
theorem lw_p97 : lw_okq (⟨"SpanCopier", "tellJudged", "(IILSpanCopier$World;)V"⟩, 12) := ⟨⟨by decide +kernel, by decide +kernel⟩, List.mem_of_getElem? (i := 24) (by decide +kernel), List.mem_of_getElem? (i := 1055) (by decide +kernel), List.mem_of_getElem? (i := 1056) (by decide +kernel)⟩
theorem lw_p98 : lw_okq (⟨"SpanCopier$Sentence", "readCond", "(LSpanCopier$Tape;I)Z"⟩, 5) := ⟨⟨by decide +kernel, by decide +kernel⟩, List.mem_of_getElem? (i := 1067) (by decide +kernel), List.mem_of_getElem? (i := 1092) (by decide +kernel), List.mem_of_getElem? (i := 1093) (by decide +kernel)⟩
theorem lw_p99 : lw_okq (⟨"SpanCopier$Sentence", "readAll", "(LSpanCopier$Tape;I)Z"⟩, 5) := ⟨⟨by decide +kernel, by decide +kernel⟩, List.mem_of_getElem? (i := 1067) (by decide +kernel), List.mem_of_getElem? (i := 1096) (by decide +kernel), List.mem_of_getElem? (i := 1097) (by decide +kernel)⟩
theorem lw_p100 : lw_okq (⟨"SpanCopier$Sentence", "readOne", "(LSpanCopier$Tape;I)Z"⟩, 5) := ⟨⟨by decide +kernel, by decide +kernel⟩, List.mem_of_getElem? (i := 1067) (by decide +kernel), List.mem_of_getElem? (i := 1100) (by decide +kernel), List.mem_of_getElem? (i := 1101) (by decide +kernel)⟩
theorem lw_p101 : lw_okq (⟨"SpanCopier$Sentence", "readMeasure", "(LSpanCopier$Tape;LSpanCopier$Word;)Z"⟩, 5) := ⟨⟨by decide +kernel, by decide +kernel⟩, List.mem_of_getElem? (i := 1067) (by decide +kernel), List.mem_of_getElem? (i := 1115) (by decide +kernel), List.mem_of_getElem? (i := 1116) (by decide +kernel)⟩
theorem lw_p102 : lw_okq (⟨"SpanCopier$Sentence", "add", "(LSpanCopier$Word;II)V"⟩, 5) := ⟨⟨by decide +kernel, by decide +kernel⟩, List.mem_of_getElem? (i := 1067) (by decide +kernel), List.mem_of_getElem? (i := 1121) (by decide +kernel), List.mem_of_getElem? (i := 1122) (by decide +kernel)⟩
theorem lw_p103 : lw_okq (⟨"SpanCopier$Sentence", "readClose", "(LSpanCopier$Tape;)Z"⟩, 5) := ⟨⟨by decide +kernel, by decide +kernel⟩, List.mem_of_getElem? (i := 1067) (by decide +kernel), List.mem_of_getElem? (i := 1126) (by decide +kernel), List.mem_of_getElem? (i := 1127) (by decide +kernel)⟩
theorem lw_p104 : lw_okq (⟨"SpanCopier$Sentence", "holds", "(LSpanCopier$Link;II)Z"⟩, 5) := ⟨⟨by decide +kernel, by decide +kernel⟩, List.mem_of_getElem? (i := 1067) (by decide +kernel), List.mem_of_getElem? (i := 1139) (by decide +kernel), List.mem_of_getElem? (i := 1140) (by decide +kernel)⟩
theorem lw_p105 : lw_okq (⟨"SpanCopier$Sentence", "isSo", "(ILSpanCopier$Link;II)Z"⟩, 5) := ⟨⟨by decide +kernel, by decide +kernel⟩, List.mem_of_getElem? (i := 1067) (by decide +kernel), List.mem_of_getElem? (i := 1143) (by decide +kernel), List.mem_of_getElem? (i := 1144) (by decide +kernel)⟩
theorem lw_p106 : lw_okq (⟨"SpanCopier$Sentence", "compares", "(II)Z"⟩, 5) := ⟨⟨by decide +kernel, by decide +kernel⟩, List.mem_of_getElem? (i := 1067) (by decide +kernel), List.mem_of_getElem? (i := 1149) (by decide +kernel), List.mem_of_getElem? (i := 1150) (by decide +kernel)⟩
theorem lw_p107 : lw_okq (⟨"SpanCopier$Order", "setting", "(I)I"⟩, 11) := ⟨⟨by decide +kernel, by decide +kernel⟩, List.mem_of_getElem? (i := 264) (by decide +kernel), List.mem_of_getElem? (i := 1165) (by decide +kernel), List.mem_of_getElem? (i := 1166) (by decide +kernel)⟩
theorem lw_p108 : lw_okq (⟨"java/lang/Throwable", "fillInStackTrace", "(I)Ljava/lang/Throwable;"⟩, 6) := ⟨⟨by decide +kernel, by decide +kernel⟩, List.mem_of_getElem? (i := 1213) (by decide +kernel), List.mem_of_getElem? (i := 1211) (by decide +kernel), List.mem_of_getElem? (i := 1212) (by decide +kernel)⟩
theorem lw_p109 : lw_okq (⟨"SpanCopierModel", "come", "(I)V"⟩, 39) := ⟨⟨by decide +kernel, by decide +kernel⟩, List.mem_of_getElem? (i := 1257) (by decide +kernel), List.mem_of_getElem? (i := 1255) (by decide +kernel), List.mem_of_getElem? (i := 1256) (by decide +kernel)⟩
theorem lw_p110 : lw_okq (⟨"SpanCopierModel", "startRead", "()V"⟩, 39) := ⟨⟨by decide +kernel, by decide +kernel⟩, List.mem_of_getElem? (i := 1257) (by decide +kernel), List.mem_of_getElem? (i := 1269) (by decide +kernel), List.mem_of_getElem? (i := 1270) (by decide +kernel)⟩
theorem lw_p111 : lw_okq (⟨"SpanCopierModel", "startSo", "()V"⟩, 39) := ⟨⟨by decide +kernel, by decide +kernel⟩, List.mem_of_getElem? (i := 1257) (by decide +kernel), List.mem_of_getElem? (i := 1273) (by decide +kernel), List.mem_of_getElem? (i := 1274) (by decide +kernel)⟩
def lw_privs_7 : List (MethodName × Nat) := [(⟨"SpanCopier$World", "live", "(LSpanCopier$Book;I)I"⟩, 11), (⟨"SpanCopier", "tellJudged", "(IILSpanCopier$World;)V"⟩, 12), (⟨"SpanCopier$Sentence", "readCond", "(LSpanCopier$Tape;I)Z"⟩, 5), (⟨"SpanCopier$Sentence", "readAll", "(LSpanCopier$Tape;I)Z"⟩, 5), (⟨"SpanCopier$Sentence", "readOne", "(LSpanCopier$Tape;I)Z"⟩, 5), (⟨"SpanCopier$Sentence", "readMeasure", "(LSpanCopier$Tape;LSpanCopier$Word;)Z"⟩, 5), (⟨"SpanCopier$Sentence", "add", "(LSpanCopier$Word;II)V"⟩, 5), (⟨"SpanCopier$Sentence", "readClose", "(LSpanCopier$Tape;)Z"⟩, 5), (⟨"SpanCopier$Sentence", "holds", "(LSpanCopier$Link;II)Z"⟩, 5), (⟨"SpanCopier$Sentence", "isSo", "(ILSpanCopier$Link;II)Z"⟩, 5), (⟨"SpanCopier$Sentence", "compares", "(II)Z"⟩, 5), (⟨"SpanCopier$Order", "setting", "(I)I"⟩, 11), (⟨"java/lang/Throwable", "fillInStackTrace", "(I)Ljava/lang/Throwable;"⟩, 6), (⟨"SpanCopierModel", "come", "(I)V"⟩, 39), (⟨"SpanCopierModel", "startRead", "()V"⟩, 39), (⟨"SpanCopierModel", "startSo", "()V"⟩, 39)]
theorem lw_r7 : ∀ q ∈ lw_privs_7, lw_okq q := List.forall_mem_cons.mpr ⟨lw_p96, List.forall_mem_cons.mpr ⟨lw_p97, List.forall_mem_cons.mpr ⟨lw_p98, List.forall_mem_cons.mpr ⟨lw_p99, List.forall_mem_cons.mpr ⟨lw_p100, List.forall_mem_cons.mpr ⟨lw_p101, List.forall_mem_cons.mpr ⟨lw_p102, List.forall_mem_cons.mpr ⟨lw_p103, List.forall_mem_cons.mpr ⟨lw_p104, List.forall_mem_cons.mpr ⟨lw_p105, List.forall_mem_cons.mpr ⟨lw_p106, List.forall_mem_cons.mpr ⟨lw_p107, List.forall_mem_cons.mpr ⟨lw_p108, List.forall_mem_cons.mpr ⟨lw_p109, List.forall_mem_cons.mpr ⟨lw_p110, List.forall_mem_cons.mpr ⟨lw_p111, fun _ h => absurd h List.not_mem_nil⟩⟩⟩⟩⟩⟩⟩⟩⟩⟩⟩⟩⟩⟩⟩⟩
theorem lw_p112 : lw_okq (⟨"SpanCopierModel", "saveTaker", "()V"⟩, 39) := ⟨⟨by decide +kernel, by decide +kernel⟩, List.mem_of_getElem? (i := 1257) (by decide +kernel), List.mem_of_getElem? (i := 1277) (by decide +kernel), List.mem_of_getElem? (i := 1278) (by decide +kernel)⟩
theorem lw_p113 : lw_okq (⟨"SpanCopierModel", "begin", "(I)V"⟩, 39) := ⟨⟨by decide +kernel, by decide +kernel⟩, List.mem_of_getElem? (i := 1257) (by decide +kernel), List.mem_of_getElem? (i := 1404) (by decide +kernel), List.mem_of_getElem? (i := 1405) (by decide +kernel)⟩
theorem lw_p114 : lw_okq (⟨"SpanCopierModel", "take", "()I"⟩, 39) := ⟨⟨by decide +kernel, by decide +kernel⟩, List.mem_of_getElem? (i := 1257) (by decide +kernel), List.mem_of_getElem? (i := 1408) (by decide +kernel), List.mem_of_getElem? (i := 1409) (by decide +kernel)⟩
theorem lw_p115 : lw_okq (⟨"SpanCopierModel", "go", "()V"⟩, 39) := ⟨⟨by decide +kernel, by decide +kernel⟩, List.mem_of_getElem? (i := 1257) (by decide +kernel), List.mem_of_getElem? (i := 1412) (by decide +kernel), List.mem_of_getElem? (i := 1413) (by decide +kernel)⟩
theorem lw_p116 : lw_okq (⟨"SpanCopierModel", "tapeAt", "(I)I"⟩, 39) := ⟨⟨by decide +kernel, by decide +kernel⟩, List.mem_of_getElem? (i := 1257) (by decide +kernel), List.mem_of_getElem? (i := 1422) (by decide +kernel), List.mem_of_getElem? (i := 1423) (by decide +kernel)⟩
theorem lw_p117 : lw_okq (⟨"SpanCopierModel", "readLine", "()Z"⟩, 39) := ⟨⟨by decide +kernel, by decide +kernel⟩, List.mem_of_getElem? (i := 1257) (by decide +kernel), List.mem_of_getElem? (i := 1428) (by decide +kernel), List.mem_of_getElem? (i := 1429) (by decide +kernel)⟩
theorem lw_p118 : lw_okq (⟨"SpanCopierModel", "isWord", "(I)Z"⟩, 39) := ⟨⟨by decide +kernel, by decide +kernel⟩, List.mem_of_getElem? (i := 1257) (by decide +kernel), List.mem_of_getElem? (i := 1432) (by decide +kernel), List.mem_of_getElem? (i := 1433) (by decide +kernel)⟩
theorem lw_p119 : lw_okq (⟨"SpanCopierModel", "isFresh", "(I)Z"⟩, 39) := ⟨⟨by decide +kernel, by decide +kernel⟩, List.mem_of_getElem? (i := 1257) (by decide +kernel), List.mem_of_getElem? (i := 1442) (by decide +kernel), List.mem_of_getElem? (i := 1443) (by decide +kernel)⟩
theorem lw_p120 : lw_okq (⟨"SpanCopierModel", "bad", "(I)Z"⟩, 39) := ⟨⟨by decide +kernel, by decide +kernel⟩, List.mem_of_getElem? (i := 1257) (by decide +kernel), List.mem_of_getElem? (i := 1446) (by decide +kernel), List.mem_of_getElem? (i := 1447) (by decide +kernel)⟩
theorem lw_p121 : lw_okq (⟨"SpanCopierModel", "readNumber", "(II)Z"⟩, 39) := ⟨⟨by decide +kernel, by decide +kernel⟩, List.mem_of_getElem? (i := 1257) (by decide +kernel), List.mem_of_getElem? (i := 1450) (by decide +kernel), List.mem_of_getElem? (i := 1451) (by decide +kernel)⟩
theorem lw_p122 : lw_okq (⟨"SpanCopierModel", "put", "(IZ)Z"⟩, 39) := ⟨⟨by decide +kernel, by decide +kernel⟩, List.mem_of_getElem? (i := 1257) (by decide +kernel), List.mem_of_getElem? (i := 1457) (by decide +kernel), List.mem_of_getElem? (i := 1458) (by decide +kernel)⟩
theorem lw_p123 : lw_okq (⟨"SpanCopierModel", "readPolicy", "()Z"⟩, 39) := ⟨⟨by decide +kernel, by decide +kernel⟩, List.mem_of_getElem? (i := 1257) (by decide +kernel), List.mem_of_getElem? (i := 1461) (by decide +kernel), List.mem_of_getElem? (i := 1462) (by decide +kernel)⟩
theorem lw_p124 : lw_okq (⟨"SpanCopierModel", "readAnyName", "()Z"⟩, 39) := ⟨⟨by decide +kernel, by decide +kernel⟩, List.mem_of_getElem? (i := 1257) (by decide +kernel), List.mem_of_getElem? (i := 1465) (by decide +kernel), List.mem_of_getElem? (i := 1466) (by decide +kernel)⟩
theorem lw_p125 : lw_okq (⟨"SpanCopierModel", "isAnyName", "()Z"⟩, 39) := ⟨⟨by decide +kernel, by decide +kernel⟩, List.mem_of_getElem? (i := 1257) (by decide +kernel), List.mem_of_getElem? (i := 1469) (by decide +kernel), List.mem_of_getElem? (i := 1470) (by decide +kernel)⟩
theorem lw_p126 : lw_okq (⟨"SpanCopierModel", "isName", "()Z"⟩, 39) := ⟨⟨by decide +kernel, by decide +kernel⟩, List.mem_of_getElem? (i := 1257) (by decide +kernel), List.mem_of_getElem? (i := 1473) (by decide +kernel), List.mem_of_getElem? (i := 1474) (by decide +kernel)⟩
theorem lw_p127 : lw_okq (⟨"SpanCopierModel", "takeName", "()V"⟩, 39) := ⟨⟨by decide +kernel, by decide +kernel⟩, List.mem_of_getElem? (i := 1257) (by decide +kernel), List.mem_of_getElem? (i := 1480) (by decide +kernel), List.mem_of_getElem? (i := 1481) (by decide +kernel)⟩
def lw_privs_8 : List (MethodName × Nat) := [(⟨"SpanCopierModel", "saveTaker", "()V"⟩, 39), (⟨"SpanCopierModel", "begin", "(I)V"⟩, 39), (⟨"SpanCopierModel", "take", "()I"⟩, 39), (⟨"SpanCopierModel", "go", "()V"⟩, 39), (⟨"SpanCopierModel", "tapeAt", "(I)I"⟩, 39), (⟨"SpanCopierModel", "readLine", "()Z"⟩, 39), (⟨"SpanCopierModel", "isWord", "(I)Z"⟩, 39), (⟨"SpanCopierModel", "isFresh", "(I)Z"⟩, 39), (⟨"SpanCopierModel", "bad", "(I)Z"⟩, 39), (⟨"SpanCopierModel", "readNumber", "(II)Z"⟩, 39), (⟨"SpanCopierModel", "put", "(IZ)Z"⟩, 39), (⟨"SpanCopierModel", "readPolicy", "()Z"⟩, 39), (⟨"SpanCopierModel", "readAnyName", "()Z"⟩, 39), (⟨"SpanCopierModel", "isAnyName", "()Z"⟩, 39), (⟨"SpanCopierModel", "isName", "()Z"⟩, 39), (⟨"SpanCopierModel", "takeName", "()V"⟩, 39)]
theorem lw_r8 : ∀ q ∈ lw_privs_8, lw_okq q := List.forall_mem_cons.mpr ⟨lw_p112, List.forall_mem_cons.mpr ⟨lw_p113, List.forall_mem_cons.mpr ⟨lw_p114, List.forall_mem_cons.mpr ⟨lw_p115, List.forall_mem_cons.mpr ⟨lw_p116, List.forall_mem_cons.mpr ⟨lw_p117, List.forall_mem_cons.mpr ⟨lw_p118, List.forall_mem_cons.mpr ⟨lw_p119, List.forall_mem_cons.mpr ⟨lw_p120, List.forall_mem_cons.mpr ⟨lw_p121, List.forall_mem_cons.mpr ⟨lw_p122, List.forall_mem_cons.mpr ⟨lw_p123, List.forall_mem_cons.mpr ⟨lw_p124, List.forall_mem_cons.mpr ⟨lw_p125, List.forall_mem_cons.mpr ⟨lw_p126, List.forall_mem_cons.mpr ⟨lw_p127, fun _ h => absurd h List.not_mem_nil⟩⟩⟩⟩⟩⟩⟩⟩⟩⟩⟩⟩⟩⟩⟩⟩
theorem lw_p128 : lw_okq (⟨"SpanCopierModel", "readHas", "()Z"⟩, 39) := ⟨⟨by decide +kernel, by decide +kernel⟩, List.mem_of_getElem? (i := 1257) (by decide +kernel), List.mem_of_getElem? (i := 1484) (by decide +kernel), List.mem_of_getElem? (i := 1485) (by decide +kernel)⟩
theorem lw_p129 : lw_okq (⟨"SpanCopierModel", "readAct", "()Z"⟩, 39) := ⟨⟨by decide +kernel, by decide +kernel⟩, List.mem_of_getElem? (i := 1257) (by decide +kernel), List.mem_of_getElem? (i := 1491) (by decide +kernel), List.mem_of_getElem? (i := 1492) (by decide +kernel)⟩
theorem lw_p130 : lw_okq (⟨"SpanCopierModel", "readEnd", "()Z"⟩, 39) := ⟨⟨by decide +kernel, by decide +kernel⟩, List.mem_of_getElem? (i := 1257) (by decide +kernel), List.mem_of_getElem? (i := 1495) (by decide +kernel), List.mem_of_getElem? (i := 1496) (by decide +kernel)⟩
theorem lw_p131 : lw_okq (⟨"SpanCopierModel", "isSign", "(I)Z"⟩, 39) := ⟨⟨by decide +kernel, by decide +kernel⟩, List.mem_of_getElem? (i := 1257) (by decide +kernel), List.mem_of_getElem? (i := 1499) (by decide +kernel), List.mem_of_getElem? (i := 1500) (by decide +kernel)⟩
theorem lw_p132 : lw_okq (⟨"SpanCopierModel", "comeBack", "([II)V"⟩, 39) := ⟨⟨by decide +kernel, by decide +kernel⟩, List.mem_of_getElem? (i := 1257) (by decide +kernel), List.mem_of_getElem? (i := 1511) (by decide +kernel), List.mem_of_getElem? (i := 1512) (by decide +kernel)⟩
theorem lw_p133 : lw_okq (⟨"SpanCopierModel", "snap", "()V"⟩, 39) := ⟨⟨by decide +kernel, by decide +kernel⟩, List.mem_of_getElem? (i := 1257) (by decide +kernel), List.mem_of_getElem? (i := 1519) (by decide +kernel), List.mem_of_getElem? (i := 1520) (by decide +kernel)⟩
theorem lw_p134 : lw_okq (⟨"SpanCopierModel", "save", "([II)V"⟩, 39) := ⟨⟨by decide +kernel, by decide +kernel⟩, List.mem_of_getElem? (i := 1257) (by decide +kernel), List.mem_of_getElem? (i := 1523) (by decide +kernel), List.mem_of_getElem? (i := 1524) (by decide +kernel)⟩
theorem lw_p135 : lw_okq (⟨"SpanCopierModel", "passTicks", "(I)I"⟩, 39) := ⟨⟨by decide +kernel, by decide +kernel⟩, List.mem_of_getElem? (i := 1257) (by decide +kernel), List.mem_of_getElem? (i := 1531) (by decide +kernel), List.mem_of_getElem? (i := 1532) (by decide +kernel)⟩
theorem lw_p136 : lw_okq (⟨"SpanCopierModel", "oneTick", "()V"⟩, 39) := ⟨⟨by decide +kernel, by decide +kernel⟩, List.mem_of_getElem? (i := 1257) (by decide +kernel), List.mem_of_getElem? (i := 1538) (by decide +kernel), List.mem_of_getElem? (i := 1539) (by decide +kernel)⟩
theorem lw_p137 : lw_okq (⟨"SpanCopierModel", "allCome", "()V"⟩, 39) := ⟨⟨by decide +kernel, by decide +kernel⟩, List.mem_of_getElem? (i := 1257) (by decide +kernel), List.mem_of_getElem? (i := 1542) (by decide +kernel), List.mem_of_getElem? (i := 1543) (by decide +kernel)⟩
theorem lw_p138 : lw_okq (⟨"SpanCopierModel", "unitAt", "(I)I"⟩, 39) := ⟨⟨by decide +kernel, by decide +kernel⟩, List.mem_of_getElem? (i := 1257) (by decide +kernel), List.mem_of_getElem? (i := 1546) (by decide +kernel), List.mem_of_getElem? (i := 1547) (by decide +kernel)⟩
theorem lw_p139 : lw_okq (⟨"SpanCopierModel", "drop", "(I)V"⟩, 39) := ⟨⟨by decide +kernel, by decide +kernel⟩, List.mem_of_getElem? (i := 1257) (by decide +kernel), List.mem_of_getElem? (i := 1550) (by decide +kernel), List.mem_of_getElem? (i := 1551) (by decide +kernel)⟩
theorem lw_p140 : lw_okq (⟨"SpanCopierModel", "comes", "()V"⟩, 39) := ⟨⟨by decide +kernel, by decide +kernel⟩, List.mem_of_getElem? (i := 1257) (by decide +kernel), List.mem_of_getElem? (i := 1554) (by decide +kernel), List.mem_of_getElem? (i := 1555) (by decide +kernel)⟩
theorem lw_p141 : lw_okq (⟨"SpanCopierModel", "dataComes", "()V"⟩, 39) := ⟨⟨by decide +kernel, by decide +kernel⟩, List.mem_of_getElem? (i := 1257) (by decide +kernel), List.mem_of_getElem? (i := 1558) (by decide +kernel), List.mem_of_getElem? (i := 1559) (by decide +kernel)⟩
theorem lw_p142 : lw_okq (⟨"SpanCopierModel", "isGap", "(I)Z"⟩, 39) := ⟨⟨by decide +kernel, by decide +kernel⟩, List.mem_of_getElem? (i := 1257) (by decide +kernel), List.mem_of_getElem? (i := 1562) (by decide +kernel), List.mem_of_getElem? (i := 1563) (by decide +kernel)⟩
theorem lw_p143 : lw_okq (⟨"SpanCopierModel", "sendNakOf", "(II)V"⟩, 39) := ⟨⟨by decide +kernel, by decide +kernel⟩, List.mem_of_getElem? (i := 1257) (by decide +kernel), List.mem_of_getElem? (i := 1566) (by decide +kernel), List.mem_of_getElem? (i := 1567) (by decide +kernel)⟩
def lw_privs_9 : List (MethodName × Nat) := [(⟨"SpanCopierModel", "readHas", "()Z"⟩, 39), (⟨"SpanCopierModel", "readAct", "()Z"⟩, 39), (⟨"SpanCopierModel", "readEnd", "()Z"⟩, 39), (⟨"SpanCopierModel", "isSign", "(I)Z"⟩, 39), (⟨"SpanCopierModel", "comeBack", "([II)V"⟩, 39), (⟨"SpanCopierModel", "snap", "()V"⟩, 39), (⟨"SpanCopierModel", "save", "([II)V"⟩, 39), (⟨"SpanCopierModel", "passTicks", "(I)I"⟩, 39), (⟨"SpanCopierModel", "oneTick", "()V"⟩, 39), (⟨"SpanCopierModel", "allCome", "()V"⟩, 39), (⟨"SpanCopierModel", "unitAt", "(I)I"⟩, 39), (⟨"SpanCopierModel", "drop", "(I)V"⟩, 39), (⟨"SpanCopierModel", "comes", "()V"⟩, 39), (⟨"SpanCopierModel", "dataComes", "()V"⟩, 39), (⟨"SpanCopierModel", "isGap", "(I)Z"⟩, 39), (⟨"SpanCopierModel", "sendNakOf", "(II)V"⟩, 39)]
theorem lw_r9 : ∀ q ∈ lw_privs_9, lw_okq q := List.forall_mem_cons.mpr ⟨lw_p128, List.forall_mem_cons.mpr ⟨lw_p129, List.forall_mem_cons.mpr ⟨lw_p130, List.forall_mem_cons.mpr ⟨lw_p131, List.forall_mem_cons.mpr ⟨lw_p132, List.forall_mem_cons.mpr ⟨lw_p133, List.forall_mem_cons.mpr ⟨lw_p134, List.forall_mem_cons.mpr ⟨lw_p135, List.forall_mem_cons.mpr ⟨lw_p136, List.forall_mem_cons.mpr ⟨lw_p137, List.forall_mem_cons.mpr ⟨lw_p138, List.forall_mem_cons.mpr ⟨lw_p139, List.forall_mem_cons.mpr ⟨lw_p140, List.forall_mem_cons.mpr ⟨lw_p141, List.forall_mem_cons.mpr ⟨lw_p142, List.forall_mem_cons.mpr ⟨lw_p143, fun _ h => absurd h List.not_mem_nil⟩⟩⟩⟩⟩⟩⟩⟩⟩⟩⟩⟩⟩⟩⟩⟩
theorem lw_p144 : lw_okq (⟨"SpanCopierModel", "sends", "(III)I"⟩, 39) := ⟨⟨by decide +kernel, by decide +kernel⟩, List.mem_of_getElem? (i := 1257) (by decide +kernel), List.mem_of_getElem? (i := 1570) (by decide +kernel), List.mem_of_getElem? (i := 1571) (by decide +kernel)⟩
theorem lw_p145 : lw_okq (⟨"SpanCopierModel", "eofComes", "()V"⟩, 39) := ⟨⟨by decide +kernel, by decide +kernel⟩, List.mem_of_getElem? (i := 1257) (by decide +kernel), List.mem_of_getElem? (i := 1574) (by decide +kernel), List.mem_of_getElem? (i := 1575) (by decide +kernel)⟩
theorem lw_p146 : lw_okq (⟨"SpanCopierModel", "spansOf", "(I)I"⟩, 39) := ⟨⟨by decide +kernel, by decide +kernel⟩, List.mem_of_getElem? (i := 1257) (by decide +kernel), List.mem_of_getElem? (i := 1578) (by decide +kernel), List.mem_of_getElem? (i := 1579) (by decide +kernel)⟩
theorem lw_p147 : lw_okq (⟨"SpanCopierModel", "nextMark", "(IIZ)I"⟩, 39) := ⟨⟨by decide +kernel, by decide +kernel⟩, List.mem_of_getElem? (i := 1257) (by decide +kernel), List.mem_of_getElem? (i := 1582) (by decide +kernel), List.mem_of_getElem? (i := 1583) (by decide +kernel)⟩
theorem lw_p148 : lw_okq (⟨"SpanCopierModel", "isMarked", "(II)Z"⟩, 39) := ⟨⟨by decide +kernel, by decide +kernel⟩, List.mem_of_getElem? (i := 1257) (by decide +kernel), List.mem_of_getElem? (i := 1586) (by decide +kernel), List.mem_of_getElem? (i := 1587) (by decide +kernel)⟩
theorem lw_p149 : lw_okq (⟨"SpanCopierModel", "sendNak", "()V"⟩, 39) := ⟨⟨by decide +kernel, by decide +kernel⟩, List.mem_of_getElem? (i := 1257) (by decide +kernel), List.mem_of_getElem? (i := 1590) (by decide +kernel), List.mem_of_getElem? (i := 1591) (by decide +kernel)⟩
theorem lw_p150 : lw_okq (⟨"SpanCopierModel", "spanEnd", "(III)I"⟩, 39) := ⟨⟨by decide +kernel, by decide +kernel⟩, List.mem_of_getElem? (i := 1257) (by decide +kernel), List.mem_of_getElem? (i := 1594) (by decide +kernel), List.mem_of_getElem? (i := 1595) (by decide +kernel)⟩
theorem lw_p151 : lw_okq (⟨"SpanCopierModel", "nakComes", "()V"⟩, 39) := ⟨⟨by decide +kernel, by decide +kernel⟩, List.mem_of_getElem? (i := 1257) (by decide +kernel), List.mem_of_getElem? (i := 1598) (by decide +kernel), List.mem_of_getElem? (i := 1599) (by decide +kernel)⟩
theorem lw_p152 : lw_okq (⟨"SpanCopierModel", "isBusy", "()Z"⟩, 39) := ⟨⟨by decide +kernel, by decide +kernel⟩, List.mem_of_getElem? (i := 1257) (by decide +kernel), List.mem_of_getElem? (i := 1602) (by decide +kernel), List.mem_of_getElem? (i := 1603) (by decide +kernel)⟩
theorem lw_p153 : lw_okq (⟨"SpanCopierModel", "finComes", "()V"⟩, 39) := ⟨⟨by decide +kernel, by decide +kernel⟩, List.mem_of_getElem? (i := 1257) (by decide +kernel), List.mem_of_getElem? (i := 1606) (by decide +kernel), List.mem_of_getElem? (i := 1607) (by decide +kernel)⟩
theorem lw_p154 : lw_okq (⟨"SpanCopierModel", "senderGoes", "()V"⟩, 39) := ⟨⟨by decide +kernel, by decide +kernel⟩, List.mem_of_getElem? (i := 1257) (by decide +kernel), List.mem_of_getElem? (i := 1610) (by decide +kernel), List.mem_of_getElem? (i := 1611) (by decide +kernel)⟩
theorem lw_p155 : lw_okq (⟨"SpanCopierModel", "sendsAgain", "()V"⟩, 39) := ⟨⟨by decide +kernel, by decide +kernel⟩, List.mem_of_getElem? (i := 1257) (by decide +kernel), List.mem_of_getElem? (i := 1614) (by decide +kernel), List.mem_of_getElem? (i := 1615) (by decide +kernel)⟩
theorem lw_p156 : lw_okq (⟨"SpanCopierModel", "sendData", "(II)V"⟩, 39) := ⟨⟨by decide +kernel, by decide +kernel⟩, List.mem_of_getElem? (i := 1257) (by decide +kernel), List.mem_of_getElem? (i := 1618) (by decide +kernel), List.mem_of_getElem? (i := 1619) (by decide +kernel)⟩
theorem lw_p157 : lw_okq (⟨"SpanCopierModel", "sendsOn", "()V"⟩, 39) := ⟨⟨by decide +kernel, by decide +kernel⟩, List.mem_of_getElem? (i := 1257) (by decide +kernel), List.mem_of_getElem? (i := 1622) (by decide +kernel), List.mem_of_getElem? (i := 1623) (by decide +kernel)⟩
theorem lw_p158 : lw_okq (⟨"SpanCopierModel", "sendEof", "()V"⟩, 39) := ⟨⟨by decide +kernel, by decide +kernel⟩, List.mem_of_getElem? (i := 1257) (by decide +kernel), List.mem_of_getElem? (i := 1626) (by decide +kernel), List.mem_of_getElem? (i := 1627) (by decide +kernel)⟩
theorem lw_p159 : lw_okq (⟨"SpanCopierModel", "fileSum", "()I"⟩, 39) := ⟨⟨by decide +kernel, by decide +kernel⟩, List.mem_of_getElem? (i := 1257) (by decide +kernel), List.mem_of_getElem? (i := 1630) (by decide +kernel), List.mem_of_getElem? (i := 1631) (by decide +kernel)⟩
def lw_privs_10 : List (MethodName × Nat) := [(⟨"SpanCopierModel", "sends", "(III)I"⟩, 39), (⟨"SpanCopierModel", "eofComes", "()V"⟩, 39), (⟨"SpanCopierModel", "spansOf", "(I)I"⟩, 39), (⟨"SpanCopierModel", "nextMark", "(IIZ)I"⟩, 39), (⟨"SpanCopierModel", "isMarked", "(II)Z"⟩, 39), (⟨"SpanCopierModel", "sendNak", "()V"⟩, 39), (⟨"SpanCopierModel", "spanEnd", "(III)I"⟩, 39), (⟨"SpanCopierModel", "nakComes", "()V"⟩, 39), (⟨"SpanCopierModel", "isBusy", "()Z"⟩, 39), (⟨"SpanCopierModel", "finComes", "()V"⟩, 39), (⟨"SpanCopierModel", "senderGoes", "()V"⟩, 39), (⟨"SpanCopierModel", "sendsAgain", "()V"⟩, 39), (⟨"SpanCopierModel", "sendData", "(II)V"⟩, 39), (⟨"SpanCopierModel", "sendsOn", "()V"⟩, 39), (⟨"SpanCopierModel", "sendEof", "()V"⟩, 39), (⟨"SpanCopierModel", "fileSum", "()I"⟩, 39)]
theorem lw_r10 : ∀ q ∈ lw_privs_10, lw_okq q := List.forall_mem_cons.mpr ⟨lw_p144, List.forall_mem_cons.mpr ⟨lw_p145, List.forall_mem_cons.mpr ⟨lw_p146, List.forall_mem_cons.mpr ⟨lw_p147, List.forall_mem_cons.mpr ⟨lw_p148, List.forall_mem_cons.mpr ⟨lw_p149, List.forall_mem_cons.mpr ⟨lw_p150, List.forall_mem_cons.mpr ⟨lw_p151, List.forall_mem_cons.mpr ⟨lw_p152, List.forall_mem_cons.mpr ⟨lw_p153, List.forall_mem_cons.mpr ⟨lw_p154, List.forall_mem_cons.mpr ⟨lw_p155, List.forall_mem_cons.mpr ⟨lw_p156, List.forall_mem_cons.mpr ⟨lw_p157, List.forall_mem_cons.mpr ⟨lw_p158, List.forall_mem_cons.mpr ⟨lw_p159, fun _ h => absurd h List.not_mem_nil⟩⟩⟩⟩⟩⟩⟩⟩⟩⟩⟩⟩⟩⟩⟩⟩
theorem lw_p160 : lw_okq (⟨"SpanCopierModel", "takerGoes", "()V"⟩, 39) := ⟨⟨by decide +kernel, by decide +kernel⟩, List.mem_of_getElem? (i := 1257) (by decide +kernel), List.mem_of_getElem? (i := 1637) (by decide +kernel), List.mem_of_getElem? (i := 1638) (by decide +kernel)⟩
theorem lw_p161 : lw_okq (⟨"SpanCopierModel", "takes", "()V"⟩, 39) := ⟨⟨by decide +kernel, by decide +kernel⟩, List.mem_of_getElem? (i := 1257) (by decide +kernel), List.mem_of_getElem? (i := 1641) (by decide +kernel), List.mem_of_getElem? (i := 1642) (by decide +kernel)⟩
theorem lw_p162 : lw_okq (⟨"SpanCopierModel", "takenSum", "()I"⟩, 39) := ⟨⟨by decide +kernel, by decide +kernel⟩, List.mem_of_getElem? (i := 1257) (by decide +kernel), List.mem_of_getElem? (i := 1645) (by decide +kernel), List.mem_of_getElem? (i := 1646) (by decide +kernel)⟩
theorem lw_p163 : lw_okq (⟨"SpanCopierModel", "finishes", "(I)V"⟩, 39) := ⟨⟨by decide +kernel, by decide +kernel⟩, List.mem_of_getElem? (i := 1257) (by decide +kernel), List.mem_of_getElem? (i := 1649) (by decide +kernel), List.mem_of_getElem? (i := 1650) (by decide +kernel)⟩
theorem lw_p164 : lw_okq (⟨"SpanCopierModel", "actsOn", "()V"⟩, 39) := ⟨⟨by decide +kernel, by decide +kernel⟩, List.mem_of_getElem? (i := 1257) (by decide +kernel), List.mem_of_getElem? (i := 1653) (by decide +kernel), List.mem_of_getElem? (i := 1654) (by decide +kernel)⟩
theorem lw_p165 : lw_okq (⟨"SpanCopierModel", "hasStopped", "()Z"⟩, 39) := ⟨⟨by decide +kernel, by decide +kernel⟩, List.mem_of_getElem? (i := 1257) (by decide +kernel), List.mem_of_getElem? (i := 1657) (by decide +kernel), List.mem_of_getElem? (i := 1658) (by decide +kernel)⟩
theorem lw_p166 : lw_okq (⟨"SpanCopierModel", "acts", "(I)Z"⟩, 39) := ⟨⟨by decide +kernel, by decide +kernel⟩, List.mem_of_getElem? (i := 1257) (by decide +kernel), List.mem_of_getElem? (i := 1661) (by decide +kernel), List.mem_of_getElem? (i := 1662) (by decide +kernel)⟩
theorem lw_p167 : lw_okq (⟨"SpanCopierModel", "finishing", "()V"⟩, 39) := ⟨⟨by decide +kernel, by decide +kernel⟩, List.mem_of_getElem? (i := 1257) (by decide +kernel), List.mem_of_getElem? (i := 1665) (by decide +kernel), List.mem_of_getElem? (i := 1666) (by decide +kernel)⟩
theorem lw_p168 : lw_okq (⟨"SpanCopierModel", "isUnit", "(I)Z"⟩, 39) := ⟨⟨by decide +kernel, by decide +kernel⟩, List.mem_of_getElem? (i := 1257) (by decide +kernel), List.mem_of_getElem? (i := 1673) (by decide +kernel), List.mem_of_getElem? (i := 1674) (by decide +kernel)⟩
theorem lw_p169 : lw_okq (⟨"SpanCopierModel", "act", "(IIIZ)I"⟩, 39) := ⟨⟨by decide +kernel, by decide +kernel⟩, List.mem_of_getElem? (i := 1257) (by decide +kernel), List.mem_of_getElem? (i := 1677) (by decide +kernel), List.mem_of_getElem? (i := 1678) (by decide +kernel)⟩
theorem lw_p170 : lw_okq (⟨"SpanCopierModel", "whySpoil", "(I)I"⟩, 39) := ⟨⟨by decide +kernel, by decide +kernel⟩, List.mem_of_getElem? (i := 1257) (by decide +kernel), List.mem_of_getElem? (i := 1681) (by decide +kernel), List.mem_of_getElem? (i := 1682) (by decide +kernel)⟩
theorem lw_p171 : lw_okq (⟨"SpanCopierModel", "why", "(II)I"⟩, 39) := ⟨⟨by decide +kernel, by decide +kernel⟩, List.mem_of_getElem? (i := 1257) (by decide +kernel), List.mem_of_getElem? (i := 1685) (by decide +kernel), List.mem_of_getElem? (i := 1686) (by decide +kernel)⟩
theorem lw_p172 : lw_okq (⟨"SpanCopierModel", "live", "(III)V"⟩, 39) := ⟨⟨by decide +kernel, by decide +kernel⟩, List.mem_of_getElem? (i := 1257) (by decide +kernel), List.mem_of_getElem? (i := 1689) (by decide +kernel), List.mem_of_getElem? (i := 1690) (by decide +kernel)⟩
theorem lw_p173 : lw_okq (⟨"SpanCopierModel", "refuse", "()I"⟩, 39) := ⟨⟨by decide +kernel, by decide +kernel⟩, List.mem_of_getElem? (i := 1257) (by decide +kernel), List.mem_of_getElem? (i := 1721) (by decide +kernel), List.mem_of_getElem? (i := 1722) (by decide +kernel)⟩
theorem lw_p174 : lw_okq (⟨"SpanCopierModel", "firstOf", "(I)I"⟩, 39) := ⟨⟨by decide +kernel, by decide +kernel⟩, List.mem_of_getElem? (i := 1257) (by decide +kernel), List.mem_of_getElem? (i := 1728) (by decide +kernel), List.mem_of_getElem? (i := 1729) (by decide +kernel)⟩
theorem lw_p175 : lw_okq (⟨"SpanCopierModel", "dataOf", "(II)I"⟩, 39) := ⟨⟨by decide +kernel, by decide +kernel⟩, List.mem_of_getElem? (i := 1257) (by decide +kernel), List.mem_of_getElem? (i := 1732) (by decide +kernel), List.mem_of_getElem? (i := 1733) (by decide +kernel)⟩
def lw_privs_11 : List (MethodName × Nat) := [(⟨"SpanCopierModel", "takerGoes", "()V"⟩, 39), (⟨"SpanCopierModel", "takes", "()V"⟩, 39), (⟨"SpanCopierModel", "takenSum", "()I"⟩, 39), (⟨"SpanCopierModel", "finishes", "(I)V"⟩, 39), (⟨"SpanCopierModel", "actsOn", "()V"⟩, 39), (⟨"SpanCopierModel", "hasStopped", "()Z"⟩, 39), (⟨"SpanCopierModel", "acts", "(I)Z"⟩, 39), (⟨"SpanCopierModel", "finishing", "()V"⟩, 39), (⟨"SpanCopierModel", "isUnit", "(I)Z"⟩, 39), (⟨"SpanCopierModel", "act", "(IIIZ)I"⟩, 39), (⟨"SpanCopierModel", "whySpoil", "(I)I"⟩, 39), (⟨"SpanCopierModel", "why", "(II)I"⟩, 39), (⟨"SpanCopierModel", "live", "(III)V"⟩, 39), (⟨"SpanCopierModel", "refuse", "()I"⟩, 39), (⟨"SpanCopierModel", "firstOf", "(I)I"⟩, 39), (⟨"SpanCopierModel", "dataOf", "(II)I"⟩, 39)]
theorem lw_r11 : ∀ q ∈ lw_privs_11, lw_okq q := List.forall_mem_cons.mpr ⟨lw_p160, List.forall_mem_cons.mpr ⟨lw_p161, List.forall_mem_cons.mpr ⟨lw_p162, List.forall_mem_cons.mpr ⟨lw_p163, List.forall_mem_cons.mpr ⟨lw_p164, List.forall_mem_cons.mpr ⟨lw_p165, List.forall_mem_cons.mpr ⟨lw_p166, List.forall_mem_cons.mpr ⟨lw_p167, List.forall_mem_cons.mpr ⟨lw_p168, List.forall_mem_cons.mpr ⟨lw_p169, List.forall_mem_cons.mpr ⟨lw_p170, List.forall_mem_cons.mpr ⟨lw_p171, List.forall_mem_cons.mpr ⟨lw_p172, List.forall_mem_cons.mpr ⟨lw_p173, List.forall_mem_cons.mpr ⟨lw_p174, List.forall_mem_cons.mpr ⟨lw_p175, fun _ h => absurd h List.not_mem_nil⟩⟩⟩⟩⟩⟩⟩⟩⟩⟩⟩⟩⟩⟩⟩⟩
theorem lw_p176 : lw_okq (⟨"SpanCopierModel", "isOver", "()Z"⟩, 39) := ⟨⟨by decide +kernel, by decide +kernel⟩, List.mem_of_getElem? (i := 1257) (by decide +kernel), List.mem_of_getElem? (i := 1772) (by decide +kernel), List.mem_of_getElem? (i := 1773) (by decide +kernel)⟩
theorem lw_p177 : lw_okq (⟨"SpanCopierModel", "drawTicks", "(II)I"⟩, 39) := ⟨⟨by decide +kernel, by decide +kernel⟩, List.mem_of_getElem? (i := 1257) (by decide +kernel), List.mem_of_getElem? (i := 1784) (by decide +kernel), List.mem_of_getElem? (i := 1785) (by decide +kernel)⟩
theorem lw_p178 : lw_okq (⟨"SpanCopierModel", "drawsFirst", "()V"⟩, 39) := ⟨⟨by decide +kernel, by decide +kernel⟩, List.mem_of_getElem? (i := 1257) (by decide +kernel), List.mem_of_getElem? (i := 1788) (by decide +kernel), List.mem_of_getElem? (i := 1789) (by decide +kernel)⟩
theorem lw_p179 : lw_okq (⟨"SpanCopierModel", "draw", "(I)I"⟩, 39) := ⟨⟨by decide +kernel, by decide +kernel⟩, List.mem_of_getElem? (i := 1257) (by decide +kernel), List.mem_of_getElem? (i := 1792) (by decide +kernel), List.mem_of_getElem? (i := 1793) (by decide +kernel)⟩
theorem lw_p180 : lw_okq (⟨"SpanCopierModel", "drawsUnit", "(I)V"⟩, 39) := ⟨⟨by decide +kernel, by decide +kernel⟩, List.mem_of_getElem? (i := 1257) (by decide +kernel), List.mem_of_getElem? (i := 1797) (by decide +kernel), List.mem_of_getElem? (i := 1798) (by decide +kernel)⟩
theorem lw_p181 : lw_okq (⟨"SpanCopierModel", "doIf", "(III)V"⟩, 39) := ⟨⟨by decide +kernel, by decide +kernel⟩, List.mem_of_getElem? (i := 1257) (by decide +kernel), List.mem_of_getElem? (i := 1801) (by decide +kernel), List.mem_of_getElem? (i := 1802) (by decide +kernel)⟩
theorem lw_p182 : lw_okq (⟨"SpanCopierModel", "readBookLine", "()Z"⟩, 39) := ⟨⟨by decide +kernel, by decide +kernel⟩, List.mem_of_getElem? (i := 1257) (by decide +kernel), List.mem_of_getElem? (i := 1813) (by decide +kernel), List.mem_of_getElem? (i := 1814) (by decide +kernel)⟩
theorem lw_p183 : lw_okq (⟨"SpanCopierModel", "keep", "(IZ)Z"⟩, 39) := ⟨⟨by decide +kernel, by decide +kernel⟩, List.mem_of_getElem? (i := 1257) (by decide +kernel), List.mem_of_getElem? (i := 1817) (by decide +kernel), List.mem_of_getElem? (i := 1818) (by decide +kernel)⟩
theorem lw_p184 : lw_okq (⟨"SpanCopierModel", "goBy", "(I)I"⟩, 39) := ⟨⟨by decide +kernel, by decide +kernel⟩, List.mem_of_getElem? (i := 1257) (by decide +kernel), List.mem_of_getElem? (i := 1821) (by decide +kernel), List.mem_of_getElem? (i := 1822) (by decide +kernel)⟩
theorem lw_p185 : lw_okq (⟨"SpanCopierModel", "stay", "(Z)V"⟩, 39) := ⟨⟨by decide +kernel, by decide +kernel⟩, List.mem_of_getElem? (i := 1257) (by decide +kernel), List.mem_of_getElem? (i := 1825) (by decide +kernel), List.mem_of_getElem? (i := 1826) (by decide +kernel)⟩
theorem lw_p186 : lw_okq (⟨"SpanCopierModel", "readOr", "()Z"⟩, 39) := ⟨⟨by decide +kernel, by decide +kernel⟩, List.mem_of_getElem? (i := 1257) (by decide +kernel), List.mem_of_getElem? (i := 1837) (by decide +kernel), List.mem_of_getElem? (i := 1838) (by decide +kernel)⟩
theorem lw_p187 : lw_okq (⟨"SpanCopierModel", "readAnd", "()Z"⟩, 39) := ⟨⟨by decide +kernel, by decide +kernel⟩, List.mem_of_getElem? (i := 1257) (by decide +kernel), List.mem_of_getElem? (i := 1841) (by decide +kernel), List.mem_of_getElem? (i := 1842) (by decide +kernel)⟩
theorem lw_p188 : lw_okq (⟨"SpanCopierModel", "readSaid", "()Z"⟩, 39) := ⟨⟨by decide +kernel, by decide +kernel⟩, List.mem_of_getElem? (i := 1257) (by decide +kernel), List.mem_of_getElem? (i := 1845) (by decide +kernel), List.mem_of_getElem? (i := 1846) (by decide +kernel)⟩
theorem lw_p189 : lw_okq (⟨"SpanCopierModel", "readBracket", "()Z"⟩, 39) := ⟨⟨by decide +kernel, by decide +kernel⟩, List.mem_of_getElem? (i := 1257) (by decide +kernel), List.mem_of_getElem? (i := 1849) (by decide +kernel), List.mem_of_getElem? (i := 1850) (by decide +kernel)⟩
theorem lw_p190 : lw_okq (⟨"SpanCopierModel", "readNot", "()Z"⟩, 39) := ⟨⟨by decide +kernel, by decide +kernel⟩, List.mem_of_getElem? (i := 1257) (by decide +kernel), List.mem_of_getElem? (i := 1853) (by decide +kernel), List.mem_of_getElem? (i := 1854) (by decide +kernel)⟩
theorem lw_p191 : lw_okq (⟨"SpanCopierModel", "saysOne", "(IIII)I"⟩, 39) := ⟨⟨by decide +kernel, by decide +kernel⟩, List.mem_of_getElem? (i := 1257) (by decide +kernel), List.mem_of_getElem? (i := 1857) (by decide +kernel), List.mem_of_getElem? (i := 1858) (by decide +kernel)⟩
def lw_privs_12 : List (MethodName × Nat) := [(⟨"SpanCopierModel", "isOver", "()Z"⟩, 39), (⟨"SpanCopierModel", "drawTicks", "(II)I"⟩, 39), (⟨"SpanCopierModel", "drawsFirst", "()V"⟩, 39), (⟨"SpanCopierModel", "draw", "(I)I"⟩, 39), (⟨"SpanCopierModel", "drawsUnit", "(I)V"⟩, 39), (⟨"SpanCopierModel", "doIf", "(III)V"⟩, 39), (⟨"SpanCopierModel", "readBookLine", "()Z"⟩, 39), (⟨"SpanCopierModel", "keep", "(IZ)Z"⟩, 39), (⟨"SpanCopierModel", "goBy", "(I)I"⟩, 39), (⟨"SpanCopierModel", "stay", "(Z)V"⟩, 39), (⟨"SpanCopierModel", "readOr", "()Z"⟩, 39), (⟨"SpanCopierModel", "readAnd", "()Z"⟩, 39), (⟨"SpanCopierModel", "readSaid", "()Z"⟩, 39), (⟨"SpanCopierModel", "readBracket", "()Z"⟩, 39), (⟨"SpanCopierModel", "readNot", "()Z"⟩, 39), (⟨"SpanCopierModel", "saysOne", "(IIII)I"⟩, 39)]
theorem lw_r12 : ∀ q ∈ lw_privs_12, lw_okq q := List.forall_mem_cons.mpr ⟨lw_p176, List.forall_mem_cons.mpr ⟨lw_p177, List.forall_mem_cons.mpr ⟨lw_p178, List.forall_mem_cons.mpr ⟨lw_p179, List.forall_mem_cons.mpr ⟨lw_p180, List.forall_mem_cons.mpr ⟨lw_p181, List.forall_mem_cons.mpr ⟨lw_p182, List.forall_mem_cons.mpr ⟨lw_p183, List.forall_mem_cons.mpr ⟨lw_p184, List.forall_mem_cons.mpr ⟨lw_p185, List.forall_mem_cons.mpr ⟨lw_p186, List.forall_mem_cons.mpr ⟨lw_p187, List.forall_mem_cons.mpr ⟨lw_p188, List.forall_mem_cons.mpr ⟨lw_p189, List.forall_mem_cons.mpr ⟨lw_p190, List.forall_mem_cons.mpr ⟨lw_p191, fun _ h => absurd h List.not_mem_nil⟩⟩⟩⟩⟩⟩⟩⟩⟩⟩⟩⟩⟩⟩⟩⟩
theorem lw_p192 : lw_okq (⟨"SpanCopierModel", "readOf", "(I)Z"⟩, 39) := ⟨⟨by decide +kernel, by decide +kernel⟩, List.mem_of_getElem? (i := 1257) (by decide +kernel), List.mem_of_getElem? (i := 1861) (by decide +kernel), List.mem_of_getElem? (i := 1862) (by decide +kernel)⟩
theorem lw_p193 : lw_okq (⟨"SpanCopierModel", "readCompare", "(I)Z"⟩, 39) := ⟨⟨by decide +kernel, by decide +kernel⟩, List.mem_of_getElem? (i := 1257) (by decide +kernel), List.mem_of_getElem? (i := 1865) (by decide +kernel), List.mem_of_getElem? (i := 1866) (by decide +kernel)⟩
theorem lw_p194 : lw_okq (⟨"SpanCopierModel", "holds", "(II)Z"⟩, 39) := ⟨⟨by decide +kernel, by decide +kernel⟩, List.mem_of_getElem? (i := 1257) (by decide +kernel), List.mem_of_getElem? (i := 1873) (by decide +kernel), List.mem_of_getElem? (i := 1874) (by decide +kernel)⟩
def lw_privs_13 : List (MethodName × Nat) := [(⟨"SpanCopierModel", "readOf", "(I)Z"⟩, 39), (⟨"SpanCopierModel", "readCompare", "(I)Z"⟩, 39), (⟨"SpanCopierModel", "holds", "(II)Z"⟩, 39)]
theorem lw_r13 : ∀ q ∈ lw_privs_13, lw_okq q := List.forall_mem_cons.mpr ⟨lw_p192, List.forall_mem_cons.mpr ⟨lw_p193, List.forall_mem_cons.mpr ⟨lw_p194, fun _ h => absurd h List.not_mem_nil⟩⟩⟩
def lw_privs : List (MethodName × Nat) := lw_privs_1 ++ (lw_privs_2 ++ (lw_privs_3 ++ (lw_privs_4 ++ (lw_privs_5 ++ (lw_privs_6 ++ (lw_privs_7 ++ (lw_privs_8 ++ (lw_privs_9 ++ (lw_privs_10 ++ (lw_privs_11 ++ (lw_privs_12 ++ (lw_privs_13))))))))))))
def lw_tbl : List Cond := k2_sels lw_privs ++ tables_1
theorem lw_privs_ok : ∀ q ∈ lw_privs, lw_okq q := by
  show ∀ q ∈ lw_privs_1 ++ (lw_privs_2 ++ (lw_privs_3 ++ (lw_privs_4 ++ (lw_privs_5 ++ (lw_privs_6 ++ (lw_privs_7 ++ (lw_privs_8 ++ (lw_privs_9 ++ (lw_privs_10 ++ (lw_privs_11 ++ (lw_privs_12 ++ (lw_privs_13)))))))))))), lw_okq q
  exact List.forall_mem_append.mpr ⟨lw_r1, List.forall_mem_append.mpr ⟨lw_r2, List.forall_mem_append.mpr ⟨lw_r3, List.forall_mem_append.mpr ⟨lw_r4, List.forall_mem_append.mpr ⟨lw_r5, List.forall_mem_append.mpr ⟨lw_r6, List.forall_mem_append.mpr ⟨lw_r7, List.forall_mem_append.mpr ⟨lw_r8, List.forall_mem_append.mpr ⟨lw_r9, List.forall_mem_append.mpr ⟨lw_r10, List.forall_mem_append.mpr ⟨lw_r11, List.forall_mem_append.mpr ⟨lw_r12, lw_r13⟩⟩⟩⟩⟩⟩⟩⟩⟩⟩⟩⟩
-- ===== end of PART A; then your names; then what follows =====
/-! THE CLAIM OUT OF ONE WALK OF THE LAW'S BODY. Your part is whole_start (and what it stands on); all else here is the same for every law, but numbers. -/
def R_law : String := "SpanCopierLaw"
def lw_P (b : Addr) (xs : List Int32) (args : Array Value) (s : State) : Prop := args = #[.ref b] ∧ s.IntsAt b xs ∧ xs.length ≤ 6 ∧ (Jvm.Cond.and given_1 narrow_1).before args s = true
def lw_Q (_ : Array Value) (s : State) (o : Outcome) (t : State) : Prop := o = .returned (some (.int 1)) ∧ Framed s o t [] 600002 7302232
def lw_Z (below : List Frame) (a : Array Value) (s : State) : State → Prop := fun t => ∃ o, t.status = .running ∧ Ended t below o ∧ lw_Q a s o t
/-- the law's own end, with 1 on the stack, nothing written that was there before, its room as the claim has it -/
theorem lw_ret {p : Program} {l : Launch} {e : Env} {s : State} {m : MethodId} {below : List Frame} {meth : Method} {c : Code} {b : Nat} (hx : p.tables.exec = Jvm.exec) (hb : c.code = code) (hr : meth.sig.returnType = ret) (hlocks : meth.locks = false) {pc : Nat} {H : Heap} {ls : Array Slot} (hdg : decode code pc = .ok (.ireturn, 1)) : W p l e room_1 s m #[Value.ref b] below meth c H [] 600002 7302232 (lw_Z below #[Value.ref b] s) (F0 m pc ls [.int 1]) := by
  intro T hT X
  obtain ⟨fs, hret, hrun, hended, hW, hframe⟩ := X.leave (v := some (.int 1)) (hlocks := hlocks) (fun h => by rw [hr] at h; cases h)
  have hmeth' : T.vm.method? m = some meth := X.method'
  refine ⟨T.setFrames fs, ?_, .returned (some (.int 1)), hrun, hended, rfl, ⟨_, rfl⟩, hW, hframe⟩
  jvm_step X.here [X.here.top, hx, hb, hdg, hmeth', hr, ret, narrow_b1]
  (try refine ⟨rfl, ?_⟩); (try refine ⟨rfl, ?_⟩)
  first | (intro acts; rw [hret _ acts rfl rfl rfl]) | rw [hret _ _ rfl rfl rfl]
  exact Steps.refl _
/-- what holds at the law's entry: the machine, the code, the tables' words (any of lw_tbl by 'hts w (by decide +kernel)'), the script of L ints xs at the cell b, what the Statement gives of the start (any of its parts by flat_of_before) -/
def lw_At (p : Program) (s : State) (m : MethodId) (meth : Method) (c : Code) (b L : Nat) (xs : Nat → Int32) : Prop :=
  p.tables.exec = Jvm.exec ∧ c.code = code ∧ meth.sig.returnType = ret ∧ c.maxLocals = 7 ∧ s.vm.findClass R_law = some m.cls ∧ (∀ w ∈ lw_tbl, w.before #[Value.ref b] s = true) ∧ va_X b L xs s s.heap ∧ b < s.heap.size ∧ meth.locks = false ∧ (Jvm.Cond.and given_1 narrow_1).before #[Value.ref b] s = true
end
section
def RX1 : String := "SpanCopier$Book"
def TX1 : u_T := fun k => match k with
  | 0 => ("SpanCopier$Book", "words", "[LSpanCopier$Word;", true)
  | 1 => ("SpanCopier$Book", "units", "[I", true)
  | 2 => ("SpanCopier$Book", "ticks", "[I", true)
  | _ => ("SpanCopier$Book", "many", "I", false)
def tyX1 : Nat → FieldType := fun k => match k with
  | 0 => .array (.object "SpanCopier$Word")
  | 1 => .array .int
  | 2 => .array .int
  | _ => .int
theorem nmX1 : ∀ a, a < 4 → ∀ b, b < 4 → a ≠ b → (TX1 a).2.1 ≠ (TX1 b).2.1 := by decide +kernel
theorem tyX1_ok : ∀ k, k < 4 → parseFieldDescriptor (TX1 k).2.2.1 = some (tyX1 k) := by decide +kernel
def RX2 : String := "SpanCopier$Link"
def TX2 : u_T := fun k => match k with
  | 0 => ("SpanCopier$Link", "rows", "[I", true)
  | 1 => ("SpanCopier$Link", "coming", "[I", true)
  | 2 => ("SpanCopier$Link", "size", "I", false)
  | 3 => ("SpanCopier$Link", "sent", "I", false)
  | _ => ("SpanCopier$Link", "due", "I", false)
def tyX2 : Nat → FieldType := fun k => match k with
  | 0 => .array .int
  | 1 => .array .int
  | 2 => .int
  | 3 => .int
  | _ => .int
theorem nmX2 : ∀ a, a < 5 → ∀ b, b < 5 → a ≠ b → (TX2 a).2.1 ≠ (TX2 b).2.1 := by decide +kernel
theorem tyX2_ok : ∀ k, k < 5 → parseFieldDescriptor (TX2 k).2.2.1 = some (tyX2 k) := by decide +kernel
def RX3 : String := "SpanCopier$Order"
def TX3 : u_T := fun k => match k with
  | 0 => ("SpanCopier$Order", "settings", "[I", true)
  | 1 => ("SpanCopier$Order", "actKinds", "[LSpanCopier$Word;", true)
  | 2 => ("SpanCopier$Order", "actFirsts", "[I", true)
  | 3 => ("SpanCopier$Order", "actSeconds", "[I", true)
  | 4 => ("SpanCopier$Order", "codes", "[J", true)
  | 5 => ("SpanCopier$Order", "to", "I", false)
  | 6 => ("SpanCopier$Order", "names", "I", false)
  | 7 => ("SpanCopier$Order", "acts", "I", false)
  | 8 => ("SpanCopier$Order", "has", "I", false)
  | 9 => ("SpanCopier$Order", "toldOnce", "I", false)
  | _ => ("SpanCopier$Order", "named", "I", false)
def tyX3 : Nat → FieldType := fun k => match k with
  | 0 => .array .int
  | 1 => .array (.object "SpanCopier$Word")
  | 2 => .array .int
  | 3 => .array .int
  | 4 => .array .long
  | 5 => .int
  | 6 => .int
  | 7 => .int
  | 8 => .int
  | 9 => .int
  | _ => .int
theorem nmX3 : ∀ a, a < 11 → ∀ b, b < 11 → a ≠ b → (TX3 a).2.1 ≠ (TX3 b).2.1 := by decide +kernel
theorem tyX3_ok : ∀ k, k < 11 → parseFieldDescriptor (TX3 k).2.2.1 = some (tyX3 k) := by decide +kernel
def RX4 : String := "SpanCopier$Places"
def TX4 : u_T := fun k => match k with
  | 0 => ("SpanCopier$Places", "marks", "[B", true)
  | _ => ("SpanCopier$Places", "marked", "I", false)
def tyX4 : Nat → FieldType := fun k => match k with
  | 0 => .array .byte
  | _ => .int
theorem nmX4 : ∀ a, a < 2 → ∀ b, b < 2 → a ≠ b → (TX4 a).2.1 ≠ (TX4 b).2.1 := by decide +kernel
theorem tyX4_ok : ∀ k, k < 2 → parseFieldDescriptor (TX4 k).2.2.1 = some (tyX4 k) := by decide +kernel
def RX5 : String := "SpanCopier$Sender"
def TX5 : u_T := fun k => match k with
  | 0 => ("SpanCopier$Sender", "resends", "LSpanCopier$Places;", true)
  | 1 => ("SpanCopier$Sender", "state", "I", false)
  | 2 => ("SpanCopier$Sender", "next", "I", false)
  | 3 => ("SpanCopier$Sender", "eofs", "I", false)
  | 4 => ("SpanCopier$Sender", "wait", "I", false)
  | _ => ("SpanCopier$Sender", "patience", "I", false)
def tyX5 : Nat → FieldType := fun k => match k with
  | 0 => .object "SpanCopier$Places"
  | 1 => .int
  | 2 => .int
  | 3 => .int
  | 4 => .int
  | _ => .int
theorem nmX5 : ∀ a, a < 6 → ∀ b, b < 6 → a ≠ b → (TX5 a).2.1 ≠ (TX5 b).2.1 := by decide +kernel
theorem tyX5_ok : ∀ k, k < 6 → parseFieldDescriptor (TX5 k).2.2.1 = some (tyX5 k) := by decide +kernel
def RX6 : String := "SpanCopier$Sentence"
def TX6 : u_T := fun k => match k with
  | 0 => ("SpanCopier$Sentence", "words", "[LSpanCopier$Word;", true)
  | 1 => ("SpanCopier$Sentence", "signs", "[I", true)
  | 2 => ("SpanCopier$Sentence", "numbers", "[I", true)
  | 3 => ("SpanCopier$Sentence", "steps", "I", false)
  | _ => ("SpanCopier$Sentence", "ones", "I", false)
def tyX6 : Nat → FieldType := fun k => match k with
  | 0 => .array (.object "SpanCopier$Word")
  | 1 => .array .int
  | 2 => .array .int
  | 3 => .int
  | _ => .int
theorem nmX6 : ∀ a, a < 5 → ∀ b, b < 5 → a ≠ b → (TX6 a).2.1 ≠ (TX6 b).2.1 := by decide +kernel
theorem tyX6_ok : ∀ k, k < 5 → parseFieldDescriptor (TX6 k).2.2.1 = some (tyX6 k) := by decide +kernel
def RX7 : String := "SpanCopier$Shelf"
def TX7 : u_T := fun k => match k with
  | 0 => ("SpanCopier$Shelf", "journal", "[I", true)
  | 1 => ("SpanCopier$Shelf", "written", "I", false)
  | 2 => ("SpanCopier$Shelf", "store", "I", false)
  | 3 => ("SpanCopier$Shelf", "toIsDone", "Z", false)
  | _ => ("SpanCopier$Shelf", "broken", "Z", false)
def tyX7 : Nat → FieldType := fun k => match k with
  | 0 => .array .int
  | 1 => .int
  | 2 => .int
  | 3 => .boolean
  | _ => .boolean
theorem nmX7 : ∀ a, a < 5 → ∀ b, b < 5 → a ≠ b → (TX7 a).2.1 ≠ (TX7 b).2.1 := by decide +kernel
theorem tyX7_ok : ∀ k, k < 5 → parseFieldDescriptor (TX7 k).2.2.1 = some (tyX7 k) := by decide +kernel
def RX8 : String := "SpanCopier$Taker"
def TX8 : u_T := fun k => match k with
  | 0 => ("SpanCopier$Taker", "gaps", "LSpanCopier$Places;", true)
  | 1 => ("SpanCopier$Taker", "bytes", "[B", true)
  | 2 => ("SpanCopier$Taker", "state", "I", false)
  | 3 => ("SpanCopier$Taker", "end", "I", false)
  | 4 => ("SpanCopier$Taker", "knows", "Z", false)
  | 5 => ("SpanCopier$Taker", "naks", "I", false)
  | 6 => ("SpanCopier$Taker", "fins", "I", false)
  | 7 => ("SpanCopier$Taker", "wait", "I", false)
  | _ => ("SpanCopier$Taker", "code", "I", false)
def tyX8 : Nat → FieldType := fun k => match k with
  | 0 => .object "SpanCopier$Places"
  | 1 => .array .byte
  | 2 => .int
  | 3 => .int
  | 4 => .boolean
  | 5 => .int
  | 6 => .int
  | 7 => .int
  | _ => .int
theorem nmX8 : ∀ a, a < 9 → ∀ b, b < 9 → a ≠ b → (TX8 a).2.1 ≠ (TX8 b).2.1 := by decide +kernel
theorem tyX8_ok : ∀ k, k < 9 → parseFieldDescriptor (TX8 k).2.2.1 = some (tyX8 k) := by decide +kernel
def RX9 : String := "SpanCopier$Tape"
def TX9 : u_T := fun k => match k with
  | 0 => ("SpanCopier$Tape", "bytes", "[B", true)
  | 1 => ("SpanCopier$Tape", "length", "I", false)
  | 2 => ("SpanCopier$Tape", "limit", "I", false)
  | 3 => ("SpanCopier$Tape", "behind", "I", false)
  | 4 => ("SpanCopier$Tape", "kind", "I", false)
  | 5 => ("SpanCopier$Tape", "place", "I", false)
  | 6 => ("SpanCopier$Tape", "number", "I", false)
  | 7 => ("SpanCopier$Tape", "code", "J", false)
  | 8 => ("SpanCopier$Tape", "word", "LSpanCopier$Word;", false)
  | 9 => ("SpanCopier$Tape", "faultKind", "I", false)
  | _ => ("SpanCopier$Tape", "faultPlace", "I", false)
def tyX9 : Nat → FieldType := fun k => match k with
  | 0 => .array .byte
  | 1 => .int
  | 2 => .int
  | 3 => .int
  | 4 => .int
  | 5 => .int
  | 6 => .int
  | 7 => .long
  | 8 => .object "SpanCopier$Word"
  | 9 => .int
  | _ => .int
theorem nmX9 : ∀ a, a < 11 → ∀ b, b < 11 → a ≠ b → (TX9 a).2.1 ≠ (TX9 b).2.1 := by decide +kernel
theorem tyX9_ok : ∀ k, k < 11 → parseFieldDescriptor (TX9 k).2.2.1 = some (tyX9 k) := by decide +kernel
def RX11 : String := "SpanCopier$World"
def TX11 : u_T := fun k => match k with
  | 0 => ("SpanCopier$World", "link", "LSpanCopier$Link;", true)
  | 1 => ("SpanCopier$World", "sender", "LSpanCopier$Sender;", true)
  | 2 => ("SpanCopier$World", "taker", "LSpanCopier$Taker;", true)
  | 3 => ("SpanCopier$World", "saved", "LSpanCopier$Taker;", true)
  | 4 => ("SpanCopier$World", "shelf", "LSpanCopier$Shelf;", true)
  | 5 => ("SpanCopier$World", "order", "LSpanCopier$Order;", false)
  | 6 => ("SpanCopier$World", "sentence", "LSpanCopier$Sentence;", false)
  | 7 => ("SpanCopier$World", "file", "[B", false)
  | 8 => ("SpanCopier$World", "fileSum", "I", false)
  | 9 => ("SpanCopier$World", "tick", "I", false)
  | _ => ("SpanCopier$World", "seed", "I", false)
def tyX11 : Nat → FieldType := fun k => match k with
  | 0 => .object "SpanCopier$Link"
  | 1 => .object "SpanCopier$Sender"
  | 2 => .object "SpanCopier$Taker"
  | 3 => .object "SpanCopier$Taker"
  | 4 => .object "SpanCopier$Shelf"
  | 5 => .object "SpanCopier$Order"
  | 6 => .object "SpanCopier$Sentence"
  | 7 => .array .byte
  | 8 => .int
  | 9 => .int
  | _ => .int
theorem nmX11 : ∀ a, a < 11 → ∀ b, b < 11 → a ≠ b → (TX11 a).2.1 ≠ (TX11 b).2.1 := by decide +kernel
theorem tyX11_ok : ∀ k, k < 11 → parseFieldDescriptor (TX11 k).2.2.1 = some (tyX11 k) := by decide +kernel
def RX12 : String := "SpanCopier"
def TX12 : u_T := fun k => match k with
  | 0 => ("SpanCopier", "tape", "LSpanCopier$Tape;", true)
  | 1 => ("SpanCopier", "lines", "LSpanCopier$Book;", true)
  | 2 => ("SpanCopier", "world", "LSpanCopier$World;", true)
  | 3 => ("SpanCopier", "images", "[LSpanCopier$World;", true)
  | 4 => ("SpanCopier", "kept", "[LSpanCopier$World;", true)
  | 5 => ("SpanCopier", "ends", "[I", true)
  | 6 => ("SpanCopier", "judged", "[I", true)
  | 7 => ("SpanCopier", "looked", "LSpanCopier$World;", false)
  | 8 => ("SpanCopier", "spare", "LSpanCopier$World;", false)
  | 9 => ("SpanCopier", "oldest", "I", false)
  | 10 => ("SpanCopier", "undoable", "I", false)
  | _ => ("SpanCopier", "faultKind", "I", false)
def tyX12 : Nat → FieldType := fun k => match k with
  | 0 => .object "SpanCopier$Tape"
  | 1 => .object "SpanCopier$Book"
  | 2 => .object "SpanCopier$World"
  | 3 => .array (.object "SpanCopier$World")
  | 4 => .array (.object "SpanCopier$World")
  | 5 => .array .int
  | 6 => .array .int
  | 7 => .object "SpanCopier$World"
  | 8 => .object "SpanCopier$World"
  | 9 => .int
  | 10 => .int
  | _ => .int
theorem nmX12 : ∀ a, a < 12 → ∀ b, b < 12 → a ≠ b → (TX12 a).2.1 ≠ (TX12 b).2.1 := by decide +kernel
theorem tyX12_ok : ∀ k, k < 12 → parseFieldDescriptor (TX12 k).2.2.1 = some (tyX12 k) := by decide +kernel
def RX13 : String := "SpanCopierModel"
def TX13 : u_T := fun k => match k with
  | 0 => ("SpanCopierModel", "thrown", "I", false)
  | 1 => ("SpanCopierModel", "tape", "[I", true)
  | 2 => ("SpanCopierModel", "taped", "I", false)
  | 3 => ("SpanCopierModel", "size", "I", false)
  | 4 => ("SpanCopierModel", "limit", "I", false)
  | 5 => ("SpanCopierModel", "to", "I", false)
  | 6 => ("SpanCopierModel", "from", "I", false)
  | 7 => ("SpanCopierModel", "kind", "I", false)
  | 8 => ("SpanCopierModel", "number", "I", false)
  | 9 => ("SpanCopierModel", "sign", "I", false)
  | 10 => ("SpanCopierModel", "fault", "I", false)
  | 11 => ("SpanCopierModel", "place", "I", false)
  | 12 => ("SpanCopierModel", "word", "J", false)
  | 13 => ("SpanCopierModel", "told", "I", false)
  | 14 => ("SpanCopierModel", "now", "[I", true)
  | 15 => ("SpanCopierModel", "read", "[I", true)
  | 16 => ("SpanCopierModel", "kept", "[I", true)
  | 17 => ("SpanCopierModel", "snaps", "[I", true)
  | 18 => ("SpanCopierModel", "aside", "[I", true)
  | 19 => ("SpanCopierModel", "then", "[I", true)
  | 20 => ("SpanCopierModel", "name", "[J", true)
  | 21 => ("SpanCopierModel", "readName", "[J", true)
  | 22 => ("SpanCopierModel", "keptName", "[J", true)
  | 23 => ("SpanCopierModel", "isKept", "[Z", true)
  | 24 => ("SpanCopierModel", "once", "[Z", true)
  | 25 => ("SpanCopierModel", "snapMany", "I", false)
  | 26 => ("SpanCopierModel", "came", "[I", true)
  | 27 => ("SpanCopierModel", "overAs", "[I", true)
  | 28 => ("SpanCopierModel", "hasOver", "Z", false)
  | 29 => ("SpanCopierModel", "seed", "I", false)
  | 30 => ("SpanCopierModel", "line", "[I", true)
  | 31 => ("SpanCopierModel", "written", "[I", true)
  | 32 => ("SpanCopierModel", "lineMany", "I", false)
  | 33 => ("SpanCopierModel", "hasWritten", "Z", false)
  | 34 => ("SpanCopierModel", "node", "[I", true)
  | 35 => ("SpanCopierModel", "nodes", "I", false)
  | 36 => ("SpanCopierModel", "onesMany", "I", false)
  | 37 => ("SpanCopierModel", "within", "I", false)
  | _ => ("SpanCopierModel", "top", "I", false)
def tyX13 : Nat → FieldType := fun k => match k with
  | 0 => .int
  | 1 => .array .int
  | 2 => .int
  | 3 => .int
  | 4 => .int
  | 5 => .int
  | 6 => .int
  | 7 => .int
  | 8 => .int
  | 9 => .int
  | 10 => .int
  | 11 => .int
  | 12 => .long
  | 13 => .int
  | 14 => .array .int
  | 15 => .array .int
  | 16 => .array .int
  | 17 => .array .int
  | 18 => .array .int
  | 19 => .array .int
  | 20 => .array .long
  | 21 => .array .long
  | 22 => .array .long
  | 23 => .array .boolean
  | 24 => .array .boolean
  | 25 => .int
  | 26 => .array .int
  | 27 => .array .int
  | 28 => .boolean
  | 29 => .int
  | 30 => .array .int
  | 31 => .array .int
  | 32 => .int
  | 33 => .boolean
  | 34 => .array .int
  | 35 => .int
  | 36 => .int
  | 37 => .int
  | _ => .int
theorem nmX13 : ∀ a, a < 39 → ∀ b, b < 39 → a ≠ b → (TX13 a).2.1 ≠ (TX13 b).2.1 := by decide +kernel
theorem tyX13_ok : ∀ k, k < 39 → parseFieldDescriptor (TX13 k).2.2.1 = some (tyX13 k) := by decide +kernel
abbrev vwCl : List vw_C := [(RX1, TX1, 4), (RX2, TX2, 5), (RX3, TX3, 11), (RX4, TX4, 2), (RX5, TX5, 6), (RX6, TX6, 5), (RX7, TX7, 5), (RX8, TX8, 9), (RX9, TX9, 11), (RX11, TX11, 11), (RX12, TX12, 12), (RX13, TX13, 39)]
/-- the words that calls hand on -/
def ak_W : List Cond := lw_tbl.filter goodWord
theorem ak_W_of {w : Cond} (h : w ∈ lw_tbl) (hg : goodWord w = true) : w ∈ ak_W := List.mem_filter.mpr ⟨h, hg⟩
theorem ak_in0 : ∀ w ∈ u_ws RX1 TX1 4, w ∈ lw_tbl ∧ goodWord w = true := by decide +kernel
theorem ak_mk0 : Cond.instantiable RX1 4 ∈ lw_tbl ∧ Cond.initialized RX1 ∈ lw_tbl := by decide +kernel
theorem ak_in1 : ∀ w ∈ u_ws RX2 TX2 5, w ∈ lw_tbl ∧ goodWord w = true := by decide +kernel
theorem ak_mk1 : Cond.instantiable RX2 5 ∈ lw_tbl ∧ Cond.initialized RX2 ∈ lw_tbl := by decide +kernel
theorem ak_in2 : ∀ w ∈ u_ws RX3 TX3 11, w ∈ lw_tbl ∧ goodWord w = true := by decide +kernel
theorem ak_mk2 : Cond.instantiable RX3 11 ∈ lw_tbl ∧ Cond.initialized RX3 ∈ lw_tbl := by decide +kernel
theorem ak_in3 : ∀ w ∈ u_ws RX4 TX4 2, w ∈ lw_tbl ∧ goodWord w = true := by decide +kernel
theorem ak_mk3 : Cond.instantiable RX4 2 ∈ lw_tbl ∧ Cond.initialized RX4 ∈ lw_tbl := by decide +kernel
theorem ak_in4 : ∀ w ∈ u_ws RX5 TX5 6, w ∈ lw_tbl ∧ goodWord w = true := by decide +kernel
theorem ak_mk4 : Cond.instantiable RX5 6 ∈ lw_tbl ∧ Cond.initialized RX5 ∈ lw_tbl := by decide +kernel
theorem ak_in5 : ∀ w ∈ u_ws RX6 TX6 5, w ∈ lw_tbl ∧ goodWord w = true := by decide +kernel
theorem ak_mk5 : Cond.instantiable RX6 5 ∈ lw_tbl ∧ Cond.initialized RX6 ∈ lw_tbl := by decide +kernel
theorem ak_in6 : ∀ w ∈ u_ws RX7 TX7 5, w ∈ lw_tbl ∧ goodWord w = true := by decide +kernel
theorem ak_mk6 : Cond.instantiable RX7 5 ∈ lw_tbl ∧ Cond.initialized RX7 ∈ lw_tbl := by decide +kernel
theorem ak_in7 : ∀ w ∈ u_ws RX8 TX8 9, w ∈ lw_tbl ∧ goodWord w = true := by decide +kernel
theorem ak_mk7 : Cond.instantiable RX8 9 ∈ lw_tbl ∧ Cond.initialized RX8 ∈ lw_tbl := by decide +kernel
theorem ak_in8 : ∀ w ∈ u_ws RX9 TX9 11, w ∈ lw_tbl ∧ goodWord w = true := by decide +kernel
theorem ak_mk8 : Cond.instantiable RX9 11 ∈ lw_tbl ∧ Cond.initialized RX9 ∈ lw_tbl := by decide +kernel
theorem ak_in9 : ∀ w ∈ u_ws RX11 TX11 11, w ∈ lw_tbl ∧ goodWord w = true := by decide +kernel
theorem ak_mk9 : Cond.instantiable RX11 11 ∈ lw_tbl ∧ Cond.initialized RX11 ∈ lw_tbl := by decide +kernel
theorem ak_in10 : ∀ w ∈ u_ws RX12 TX12 12, w ∈ lw_tbl ∧ goodWord w = true := by decide +kernel
theorem ak_mk10 : Cond.instantiable RX12 12 ∈ lw_tbl ∧ Cond.initialized RX12 ∈ lw_tbl := by decide +kernel
theorem ak_in11 : ∀ w ∈ u_ws RX13 TX13 39, w ∈ lw_tbl ∧ goodWord w = true := by decide +kernel
theorem ak_mk11 : Cond.instantiable RX13 39 ∈ lw_tbl ∧ Cond.initialized RX13 ∈ lw_tbl := by decide +kernel
/-- what the tables say of a class of the list -/
def ak_cl (q : vw_C) : Prop := (∀ w ∈ u_ws q.1 q.2.1 q.2.2, w ∈ ak_W) ∧ (∃ ty0 : Nat → FieldType, ∀ k, k < q.2.2 → parseFieldDescriptor (q.2.1 k).2.2.1 = some (ty0 k)) ∧ (∀ a, a < q.2.2 → ∀ b, b < q.2.2 → a ≠ b → (q.2.1 a).2.1 ≠ (q.2.1 b).2.1) ∧ Cond.instantiable q.1 q.2.2 ∈ ak_W ∧ Cond.initialized q.1 ∈ ak_W
theorem ak_cls : ∀ q ∈ vwCl, ak_cl q := by
  intro q hq
  simp only [vwCl, List.mem_cons, List.not_mem_nil, or_false] at hq
  rcases hq with rfl | rfl | rfl | rfl | rfl | rfl | rfl | rfl | rfl | rfl | rfl | rfl
  · exact ⟨fun w h => ak_W_of (ak_in0 w h).1 (ak_in0 w h).2, ⟨tyX1, tyX1_ok⟩, nmX1, ak_W_of ak_mk0.1 rfl, ak_W_of ak_mk0.2 rfl⟩
  · exact ⟨fun w h => ak_W_of (ak_in1 w h).1 (ak_in1 w h).2, ⟨tyX2, tyX2_ok⟩, nmX2, ak_W_of ak_mk1.1 rfl, ak_W_of ak_mk1.2 rfl⟩
  · exact ⟨fun w h => ak_W_of (ak_in2 w h).1 (ak_in2 w h).2, ⟨tyX3, tyX3_ok⟩, nmX3, ak_W_of ak_mk2.1 rfl, ak_W_of ak_mk2.2 rfl⟩
  · exact ⟨fun w h => ak_W_of (ak_in3 w h).1 (ak_in3 w h).2, ⟨tyX4, tyX4_ok⟩, nmX4, ak_W_of ak_mk3.1 rfl, ak_W_of ak_mk3.2 rfl⟩
  · exact ⟨fun w h => ak_W_of (ak_in4 w h).1 (ak_in4 w h).2, ⟨tyX5, tyX5_ok⟩, nmX5, ak_W_of ak_mk4.1 rfl, ak_W_of ak_mk4.2 rfl⟩
  · exact ⟨fun w h => ak_W_of (ak_in5 w h).1 (ak_in5 w h).2, ⟨tyX6, tyX6_ok⟩, nmX6, ak_W_of ak_mk5.1 rfl, ak_W_of ak_mk5.2 rfl⟩
  · exact ⟨fun w h => ak_W_of (ak_in6 w h).1 (ak_in6 w h).2, ⟨tyX7, tyX7_ok⟩, nmX7, ak_W_of ak_mk6.1 rfl, ak_W_of ak_mk6.2 rfl⟩
  · exact ⟨fun w h => ak_W_of (ak_in7 w h).1 (ak_in7 w h).2, ⟨tyX8, tyX8_ok⟩, nmX8, ak_W_of ak_mk7.1 rfl, ak_W_of ak_mk7.2 rfl⟩
  · exact ⟨fun w h => ak_W_of (ak_in8 w h).1 (ak_in8 w h).2, ⟨tyX9, tyX9_ok⟩, nmX9, ak_W_of ak_mk8.1 rfl, ak_W_of ak_mk8.2 rfl⟩
  · exact ⟨fun w h => ak_W_of (ak_in9 w h).1 (ak_in9 w h).2, ⟨tyX11, tyX11_ok⟩, nmX11, ak_W_of ak_mk9.1 rfl, ak_W_of ak_mk9.2 rfl⟩
  · exact ⟨fun w h => ak_W_of (ak_in10 w h).1 (ak_in10 w h).2, ⟨tyX12, tyX12_ok⟩, nmX12, ak_W_of ak_mk10.1 rfl, ak_W_of ak_mk10.2 rfl⟩
  · exact ⟨fun w h => ak_W_of (ak_in11 w h).1 (ak_in11 w h).2, ⟨tyX13, tyX13_ok⟩, nmX13, ak_W_of ak_mk11.1 rfl, ak_W_of ak_mk11.2 rfl⟩
end
section
/-! ===== a machine of small numbers beside the machine: its words =====
values: (0,n) the int n, (1,k) the symbol k, (2,_) some int, (3,n) the long n, (4,_) some long, (5,_) null, (6,k) the cell k, (7,j) the constant thing j
cells: kind (0 object, 1 int[], 2 byte[], 3 boolean[], 4 long[], 5 Word[], 6 World[]), number of the object's kind or length, default, what differs from it
code: place, instruction, its length, five numbers
-/
abbrev ai_V : Type := Nat × Nat
abbrev ai_C : Type := Nat × Nat × ai_V × List (Nat × ai_V)
abbrev ai_H : Type := List ai_C
abbrev ai_E : Type := List (Nat × Nat)
abbrev ai_N : Type := Nat × Instr × Nat × Nat × Nat × Nat × Nat × Nat
/-- how many cells there are, the cells (the youngest first), bounds of the symbols, cells and slots made -/
abbrev ai_W : Type := Nat × ai_H × ai_E × Nat × Nat
/-- locals by their places; (9, 0): none -/
abbrev ai_L : Type := List ai_V
/-- an end: what is answered, the cells, the bounds -/
abbrev ai_O : Type := Option ai_V × Nat × ai_H × ai_E
/-- a method: locals, code, cells and slots that it may make -/
abbrev ai_M : Type := Nat × List ai_N × Nat × Nat
abbrev ai_P : Type := Option (List ai_O)
abbrev ai_Q : Type := ai_L → List ai_V → ai_W → ai_P
/-- how deep calls may go, method, place, the code from there on -/
abbrev ai_X : Type := Nat → ai_M → Nat → List ai_N → ai_Q
/-- the run, the depth, the method, the place -/
abbrev ai_K : Type := ai_X × Nat × ai_M × Nat
/-- an instruction: what is behind it, what is at a place, the rest -/
abbrev ai_D : Type := ai_Q → (Nat → ai_Q) → ai_K → ai_Q
end
section
def ai_sw : List Nat := [0, 1, 2, 10, 11, 12, 3, 4, 5, 6, 7, 8, 9, 27, 28, 0, 0, 29, 30, 31, 32, 33, 34, 35, 25, 26, 24, 13, 14, 15, 16, 17, 18, 19, 20, 21, 22, 23]
/-- a new object's fields -/
def ai_ini (ci : Nat) : List (Nat × ai_V) := cond (Nat.beq ci 0) [(0, (5, 0)), (1, (5, 0)), (2, (5, 0)), (3, (0, 0))] (cond (Nat.beq ci 1) [(0, (5, 0)), (1, (5, 0)), (2, (0, 0)), (3, (0, 0)), (4, (0, 0))] (cond (Nat.beq ci 2) [(0, (5, 0)), (1, (5, 0)), (2, (5, 0)), (3, (5, 0)), (4, (5, 0)), (5, (0, 0)), (6, (0, 0)), (7, (0, 0)), (8, (0, 0)), (9, (0, 0)), (10, (0, 0))] (cond (Nat.beq ci 3) [(0, (5, 0)), (1, (0, 0))] (cond (Nat.beq ci 4) [(0, (5, 0)), (1, (0, 0)), (2, (0, 0)), (3, (0, 0)), (4, (0, 0)), (5, (0, 0))] (cond (Nat.beq ci 5) [(0, (5, 0)), (1, (5, 0)), (2, (5, 0)), (3, (0, 0)), (4, (0, 0))] (cond (Nat.beq ci 6) [(0, (5, 0)), (1, (0, 0)), (2, (0, 0)), (3, (0, 0)), (4, (0, 0))] (cond (Nat.beq ci 7) [(0, (5, 0)), (1, (5, 0)), (2, (0, 0)), (3, (0, 0)), (4, (0, 0)), (5, (0, 0)), (6, (0, 0)), (7, (0, 0)), (8, (0, 0))] (cond (Nat.beq ci 8) [(0, (5, 0)), (1, (0, 0)), (2, (0, 0)), (3, (0, 0)), (4, (0, 0)), (5, (0, 0)), (6, (0, 0)), (7, (3, 0)), (8, (5, 0)), (9, (0, 0)), (10, (0, 0))] (cond (Nat.beq ci 9) [(0, (5, 0)), (1, (5, 0)), (2, (5, 0)), (3, (5, 0)), (4, (5, 0)), (5, (5, 0)), (6, (5, 0)), (7, (5, 0)), (8, (0, 0)), (9, (0, 0)), (10, (0, 0))] (cond (Nat.beq ci 10) [(2, (5, 0)), (0, (5, 0)), (1, (5, 0)), (3, (5, 0)), (4, (5, 0)), (5, (5, 0)), (6, (5, 0)), (7, (5, 0)), (8, (5, 0)), (9, (0, 0)), (10, (0, 0)), (11, (0, 0))] (cond (Nat.beq ci 11) [(14, (5, 0)), (0, (0, 0)), (1, (5, 0)), (2, (0, 0)), (3, (0, 0)), (4, (0, 0)), (5, (0, 0)), (6, (0, 0)), (7, (0, 0)), (8, (0, 0)), (9, (0, 0)), (10, (0, 0)), (11, (0, 0)), (12, (3, 0)), (13, (0, 0)), (15, (5, 0)), (16, (5, 0)), (17, (5, 0)), (18, (5, 0)), (19, (5, 0)), (20, (5, 0)), (21, (5, 0)), (22, (5, 0)), (23, (5, 0)), (24, (5, 0)), (25, (0, 0)), (26, (5, 0)), (27, (5, 0)), (28, (0, 0)), (29, (0, 0)), (30, (5, 0)), (31, (5, 0)), (32, (0, 0)), (33, (0, 0)), (34, (5, 0)), (35, (0, 0)), (36, (0, 0)), (37, (0, 0)), (38, (0, 0))] ([]))))))))))))
/-- SpanCopier.<init> -/
def ai_k0 : List ai_N := [(0, .aload_n 0, 1, 0, 0, 0, 0, 0),
  (1, .invokespecial 1, 3, 0, 1, 7, 1028, 0),
  (4, .aload_n 0, 1, 0, 0, 0, 0, 0),
  (5, .new 7, 3, 8, 11, 0, 1031, 0),
  (8, .dup, 1, 0, 0, 0, 0, 0),
  (9, .invokespecial 9, 3, 84, 1, 3, 1033, 8),
  (12, .putfield 10, 3, 0, 10, 2, 2140, 2),
  (15, .aload_n 0, 1, 0, 0, 0, 0, 0),
  (16, .new 16, 3, 0, 4, 0, 1089, 0),
  (19, .dup, 1, 0, 0, 0, 0, 0),
  (20, .invokespecial 18, 3, 42, 1, 3, 1091, 0),
  (23, .putfield 19, 3, 1, 10, 2, 2141, 2),
  (26, .aload_n 0, 1, 0, 0, 0, 0, 0),
  (27, .new 23, 3, 9, 11, 0, 1116, 0),
  (30, .dup, 1, 0, 0, 0, 0, 0),
  (31, .invokespecial 25, 3, 89, 1, 3, 1118, 9),
  (34, .putfield 26, 3, 2, 10, 2, 2142, 2),
  (37, .aload_n 0, 1, 0, 0, 0, 0, 0),
  (38, .iconst 2, 1, 0, 0, 0, 0, 0),
  (39, .anewarray 23, 3, 6, 0, 0, 1116, 0),
  (42, .putfield 30, 3, 3, 10, 2, 2143, 2),
  (45, .aload_n 0, 1, 0, 0, 0, 0, 0),
  (46, .bipush 8, 2, 0, 0, 0, 0, 0),
  (48, .anewarray 23, 3, 6, 0, 0, 1116, 0),
  (51, .putfield 34, 3, 4, 10, 2, 2144, 2),
  (54, .aload_n 0, 1, 0, 0, 0, 0, 0),
  (55, .iconst 3, 1, 0, 0, 0, 0, 0),
  (56, .newarray .int, 2, 1, 0, 0, 0, 0),
  (58, .putfield 37, 3, 5, 10, 2, 2145, 2),
  (61, .aload_n 0, 1, 0, 0, 0, 0, 0),
  (62, .iconst 4, 1, 0, 0, 0, 0, 0),
  (63, .newarray .int, 2, 1, 0, 0, 0, 0),
  (65, .putfield 41, 3, 6, 10, 2, 2146, 2),
  (68, .aload_n 0, 1, 0, 0, 0, 0, 0),
  (69, .new 23, 3, 9, 11, 0, 1116, 0),
  (72, .dup, 1, 0, 0, 0, 0, 0),
  (73, .invokespecial 25, 3, 89, 1, 3, 1118, 9),
  (76, .putfield 44, 3, 7, 10, 0, 2147, 2),
  (79, .aload_n 0, 1, 0, 0, 0, 0, 0),
  (80, .getfield 37, 3, 5, 10, 0, 2145, 2),
  (83, .iconst (-1), 1, 0, 0, 0, 0, 0),
  (84, .invokestatic 47, 3, 178, 2, 5, 2137, 99),
  (87, .aload_n 0, 1, 0, 0, 0, 0, 0),
  (88, .getfield 41, 3, 6, 10, 0, 2146, 2),
  (91, .iconst (-1), 1, 0, 0, 0, 0, 0),
  (92, .invokestatic 47, 3, 178, 2, 5, 2137, 99),
  (95, .return_, 1, 0, 0, 0, 0, 0)]
/-- SpanCopier.book -/
def ai_k1 : List ai_N := [(0, .iload_n 1, 1, 0, 0, 0, 0, 0),
  (1, .ifCond .eq 12, 3, 0, 0, 0, 0, 0),
  (4, .iload_n 1, 1, 0, 0, 0, 0, 0),
  (5, .iconst 1, 1, 0, 0, 0, 0, 0),
  (6, .if_icmp .eq 7, 3, 0, 0, 0, 0, 0),
  (9, .sipush (-1000), 3, 0, 0, 0, 0, 0),
  (12, .ireturn, 1, 0, 0, 0, 0, 0),
  (13, .aload_n 0, 1, 0, 0, 0, 0, 0),
  (14, .getfield 10, 3, 0, 10, 0, 2140, 2),
  (17, .sipush 400, 3, 0, 0, 0, 0, 0),
  (20, .invokevirtual 61, 3, 86, 2, 1, 2193, 8),
  (23, .aload_n 0, 1, 0, 0, 0, 0, 0),
  (24, .getfield 19, 3, 1, 10, 0, 2141, 2),
  (27, .aload_n 0, 1, 0, 0, 0, 0, 0),
  (28, .getfield 10, 3, 0, 10, 0, 2140, 2),
  (31, .invokevirtual 277, 3, 43, 2, 1, 5052, 0),
  (34, .pop, 1, 0, 0, 0, 0, 0),
  (35, .aload_n 0, 1, 0, 0, 0, 0, 0),
  (36, .invokevirtual 71, 3, 2, 1, 0, 3066, 10),
  (39, .aload_n 0, 1, 0, 0, 0, 0, 0),
  (40, .getfield 74, 3, 11, 10, 0, 2151, 0),
  (43, .ifCond .eq 14, 3, 0, 0, 0, 0, 0),
  (57, .aload_n 0, 1, 0, 0, 0, 0, 0),
  (58, .invokevirtual 85, 3, 17, 1, 0, 3113, 10),
  (61, .iload_n 1, 1, 0, 0, 0, 0, 0),
  (62, .ifCond .ne 10, 3, 0, 0, 0, 0, 0),
  (65, .aload_n 0, 1, 0, 0, 0, 0, 0),
  (66, .invokevirtual 248, 3, 38, 1, 0, 4230, 10),
  (69, .goto 7, 3, 0, 0, 0, 0, 0),
  (72, .aload_n 0, 1, 0, 0, 0, 0, 0),
  (73, .getfield 26, 3, 2, 10, 0, 2142, 2),
  (76, .astore_n 2, 1, 0, 0, 0, 0, 0),
  (77, .iconst 0, 1, 0, 0, 0, 0, 0),
  (78, .istore_n 3, 1, 0, 0, 0, 0, 0),
  (79, .iconst 0, 1, 0, 0, 0, 0, 0),
  (80, .istore 4, 2, 0, 0, 0, 0, 0),
  (82, .iload_n 3, 1, 0, 0, 0, 0, 0),
  (83, .aload_n 0, 1, 0, 0, 0, 0, 0),
  (84, .getfield 19, 3, 1, 10, 0, 2141, 2),
  (87, .getfield 280, 3, 3, 0, 1, 1105, 0),
  (90, .if_icmp .ge 35, 3, 0, 0, 0, 0, 0),
  (125, .aload_n 0, 1, 0, 0, 0, 0, 0),
  (126, .iload_n 1, 1, 0, 0, 0, 0, 0),
  (127, .ifCond .ne 7, 3, 0, 0, 0, 0, 0),
  (130, .iconst 0, 1, 0, 0, 0, 0, 0),
  (131, .goto 4, 3, 0, 0, 0, 0, 0),
  (134, .iload_n 3, 1, 0, 0, 0, 0, 0),
  (135, .invokevirtual 117, 3, 14, 2, 0, 4099, 10),
  (138, .pop, 1, 0, 0, 0, 0, 0),
  (139, .aload_n 0, 1, 0, 0, 0, 0, 0),
  (140, .iload 4, 2, 0, 0, 0, 0, 0),
  (142, .iload_n 3, 1, 0, 0, 0, 0, 0),
  (143, .aload_n 2, 1, 0, 0, 0, 0, 0),
  (144, .invokevirtual 287, 3, 35, 4, 0, 5094, 10),
  (147, .iload 4, 2, 0, 0, 0, 0, 0),
  (149, .ifCond .ne 7, 3, 0, 0, 0, 0, 0),
  (152, .iconst (-1), 1, 0, 0, 0, 0, 0),
  (153, .goto 4, 3, 0, 0, 0, 0, 0),
  (157, .ireturn, 1, 0, 0, 0, 0, 0)]
/-- SpanCopier.closeText -/
def ai_k2 : List ai_N := [(0, .aload_n 0, 1, 0, 0, 0, 0, 0),
  (1, .getfield 10, 3, 0, 10, 0, 2140, 2),
  (4, .iconst 0, 1, 0, 0, 0, 0, 0),
  (5, .putfield 53, 3, 1, 8, 1, 1041, 0),
  (8, .aload_n 0, 1, 0, 0, 0, 0, 0),
  (9, .aload_n 0, 1, 0, 0, 0, 0, 0),
  (10, .getfield 10, 3, 0, 10, 0, 2140, 2),
  (13, .getfield 84, 3, 9, 8, 1, 1062, 0),
  (16, .putfield 74, 3, 11, 10, 0, 2151, 0),
  (19, .return_, 1, 0, 0, 0, 0, 0)]
/-- SpanCopier.count -/
def ai_k3 : List ai_N := [(0, .iload_n 1, 1, 0, 0, 0, 0, 0),
  (1, .tableswitch 57 6 8 #[27, 38, 49], 27, 0, 0, 0, 0, 0),
  (28, .aload_n 0, 1, 0, 0, 0, 0, 0),
  (29, .getfield 26, 3, 2, 10, 0, 2142, 2),
  (32, .getfield 315, 3, 5, 9, 1, 2099, 2),
  (35, .getfield 319, 3, 6, 2, 1, 2050, 0),
  (38, .ireturn, 1, 0, 0, 0, 0, 0),
  (39, .aload_n 0, 1, 0, 0, 0, 0, 0),
  (40, .getfield 26, 3, 2, 10, 0, 2142, 2),
  (43, .getfield 315, 3, 5, 9, 1, 2099, 2),
  (46, .getfield 322, 3, 7, 2, 1, 2053, 0),
  (49, .ireturn, 1, 0, 0, 0, 0, 0),
  (50, .aload_n 0, 1, 0, 0, 0, 0, 0),
  (51, .getfield 10, 3, 0, 10, 0, 2140, 2),
  (54, .getfield 53, 3, 1, 8, 1, 1041, 0),
  (57, .ireturn, 1, 0, 0, 0, 0, 0),
  (58, .aload_n 0, 1, 0, 0, 0, 0, 0),
  (59, .getfield 26, 3, 2, 10, 0, 2142, 2),
  (62, .getfield 315, 3, 5, 9, 1, 2099, 2),
  (65, .iload_n 1, 1, 0, 0, 0, 0, 0),
  (66, .invokevirtual 325, 3, 54, 2, 1, 5204, 2),
  (69, .ireturn, 1, 0, 0, 0, 0, 0)]
/-- SpanCopier.crash -/
def ai_k4 : List ai_N := [(0, .aload_n 0, 1, 0, 0, 0, 0, 0),
  (1, .invokevirtual 85, 3, 17, 1, 0, 3113, 10),
  (4, .aload_n 0, 1, 0, 0, 0, 0, 0),
  (5, .aload_n 0, 1, 0, 0, 0, 0, 0),
  (6, .getfield 26, 3, 2, 10, 0, 2142, 2),
  (9, .invokevirtual 146, 3, 92, 1, 1, 4151, 9),
  (12, .invokevirtual 129, 3, 15, 2, 0, 4108, 10),
  (15, .ireturn, 1, 0, 0, 0, 0, 0)]
/-- SpanCopier.drawn -/
def ai_k5 : List ai_N := [(0, .iload_n 1, 1, 0, 0, 0, 0, 0),
  (1, .iconst 1, 1, 0, 0, 0, 0, 0),
  (2, .if_icmp .lt 9, 3, 0, 0, 0, 0, 0),
  (5, .iload_n 1, 1, 0, 0, 0, 0, 0),
  (6, .bipush 60, 2, 0, 0, 0, 0, 0),
  (8, .if_icmp .le 5, 3, 0, 0, 0, 0, 0),
  (11, .iconst (-1), 1, 0, 0, 0, 0, 0),
  (12, .ireturn, 1, 0, 0, 0, 0, 0),
  (13, .aload_n 0, 1, 0, 0, 0, 0, 0),
  (14, .invokevirtual 85, 3, 17, 1, 0, 3113, 10),
  (17, .aload_n 0, 1, 0, 0, 0, 0, 0),
  (18, .getfield 26, 3, 2, 10, 0, 2142, 2),
  (21, .iload_n 2, 1, 0, 0, 0, 0, 0),
  (22, .putfield 258, 3, 10, 9, 1, 2112, 0),
  (25, .iconst 0, 1, 0, 0, 0, 0, 0),
  (26, .istore_n 3, 1, 0, 0, 0, 0, 0),
  (27, .iload_n 3, 1, 0, 0, 0, 0, 0),
  (28, .iload_n 1, 1, 0, 0, 0, 0, 0),
  (29, .if_icmp .ge 36, 3, 0, 0, 0, 0, 0),
  (32, .aload_n 0, 1, 0, 0, 0, 0, 0),
  (33, .getfield 26, 3, 2, 10, 0, 2142, 2),
  (36, .getfield 149, 3, 9, 9, 1, 2110, 0),
  (39, .sipush 2000, 3, 0, 0, 0, 0, 0),
  (42, .if_icmp .ge 23, 3, 0, 0, 0, 0, 0),
  (45, .aload_n 0, 1, 0, 0, 0, 0, 0),
  (46, .getfield 26, 3, 2, 10, 0, 2142, 2),
  (49, .invokevirtual 261, 3, 94, 1, 1, 5018, 9),
  (52, .aload_n 0, 1, 0, 0, 0, 0, 0),
  (53, .getfield 26, 3, 2, 10, 0, 2142, 2),
  (56, .invokevirtual 264, 3, 95, 1, 1, 5031, 9),
  (59, .iinc 3 1, 3, 0, 0, 0, 0, 0),
  (62, .goto (-35), 3, 0, 0, 0, 0, 0),
  (65, .aload_n 0, 1, 0, 0, 0, 0, 0),
  (66, .iload_n 3, 1, 0, 0, 0, 0, 0),
  (67, .invokevirtual 117, 3, 14, 2, 0, 4099, 10),
  (70, .ireturn, 1, 0, 0, 0, 0, 0)]
/-- SpanCopier.end -/
def ai_k6 : List ai_N := [(0, .iload_n 1, 1, 0, 0, 0, 0, 0),
  (1, .ifCond .lt 14, 3, 0, 0, 0, 0, 0),
  (4, .iload_n 1, 1, 0, 0, 0, 0, 0),
  (5, .aload_n 0, 1, 0, 0, 0, 0, 0),
  (6, .getfield 10, 3, 0, 10, 0, 2140, 2),
  (9, .getfield 53, 3, 1, 8, 1, 1041, 0),
  (12, .if_icmp .le 5, 3, 0, 0, 0, 0, 0),
  (15, .iconst 0, 1, 0, 0, 0, 0, 0),
  (16, .ireturn, 1, 1, 0, 0, 0, 0),
  (17, .aload_n 0, 1, 0, 0, 0, 0, 0),
  (18, .getfield 10, 3, 0, 10, 0, 2140, 2),
  (21, .iload_n 1, 1, 0, 0, 0, 0, 0),
  (22, .putfield 53, 3, 1, 8, 1, 1041, 0),
  (25, .iconst 1, 1, 0, 0, 0, 0, 0),
  (26, .ireturn, 1, 1, 0, 0, 0, 0)]
/-- SpanCopier.fault -/
def ai_k7 : List ai_N := [(0, .aload_n 0, 1, 0, 0, 0, 0, 0),
  (1, .getfield 74, 3, 11, 10, 0, 2151, 0),
  (4, .ireturn, 1, 0, 0, 0, 0, 0)]
/-- SpanCopier.feed -/
def ai_k8 : List ai_N := [(0, .aload_n 0, 1, 0, 0, 0, 0, 0),
  (1, .getfield 10, 3, 0, 10, 0, 2140, 2),
  (4, .getfield 53, 3, 1, 8, 1, 1041, 0),
  (7, .bipush 20, 2, 0, 0, 0, 0, 0),
  (9, .iadd, 1, 0, 0, 0, 0, 0),
  (10, .sipush 940, 3, 0, 0, 0, 0, 0),
  (13, .if_icmp .le 5, 3, 0, 0, 0, 0, 0),
  (18, .aload_n 0, 1, 0, 0, 0, 0, 0),
  (19, .getfield 10, 3, 0, 10, 0, 2140, 2),
  (22, .iload_n 1, 1, 0, 0, 0, 0, 0),
  (23, .invokevirtual 57, 3, 87, 2, 1, 2181, 8),
  (26, .aload_n 0, 1, 0, 0, 0, 0, 0),
  (27, .getfield 10, 3, 0, 10, 0, 2140, 2),
  (30, .iload_n 2, 1, 0, 0, 0, 0, 0),
  (31, .invokevirtual 57, 3, 87, 2, 1, 2181, 8),
  (34, .aload_n 0, 1, 0, 0, 0, 0, 0),
  (35, .getfield 10, 3, 0, 10, 0, 2140, 2),
  (38, .iload_n 3, 1, 0, 0, 0, 0, 0),
  (39, .invokevirtual 57, 3, 87, 2, 1, 2181, 8),
  (42, .aload_n 0, 1, 0, 0, 0, 0, 0),
  (43, .getfield 10, 3, 0, 10, 0, 2140, 2),
  (46, .iload 4, 2, 0, 0, 0, 0, 0),
  (48, .invokevirtual 57, 3, 87, 2, 1, 2181, 8),
  (51, .aload_n 0, 1, 0, 0, 0, 0, 0),
  (52, .getfield 10, 3, 0, 10, 0, 2140, 2),
  (55, .iload 5, 2, 0, 0, 0, 0, 0),
  (57, .invokevirtual 57, 3, 87, 2, 1, 2181, 8),
  (60, .aload_n 0, 1, 0, 0, 0, 0, 0),
  (61, .getfield 10, 3, 0, 10, 0, 2140, 2),
  (64, .getfield 53, 3, 1, 8, 1, 1041, 0),
  (67, .ireturn, 1, 0, 0, 0, 0, 0)]
/-- SpanCopier.file -/
def ai_k9 : List ai_N := [(0, .aload_n 0, 1, 0, 0, 0, 0, 0),
  (1, .getfield 10, 3, 0, 10, 0, 2140, 2),
  (4, .getfield 53, 3, 1, 8, 1, 1041, 0),
  (7, .istore_n 1, 1, 0, 0, 0, 0, 0),
  (8, .iload_n 1, 1, 0, 0, 0, 0, 0),
  (9, .iconst 1, 1, 0, 0, 0, 0, 0),
  (10, .if_icmp .lt 10, 3, 0, 0, 0, 0, 0),
  (20, .iconst (-1), 1, 0, 0, 0, 0, 0),
  (21, .ireturn, 1, 0, 0, 0, 0, 0)]
/-- SpanCopier.gap -/
def ai_k10 : List ai_N := [(0, .aload_n 0, 1, 0, 0, 0, 0, 0),
  (1, .getfield 26, 3, 2, 10, 0, 2142, 2),
  (4, .getfield 161, 3, 2, 9, 1, 2091, 2),
  (7, .getfield 171, 3, 0, 7, 1, 1206, 2),
  (10, .iload_n 1, 1, 0, 0, 0, 0, 0),
  (11, .iload_n 2, 1, 0, 0, 0, 0, 0),
  (12, .invokevirtual 221, 3, 59, 3, 1, 4188, 3),
  (15, .ireturn, 1, 0, 0, 0, 0, 0)]
/-- SpanCopier.image -/
def ai_k11 : List ai_N := [(0, .iload_n 1, 1, 0, 0, 0, 0, 0),
  (1, .ifCond .lt 12, 3, 0, 0, 0, 0, 0),
  (4, .iload_n 1, 1, 0, 0, 0, 0, 0),
  (5, .aload_n 0, 1, 0, 0, 0, 0, 0),
  (6, .getfield 30, 3, 3, 10, 0, 2143, 2),
  (9, .arraylength, 1, 0, 0, 0, 0, 0),
  (10, .if_icmp .lt 5, 3, 0, 0, 0, 0, 0),
  (13, .iconst 0, 1, 0, 0, 0, 0, 0),
  (14, .ireturn, 1, 1, 0, 0, 0, 0),
  (15, .aload_n 0, 1, 0, 0, 0, 0, 0),
  (16, .getfield 30, 3, 3, 10, 0, 2143, 2),
  (19, .iload_n 1, 1, 0, 0, 0, 0, 0),
  (20, .aaload, 1, 0, 0, 0, 0, 0),
  (21, .astore_n 2, 1, 0, 0, 0, 0, 0),
  (22, .aload_n 2, 1, 0, 0, 0, 0, 0),
  (23, .ifnonnull 18, 3, 0, 0, 0, 0, 0),
  (26, .new 23, 3, 9, 11, 0, 1116, 0),
  (29, .dup, 1, 0, 0, 0, 0, 0),
  (30, .invokespecial 25, 3, 89, 1, 3, 1118, 9),
  (33, .astore_n 2, 1, 0, 0, 0, 0, 0),
  (34, .aload_n 0, 1, 0, 0, 0, 0, 0),
  (35, .getfield 30, 3, 3, 10, 0, 2143, 2),
  (38, .iload_n 1, 1, 0, 0, 0, 0, 0),
  (39, .aload_n 2, 1, 0, 0, 0, 0, 0),
  (40, .aastore, 1, 0, 0, 0, 0, 0),
  (41, .aload_n 2, 1, 0, 0, 0, 0, 0),
  (42, .aload_n 0, 1, 0, 0, 0, 0, 0),
  (43, .getfield 26, 3, 2, 10, 0, 2142, 2),
  (46, .invokevirtual 103, 3, 91, 2, 1, 3117, 9),
  (49, .iconst 1, 1, 0, 0, 0, 0, 0),
  (50, .ireturn, 1, 1, 0, 0, 0, 0)]
/-- SpanCopier.journal -/
def ai_k12 : List ai_N := [(0, .aload_n 0, 1, 0, 0, 0, 0, 0),
  (1, .getfield 26, 3, 2, 10, 0, 2142, 2),
  (4, .getfield 233, 3, 4, 9, 1, 2095, 2),
  (7, .iload_n 1, 1, 0, 0, 0, 0, 0),
  (8, .invokevirtual 242, 3, 76, 2, 1, 4213, 6),
  (11, .ireturn, 1, 0, 0, 0, 0, 0)]
/-- SpanCopier.keepLooked -/
def ai_k13 : List ai_N := [(0, .aload_n 0, 1, 0, 0, 0, 0, 0),
  (1, .getfield 107, 3, 9, 10, 0, 2149, 0),
  (4, .aload_n 0, 1, 0, 0, 0, 0, 0),
  (5, .getfield 110, 3, 10, 10, 0, 2150, 0),
  (8, .iadd, 1, 0, 0, 0, 0, 0),
  (9, .bipush 7, 2, 0, 0, 0, 0, 0),
  (11, .iand, 1, 0, 0, 0, 0, 0),
  (12, .istore_n 1, 1, 0, 0, 0, 0, 0),
  (13, .aload_n 0, 1, 0, 0, 0, 0, 0),
  (14, .getfield 34, 3, 4, 10, 0, 2144, 2),
  (17, .iload_n 1, 1, 0, 0, 0, 0, 0),
  (18, .aaload, 1, 0, 0, 0, 0, 0),
  (19, .astore_n 2, 1, 0, 0, 0, 0, 0),
  (20, .aload_n 0, 1, 0, 0, 0, 0, 0),
  (21, .getfield 34, 3, 4, 10, 0, 2144, 2),
  (24, .iload_n 1, 1, 0, 0, 0, 0, 0),
  (25, .aload_n 0, 1, 0, 0, 0, 0, 0),
  (26, .getfield 44, 3, 7, 10, 0, 2147, 2),
  (29, .aastore, 1, 0, 0, 0, 0, 0),
  (30, .aload_n 0, 1, 0, 0, 0, 0, 0),
  (31, .aload_n 2, 1, 0, 0, 0, 0, 0),
  (32, .ifnonnull 13, 3, 0, 0, 0, 0, 0),
  (35, .new 23, 3, 9, 11, 0, 1116, 0),
  (38, .dup, 1, 0, 0, 0, 0, 0),
  (39, .invokespecial 25, 3, 89, 1, 3, 1118, 9),
  (42, .goto 4, 3, 0, 0, 0, 0, 0),
  (46, .putfield 44, 3, 7, 10, 0, 2147, 2),
  (49, .aload_n 0, 1, 0, 0, 0, 0, 0),
  (50, .getfield 110, 3, 10, 10, 0, 2150, 0),
  (53, .bipush 8, 2, 0, 0, 0, 0, 0),
  (55, .if_icmp .ge 16, 3, 0, 0, 0, 0, 0),
  (58, .aload_n 0, 1, 0, 0, 0, 0, 0),
  (59, .dup, 1, 0, 0, 0, 0, 0),
  (60, .getfield 110, 3, 10, 10, 0, 2150, 0),
  (63, .iconst 1, 1, 0, 0, 0, 0, 0),
  (64, .iadd, 1, 0, 0, 0, 0, 0),
  (65, .putfield 110, 3, 10, 10, 0, 2150, 0),
  (68, .goto 16, 3, 0, 0, 0, 0, 0),
  (84, .return_, 1, 0, 0, 0, 0, 0)]
/-- SpanCopier.keptIfAbove -/
def ai_k14 : List ai_N := [(0, .iload_n 1, 1, 0, 0, 0, 0, 0),
  (1, .ifCond .le 7, 3, 0, 0, 0, 0, 0),
  (4, .aload_n 0, 1, 0, 0, 0, 0, 0),
  (5, .invokevirtual 100, 3, 13, 1, 0, 3162, 10),
  (8, .iload_n 1, 1, 0, 0, 0, 0, 0),
  (9, .ireturn, 1, 0, 0, 0, 0, 0)]
/-- SpanCopier.keptIfDone -/
def ai_k15 : List ai_N := [(0, .iload_n 1, 1, 0, 0, 0, 0, 0),
  (1, .ifCond .ne 7, 3, 0, 0, 0, 0, 0),
  (8, .iload_n 1, 1, 0, 0, 0, 0, 0),
  (9, .ireturn, 1, 0, 0, 0, 0, 0)]
/-- SpanCopier.late -/
def ai_k16 : List ai_N := [(0, .iload_n 2, 1, 0, 0, 0, 0, 0),
  (1, .iconst 1, 1, 0, 0, 0, 0, 0),
  (2, .if_icmp .lt 9, 3, 0, 0, 0, 0, 0),
  (5, .iload_n 2, 1, 0, 0, 0, 0, 0),
  (6, .bipush 60, 2, 0, 0, 0, 0, 0),
  (8, .if_icmp .le 5, 3, 0, 0, 0, 0, 0),
  (11, .iconst (-1), 1, 0, 0, 0, 0, 0),
  (12, .ireturn, 1, 0, 0, 0, 0, 0),
  (13, .aload_n 0, 1, 0, 0, 0, 0, 0),
  (14, .invokevirtual 85, 3, 17, 1, 0, 3113, 10),
  (17, .aload_n 0, 1, 0, 0, 0, 0, 0),
  (18, .aload_n 0, 1, 0, 0, 0, 0, 0),
  (19, .getfield 26, 3, 2, 10, 0, 2142, 2),
  (22, .getfield 120, 3, 0, 9, 1, 2087, 2),
  (25, .iload_n 1, 1, 0, 0, 0, 0, 0),
  (26, .iload_n 2, 1, 0, 0, 0, 0, 0),
  (27, .invokevirtual 135, 3, 47, 3, 1, 4124, 1),
  (30, .invokevirtual 129, 3, 15, 2, 0, 4108, 10),
  (33, .ireturn, 1, 0, 0, 0, 0, 0)]
/-- SpanCopier.lookBefore -/
def ai_k17 : List ai_N := [(0, .aload_n 0, 1, 0, 0, 0, 0, 0),
  (1, .getfield 44, 3, 7, 10, 0, 2147, 2),
  (4, .aload_n 0, 1, 0, 0, 0, 0, 0),
  (5, .getfield 26, 3, 2, 10, 0, 2142, 2),
  (8, .invokevirtual 103, 3, 91, 2, 1, 3117, 9),
  (11, .return_, 1, 0, 0, 0, 0, 0)]
/-- SpanCopier.lose -/
def ai_k18 : List ai_N := [(0, .aload_n 0, 1, 0, 0, 0, 0, 0),
  (1, .invokevirtual 85, 3, 17, 1, 0, 3113, 10),
  (4, .aload_n 0, 1, 0, 0, 0, 0, 0),
  (5, .aload_n 0, 1, 0, 0, 0, 0, 0),
  (6, .getfield 26, 3, 2, 10, 0, 2142, 2),
  (9, .getfield 120, 3, 0, 9, 1, 2087, 2),
  (12, .iload_n 1, 1, 0, 0, 0, 0, 0),
  (13, .invokevirtual 124, 3, 50, 2, 1, 4107, 1),
  (16, .invokevirtual 129, 3, 15, 2, 0, 4108, 10),
  (19, .ireturn, 1, 0, 0, 0, 0, 0)]
/-- SpanCopier.need -/
def ai_k19 : List ai_N := [(0, .aload_n 0, 1, 0, 0, 0, 0, 0),
  (1, .getfield 26, 3, 2, 10, 0, 2142, 2),
  (4, .getfield 199, 3, 7, 9, 1, 2105, 2),
  (7, .arraylength, 1, 0, 0, 0, 0, 0),
  (8, .ifCond .ne 7, 3, 0, 0, 0, 0, 0),
  (11, .iconst (-1), 1, 0, 0, 0, 0, 0),
  (12, .goto 10, 3, 0, 0, 0, 0, 0),
  (22, .ireturn, 1, 0, 0, 0, 0, 0)]
/-- SpanCopier.now -/
def ai_k20 : List ai_N := [(0, .iload_n 1, 1, 0, 0, 0, 0, 0),
  (1, .tableswitch 204 0 11 #[63, 71, 82, 93, 104, 118, 132, 143, 154, 165, 184, 195], 63, 0, 0, 0, 0, 0),
  (64, .aload_n 0, 1, 0, 0, 0, 0, 0),
  (65, .getfield 26, 3, 2, 10, 0, 2142, 2),
  (68, .getfield 149, 3, 9, 9, 1, 2110, 0),
  (71, .ireturn, 1, 0, 0, 0, 0, 0),
  (72, .aload_n 0, 1, 0, 0, 0, 0, 0),
  (73, .getfield 26, 3, 2, 10, 0, 2142, 2),
  (76, .getfield 152, 3, 1, 9, 1, 2089, 2),
  (79, .getfield 156, 3, 1, 4, 1, 1177, 0),
  (82, .ireturn, 1, 0, 0, 0, 0, 0),
  (83, .aload_n 0, 1, 0, 0, 0, 0, 0),
  (84, .getfield 26, 3, 2, 10, 0, 2142, 2),
  (87, .getfield 161, 3, 2, 9, 1, 2091, 2),
  (90, .getfield 165, 3, 2, 7, 1, 1210, 0),
  (93, .ireturn, 1, 0, 0, 0, 0, 0),
  (94, .aload_n 0, 1, 0, 0, 0, 0, 0),
  (95, .getfield 26, 3, 2, 10, 0, 2142, 2),
  (98, .getfield 120, 3, 0, 9, 1, 2087, 2),
  (101, .getfield 168, 3, 2, 1, 1, 1135, 0),
  (104, .ireturn, 1, 0, 0, 0, 0, 0),
  (105, .aload_n 0, 1, 0, 0, 0, 0, 0),
  (106, .getfield 26, 3, 2, 10, 0, 2142, 2),
  (109, .getfield 161, 3, 2, 9, 1, 2091, 2),
  (112, .getfield 171, 3, 0, 7, 1, 1206, 2),
  (115, .invokevirtual 175, 3, 58, 1, 1, 4167, 3),
  (118, .ireturn, 1, 0, 0, 0, 0, 0),
  (119, .aload_n 0, 1, 0, 0, 0, 0, 0),
  (120, .getfield 26, 3, 2, 10, 0, 2142, 2),
  (123, .getfield 152, 3, 1, 9, 1, 2089, 2),
  (126, .getfield 180, 3, 0, 4, 1, 1174, 2),
  (129, .invokevirtual 175, 3, 58, 1, 1, 4167, 3),
  (132, .ireturn, 1, 0, 0, 0, 0, 0),
  (133, .aload_n 0, 1, 0, 0, 0, 0, 0),
  (134, .getfield 26, 3, 2, 10, 0, 2142, 2),
  (137, .getfield 161, 3, 2, 9, 1, 2091, 2),
  (140, .getfield 183, 3, 3, 7, 1, 1212, 0),
  (143, .ireturn, 1, 0, 0, 0, 0, 0),
  (144, .aload_n 0, 1, 0, 0, 0, 0, 0),
  (145, .getfield 26, 3, 2, 10, 0, 2142, 2),
  (148, .getfield 152, 3, 1, 9, 1, 2089, 2),
  (151, .getfield 186, 3, 2, 4, 1, 1179, 0),
  (154, .ireturn, 1, 0, 0, 0, 0, 0),
  (155, .aload_n 0, 1, 0, 0, 0, 0, 0),
  (156, .getfield 26, 3, 2, 10, 0, 2142, 2),
  (159, .getfield 161, 3, 2, 9, 1, 2091, 2),
  (162, .getfield 189, 3, 8, 7, 1, 1220, 0),
  (165, .ireturn, 1, 0, 0, 0, 0, 0),
  (166, .aload_n 0, 1, 0, 0, 0, 0, 0),
  (167, .getfield 26, 3, 2, 10, 0, 2142, 2),
  (170, .getfield 161, 3, 2, 9, 1, 2091, 2),
  (173, .getfield 192, 3, 4, 7, 1, 1215, 1),
  (176, .ifCond .eq 7, 3, 0, 0, 0, 0, 0),
  (183, .iconst 0, 1, 0, 0, 0, 0, 0),
  (184, .ireturn, 1, 0, 0, 0, 0, 0),
  (185, .aload_n 0, 1, 0, 0, 0, 0, 0),
  (186, .getfield 26, 3, 2, 10, 0, 2142, 2),
  (189, .getfield 120, 3, 0, 9, 1, 2087, 2),
  (192, .getfield 196, 3, 3, 1, 1, 1137, 0),
  (195, .ireturn, 1, 0, 0, 0, 0, 0),
  (196, .aload_n 0, 1, 0, 0, 0, 0, 0),
  (197, .getfield 26, 3, 2, 10, 0, 2142, 2),
  (200, .getfield 199, 3, 7, 9, 1, 2105, 2),
  (203, .arraylength, 1, 0, 0, 0, 0, 0),
  (204, .ireturn, 1, 0, 0, 0, 0, 0),
  (205, .iconst (-1), 1, 0, 0, 0, 0, 0),
  (206, .ireturn, 1, 0, 0, 0, 0, 0)]
/-- SpanCopier.odds -/
def ai_k21 : List ai_N := [(0, .iload_n 1, 1, 0, 0, 0, 0, 0),
  (1, .iconst 1, 1, 0, 0, 0, 0, 0),
  (2, .if_icmp .lt 20, 3, 0, 0, 0, 0, 0),
  (5, .iload_n 1, 1, 0, 0, 0, 0, 0),
  (6, .bipush 20, 2, 0, 0, 0, 0, 0),
  (8, .if_icmp .gt 14, 3, 0, 0, 0, 0, 0),
  (11, .aload_n 0, 1, 0, 0, 0, 0, 0),
  (12, .getfield 26, 3, 2, 10, 0, 2142, 2),
  (15, .getfield 199, 3, 7, 9, 1, 2105, 2),
  (18, .arraylength, 1, 0, 0, 0, 0, 0),
  (19, .ifCond .ne 5, 3, 0, 0, 0, 0, 0),
  (22, .iconst (-1), 1, 0, 0, 0, 0, 0),
  (23, .ireturn, 1, 0, 0, 0, 0, 0)]
/-- SpanCopier.order -/
def ai_k22 : List ai_N := [(0, .aload_n 0, 1, 0, 0, 0, 0, 0),
  (1, .getfield 10, 3, 0, 10, 0, 2140, 2),
  (4, .sipush 900, 3, 0, 0, 0, 0, 0),
  (7, .invokevirtual 61, 3, 86, 2, 1, 2193, 8),
  (10, .new 64, 3, 2, 11, 0, 2236, 0),
  (13, .dup, 1, 0, 0, 0, 0, 0),
  (14, .invokespecial 66, 3, 52, 1, 3, 2237, 2),
  (17, .astore_n 1, 1, 0, 0, 0, 0, 0),
  (18, .aload_n 1, 1, 0, 0, 0, 0, 0),
  (19, .aload_n 0, 1, 0, 0, 0, 0, 0),
  (20, .getfield 10, 3, 0, 10, 0, 2140, 2),
  (23, .invokevirtual 67, 3, 53, 2, 1, 2238, 2),
  (26, .istore_n 2, 1, 0, 0, 0, 0, 0),
  (27, .aload_n 0, 1, 0, 0, 0, 0, 0),
  (28, .invokevirtual 71, 3, 2, 1, 0, 3066, 10),
  (31, .aload_n 0, 1, 0, 0, 0, 0, 0),
  (32, .getfield 74, 3, 11, 10, 0, 2151, 0),
  (35, .ifCond .eq 13, 3, 0, 0, 0, 0, 0),
  (48, .aload_n 0, 1, 0, 0, 0, 0, 0),
  (49, .getfield 26, 3, 2, 10, 0, 2142, 2),
  (52, .aload_n 1, 1, 0, 0, 0, 0, 0),
  (53, .invokevirtual 80, 3, 90, 2, 1, 3070, 9),
  (56, .iload_n 2, 1, 0, 0, 0, 0, 0),
  (57, .ireturn, 1, 0, 0, 0, 0, 0)]
/-- SpanCopier.over -/
def ai_k23 : List ai_N := [(0, .aload_n 0, 1, 0, 0, 0, 0, 0),
  (1, .getfield 26, 3, 2, 10, 0, 2142, 2),
  (4, .getfield 199, 3, 7, 9, 1, 2105, 2),
  (7, .arraylength, 1, 0, 0, 0, 0, 0),
  (8, .ifCond .ne 5, 3, 0, 0, 0, 0, 0),
  (11, .iconst (-1), 1, 0, 0, 0, 0, 0),
  (12, .ireturn, 1, 0, 0, 0, 0, 0)]
/-- SpanCopier.overAs -/
def ai_k24 : List ai_N := [(0, .iload_n 1, 1, 0, 0, 0, 0, 0),
  (1, .ifCond .lt 12, 3, 0, 0, 0, 0, 0),
  (4, .iload_n 1, 1, 0, 0, 0, 0, 0),
  (5, .aload_n 0, 1, 0, 0, 0, 0, 0),
  (6, .getfield 37, 3, 5, 10, 0, 2145, 2),
  (9, .arraylength, 1, 0, 0, 0, 0, 0),
  (10, .if_icmp .lt 7, 3, 0, 0, 0, 0, 0),
  (13, .iconst (-1), 1, 0, 0, 0, 0, 0),
  (14, .goto 9, 3, 0, 0, 0, 0, 0),
  (17, .aload_n 0, 1, 0, 0, 0, 0, 0),
  (18, .getfield 37, 3, 5, 10, 0, 2145, 2),
  (21, .iload_n 1, 1, 0, 0, 0, 0, 0),
  (22, .iaload, 1, 0, 0, 0, 0, 0),
  (23, .ireturn, 1, 0, 0, 0, 0, 0)]
/-- SpanCopier.prompt -/
def ai_k25 : List ai_N := [(0, .aload_n 0, 1, 0, 0, 0, 0, 0),
  (1, .invokevirtual 85, 3, 17, 1, 0, 3113, 10),
  (4, .aload_n 0, 1, 0, 0, 0, 0, 0),
  (5, .aload_n 0, 1, 0, 0, 0, 0, 0),
  (6, .getfield 26, 3, 2, 10, 0, 2142, 2),
  (9, .invokevirtual 142, 3, 98, 1, 1, 4141, 9),
  (12, .invokevirtual 129, 3, 15, 2, 0, 4108, 10),
  (15, .ireturn, 1, 0, 0, 0, 0, 0)]
/-- SpanCopier.resend -/
def ai_k26 : List ai_N := [(0, .aload_n 0, 1, 0, 0, 0, 0, 0),
  (1, .getfield 26, 3, 2, 10, 0, 2142, 2),
  (4, .getfield 152, 3, 1, 9, 1, 2089, 2),
  (7, .getfield 180, 3, 0, 4, 1, 1174, 2),
  (10, .iload_n 1, 1, 0, 0, 0, 0, 0),
  (11, .iload_n 2, 1, 0, 0, 0, 0, 0),
  (12, .invokevirtual 221, 3, 59, 3, 1, 4188, 3),
  (15, .ireturn, 1, 0, 0, 0, 0, 0)]
/-- SpanCopier.restore -/
def ai_k27 : List ai_N := [(0, .iload_n 1, 1, 0, 0, 0, 0, 0),
  (1, .ifCond .lt 12, 3, 0, 0, 0, 0, 0),
  (4, .iload_n 1, 1, 0, 0, 0, 0, 0),
  (5, .aload_n 0, 1, 0, 0, 0, 0, 0),
  (6, .getfield 30, 3, 3, 10, 0, 2143, 2),
  (9, .arraylength, 1, 0, 0, 0, 0, 0),
  (10, .if_icmp .lt 5, 3, 0, 0, 0, 0, 0),
  (13, .iconst 0, 1, 0, 0, 0, 0, 0),
  (14, .ireturn, 1, 1, 0, 0, 0, 0),
  (15, .aload_n 0, 1, 0, 0, 0, 0, 0),
  (16, .getfield 30, 3, 3, 10, 0, 2143, 2),
  (19, .iload_n 1, 1, 0, 0, 0, 0, 0),
  (20, .aaload, 1, 0, 0, 0, 0, 0),
  (21, .astore_n 2, 1, 0, 0, 0, 0, 0),
  (22, .aload_n 2, 1, 0, 0, 0, 0, 0),
  (23, .ifnonnull 5, 3, 0, 0, 0, 0, 0),
  (26, .iconst 0, 1, 0, 0, 0, 0, 0),
  (27, .ireturn, 1, 1, 0, 0, 0, 0)]
/-- SpanCopier.said -/
def ai_k28 : List ai_N := [(0, .aload_n 0, 1, 0, 0, 0, 0, 0),
  (1, .getfield 26, 3, 2, 10, 0, 2142, 2),
  (4, .getfield 304, 3, 6, 9, 1, 2101, 2),
  (7, .astore_n 2, 1, 0, 0, 0, 0, 0),
  (8, .aload_n 2, 1, 0, 0, 0, 0, 0),
  (9, .ifnull 8, 3, 0, 0, 0, 0, 0),
  (17, .iconst (-1), 1, 0, 0, 0, 0, 0),
  (18, .ireturn, 1, 0, 0, 0, 0, 0)]
/-- SpanCopier.sentence -/
def ai_k29 : List ai_N := [(0, .aload_n 0, 1, 0, 0, 0, 0, 0),
  (1, .getfield 10, 3, 0, 10, 0, 2140, 2),
  (4, .sipush 200, 3, 0, 0, 0, 0, 0),
  (7, .invokevirtual 61, 3, 86, 2, 1, 2193, 8),
  (10, .new 291, 3, 5, 5, 0, 5106, 0),
  (13, .dup, 1, 0, 0, 0, 0, 0),
  (14, .invokespecial 293, 3, 67, 1, 3, 5108, 5),
  (17, .astore_n 1, 1, 0, 0, 0, 0, 0),
  (18, .aload_n 1, 1, 0, 0, 0, 0, 0),
  (19, .aload_n 0, 1, 0, 0, 0, 0, 0),
  (20, .getfield 10, 3, 0, 10, 0, 2140, 2),
  (23, .iconst 1, 1, 0, 0, 0, 0, 0),
  (24, .invokevirtual 294, 3, 71, 3, 1, 5131, 5),
  (27, .ifCond .eq 22, 3, 0, 0, 0, 0, 0),
  (49, .aload_n 0, 1, 0, 0, 0, 0, 0),
  (50, .invokevirtual 71, 3, 2, 1, 0, 3066, 10),
  (53, .aload_n 0, 1, 0, 0, 0, 0, 0),
  (54, .getfield 74, 3, 11, 10, 0, 2151, 0),
  (57, .ifCond .eq 13, 3, 0, 0, 0, 0, 0),
  (60, .iconst (-1), 1, 0, 0, 0, 0, 0),
  (61, .aload_n 0, 1, 0, 0, 0, 0, 0),
  (62, .getfield 10, 3, 0, 10, 0, 2140, 2),
  (65, .getfield 77, 3, 10, 8, 1, 1064, 0),
  (68, .isub, 1, 0, 0, 0, 0, 0),
  (69, .ireturn, 1, 0, 0, 0, 0, 0)]
/-- SpanCopier.span -/
def ai_k30 : List ai_N := [(0, .aload_n 0, 1, 0, 0, 0, 0, 0),
  (1, .getfield 26, 3, 2, 10, 0, 2142, 2),
  (4, .getfield 120, 3, 0, 9, 1, 2087, 2),
  (7, .astore 4, 2, 0, 0, 0, 0, 0),
  (9, .aload 4, 2, 0, 0, 0, 0, 0),
  (11, .iload_n 1, 1, 0, 0, 0, 0, 0),
  (12, .invokevirtual 202, 3, 49, 2, 1, 4180, 1),
  (15, .ifCond .eq 14, 3, 0, 0, 0, 0, 0),
  (29, .iconst (-1), 1, 0, 0, 0, 0, 0),
  (30, .ireturn, 1, 0, 0, 0, 0, 0)]
/-- SpanCopier.spoil -/
def ai_k31 : List ai_N := [(0, .aload_n 0, 1, 0, 0, 0, 0, 0),
  (1, .invokevirtual 85, 3, 17, 1, 0, 3113, 10),
  (4, .aload_n 0, 1, 0, 0, 0, 0, 0),
  (5, .aload_n 0, 1, 0, 0, 0, 0, 0),
  (6, .getfield 26, 3, 2, 10, 0, 2142, 2),
  (9, .getfield 120, 3, 0, 9, 1, 2087, 2),
  (12, .iload_n 1, 1, 0, 0, 0, 0, 0),
  (13, .invokevirtual 139, 3, 48, 2, 1, 4132, 1),
  (16, .invokevirtual 129, 3, 15, 2, 0, 4108, 10),
  (19, .ireturn, 1, 0, 0, 0, 0, 0)]
/-- SpanCopier.store -/
def ai_k32 : List ai_N := [(0, .aload_n 0, 1, 0, 0, 0, 0, 0),
  (1, .getfield 26, 3, 2, 10, 0, 2142, 2),
  (4, .getfield 233, 3, 4, 9, 1, 2095, 2),
  (7, .getfield 237, 3, 2, 6, 1, 2009, 0),
  (10, .ireturn, 1, 0, 0, 0, 0, 0)]
/-- SpanCopier.sum -/
def ai_k33 : List ai_N := [(0, .iload_n 1, 1, 0, 0, 0, 0, 0),
  (1, .ifCond .eq 16, 3, 0, 0, 0, 0, 0),
  (4, .iload_n 1, 1, 0, 0, 0, 0, 0),
  (5, .iconst 1, 1, 0, 0, 0, 0, 0),
  (6, .if_icmp .eq 11, 3, 0, 0, 0, 0, 0),
  (17, .iload_n 1, 1, 0, 0, 0, 0, 0),
  (18, .ifCond .ne 13, 3, 0, 0, 0, 0, 0),
  (21, .aload_n 0, 1, 0, 0, 0, 0, 0),
  (22, .getfield 26, 3, 2, 10, 0, 2142, 2),
  (25, .getfield 227, 3, 8, 9, 1, 2108, 0),
  (28, .goto 13, 3, 0, 0, 0, 0, 0),
  (31, .aload_n 0, 1, 0, 0, 0, 0, 0),
  (32, .getfield 26, 3, 2, 10, 0, 2142, 2),
  (35, .getfield 161, 3, 2, 9, 1, 2091, 2),
  (38, .invokevirtual 230, 3, 83, 1, 1, 6045, 7),
  (41, .ireturn, 1, 0, 0, 0, 0, 0)]
/-- SpanCopier.taken -/
def ai_k34 : List ai_N := [(0, .aload_n 0, 1, 0, 0, 0, 0, 0),
  (1, .getfield 26, 3, 2, 10, 0, 2142, 2),
  (4, .getfield 161, 3, 2, 9, 1, 2091, 2),
  (7, .iload_n 1, 1, 0, 0, 0, 0, 0),
  (8, .invokevirtual 224, 3, 79, 2, 1, 4201, 7),
  (11, .ireturn, 1, 0, 0, 0, 0, 0)]
/-- SpanCopier.tellJudged -/
def ai_k35 : List ai_N := [(0, .aload_n 0, 1, 0, 0, 0, 0, 0),
  (1, .getfield 41, 3, 6, 10, 0, 2146, 2),
  (4, .iconst 0, 1, 0, 0, 0, 0, 0),
  (5, .iload_n 1, 1, 0, 0, 0, 0, 0),
  (6, .iastore, 1, 0, 0, 0, 0, 0),
  (7, .aload_n 0, 1, 0, 0, 0, 0, 0),
  (8, .getfield 41, 3, 6, 10, 0, 2146, 2),
  (11, .iconst 1, 1, 0, 0, 0, 0, 0),
  (12, .iload_n 2, 1, 0, 0, 0, 0, 0),
  (13, .iastore, 1, 0, 0, 0, 0, 0),
  (14, .aload_n 0, 1, 0, 0, 0, 0, 0),
  (15, .getfield 41, 3, 6, 10, 0, 2146, 2),
  (18, .iconst 2, 1, 0, 0, 0, 0, 0),
  (19, .aload_n 3, 1, 0, 0, 0, 0, 0),
  (20, .getfield 149, 3, 9, 9, 1, 2110, 0),
  (23, .iastore, 1, 0, 0, 0, 0, 0),
  (24, .aload_n 0, 1, 0, 0, 0, 0, 0),
  (25, .getfield 41, 3, 6, 10, 0, 2146, 2),
  (28, .iconst 3, 1, 0, 0, 0, 0, 0),
  (29, .aload_n 3, 1, 0, 0, 0, 0, 0),
  (30, .getfield 120, 3, 0, 9, 1, 2087, 2),
  (33, .getfield 168, 3, 2, 1, 1, 1135, 0),
  (36, .iastore, 1, 0, 0, 0, 0, 0),
  (37, .return_, 1, 0, 0, 0, 0, 0)]
/-- SpanCopier.ticks -/
def ai_k36 : List ai_N := [(0, .iload_n 1, 1, 0, 0, 0, 0, 0),
  (1, .iconst 1, 1, 0, 0, 0, 0, 0),
  (2, .if_icmp .lt 9, 3, 0, 0, 0, 0, 0),
  (5, .iload_n 1, 1, 0, 0, 0, 0, 0),
  (6, .bipush 60, 2, 0, 0, 0, 0, 0),
  (8, .if_icmp .le 5, 3, 0, 0, 0, 0, 0),
  (11, .iconst (-1), 1, 0, 0, 0, 0, 0),
  (12, .ireturn, 1, 0, 0, 0, 0, 0),
  (13, .aload_n 0, 1, 0, 0, 0, 0, 0),
  (14, .invokevirtual 85, 3, 17, 1, 0, 3113, 10),
  (17, .aload_n 0, 1, 0, 0, 0, 0, 0),
  (18, .aload_n 0, 1, 0, 0, 0, 0, 0),
  (19, .getfield 26, 3, 2, 10, 0, 2142, 2),
  (22, .iload_n 1, 1, 0, 0, 0, 0, 0),
  (23, .invokevirtual 113, 3, 96, 2, 1, 3170, 9),
  (26, .invokevirtual 117, 3, 14, 2, 0, 4099, 10),
  (29, .ireturn, 1, 0, 0, 0, 0, 0)]
/-- SpanCopier.told -/
def ai_k37 : List ai_N := [(0, .iload_n 1, 1, 0, 0, 0, 0, 0),
  (1, .ifCond .lt 12, 3, 0, 0, 0, 0, 0),
  (4, .iload_n 1, 1, 0, 0, 0, 0, 0),
  (5, .aload_n 0, 1, 0, 0, 0, 0, 0),
  (6, .getfield 41, 3, 6, 10, 0, 2146, 2),
  (9, .arraylength, 1, 0, 0, 0, 0, 0),
  (10, .if_icmp .lt 7, 3, 0, 0, 0, 0, 0),
  (13, .iconst (-1), 1, 0, 0, 0, 0, 0),
  (14, .goto 9, 3, 0, 0, 0, 0, 0),
  (17, .aload_n 0, 1, 0, 0, 0, 0, 0),
  (18, .getfield 41, 3, 6, 10, 0, 2146, 2),
  (21, .iload_n 1, 1, 0, 0, 0, 0, 0),
  (22, .iaload, 1, 0, 0, 0, 0, 0),
  (23, .ireturn, 1, 0, 0, 0, 0, 0)]
/-- SpanCopier.trialWorld -/
def ai_k38 : List ai_N := [(0, .aload_n 0, 1, 0, 0, 0, 0, 0),
  (1, .getfield 255, 3, 8, 10, 0, 2148, 2),
  (4, .ifnonnull 14, 3, 0, 0, 0, 0, 0),
  (7, .aload_n 0, 1, 0, 0, 0, 0, 0),
  (8, .new 23, 3, 9, 11, 0, 1116, 0),
  (11, .dup, 1, 0, 0, 0, 0, 0),
  (12, .invokespecial 25, 3, 89, 1, 3, 1118, 9),
  (15, .putfield 255, 3, 8, 10, 0, 2148, 2),
  (18, .aload_n 0, 1, 0, 0, 0, 0, 0),
  (19, .getfield 255, 3, 8, 10, 0, 2148, 2),
  (22, .aload_n 0, 1, 0, 0, 0, 0, 0),
  (23, .getfield 26, 3, 2, 10, 0, 2142, 2),
  (26, .invokevirtual 103, 3, 91, 2, 1, 3117, 9),
  (29, .aload_n 0, 1, 0, 0, 0, 0, 0),
  (30, .getfield 255, 3, 8, 10, 0, 2148, 2),
  (33, .areturn, 1, 0, 0, 0, 0, 0)]
/-- SpanCopier.twice -/
def ai_k39 : List ai_N := [(0, .aload_n 0, 1, 0, 0, 0, 0, 0),
  (1, .invokevirtual 85, 3, 17, 1, 0, 3113, 10),
  (4, .aload_n 0, 1, 0, 0, 0, 0, 0),
  (5, .aload_n 0, 1, 0, 0, 0, 0, 0),
  (6, .getfield 26, 3, 2, 10, 0, 2142, 2),
  (9, .getfield 120, 3, 0, 9, 1, 2087, 2),
  (12, .iload_n 1, 1, 0, 0, 0, 0, 0),
  (13, .invokevirtual 132, 3, 51, 2, 1, 4116, 1),
  (16, .invokevirtual 129, 3, 15, 2, 0, 4108, 10),
  (19, .ireturn, 1, 0, 0, 0, 0, 0)]
/-- SpanCopier.undo -/
def ai_k40 : List ai_N := [(0, .aload_n 0, 1, 0, 0, 0, 0, 0),
  (1, .getfield 110, 3, 10, 10, 0, 2150, 0),
  (4, .ifCond .ne 5, 3, 0, 0, 0, 0, 0),
  (7, .iconst (-1), 1, 0, 0, 0, 0, 0),
  (8, .ireturn, 1, 0, 0, 0, 0, 0)]
/-- SpanCopier.unit -/
def ai_k41 : List ai_N := [(0, .aload_n 0, 1, 0, 0, 0, 0, 0),
  (1, .getfield 26, 3, 2, 10, 0, 2142, 2),
  (4, .getfield 120, 3, 0, 9, 1, 2087, 2),
  (7, .astore_n 3, 1, 0, 0, 0, 0, 0),
  (8, .aload_n 3, 1, 0, 0, 0, 0, 0),
  (9, .iload_n 1, 1, 0, 0, 0, 0, 0),
  (10, .invokevirtual 202, 3, 49, 2, 1, 4180, 1),
  (13, .ifCond .eq 12, 3, 0, 0, 0, 0, 0)]
/-- SpanCopier$Book.<init> -/
def ai_k42 : List ai_N := [(0, .aload_n 0, 1, 0, 0, 0, 0, 0),
  (1, .invokespecial 3, 3, 0, 1, 7, 1094, 0),
  (4, .aload_n 0, 1, 0, 0, 0, 0, 0),
  (5, .bipush 40, 2, 0, 0, 0, 0, 0),
  (7, .anewarray 11, 3, 5, 0, 0, 1095, 0),
  (10, .putfield 13, 3, 0, 0, 2, 1098, 2),
  (13, .aload_n 0, 1, 0, 0, 0, 0, 0),
  (14, .bipush 40, 2, 0, 0, 0, 0, 0),
  (16, .newarray .int, 2, 1, 0, 0, 0, 0),
  (18, .putfield 17, 3, 1, 0, 2, 1100, 2),
  (21, .aload_n 0, 1, 0, 0, 0, 0, 0),
  (22, .bipush 40, 2, 0, 0, 0, 0, 0),
  (24, .newarray .int, 2, 1, 0, 0, 0, 0),
  (26, .putfield 21, 3, 2, 0, 2, 1102, 2),
  (29, .iconst 0, 1, 0, 0, 0, 0, 0),
  (30, .istore_n 1, 1, 0, 0, 0, 0, 0),
  (31, .iload_n 1, 1, 0, 0, 0, 0, 0),
  (32, .aload_n 0, 1, 0, 0, 0, 0, 0),
  (33, .getfield 13, 3, 0, 0, 0, 1098, 2),
  (36, .arraylength, 1, 0, 0, 0, 0, 0),
  (37, .if_icmp .ge 18, 3, 0, 0, 0, 0, 0),
  (40, .aload_n 0, 1, 0, 0, 0, 0, 0),
  (41, .getfield 13, 3, 0, 0, 0, 1098, 2),
  (44, .iload_n 1, 1, 0, 0, 0, 0, 0),
  (45, .getstatic 24, 3, 0, 0, 0, 1097, 0),
  (48, .aastore, 1, 0, 0, 0, 0, 0),
  (49, .iinc 1 1, 3, 0, 0, 0, 0, 0),
  (52, .goto (-21), 3, 0, 0, 0, 0, 0),
  (55, .return_, 1, 0, 0, 0, 0, 0)]
/-- SpanCopier$Book.readLines -/
def ai_k43 : List ai_N := [(0, .aload_n 0, 1, 0, 0, 0, 0, 0),
  (1, .iconst 0, 1, 0, 0, 0, 0, 0),
  (2, .putfield 28, 3, 3, 0, 0, 1104, 0),
  (5, .iconst 0, 1, 0, 0, 0, 0, 0),
  (6, .istore_n 2, 1, 0, 0, 0, 0, 0),
  (7, .iload_n 2, 1, 0, 0, 0, 0, 0),
  (8, .bipush 40, 2, 0, 0, 0, 0, 0),
  (10, .if_icmp .gt 41, 3, 0, 0, 0, 0, 0),
  (13, .aload_n 1, 1, 0, 0, 0, 0, 0),
  (14, .getfield 32, 3, 4, 8, 1, 1045, 0),
  (17, .ifCond .ne 10, 3, 0, 0, 0, 0, 0),
  (20, .aload_n 0, 1, 0, 0, 0, 0, 0),
  (21, .iload_n 2, 1, 0, 0, 0, 0, 0),
  (22, .putfield 28, 3, 3, 0, 0, 1104, 0),
  (25, .iconst 1, 1, 0, 0, 0, 0, 0),
  (26, .ireturn, 1, 1, 0, 0, 0, 0)]
/-- SpanCopier$Link.<init> -/
def ai_k44 : List ai_N := [(0, .aload_n 0, 1, 0, 0, 0, 0, 0),
  (1, .invokespecial 5, 3, 0, 1, 7, 1127, 0),
  (4, .aload_n 0, 1, 0, 0, 0, 0, 0),
  (5, .sipush 520, 3, 0, 0, 0, 0, 0),
  (8, .newarray .int, 2, 1, 0, 0, 0, 0),
  (10, .putfield 11, 3, 0, 1, 2, 1128, 2),
  (13, .aload_n 0, 1, 0, 0, 0, 0, 0),
  (14, .bipush 13, 2, 0, 0, 0, 0, 0),
  (16, .newarray .int, 2, 1, 0, 0, 0, 0),
  (18, .putfield 15, 3, 1, 1, 2, 1129, 2),
  (21, .return_, 1, 0, 0, 0, 0, 0)]
/-- SpanCopier$Link.clear -/
def ai_k45 : List ai_N := [(0, .aload_n 0, 1, 0, 0, 0, 0, 0),
  (1, .iconst 0, 1, 0, 0, 0, 0, 0),
  (2, .putfield 18, 3, 2, 1, 0, 1133, 0),
  (5, .aload_n 0, 1, 0, 0, 0, 0, 0),
  (6, .iconst 0, 1, 0, 0, 0, 0, 0),
  (7, .putfield 22, 3, 3, 1, 0, 1136, 0),
  (10, .return_, 1, 0, 0, 0, 0, 0)]
/-- SpanCopier$Link.copyFrom -/
def ai_k46 : List ai_N := [(0, .aload_n 1, 1, 0, 0, 0, 0, 0),
  (1, .getfield 11, 3, 0, 1, 0, 1128, 2),
  (4, .iconst 0, 1, 0, 0, 0, 0, 0),
  (5, .aload_n 0, 1, 0, 0, 0, 0, 0),
  (6, .getfield 11, 3, 0, 1, 0, 1128, 2),
  (9, .iconst 0, 1, 0, 0, 0, 0, 0),
  (10, .aload_n 1, 1, 0, 0, 0, 0, 0),
  (11, .getfield 18, 3, 2, 1, 0, 1133, 0),
  (14, .bipush 13, 2, 0, 0, 0, 0, 0),
  (16, .imul, 1, 0, 0, 0, 0, 0),
  (17, .invokestatic 25, 3, 0, 5, 8, 3125, 0),
  (20, .aload_n 0, 1, 0, 0, 0, 0, 0),
  (21, .aload_n 1, 1, 0, 0, 0, 0, 0),
  (22, .getfield 18, 3, 2, 1, 0, 1133, 0),
  (25, .putfield 18, 3, 2, 1, 0, 1133, 0),
  (28, .aload_n 0, 1, 0, 0, 0, 0, 0),
  (29, .aload_n 1, 1, 0, 0, 0, 0, 0),
  (30, .getfield 22, 3, 3, 1, 0, 1136, 0),
  (33, .putfield 22, 3, 3, 1, 0, 1136, 0),
  (36, .return_, 1, 0, 0, 0, 0, 0)]
/-- SpanCopier$Link.delay -/
def ai_k47 : List ai_N := [(0, .aload_n 0, 1, 0, 0, 0, 0, 0),
  (1, .iload_n 1, 1, 0, 0, 0, 0, 0),
  (2, .invokevirtual 31, 3, 49, 2, 0, 3182, 1),
  (5, .ifCond .ne 5, 3, 0, 0, 0, 0, 0),
  (8, .iconst (-1), 1, 0, 0, 0, 0, 0),
  (9, .ireturn, 1, 0, 0, 0, 0, 0)]
/-- SpanCopier$Link.flip -/
def ai_k48 : List ai_N := [(0, .aload_n 0, 1, 0, 0, 0, 0, 0),
  (1, .iload_n 1, 1, 0, 0, 0, 0, 0),
  (2, .invokevirtual 31, 3, 49, 2, 0, 3182, 1),
  (5, .ifCond .ne 5, 3, 0, 0, 0, 0, 0),
  (8, .iconst (-1), 1, 0, 0, 0, 0, 0),
  (9, .ireturn, 1, 0, 0, 0, 0, 0)]
/-- SpanCopier$Link.has -/
def ai_k49 : List ai_N := [(0, .iload_n 1, 1, 0, 0, 0, 0, 0),
  (1, .ifCond .lt 15, 3, 0, 0, 0, 0, 0),
  (4, .iload_n 1, 1, 0, 0, 0, 0, 0),
  (5, .aload_n 0, 1, 0, 0, 0, 0, 0),
  (6, .getfield 18, 3, 2, 1, 0, 1133, 0),
  (9, .if_icmp .ge 7, 3, 0, 0, 0, 0, 0),
  (16, .iconst 0, 1, 0, 0, 0, 0, 0),
  (17, .ireturn, 1, 1, 0, 0, 0, 0)]
/-- SpanCopier$Link.remove -/
def ai_k50 : List ai_N := [(0, .aload_n 0, 1, 0, 0, 0, 0, 0),
  (1, .iload_n 1, 1, 0, 0, 0, 0, 0),
  (2, .invokevirtual 31, 3, 49, 2, 0, 3182, 1),
  (5, .ifCond .ne 5, 3, 0, 0, 0, 0, 0),
  (8, .iconst (-1), 1, 0, 0, 0, 0, 0),
  (9, .ireturn, 1, 0, 0, 0, 0, 0)]
/-- SpanCopier$Link.repeat -/
def ai_k51 : List ai_N := [(0, .aload_n 0, 1, 0, 0, 0, 0, 0),
  (1, .iload_n 1, 1, 0, 0, 0, 0, 0),
  (2, .invokevirtual 31, 3, 49, 2, 0, 3182, 1),
  (5, .ifCond .ne 5, 3, 0, 0, 0, 0, 0),
  (8, .iconst (-1), 1, 0, 0, 0, 0, 0),
  (9, .ireturn, 1, 0, 0, 0, 0, 0)]
/-- SpanCopier$Order.<init> -/
def ai_k52 : List ai_N := [(0, .aload_n 0, 1, 0, 0, 0, 0, 0),
  (1, .invokespecial 3, 3, 0, 1, 7, 2028, 0),
  (4, .aload_n 0, 1, 0, 0, 0, 0, 0),
  (5, .getstatic 9, 3, 40, 0, 0, 2029, 0),
  (8, .arraylength, 1, 0, 0, 0, 0, 0),
  (9, .newarray .int, 2, 1, 0, 0, 0, 0),
  (11, .putfield 15, 3, 0, 2, 2, 2036, 2),
  (14, .aload_n 0, 1, 0, 0, 0, 0, 0),
  (15, .bipush 6, 2, 0, 0, 0, 0, 0),
  (17, .anewarray 18, 3, 5, 0, 0, 2031, 0),
  (20, .putfield 20, 3, 1, 2, 2, 2040, 2),
  (23, .aload_n 0, 1, 0, 0, 0, 0, 0),
  (24, .bipush 6, 2, 0, 0, 0, 0, 0),
  (26, .newarray .int, 2, 1, 0, 0, 0, 0),
  (28, .putfield 24, 3, 2, 2, 2, 2042, 2),
  (31, .aload_n 0, 1, 0, 0, 0, 0, 0),
  (32, .bipush 6, 2, 0, 0, 0, 0, 0),
  (34, .newarray .int, 2, 1, 0, 0, 0, 0),
  (36, .putfield 27, 3, 3, 2, 2, 2044, 2),
  (39, .aload_n 0, 1, 0, 0, 0, 0, 0),
  (40, .bipush 10, 2, 0, 0, 0, 0, 0),
  (42, .newarray .long, 2, 4, 0, 0, 0, 0),
  (44, .putfield 30, 3, 4, 2, 2, 2046, 2),
  (47, .aload_n 0, 1, 0, 0, 0, 0, 0),
  (48, .iconst (-1), 1, 0, 0, 0, 0, 0),
  (49, .putfield 34, 3, 5, 2, 0, 2047, 0),
  (52, .getstatic 9, 3, 40, 0, 0, 2029, 0),
  (55, .iconst 0, 1, 0, 0, 0, 0, 0),
  (56, .aload_n 0, 1, 0, 0, 0, 0, 0),
  (57, .getfield 15, 3, 0, 2, 0, 2036, 2),
  (60, .iconst 0, 1, 0, 0, 0, 0, 0),
  (61, .aload_n 0, 1, 0, 0, 0, 0, 0),
  (62, .getfield 15, 3, 0, 2, 0, 2036, 2),
  (65, .arraylength, 1, 0, 0, 0, 0, 0),
  (66, .invokestatic 38, 3, 0, 5, 8, 2032, 0),
  (69, .iconst 0, 1, 0, 0, 0, 0, 0),
  (70, .istore_n 1, 1, 0, 0, 0, 0, 0),
  (71, .iload_n 1, 1, 0, 0, 0, 0, 0),
  (72, .aload_n 0, 1, 0, 0, 0, 0, 0),
  (73, .getfield 20, 3, 1, 2, 0, 2040, 2),
  (76, .arraylength, 1, 0, 0, 0, 0, 0),
  (77, .if_icmp .ge 18, 3, 0, 0, 0, 0, 0),
  (80, .aload_n 0, 1, 0, 0, 0, 0, 0),
  (81, .getfield 20, 3, 1, 2, 0, 2040, 2),
  (84, .iload_n 1, 1, 0, 0, 0, 0, 0),
  (85, .getstatic 44, 3, 0, 0, 0, 2035, 0),
  (88, .aastore, 1, 0, 0, 0, 0, 0),
  (89, .iinc 1 1, 3, 0, 0, 0, 0, 0),
  (92, .goto (-21), 3, 0, 0, 0, 0, 0),
  (95, .return_, 1, 0, 0, 0, 0, 0)]
/-- SpanCopier$Order.readLines -/
def ai_k53 : List ai_N := [(0, .iconst 0, 1, 0, 0, 0, 0, 0),
  (1, .istore_n 2, 1, 0, 0, 0, 0, 0),
  (2, .iload_n 2, 1, 0, 0, 0, 0, 0),
  (3, .sipush 900, 3, 0, 0, 0, 0, 0),
  (6, .if_icmp .ge 35, 3, 0, 0, 0, 0, 0),
  (9, .aload_n 1, 1, 0, 0, 0, 0, 0),
  (10, .getfield 48, 3, 4, 8, 1, 1046, 0),
  (13, .ifCond .ne 5, 3, 0, 0, 0, 0, 0),
  (16, .iload_n 2, 1, 0, 0, 0, 0, 0),
  (17, .ireturn, 1, 0, 0, 0, 0, 0)]
/-- SpanCopier$Order.setting -/
def ai_k54 : List ai_N := [(0, .iload_n 1, 1, 0, 0, 0, 0, 0),
  (1, .ifCond .lt 12, 3, 0, 0, 0, 0, 0),
  (4, .iload_n 1, 1, 0, 0, 0, 0, 0),
  (5, .aload_n 0, 1, 0, 0, 0, 0, 0),
  (6, .getfield 15, 3, 0, 2, 0, 2036, 2),
  (9, .arraylength, 1, 0, 0, 0, 0, 0),
  (10, .if_icmp .lt 7, 3, 0, 0, 0, 0, 0),
  (13, .iconst (-1), 1, 0, 0, 0, 0, 0),
  (14, .goto 9, 3, 0, 0, 0, 0, 0),
  (17, .aload_n 0, 1, 0, 0, 0, 0, 0),
  (18, .getfield 15, 3, 0, 2, 0, 2036, 2),
  (21, .iload_n 1, 1, 0, 0, 0, 0, 0),
  (22, .iaload, 1, 0, 0, 0, 0, 0),
  (23, .ireturn, 1, 0, 0, 0, 0, 0)]
/-- SpanCopier$Places.<init> -/
def ai_k55 : List ai_N := [(0, .aload_n 0, 1, 0, 0, 0, 0, 0),
  (1, .invokespecial 3, 3, 0, 1, 7, 1162, 0),
  (4, .aload_n 0, 1, 0, 0, 0, 0, 0),
  (5, .sipush 240, 3, 0, 0, 0, 0, 0),
  (8, .newarray .byte, 2, 2, 0, 0, 0, 0),
  (10, .putfield 9, 3, 0, 3, 2, 1163, 2),
  (13, .return_, 1, 0, 0, 0, 0, 0)]
/-- SpanCopier$Places.clear -/
def ai_k56 : List ai_N := [(0, .aload_n 0, 1, 0, 0, 0, 0, 0),
  (1, .getfield 9, 3, 0, 3, 0, 1163, 2),
  (4, .iconst 0, 1, 0, 0, 0, 0, 0),
  (5, .invokestatic 25, 3, 177, 2, 5, 3090, 99),
  (8, .aload_n 0, 1, 0, 0, 0, 0, 0),
  (9, .iconst 0, 1, 0, 0, 0, 0, 0),
  (10, .putfield 15, 3, 1, 3, 0, 1164, 0),
  (13, .return_, 1, 0, 0, 0, 0, 0)]
/-- SpanCopier$Places.copyFrom -/
def ai_k57 : List ai_N := [(0, .aload_n 0, 1, 0, 0, 0, 0, 0),
  (1, .getfield 15, 3, 1, 3, 0, 1164, 0),
  (4, .ifCond .ne 10, 3, 0, 0, 0, 0, 0),
  (7, .aload_n 1, 1, 0, 0, 0, 0, 0),
  (8, .getfield 15, 3, 1, 3, 0, 1164, 0),
  (11, .ifCond .eq 19, 3, 0, 0, 0, 0, 0),
  (30, .aload_n 0, 1, 0, 0, 0, 0, 0),
  (31, .aload_n 1, 1, 0, 0, 0, 0, 0),
  (32, .getfield 15, 3, 1, 3, 0, 1164, 0),
  (35, .putfield 15, 3, 1, 3, 0, 1164, 0),
  (38, .return_, 1, 0, 0, 0, 0, 0)]
/-- SpanCopier$Places.countSpans -/
def ai_k58 : List ai_N := [(0, .iconst 0, 1, 0, 0, 0, 0, 0),
  (1, .istore_n 1, 1, 0, 0, 0, 0, 0),
  (2, .iconst 0, 1, 0, 0, 0, 0, 0),
  (3, .istore_n 2, 1, 0, 0, 0, 0, 0),
  (4, .iload_n 2, 1, 0, 0, 0, 0, 0),
  (5, .sipush 240, 3, 0, 0, 0, 0, 0),
  (8, .if_icmp .ge 20, 3, 0, 0, 0, 0, 0),
  (11, .aload_n 0, 1, 0, 0, 0, 0, 0),
  (12, .iload_n 2, 1, 0, 0, 0, 0, 0),
  (13, .invokevirtual 41, 3, 61, 2, 0, 4171, 3),
  (16, .ifCond .eq 6, 3, 0, 0, 0, 0, 0),
  (22, .iinc 2 1, 3, 0, 0, 0, 0, 0),
  (25, .goto (-21), 3, 0, 0, 0, 0, 0),
  (28, .iload_n 1, 1, 0, 0, 0, 0, 0),
  (29, .ireturn, 1, 0, 0, 0, 0, 0)]
/-- SpanCopier$Places.edge -/
def ai_k59 : List ai_N := [(0, .iload_n 1, 1, 0, 0, 0, 0, 0),
  (1, .ifCond .lt 12, 3, 0, 0, 0, 0, 0),
  (4, .iload_n 2, 1, 0, 0, 0, 0, 0),
  (5, .ifCond .lt 8, 3, 0, 0, 0, 0, 0),
  (8, .iload_n 2, 1, 0, 0, 0, 0, 0),
  (9, .iconst 1, 1, 0, 0, 0, 0, 0),
  (10, .if_icmp .le 5, 3, 0, 0, 0, 0, 0),
  (13, .iconst (-1), 1, 0, 0, 0, 0, 0),
  (14, .ireturn, 1, 0, 0, 0, 0, 0),
  (15, .iconst 0, 1, 0, 0, 0, 0, 0),
  (16, .istore_n 3, 1, 0, 0, 0, 0, 0),
  (17, .iconst 0, 1, 0, 0, 0, 0, 0),
  (18, .istore 4, 2, 0, 0, 0, 0, 0),
  (20, .iload 4, 2, 0, 0, 0, 0, 0),
  (22, .sipush 240, 3, 0, 0, 0, 0, 0),
  (25, .if_icmp .ge 45, 3, 0, 0, 0, 0, 0),
  (28, .aload_n 0, 1, 0, 0, 0, 0, 0),
  (29, .iload 4, 2, 0, 0, 0, 0, 0),
  (31, .invokevirtual 41, 3, 61, 2, 0, 4171, 3),
  (34, .ifCond .ne 6, 3, 0, 0, 0, 0, 0),
  (37, .goto 27, 3, 0, 0, 0, 0, 0),
  (64, .iinc 4 1, 3, 0, 0, 0, 0, 0),
  (67, .goto (-47), 3, 0, 0, 0, 0, 0),
  (70, .iconst (-1), 1, 0, 0, 0, 0, 0),
  (71, .ireturn, 1, 0, 0, 0, 0, 0)]
/-- SpanCopier$Places.has -/
def ai_k60 : List ai_N := [(0, .iload_n 1, 1, 0, 0, 0, 0, 0),
  (1, .ifCond .lt 24, 3, 0, 0, 0, 0, 0),
  (4, .iload_n 1, 1, 0, 0, 0, 0, 0),
  (5, .sipush 240, 3, 0, 0, 0, 0, 0),
  (8, .if_icmp .ge 17, 3, 0, 0, 0, 0, 0),
  (11, .aload_n 0, 1, 0, 0, 0, 0, 0),
  (12, .getfield 9, 3, 0, 3, 0, 1163, 2),
  (15, .iload_n 1, 1, 0, 0, 0, 0, 0),
  (16, .baload, 1, 0, 0, 0, 0, 0),
  (17, .iconst 1, 1, 0, 0, 0, 0, 0),
  (18, .if_icmp .ne 7, 3, 0, 0, 0, 0, 0),
  (25, .iconst 0, 1, 0, 0, 0, 0, 0),
  (26, .ireturn, 1, 1, 0, 0, 0, 0)]
/-- SpanCopier$Places.startsSpan -/
def ai_k61 : List ai_N := [(0, .aload_n 0, 1, 0, 0, 0, 0, 0),
  (1, .iload_n 1, 1, 0, 0, 0, 0, 0),
  (2, .invokevirtual 37, 3, 60, 2, 0, 4175, 3),
  (5, .ifCond .eq 17, 3, 0, 0, 0, 0, 0),
  (22, .iconst 0, 1, 0, 0, 0, 0, 0),
  (23, .ireturn, 1, 1, 0, 0, 0, 0)]
/-- SpanCopier$Sender.<init> -/
def ai_k62 : List ai_N := [(0, .aload_n 0, 1, 0, 0, 0, 0, 0),
  (1, .invokespecial 1, 3, 0, 1, 7, 1156, 0),
  (4, .aload_n 0, 1, 0, 0, 0, 0, 0),
  (5, .new 7, 3, 3, 2, 0, 1157, 0),
  (8, .dup, 1, 0, 0, 0, 0, 0),
  (9, .invokespecial 9, 3, 55, 1, 3, 1159, 3),
  (12, .putfield 10, 3, 0, 4, 2, 1173, 2),
  (15, .return_, 1, 0, 0, 0, 0, 0)]
/-- SpanCopier$Sender.act -/
def ai_k63 : List ai_N := [(0, .aload_n 0, 1, 0, 0, 0, 0, 0),
  (1, .invokevirtual 67, 3, 66, 1, 0, 4015, 4),
  (4, .ifCond .ne 4, 3, 0, 0, 0, 0, 0),
  (7, .return_, 1, 0, 0, 0, 0, 0)]
/-- SpanCopier$Sender.clear -/
def ai_k64 : List ai_N := [(0, .aload_n 0, 1, 0, 0, 0, 0, 0),
  (1, .getfield 10, 3, 0, 4, 0, 1173, 2),
  (4, .invokevirtual 16, 3, 56, 1, 1, 3086, 3),
  (7, .aload_n 0, 1, 0, 0, 0, 0, 0),
  (8, .iconst 0, 1, 0, 0, 0, 0, 0),
  (9, .putfield 19, 3, 1, 4, 0, 1175, 0),
  (12, .aload_n 0, 1, 0, 0, 0, 0, 0),
  (13, .iconst 0, 1, 0, 0, 0, 0, 0),
  (14, .putfield 23, 3, 2, 4, 0, 1178, 0),
  (17, .aload_n 0, 1, 0, 0, 0, 0, 0),
  (18, .iconst 0, 1, 0, 0, 0, 0, 0),
  (19, .putfield 26, 3, 3, 4, 0, 1180, 0),
  (22, .aload_n 0, 1, 0, 0, 0, 0, 0),
  (23, .iconst 0, 1, 0, 0, 0, 0, 0),
  (24, .putfield 29, 3, 4, 4, 0, 1181, 0),
  (27, .aload_n 0, 1, 0, 0, 0, 0, 0),
  (28, .iconst 0, 1, 0, 0, 0, 0, 0),
  (29, .putfield 32, 3, 5, 4, 0, 1182, 0),
  (32, .return_, 1, 0, 0, 0, 0, 0)]
/-- SpanCopier$Sender.copyFrom -/
def ai_k65 : List ai_N := [(0, .aload_n 0, 1, 0, 0, 0, 0, 0),
  (1, .getfield 10, 3, 0, 4, 0, 1173, 2),
  (4, .aload_n 1, 1, 0, 0, 0, 0, 0),
  (5, .getfield 10, 3, 0, 4, 0, 1173, 2),
  (8, .invokevirtual 35, 3, 57, 2, 1, 3130, 3),
  (11, .aload_n 0, 1, 0, 0, 0, 0, 0),
  (12, .aload_n 1, 1, 0, 0, 0, 0, 0),
  (13, .getfield 19, 3, 1, 4, 0, 1175, 0),
  (16, .putfield 19, 3, 1, 4, 0, 1175, 0),
  (19, .aload_n 0, 1, 0, 0, 0, 0, 0),
  (20, .aload_n 1, 1, 0, 0, 0, 0, 0),
  (21, .getfield 23, 3, 2, 4, 0, 1178, 0),
  (24, .putfield 23, 3, 2, 4, 0, 1178, 0),
  (27, .aload_n 0, 1, 0, 0, 0, 0, 0),
  (28, .aload_n 1, 1, 0, 0, 0, 0, 0),
  (29, .getfield 26, 3, 3, 4, 0, 1180, 0),
  (32, .putfield 26, 3, 3, 4, 0, 1180, 0),
  (35, .aload_n 0, 1, 0, 0, 0, 0, 0),
  (36, .aload_n 1, 1, 0, 0, 0, 0, 0),
  (37, .getfield 29, 3, 4, 4, 0, 1181, 0),
  (40, .putfield 29, 3, 4, 4, 0, 1181, 0),
  (43, .aload_n 0, 1, 0, 0, 0, 0, 0),
  (44, .aload_n 1, 1, 0, 0, 0, 0, 0),
  (45, .getfield 32, 3, 5, 4, 0, 1182, 0),
  (48, .putfield 32, 3, 5, 4, 0, 1182, 0),
  (51, .return_, 1, 0, 0, 0, 0, 0)]
/-- SpanCopier$Sender.isActive -/
def ai_k66 : List ai_N := [(0, .aload_n 0, 1, 0, 0, 0, 0, 0),
  (1, .getfield 19, 3, 1, 4, 0, 1175, 0),
  (4, .iconst 1, 1, 0, 0, 0, 0, 0),
  (5, .if_icmp .eq 19, 3, 0, 0, 0, 0, 0),
  (8, .aload_n 0, 1, 0, 0, 0, 0, 0),
  (9, .getfield 19, 3, 1, 4, 0, 1175, 0),
  (12, .iconst 2, 1, 0, 0, 0, 0, 0),
  (13, .if_icmp .eq 11, 3, 0, 0, 0, 0, 0),
  (16, .aload_n 0, 1, 0, 0, 0, 0, 0),
  (17, .getfield 19, 3, 1, 4, 0, 1175, 0),
  (20, .iconst 3, 1, 0, 0, 0, 0, 0),
  (21, .if_icmp .ne 7, 3, 0, 0, 0, 0, 0),
  (28, .iconst 0, 1, 0, 0, 0, 0, 0),
  (29, .ireturn, 1, 1, 0, 0, 0, 0)]
/-- SpanCopier$Sentence.<init> -/
def ai_k67 : List ai_N := [(0, .aload_n 0, 1, 0, 0, 0, 0, 0),
  (1, .invokespecial 5, 3, 0, 1, 7, 5111, 0),
  (4, .aload_n 0, 1, 0, 0, 0, 0, 0),
  (5, .bipush 40, 2, 0, 0, 0, 0, 0),
  (7, .anewarray 11, 3, 5, 0, 0, 5112, 0),
  (10, .putfield 13, 3, 0, 5, 2, 5114, 2),
  (13, .aload_n 0, 1, 0, 0, 0, 0, 0),
  (14, .bipush 40, 2, 0, 0, 0, 0, 0),
  (16, .newarray .int, 2, 1, 0, 0, 0, 0),
  (18, .putfield 17, 3, 1, 5, 2, 5115, 2),
  (21, .aload_n 0, 1, 0, 0, 0, 0, 0),
  (22, .bipush 40, 2, 0, 0, 0, 0, 0),
  (24, .newarray .int, 2, 1, 0, 0, 0, 0),
  (26, .putfield 21, 3, 2, 5, 2, 5116, 2),
  (29, .iconst 0, 1, 0, 0, 0, 0, 0),
  (30, .istore_n 1, 1, 0, 0, 0, 0, 0),
  (31, .iload_n 1, 1, 0, 0, 0, 0, 0),
  (32, .aload_n 0, 1, 0, 0, 0, 0, 0),
  (33, .getfield 13, 3, 0, 5, 0, 5114, 2),
  (36, .arraylength, 1, 0, 0, 0, 0, 0),
  (37, .if_icmp .ge 18, 3, 0, 0, 0, 0, 0),
  (40, .aload_n 0, 1, 0, 0, 0, 0, 0),
  (41, .getfield 13, 3, 0, 5, 0, 5114, 2),
  (44, .iload_n 1, 1, 0, 0, 0, 0, 0),
  (45, .getstatic 24, 3, 0, 0, 0, 5113, 0),
  (48, .aastore, 1, 0, 0, 0, 0, 0),
  (49, .iinc 1 1, 3, 0, 0, 0, 0, 0),
  (52, .goto (-21), 3, 0, 0, 0, 0, 0),
  (55, .return_, 1, 0, 0, 0, 0, 0)]
/-- SpanCopier$Sentence.isMeasure -/
def ai_k68 : List ai_N := [(0, .getstatic 85, 3, 43, 0, 0, 5148, 0),
  (3, .aload_n 0, 1, 0, 0, 0, 0, 0),
  (4, .invokevirtual 90, 3, 0, 1, 9, 5149, 0),
  (7, .iaload, 1, 0, 0, 0, 0, 0),
  (8, .tableswitch 34 20 23 #[32, 32, 32, 32], 32, 0, 0, 0, 0, 0),
  (42, .iconst 0, 1, 0, 0, 0, 0, 0),
  (43, .ireturn, 1, 1, 0, 0, 0, 0)]
/-- SpanCopier$Sentence.isSaid -/
def ai_k69 : List ai_N := [(0, .getstatic 85, 3, 43, 0, 0, 5148, 0),
  (3, .aload_n 0, 1, 0, 0, 0, 0, 0),
  (4, .invokevirtual 90, 3, 0, 1, 9, 5149, 0),
  (7, .iaload, 1, 0, 0, 0, 0, 0),
  (8, .tableswitch 46 13 19 #[44, 44, 44, 44, 44, 44, 44], 44, 0, 0, 0, 0, 0),
  (54, .iconst 0, 1, 0, 0, 0, 0, 0),
  (55, .ireturn, 1, 1, 0, 0, 0, 0)]
/-- SpanCopier$Sentence.readAll -/
def ai_k70 : List ai_N := [(0, .aload_n 0, 1, 0, 0, 0, 0, 0),
  (1, .aload_n 1, 1, 0, 0, 0, 0, 0),
  (2, .iload_n 2, 1, 0, 0, 0, 0, 0),
  (3, .invokevirtual 47, 3, 72, 3, 0, 5139, 5),
  (6, .ifCond .ne 5, 3, 0, 0, 0, 0, 0),
  (9, .iconst 0, 1, 0, 0, 0, 0, 0),
  (10, .ireturn, 1, 1, 0, 0, 0, 0)]
/-- SpanCopier$Sentence.readCond -/
def ai_k71 : List ai_N := [(0, .aload_n 0, 1, 0, 0, 0, 0, 0),
  (1, .aload_n 1, 1, 0, 0, 0, 0, 0),
  (2, .iload_n 2, 1, 0, 0, 0, 0, 0),
  (3, .invokevirtual 28, 3, 70, 3, 0, 5135, 5),
  (6, .ifCond .ne 5, 3, 0, 0, 0, 0, 0),
  (9, .iconst 0, 1, 0, 0, 0, 0, 0),
  (10, .ireturn, 1, 1, 0, 0, 0, 0)]
/-- SpanCopier$Sentence.readOne -/
def ai_k72 : List ai_N := [(0, .aload_n 1, 1, 0, 0, 0, 0, 0),
  (1, .getfield 32, 3, 8, 8, 1, 1058, 2),
  (4, .astore_n 3, 1, 0, 0, 0, 0, 0),
  (5, .aload_n 1, 1, 0, 0, 0, 0, 0),
  (6, .getfield 53, 3, 4, 8, 1, 1047, 0),
  (9, .bipush 40, 2, 0, 0, 0, 0, 0),
  (11, .if_icmp .ne 7, 3, 0, 0, 0, 0, 0),
  (18, .iconst 0, 1, 0, 0, 0, 0, 0),
  (19, .istore 4, 2, 0, 0, 0, 0, 0),
  (21, .iload 4, 2, 0, 0, 0, 0, 0),
  (23, .ifCond .ne 30, 3, 0, 0, 0, 0, 0),
  (26, .aload_n 3, 1, 0, 0, 0, 0, 0),
  (27, .getstatic 57, 3, 26, 0, 0, 5143, 0),
  (30, .if_acmp .eq 23, 3, 0, 0, 0, 0, 0),
  (33, .aload_n 3, 1, 0, 0, 0, 0, 0),
  (34, .invokestatic 60, 3, 69, 1, 4, 5145, 5),
  (37, .ifCond .ne 16, 3, 0, 0, 0, 0, 0),
  (40, .aload_n 3, 1, 0, 0, 0, 0, 0),
  (41, .invokestatic 64, 3, 68, 1, 4, 5150, 5),
  (44, .ifCond .ne 9, 3, 0, 0, 0, 0, 0),
  (47, .aload_n 1, 1, 0, 0, 0, 0, 0),
  (48, .iconst 1, 1, 0, 0, 0, 0, 0),
  (49, .invokevirtual 67, 3, 85, 2, 1, 5153, 8),
  (52, .ireturn, 1, 1, 0, 0, 0, 0)]
/-- SpanCopier$Shelf.<init> -/
def ai_k73 : List ai_N := [(0, .aload_n 0, 1, 0, 0, 0, 0, 0),
  (1, .invokespecial 3, 3, 0, 1, 7, 2005, 0),
  (4, .aload_n 0, 1, 0, 0, 0, 0, 0),
  (5, .bipush 6, 2, 0, 0, 0, 0, 0),
  (7, .newarray .int, 2, 1, 0, 0, 0, 0),
  (9, .putfield 11, 3, 0, 6, 2, 2006, 2),
  (12, .return_, 1, 0, 0, 0, 0, 0)]
/-- SpanCopier$Shelf.clear -/
def ai_k74 : List ai_N := [(0, .aload_n 0, 1, 0, 0, 0, 0, 0),
  (1, .iconst 0, 1, 0, 0, 0, 0, 0),
  (2, .putfield 17, 3, 1, 6, 0, 2007, 0),
  (5, .aload_n 0, 1, 0, 0, 0, 0, 0),
  (6, .iload_n 1, 1, 0, 0, 0, 0, 0),
  (7, .putfield 21, 3, 2, 6, 0, 2008, 0),
  (10, .aload_n 0, 1, 0, 0, 0, 0, 0),
  (11, .iconst 0, 1, 0, 0, 0, 0, 0),
  (12, .putfield 24, 3, 3, 6, 0, 2010, 1),
  (15, .aload_n 0, 1, 0, 0, 0, 0, 0),
  (16, .iconst 0, 1, 0, 0, 0, 0, 0),
  (17, .putfield 28, 3, 4, 6, 0, 2011, 1),
  (20, .return_, 1, 0, 0, 0, 0, 0)]
/-- SpanCopier$Shelf.copyFrom -/
def ai_k75 : List ai_N := [(0, .aload_n 1, 1, 0, 0, 0, 0, 0),
  (1, .getfield 11, 3, 0, 6, 0, 2006, 2),
  (4, .iconst 0, 1, 0, 0, 0, 0, 0),
  (5, .aload_n 0, 1, 0, 0, 0, 0, 0),
  (6, .getfield 11, 3, 0, 6, 0, 2006, 2),
  (9, .iconst 0, 1, 0, 0, 0, 0, 0),
  (10, .aload_n 0, 1, 0, 0, 0, 0, 0),
  (11, .getfield 11, 3, 0, 6, 0, 2006, 2),
  (14, .arraylength, 1, 0, 0, 0, 0, 0),
  (15, .invokestatic 31, 3, 0, 5, 8, 3145, 0),
  (18, .aload_n 0, 1, 0, 0, 0, 0, 0),
  (19, .aload_n 1, 1, 0, 0, 0, 0, 0),
  (20, .getfield 17, 3, 1, 6, 0, 2007, 0),
  (23, .putfield 17, 3, 1, 6, 0, 2007, 0),
  (26, .aload_n 0, 1, 0, 0, 0, 0, 0),
  (27, .aload_n 1, 1, 0, 0, 0, 0, 0),
  (28, .getfield 21, 3, 2, 6, 0, 2008, 0),
  (31, .putfield 21, 3, 2, 6, 0, 2008, 0),
  (34, .aload_n 0, 1, 0, 0, 0, 0, 0),
  (35, .aload_n 1, 1, 0, 0, 0, 0, 0),
  (36, .getfield 24, 3, 3, 6, 0, 2010, 1),
  (39, .putfield 24, 3, 3, 6, 0, 2010, 1),
  (42, .aload_n 0, 1, 0, 0, 0, 0, 0),
  (43, .aload_n 1, 1, 0, 0, 0, 0, 0),
  (44, .getfield 28, 3, 4, 6, 0, 2011, 1),
  (47, .putfield 28, 3, 4, 6, 0, 2011, 1),
  (50, .return_, 1, 0, 0, 0, 0, 0)]
/-- SpanCopier$Shelf.entry -/
def ai_k76 : List ai_N := [(0, .iload_n 1, 1, 0, 0, 0, 0, 0),
  (1, .ifCond .lt 20, 3, 0, 0, 0, 0, 0),
  (4, .iload_n 1, 1, 0, 0, 0, 0, 0),
  (5, .aload_n 0, 1, 0, 0, 0, 0, 0),
  (6, .getfield 17, 3, 1, 6, 0, 2007, 0),
  (9, .if_icmp .ge 12, 3, 0, 0, 0, 0, 0),
  (21, .iconst (-1), 1, 0, 0, 0, 0, 0),
  (22, .goto 9, 3, 0, 0, 0, 0, 0),
  (31, .ireturn, 1, 0, 0, 0, 0, 0)]
/-- SpanCopier$Taker.<init> -/
def ai_k77 : List ai_N := [(0, .aload_n 0, 1, 0, 0, 0, 0, 0),
  (1, .invokespecial 3, 3, 0, 1, 7, 1201, 0),
  (4, .aload_n 0, 1, 0, 0, 0, 0, 0),
  (5, .new 9, 3, 3, 2, 0, 1202, 0),
  (8, .dup, 1, 0, 0, 0, 0, 0),
  (9, .invokespecial 11, 3, 55, 1, 3, 1203, 3),
  (12, .putfield 12, 3, 0, 7, 2, 1204, 2),
  (15, .aload_n 0, 1, 0, 0, 0, 0, 0),
  (16, .sipush 240, 3, 0, 0, 0, 0, 0),
  (19, .newarray .byte, 2, 2, 0, 0, 0, 0),
  (21, .putfield 18, 3, 1, 7, 2, 1207, 2),
  (24, .aload_n 0, 1, 0, 0, 0, 0, 0),
  (25, .iconst (-1), 1, 0, 0, 0, 0, 0),
  (26, .putfield 22, 3, 8, 7, 0, 1219, 0),
  (29, .return_, 1, 0, 0, 0, 0, 0)]
/-- SpanCopier$Taker.act -/
def ai_k78 : List ai_N := [(0, .aload_n 0, 1, 0, 0, 0, 0, 0),
  (1, .getfield 29, 3, 2, 7, 0, 1208, 0),
  (4, .tableswitch 74 1 3 #[28, 43, 66], 28, 0, 0, 0, 0, 0),
  (78, .return_, 1, 0, 0, 0, 0, 0)]
/-- SpanCopier$Taker.byteAt -/
def ai_k79 : List ai_N := [(0, .aload_n 0, 1, 0, 0, 0, 0, 0),
  (1, .iload_n 1, 1, 0, 0, 0, 0, 0),
  (2, .invokevirtual 62, 3, 82, 2, 0, 4067, 7),
  (5, .ifCond .eq 16, 3, 0, 0, 0, 0, 0),
  (21, .iconst (-1), 1, 0, 0, 0, 0, 0),
  (22, .ireturn, 1, 0, 0, 0, 0, 0)]
/-- SpanCopier$Taker.clear -/
def ai_k80 : List ai_N := [(0, .aload_n 0, 1, 0, 0, 0, 0, 0),
  (1, .getfield 12, 3, 0, 7, 0, 1204, 2),
  (4, .invokevirtual 26, 3, 56, 1, 1, 3097, 3),
  (7, .aload_n 0, 1, 0, 0, 0, 0, 0),
  (8, .iconst 0, 1, 0, 0, 0, 0, 0),
  (9, .putfield 29, 3, 2, 7, 0, 1208, 0),
  (12, .aload_n 0, 1, 0, 0, 0, 0, 0),
  (13, .iconst 0, 1, 0, 0, 0, 0, 0),
  (14, .putfield 32, 3, 3, 7, 0, 1211, 0),
  (17, .aload_n 0, 1, 0, 0, 0, 0, 0),
  (18, .iconst 0, 1, 0, 0, 0, 0, 0),
  (19, .putfield 35, 3, 4, 7, 0, 1213, 1),
  (22, .aload_n 0, 1, 0, 0, 0, 0, 0),
  (23, .iconst 0, 1, 0, 0, 0, 0, 0),
  (24, .putfield 39, 3, 5, 7, 0, 1216, 0),
  (27, .aload_n 0, 1, 0, 0, 0, 0, 0),
  (28, .iconst 0, 1, 0, 0, 0, 0, 0),
  (29, .putfield 42, 3, 6, 7, 0, 1217, 0),
  (32, .aload_n 0, 1, 0, 0, 0, 0, 0),
  (33, .iconst 0, 1, 0, 0, 0, 0, 0),
  (34, .putfield 45, 3, 7, 7, 0, 1218, 0),
  (37, .aload_n 0, 1, 0, 0, 0, 0, 0),
  (38, .iconst (-1), 1, 0, 0, 0, 0, 0),
  (39, .putfield 22, 3, 8, 7, 0, 1219, 0),
  (42, .return_, 1, 0, 0, 0, 0, 0)]
/-- SpanCopier$Taker.copyFrom -/
def ai_k81 : List ai_N := [(0, .aload_n 0, 1, 0, 0, 0, 0, 0),
  (1, .getfield 12, 3, 0, 7, 0, 1204, 2),
  (4, .aload_n 1, 1, 0, 0, 0, 0, 0),
  (5, .getfield 12, 3, 0, 7, 0, 1204, 2),
  (8, .invokevirtual 48, 3, 57, 2, 1, 3139, 3),
  (11, .aload_n 1, 1, 0, 0, 0, 0, 0),
  (12, .getfield 18, 3, 1, 7, 0, 1207, 2),
  (15, .iconst 0, 1, 0, 0, 0, 0, 0),
  (16, .aload_n 0, 1, 0, 0, 0, 0, 0),
  (17, .getfield 18, 3, 1, 7, 0, 1207, 2),
  (20, .iconst 0, 1, 0, 0, 0, 0, 0),
  (21, .sipush 240, 3, 0, 0, 0, 0, 0),
  (24, .invokestatic 52, 3, 0, 5, 8, 3140, 0),
  (27, .aload_n 0, 1, 0, 0, 0, 0, 0),
  (28, .aload_n 1, 1, 0, 0, 0, 0, 0),
  (29, .getfield 29, 3, 2, 7, 0, 1208, 0),
  (32, .putfield 29, 3, 2, 7, 0, 1208, 0),
  (35, .aload_n 0, 1, 0, 0, 0, 0, 0),
  (36, .aload_n 1, 1, 0, 0, 0, 0, 0),
  (37, .getfield 32, 3, 3, 7, 0, 1211, 0),
  (40, .putfield 32, 3, 3, 7, 0, 1211, 0),
  (43, .aload_n 0, 1, 0, 0, 0, 0, 0),
  (44, .aload_n 1, 1, 0, 0, 0, 0, 0),
  (45, .getfield 35, 3, 4, 7, 0, 1213, 1),
  (48, .putfield 35, 3, 4, 7, 0, 1213, 1),
  (51, .aload_n 0, 1, 0, 0, 0, 0, 0),
  (52, .aload_n 1, 1, 0, 0, 0, 0, 0),
  (53, .getfield 39, 3, 5, 7, 0, 1216, 0),
  (56, .putfield 39, 3, 5, 7, 0, 1216, 0),
  (59, .aload_n 0, 1, 0, 0, 0, 0, 0),
  (60, .aload_n 1, 1, 0, 0, 0, 0, 0),
  (61, .getfield 42, 3, 6, 7, 0, 1217, 0),
  (64, .putfield 42, 3, 6, 7, 0, 1217, 0),
  (67, .aload_n 0, 1, 0, 0, 0, 0, 0),
  (68, .aload_n 1, 1, 0, 0, 0, 0, 0),
  (69, .getfield 45, 3, 7, 7, 0, 1218, 0),
  (72, .putfield 45, 3, 7, 7, 0, 1218, 0),
  (75, .aload_n 0, 1, 0, 0, 0, 0, 0),
  (76, .aload_n 1, 1, 0, 0, 0, 0, 0),
  (77, .getfield 22, 3, 8, 7, 0, 1219, 0),
  (80, .putfield 22, 3, 8, 7, 0, 1219, 0),
  (83, .return_, 1, 0, 0, 0, 0, 0)]
/-- SpanCopier$Taker.hasByte -/
def ai_k82 : List ai_N := [(0, .iload_n 1, 1, 0, 0, 0, 0, 0),
  (1, .ifCond .lt 33, 3, 0, 0, 0, 0, 0),
  (4, .iload_n 1, 1, 0, 0, 0, 0, 0),
  (5, .aload_n 0, 1, 0, 0, 0, 0, 0),
  (6, .getfield 32, 3, 3, 7, 0, 1211, 0),
  (9, .if_icmp .ge 25, 3, 0, 0, 0, 0, 0),
  (34, .iconst 0, 1, 0, 0, 0, 0, 0),
  (35, .ireturn, 1, 1, 0, 0, 0, 0)]
/-- SpanCopier$Taker.sumOfBytes -/
def ai_k83 : List ai_N := [(0, .iconst 0, 1, 0, 0, 0, 0, 0),
  (1, .istore_n 1, 1, 0, 0, 0, 0, 0),
  (2, .iconst 0, 1, 0, 0, 0, 0, 0),
  (3, .istore_n 2, 1, 0, 0, 0, 0, 0),
  (4, .iload_n 2, 1, 0, 0, 0, 0, 0),
  (5, .aload_n 0, 1, 0, 0, 0, 0, 0),
  (6, .getfield 32, 3, 3, 7, 0, 1211, 0),
  (9, .if_icmp .ge 30, 3, 0, 0, 0, 0, 0),
  (39, .iload_n 1, 1, 0, 0, 0, 0, 0),
  (40, .ireturn, 1, 0, 0, 0, 0, 0)]
/-- SpanCopier$Tape.<init> -/
def ai_k84 : List ai_N := [(0, .aload_n 0, 1, 0, 0, 0, 0, 0),
  (1, .invokespecial 3, 3, 0, 1, 7, 1036, 0),
  (4, .aload_n 0, 1, 0, 0, 0, 0, 0),
  (5, .sipush 940, 3, 0, 0, 0, 0, 0),
  (8, .newarray .byte, 2, 2, 0, 0, 0, 0),
  (10, .putfield 11, 3, 0, 8, 2, 1039, 2),
  (13, .aload_n 0, 1, 0, 0, 0, 0, 0),
  (14, .getstatic 15, 3, 0, 0, 0, 1037, 0),
  (17, .putfield 21, 3, 8, 8, 0, 1057, 2),
  (20, .return_, 1, 0, 0, 0, 0, 0)]
/-- SpanCopier$Tape.fail -/
def ai_k85 : List ai_N := [(0, .aload_n 0, 1, 0, 0, 0, 0, 0),
  (1, .getfield 40, 3, 9, 8, 0, 1061, 0),
  (4, .ifCond .ne 16, 3, 0, 0, 0, 0, 0),
  (7, .aload_n 0, 1, 0, 0, 0, 0, 0),
  (8, .iload_n 1, 1, 0, 0, 0, 0, 0),
  (9, .putfield 40, 3, 9, 8, 0, 1061, 0),
  (12, .aload_n 0, 1, 0, 0, 0, 0, 0),
  (13, .aload_n 0, 1, 0, 0, 0, 0, 0),
  (14, .getfield 49, 3, 5, 8, 0, 1050, 0),
  (17, .putfield 43, 3, 10, 8, 0, 1063, 0),
  (20, .iconst 0, 1, 0, 0, 0, 0, 0),
  (21, .ireturn, 1, 1, 0, 0, 0, 0)]
/-- SpanCopier$Tape.open -/
def ai_k86 : List ai_N := [(0, .aload_n 0, 1, 0, 0, 0, 0, 0),
  (1, .aload_n 0, 1, 0, 0, 0, 0, 0),
  (2, .getfield 24, 3, 1, 8, 0, 1042, 0),
  (5, .iload_n 1, 1, 0, 0, 0, 0, 0),
  (6, .invokestatic 28, 3, 176, 2, 5, 2197, 99),
  (9, .putfield 34, 3, 2, 8, 0, 1043, 0),
  (12, .aload_n 0, 1, 0, 0, 0, 0, 0),
  (13, .iconst 0, 1, 0, 0, 0, 0, 0),
  (14, .putfield 37, 3, 3, 8, 0, 1044, 0),
  (17, .aload_n 0, 1, 0, 0, 0, 0, 0),
  (18, .iconst 0, 1, 0, 0, 0, 0, 0),
  (19, .putfield 40, 3, 9, 8, 0, 1061, 0),
  (22, .aload_n 0, 1, 0, 0, 0, 0, 0),
  (23, .iconst 0, 1, 0, 0, 0, 0, 0),
  (24, .putfield 43, 3, 10, 8, 0, 1063, 0),
  (27, .aload_n 0, 1, 0, 0, 0, 0, 0),
  (28, .invokevirtual 46, 3, 88, 1, 0, 2200, 8),
  (31, .return_, 1, 0, 0, 0, 0, 0)]
/-- SpanCopier$Tape.put -/
def ai_k87 : List ai_N := [(0, .bipush 24, 2, 0, 0, 0, 0, 0),
  (2, .istore_n 2, 1, 0, 0, 0, 0, 0),
  (3, .iload_n 2, 1, 0, 0, 0, 0, 0),
  (4, .ifCond .lt 42, 3, 0, 0, 0, 0, 0),
  (7, .aload_n 0, 1, 0, 0, 0, 0, 0),
  (8, .getfield 24, 3, 1, 8, 0, 1042, 0),
  (11, .sipush 940, 3, 0, 0, 0, 0, 0),
  (14, .if_icmp .ge 32, 3, 0, 0, 0, 0, 0),
  (17, .aload_n 0, 1, 0, 0, 0, 0, 0),
  (18, .getfield 11, 3, 0, 8, 0, 1039, 2),
  (21, .aload_n 0, 1, 0, 0, 0, 0, 0),
  (22, .getfield 24, 3, 1, 8, 0, 1042, 0),
  (25, .iload_n 1, 1, 0, 0, 0, 0, 0),
  (26, .iload_n 2, 1, 0, 0, 0, 0, 0),
  (27, .ishr, 1, 0, 0, 0, 0, 0),
  (28, .i2b, 1, 0, 0, 0, 0, 0),
  (29, .bastore, 1, 0, 0, 0, 0, 0),
  (30, .aload_n 0, 1, 0, 0, 0, 0, 0),
  (31, .dup, 1, 0, 0, 0, 0, 0),
  (32, .getfield 24, 3, 1, 8, 0, 1042, 0),
  (35, .iconst 1, 1, 0, 0, 0, 0, 0),
  (36, .iadd, 1, 0, 0, 0, 0, 0),
  (37, .putfield 24, 3, 1, 8, 0, 1042, 0),
  (40, .iinc 2 (-8), 3, 0, 0, 0, 0, 0),
  (43, .goto (-40), 3, 0, 0, 0, 0, 0),
  (46, .return_, 1, 0, 0, 0, 0, 0)]
/-- SpanCopier$Tape.step -/
def ai_k88 : List ai_N := [(0, .aload_n 0, 1, 0, 0, 0, 0, 0),
  (1, .getfield 37, 3, 3, 8, 0, 1044, 0),
  (4, .aload_n 0, 1, 0, 0, 0, 0, 0),
  (5, .getfield 34, 3, 2, 8, 0, 1043, 0),
  (8, .if_icmp .ge 30, 3, 0, 0, 0, 0, 0),
  (38, .aload_n 0, 1, 0, 0, 0, 0, 0),
  (39, .iconst 0, 1, 0, 0, 0, 0, 0),
  (40, .putfield 60, 3, 6, 8, 0, 1053, 0),
  (43, .aload_n 0, 1, 0, 0, 0, 0, 0),
  (44, .lconst 0, 1, 0, 0, 0, 0, 0),
  (45, .putfield 63, 3, 7, 8, 0, 1055, 3),
  (48, .aload_n 0, 1, 0, 0, 0, 0, 0),
  (49, .getstatic 15, 3, 0, 0, 0, 1037, 0),
  (52, .putfield 21, 3, 8, 8, 0, 1057, 2),
  (55, .aload_n 0, 1, 0, 0, 0, 0, 0),
  (56, .getfield 37, 3, 3, 8, 0, 1044, 0),
  (59, .aload_n 0, 1, 0, 0, 0, 0, 0),
  (60, .getfield 34, 3, 2, 8, 0, 1043, 0),
  (63, .if_icmp .lt 32, 3, 0, 0, 0, 0, 0),
  (66, .aload_n 0, 1, 0, 0, 0, 0, 0),
  (67, .aload_n 0, 1, 0, 0, 0, 0, 0),
  (68, .getfield 34, 3, 2, 8, 0, 1043, 0),
  (71, .putfield 49, 3, 5, 8, 0, 1050, 0),
  (74, .aload_n 0, 1, 0, 0, 0, 0, 0),
  (75, .aload_n 0, 1, 0, 0, 0, 0, 0),
  (76, .getfield 24, 3, 1, 8, 0, 1042, 0),
  (79, .aload_n 0, 1, 0, 0, 0, 0, 0),
  (80, .getfield 34, 3, 2, 8, 0, 1043, 0),
  (83, .if_icmp .le 7, 3, 0, 0, 0, 0, 0),
  (90, .iconst 0, 1, 0, 0, 0, 0, 0),
  (91, .putfield 67, 3, 4, 8, 0, 1048, 0),
  (94, .return_, 1, 0, 0, 0, 0, 0)]
/-- SpanCopier$World.<init> -/
def ai_k89 : List ai_N := [(0, .aload_n 0, 1, 0, 0, 0, 0, 0),
  (1, .invokespecial 3, 3, 0, 1, 7, 1121, 0),
  (4, .aload_n 0, 1, 0, 0, 0, 0, 0),
  (5, .new 9, 3, 1, 5, 0, 1122, 0),
  (8, .dup, 1, 0, 0, 0, 0, 0),
  (9, .invokespecial 11, 3, 44, 1, 3, 1124, 1),
  (12, .putfield 12, 3, 0, 9, 2, 2084, 2),
  (15, .aload_n 0, 1, 0, 0, 0, 0, 0),
  (16, .new 18, 3, 4, 6, 0, 1151, 0),
  (19, .dup, 1, 0, 0, 0, 0, 0),
  (20, .invokespecial 20, 3, 62, 1, 3, 1153, 4),
  (23, .putfield 21, 3, 1, 9, 2, 2088, 2),
  (26, .aload_n 0, 1, 0, 0, 0, 0, 0),
  (27, .new 25, 3, 7, 9, 0, 1196, 0),
  (30, .dup, 1, 0, 0, 0, 0, 0),
  (31, .invokespecial 27, 3, 77, 1, 3, 1198, 7),
  (34, .putfield 28, 3, 2, 9, 2, 2090, 2),
  (37, .aload_n 0, 1, 0, 0, 0, 0, 0),
  (38, .new 25, 3, 7, 9, 0, 1196, 0),
  (41, .dup, 1, 0, 0, 0, 0, 0),
  (42, .invokespecial 27, 3, 77, 1, 3, 1198, 7),
  (45, .putfield 32, 3, 3, 9, 2, 2092, 2),
  (48, .aload_n 0, 1, 0, 0, 0, 0, 0),
  (49, .new 35, 3, 6, 5, 0, 2000, 0),
  (52, .dup, 1, 0, 0, 0, 0, 0),
  (53, .invokespecial 37, 3, 73, 1, 3, 2002, 6),
  (56, .putfield 38, 3, 4, 9, 2, 2093, 2),
  (59, .aload_n 0, 1, 0, 0, 0, 0, 0),
  (60, .new 42, 3, 2, 11, 0, 2023, 0),
  (63, .dup, 1, 0, 0, 0, 0, 0),
  (64, .invokespecial 44, 3, 52, 1, 3, 2025, 2),
  (67, .putfield 45, 3, 5, 9, 0, 2096, 2),
  (70, .aload_n 0, 1, 0, 0, 0, 0, 0),
  (71, .getstatic 49, 3, 42, 0, 0, 2082, 0),
  (74, .putfield 53, 3, 7, 9, 0, 2102, 2),
  (77, .return_, 1, 0, 0, 0, 0, 0)]
/-- SpanCopier$World.begin -/
def ai_k90 : List ai_N := [(0, .aload_n 0, 1, 0, 0, 0, 0, 0),
  (1, .aload_n 1, 1, 0, 0, 0, 0, 0),
  (2, .putfield 45, 3, 5, 9, 0, 2096, 2),
  (5, .aload_n 0, 1, 0, 0, 0, 0, 0),
  (6, .aconst_null, 1, 0, 0, 0, 0, 0),
  (7, .putfield 69, 3, 6, 9, 0, 2100, 2),
  (10, .aload_n 0, 1, 0, 0, 0, 0, 0),
  (11, .getstatic 49, 3, 42, 0, 0, 2082, 0),
  (14, .invokevirtual 80, 3, 97, 2, 0, 3074, 9),
  (17, .return_, 1, 0, 0, 0, 0, 0)]
/-- SpanCopier$World.copyFrom -/
def ai_k91 : List ai_N := [(0, .aload_n 0, 1, 0, 0, 0, 0, 0),
  (1, .getfield 12, 3, 0, 9, 0, 2084, 2),
  (4, .aload_n 1, 1, 0, 0, 0, 0, 0),
  (5, .getfield 12, 3, 0, 9, 0, 2084, 2),
  (8, .invokevirtual 56, 3, 46, 2, 1, 3121, 1),
  (11, .aload_n 0, 1, 0, 0, 0, 0, 0),
  (12, .getfield 21, 3, 1, 9, 0, 2088, 2),
  (15, .aload_n 1, 1, 0, 0, 0, 0, 0),
  (16, .getfield 21, 3, 1, 9, 0, 2088, 2),
  (19, .invokevirtual 60, 3, 65, 2, 1, 3126, 4),
  (22, .aload_n 0, 1, 0, 0, 0, 0, 0),
  (23, .getfield 28, 3, 2, 9, 0, 2090, 2),
  (26, .aload_n 1, 1, 0, 0, 0, 0, 0),
  (27, .getfield 28, 3, 2, 9, 0, 2090, 2),
  (30, .invokevirtual 63, 3, 81, 2, 1, 3135, 7),
  (33, .aload_n 0, 1, 0, 0, 0, 0, 0),
  (34, .getfield 32, 3, 3, 9, 0, 2092, 2),
  (37, .aload_n 1, 1, 0, 0, 0, 0, 0),
  (38, .getfield 32, 3, 3, 9, 0, 2092, 2),
  (41, .invokevirtual 63, 3, 81, 2, 1, 3135, 7),
  (44, .aload_n 0, 1, 0, 0, 0, 0, 0),
  (45, .getfield 38, 3, 4, 9, 0, 2093, 2),
  (48, .aload_n 1, 1, 0, 0, 0, 0, 0),
  (49, .getfield 38, 3, 4, 9, 0, 2093, 2),
  (52, .invokevirtual 66, 3, 75, 2, 1, 3141, 6),
  (55, .aload_n 0, 1, 0, 0, 0, 0, 0),
  (56, .aload_n 1, 1, 0, 0, 0, 0, 0),
  (57, .getfield 45, 3, 5, 9, 0, 2096, 2),
  (60, .putfield 45, 3, 5, 9, 0, 2096, 2),
  (63, .aload_n 0, 1, 0, 0, 0, 0, 0),
  (64, .aload_n 1, 1, 0, 0, 0, 0, 0),
  (65, .getfield 69, 3, 6, 9, 0, 2100, 2),
  (68, .putfield 69, 3, 6, 9, 0, 2100, 2),
  (71, .aload_n 0, 1, 0, 0, 0, 0, 0),
  (72, .aload_n 1, 1, 0, 0, 0, 0, 0),
  (73, .getfield 53, 3, 7, 9, 0, 2102, 2),
  (76, .putfield 53, 3, 7, 9, 0, 2102, 2),
  (79, .aload_n 0, 1, 0, 0, 0, 0, 0),
  (80, .aload_n 1, 1, 0, 0, 0, 0, 0),
  (81, .getfield 73, 3, 8, 9, 0, 2106, 0),
  (84, .putfield 73, 3, 8, 9, 0, 2106, 0),
  (87, .aload_n 0, 1, 0, 0, 0, 0, 0),
  (88, .aload_n 1, 1, 0, 0, 0, 0, 0),
  (89, .getfield 77, 3, 9, 9, 0, 2109, 0),
  (92, .putfield 77, 3, 9, 9, 0, 2109, 0),
  (95, .return_, 1, 0, 0, 0, 0, 0)]
/-- SpanCopier$World.crashTaker -/
def ai_k92 : List ai_N := [(0, .aload_n 0, 1, 0, 0, 0, 0, 0),
  (1, .getfield 28, 3, 2, 9, 0, 2090, 2),
  (4, .getfield 166, 3, 2, 7, 1, 1209, 0),
  (7, .ifCond .eq 13, 3, 0, 0, 0, 0, 0),
  (20, .iconst 1, 1, 0, 0, 0, 0, 0),
  (21, .ireturn, 1, 0, 0, 0, 0, 0)]
/-- SpanCopier$World.draw -/
def ai_k93 : List ai_N := [(0, .aload_n 0, 1, 0, 0, 0, 0, 0),
  (1, .aload_n 0, 1, 0, 0, 0, 0, 0),
  (2, .getfield 154, 3, 10, 9, 0, 2111, 0),
  (5, .ldc 157, 2, 1103515245, 0, 0, 5026, 0),
  (7, .imul, 1, 0, 0, 0, 0, 0),
  (8, .sipush 12345, 3, 0, 0, 0, 0, 0),
  (11, .iadd, 1, 0, 0, 0, 0, 0),
  (12, .putfield 154, 3, 10, 9, 0, 2111, 0),
  (15, .iload_n 1, 1, 0, 0, 0, 0, 0),
  (16, .iconst 1, 1, 0, 0, 0, 0, 0),
  (17, .if_icmp .ge 7, 3, 0, 0, 0, 0, 0),
  (24, .aload_n 0, 1, 0, 0, 0, 0, 0),
  (25, .getfield 154, 3, 10, 9, 0, 2111, 0),
  (28, .bipush 8, 2, 0, 0, 0, 0, 0),
  (30, .iushr, 1, 0, 0, 0, 0, 0),
  (31, .iload_n 1, 1, 0, 0, 0, 0, 0),
  (32, .irem, 1, 0, 0, 0, 0, 0),
  (33, .ireturn, 1, 0, 0, 0, 0, 0)]
/-- SpanCopier$World.drawWhatHappens -/
def ai_k94 : List ai_N := [(0, .aload_n 0, 1, 0, 0, 0, 0, 0),
  (1, .bipush 12, 2, 0, 0, 0, 0, 0),
  (3, .invokevirtual 137, 3, 93, 2, 0, 5022, 9),
  (6, .istore_n 1, 1, 0, 0, 0, 0, 0),
  (7, .iload_n 1, 1, 0, 0, 0, 0, 0),
  (8, .iconst 4, 1, 0, 0, 0, 0, 0),
  (9, .if_icmp .ne 18, 3, 0, 0, 0, 0, 0),
  (12, .aload_n 0, 1, 0, 0, 0, 0, 0),
  (13, .bipush 8, 2, 0, 0, 0, 0, 0),
  (15, .invokevirtual 137, 3, 93, 2, 0, 5022, 9),
  (18, .ifCond .ne 8, 3, 0, 0, 0, 0, 0),
  (21, .aload_n 0, 1, 0, 0, 0, 0, 0),
  (22, .invokevirtual 141, 3, 92, 1, 0, 5027, 9),
  (25, .pop, 1, 0, 0, 0, 0, 0),
  (26, .return_, 1, 0, 0, 0, 0, 0),
  (27, .iload_n 1, 1, 0, 0, 0, 0, 0),
  (28, .iconst 4, 1, 0, 0, 0, 0, 0),
  (29, .if_icmp .gt 13, 3, 0, 0, 0, 0, 0),
  (32, .aload_n 0, 1, 0, 0, 0, 0, 0),
  (33, .getfield 12, 3, 0, 9, 0, 2084, 2),
  (36, .getfield 112, 3, 2, 1, 1, 1134, 0),
  (39, .ifCond .ne 4, 3, 0, 0, 0, 0, 0),
  (42, .return_, 1, 0, 0, 0, 0, 0)]
/-- SpanCopier$World.passTick -/
def ai_k95 : List ai_N := [(0, .aload_n 0, 1, 0, 0, 0, 0, 0),
  (1, .getfield 12, 3, 0, 9, 0, 2084, 2),
  (4, .aload_n 0, 1, 0, 0, 0, 0, 0),
  (5, .getfield 77, 3, 9, 9, 0, 2109, 0),
  (8, .aload_n 0, 1, 0, 0, 0, 0, 0),
  (9, .getfield 45, 3, 5, 9, 0, 2096, 2),
  (12, .getfield 105, 3, 0, 2, 1, 2038, 2),
  (15, .iconst 2, 1, 0, 0, 0, 0, 0),
  (16, .iaload, 1, 0, 0, 0, 0, 0),
  (17, .iadd, 1, 0, 0, 0, 0, 0),
  (18, .putfield 109, 3, 4, 1, 1, 1138, 0),
  (21, .iconst 0, 1, 0, 0, 0, 0, 0),
  (22, .istore_n 1, 1, 0, 0, 0, 0, 0),
  (23, .aload_n 0, 1, 0, 0, 0, 0, 0),
  (24, .getfield 12, 3, 0, 9, 0, 2084, 2),
  (27, .getfield 112, 3, 2, 1, 1, 1134, 0),
  (30, .istore_n 2, 1, 0, 0, 0, 0, 0),
  (31, .iload_n 2, 1, 0, 0, 0, 0, 0),
  (32, .ifCond .le 73, 3, 0, 0, 0, 0, 0),
  (105, .aload_n 0, 1, 0, 0, 0, 0, 0),
  (106, .getfield 21, 3, 1, 9, 0, 2088, 2),
  (109, .aload_n 0, 1, 0, 0, 0, 0, 0),
  (110, .invokevirtual 133, 3, 63, 2, 1, 4032, 4),
  (113, .aload_n 0, 1, 0, 0, 0, 0, 0),
  (114, .getfield 28, 3, 2, 9, 0, 2090, 2),
  (117, .aload_n 0, 1, 0, 0, 0, 0, 0),
  (118, .invokevirtual 136, 3, 78, 2, 1, 4055, 7),
  (121, .aload_n 0, 1, 0, 0, 0, 0, 0),
  (122, .dup, 1, 0, 0, 0, 0, 0),
  (123, .getfield 77, 3, 9, 9, 0, 2109, 0),
  (126, .iconst 1, 1, 0, 0, 0, 0, 0),
  (127, .iadd, 1, 0, 0, 0, 0, 0),
  (128, .putfield 77, 3, 9, 9, 0, 2109, 0),
  (131, .aload_n 0, 1, 0, 0, 0, 0, 0),
  (132, .getfield 45, 3, 5, 9, 0, 2096, 2),
  (135, .getfield 105, 3, 0, 2, 1, 2038, 2),
  (138, .iconst 5, 1, 0, 0, 0, 0, 0),
  (139, .iaload, 1, 0, 0, 0, 0, 0),
  (140, .istore_n 2, 1, 0, 0, 0, 0, 0),
  (141, .iload_n 2, 1, 0, 0, 0, 0, 0),
  (142, .ifCond .le 23, 3, 0, 0, 0, 0, 0),
  (145, .aload_n 0, 1, 0, 0, 0, 0, 0),
  (146, .getfield 77, 3, 9, 9, 0, 2109, 0),
  (149, .iload_n 2, 1, 0, 0, 0, 0, 0),
  (150, .irem, 1, 0, 0, 0, 0, 0),
  (151, .ifCond .ne 14, 3, 0, 0, 0, 0, 0),
  (154, .aload_n 0, 1, 0, 0, 0, 0, 0),
  (155, .getfield 32, 3, 3, 9, 0, 2092, 2),
  (158, .aload_n 0, 1, 0, 0, 0, 0, 0),
  (159, .getfield 28, 3, 2, 9, 0, 2090, 2),
  (162, .invokevirtual 63, 3, 81, 2, 1, 3135, 7),
  (165, .return_, 1, 0, 0, 0, 0, 0)]
/-- SpanCopier$World.passTicks -/
def ai_k96 : List ai_N := [(0, .iconst 0, 1, 0, 0, 0, 0, 0),
  (1, .istore_n 2, 1, 0, 0, 0, 0, 0),
  (2, .iload_n 2, 1, 0, 0, 0, 0, 0),
  (3, .iload_n 1, 1, 0, 0, 0, 0, 0),
  (4, .if_icmp .ge 23, 3, 0, 0, 0, 0, 0),
  (7, .aload_n 0, 1, 0, 0, 0, 0, 0),
  (8, .getfield 77, 3, 9, 9, 0, 2109, 0),
  (11, .sipush 2000, 3, 0, 0, 0, 0, 0),
  (14, .if_icmp .ge 13, 3, 0, 0, 0, 0, 0),
  (17, .aload_n 0, 1, 0, 0, 0, 0, 0),
  (18, .invokevirtual 102, 3, 95, 1, 0, 3174, 9),
  (21, .iinc 2 1, 3, 0, 0, 0, 0, 0),
  (24, .goto (-22), 3, 0, 0, 0, 0, 0),
  (27, .iload_n 2, 1, 0, 0, 0, 0, 0),
  (28, .ireturn, 1, 0, 0, 0, 0, 0)]
/-- SpanCopier$World.restart -/
def ai_k97 : List ai_N := [(0, .aload_n 0, 1, 0, 0, 0, 0, 0),
  (1, .getfield 12, 3, 0, 9, 0, 2084, 2),
  (4, .invokevirtual 87, 3, 45, 1, 1, 3078, 1),
  (7, .aload_n 0, 1, 0, 0, 0, 0, 0),
  (8, .getfield 21, 3, 1, 9, 0, 2088, 2),
  (11, .invokevirtual 90, 3, 64, 1, 1, 3082, 4),
  (14, .aload_n 0, 1, 0, 0, 0, 0, 0),
  (15, .getfield 28, 3, 2, 9, 0, 2090, 2),
  (18, .invokevirtual 91, 3, 80, 1, 1, 3093, 7),
  (21, .aload_n 0, 1, 0, 0, 0, 0, 0),
  (22, .getfield 32, 3, 3, 9, 0, 2092, 2),
  (25, .invokevirtual 91, 3, 80, 1, 1, 3093, 7),
  (28, .aload_n 0, 1, 0, 0, 0, 0, 0),
  (29, .getfield 38, 3, 4, 9, 0, 2093, 2),
  (32, .aload_n 0, 1, 0, 0, 0, 0, 0),
  (33, .getfield 45, 3, 5, 9, 0, 2096, 2),
  (36, .getfield 92, 3, 8, 2, 1, 2054, 0),
  (39, .invokevirtual 95, 3, 74, 2, 1, 3098, 6),
  (42, .aload_n 0, 1, 0, 0, 0, 0, 0),
  (43, .iconst 0, 1, 0, 0, 0, 0, 0),
  (44, .putfield 77, 3, 9, 9, 0, 2109, 0),
  (47, .aload_n 0, 1, 0, 0, 0, 0, 0),
  (48, .aload_n 1, 1, 0, 0, 0, 0, 0),
  (49, .putfield 53, 3, 7, 9, 0, 2102, 2),
  (52, .aload_n 0, 1, 0, 0, 0, 0, 0),
  (53, .iconst 0, 1, 0, 0, 0, 0, 0),
  (54, .putfield 73, 3, 8, 9, 0, 2106, 0),
  (57, .iconst 0, 1, 0, 0, 0, 0, 0),
  (58, .istore_n 2, 1, 0, 0, 0, 0, 0),
  (59, .iload_n 2, 1, 0, 0, 0, 0, 0),
  (60, .aload_n 1, 1, 0, 0, 0, 0, 0),
  (61, .arraylength, 1, 0, 0, 0, 0, 0),
  (62, .if_icmp .ge 25, 3, 0, 0, 0, 0, 0),
  (87, .return_, 1, 0, 0, 0, 0, 0)]
/-- SpanCopier$World.sendPrompt -/
def ai_k98 : List ai_N := [(0, .aload_n 0, 1, 0, 0, 0, 0, 0),
  (1, .getfield 21, 3, 1, 9, 0, 2088, 2),
  (4, .invokevirtual 158, 3, 66, 1, 1, 4145, 4),
  (7, .ifCond .ne 5, 3, 0, 0, 0, 0, 0),
  (10, .iconst 1, 1, 0, 0, 0, 0, 0),
  (11, .ireturn, 1, 0, 0, 0, 0, 0)]
/-- SpanCopierModel.<init> -/
def ai_k99 : List ai_N := [(0, .aload_n 0, 1, 0, 0, 0, 0, 0),
  (1, .invokespecial 93, 3, 0, 1, 7, 6067, 0),
  (4, .aload_n 0, 1, 0, 0, 0, 0, 0),
  (5, .sipush 940, 3, 0, 0, 0, 0, 0),
  (8, .newarray .int, 2, 1, 0, 0, 0, 0),
  (10, .putfield 7, 3, 1, 11, 2, 6081, 2),
  (13, .aload_n 0, 1, 0, 0, 0, 0, 0),
  (14, .sipush 3266, 3, 0, 0, 0, 0, 0),
  (17, .newarray .int, 2, 1, 0, 0, 0, 0),
  (19, .putfield 98, 3, 14, 11, 2, 6094, 2),
  (22, .aload_n 0, 1, 0, 0, 0, 0, 0),
  (23, .bipush 28, 2, 0, 0, 0, 0, 0),
  (25, .newarray .int, 2, 1, 0, 0, 0, 0),
  (27, .putfield 101, 3, 15, 11, 2, 6095, 2),
  (30, .aload_n 0, 1, 0, 0, 0, 0, 0),
  (31, .sipush 6532, 3, 0, 0, 0, 0, 0),
  (34, .newarray .int, 2, 1, 0, 0, 0, 0),
  (36, .putfield 104, 3, 16, 11, 2, 6096, 2),
  (39, .aload_n 0, 1, 0, 0, 0, 0, 0),
  (40, .sipush 23968, 3, 0, 0, 0, 0, 0),
  (43, .newarray .int, 2, 1, 0, 0, 0, 0),
  (45, .putfield 107, 3, 17, 11, 2, 6097, 2),
  (48, .aload_n 0, 1, 0, 0, 0, 0, 0),
  (49, .sipush 2996, 3, 0, 0, 0, 0, 0),
  (52, .newarray .int, 2, 1, 0, 0, 0, 0),
  (54, .putfield 110, 3, 18, 11, 2, 6098, 2),
  (57, .aload_n 0, 1, 0, 0, 0, 0, 0),
  (58, .sipush 2996, 3, 0, 0, 0, 0, 0),
  (61, .newarray .int, 2, 1, 0, 0, 0, 0),
  (63, .putfield 113, 3, 19, 11, 2, 6099, 2),
  (66, .aload_n 0, 1, 0, 0, 0, 0, 0),
  (67, .bipush 10, 2, 0, 0, 0, 0, 0),
  (69, .newarray .long, 2, 4, 0, 0, 0, 0),
  (71, .putfield 116, 3, 20, 11, 2, 6100, 2),
  (74, .aload_n 0, 1, 0, 0, 0, 0, 0),
  (75, .bipush 10, 2, 0, 0, 0, 0, 0),
  (77, .newarray .long, 2, 4, 0, 0, 0, 0),
  (79, .putfield 120, 3, 21, 11, 2, 6101, 2),
  (82, .aload_n 0, 1, 0, 0, 0, 0, 0),
  (83, .bipush 20, 2, 0, 0, 0, 0, 0),
  (85, .newarray .long, 2, 4, 0, 0, 0, 0),
  (87, .putfield 123, 3, 22, 11, 2, 6102, 2),
  (90, .aload_n 0, 1, 0, 0, 0, 0, 0),
  (91, .iconst 2, 1, 0, 0, 0, 0, 0),
  (92, .newarray .boolean, 2, 3, 0, 0, 0, 0),
  (94, .putfield 126, 3, 23, 11, 2, 6103, 2),
  (97, .aload_n 0, 1, 0, 0, 0, 0, 0),
  (98, .bipush 7, 2, 0, 0, 0, 0, 0),
  (100, .newarray .boolean, 2, 3, 0, 0, 0, 0),
  (102, .putfield 130, 3, 24, 11, 2, 6104, 2),
  (105, .aload_n 0, 1, 0, 0, 0, 0, 0),
  (106, .bipush 38, 2, 0, 0, 0, 0, 0),
  (108, .newarray .int, 2, 1, 0, 0, 0, 0),
  (110, .putfield 133, 3, 26, 11, 2, 6106, 2),
  (113, .aload_n 0, 1, 0, 0, 0, 0, 0),
  (114, .iconst 3, 1, 0, 0, 0, 0, 0),
  (115, .newarray .int, 2, 1, 0, 0, 0, 0),
  (117, .putfield 136, 3, 27, 11, 2, 6107, 2),
  (120, .aload_n 0, 1, 0, 0, 0, 0, 0),
  (121, .bipush 120, 2, 0, 0, 0, 0, 0),
  (123, .newarray .int, 2, 1, 0, 0, 0, 0),
  (125, .putfield 139, 3, 30, 11, 2, 6110, 2),
  (128, .aload_n 0, 1, 0, 0, 0, 0, 0),
  (129, .iconst 4, 1, 0, 0, 0, 0, 0),
  (130, .newarray .int, 2, 1, 0, 0, 0, 0),
  (132, .putfield 142, 3, 31, 11, 2, 6111, 2),
  (135, .aload_n 0, 1, 0, 0, 0, 0, 0),
  (136, .sipush 240, 3, 0, 0, 0, 0, 0),
  (139, .newarray .int, 2, 1, 0, 0, 0, 0),
  (141, .putfield 145, 3, 34, 11, 2, 6114, 2),
  (144, .aload_n 0, 1, 0, 0, 0, 0, 0),
  (145, .invokevirtual 148, 3, 160, 1, 0, 6068, 11),
  (148, .iconst 0, 1, 0, 0, 0, 0, 0),
  (149, .istore_n 1, 1, 0, 0, 0, 0, 0),
  (150, .iload_n 1, 1, 0, 0, 0, 0, 0),
  (151, .bipush 28, 2, 0, 0, 0, 0, 0),
  (153, .if_icmp .ge 21, 3, 0, 0, 0, 0, 0),
  (156, .aload_n 0, 1, 0, 0, 0, 0, 0),
  (157, .getfield 98, 3, 14, 11, 0, 6094, 2),
  (160, .iload_n 1, 1, 0, 0, 0, 0, 0),
  (161, .aload_n 0, 1, 0, 0, 0, 0, 0),
  (162, .getfield 101, 3, 15, 11, 0, 6095, 2),
  (165, .iload_n 1, 1, 0, 0, 0, 0, 0),
  (166, .iaload, 1, 0, 0, 0, 0, 0),
  (167, .iastore, 1, 0, 0, 0, 0, 0),
  (168, .iinc 1 1, 3, 0, 0, 0, 0, 0),
  (171, .goto (-21), 3, 0, 0, 0, 0, 0),
  (174, .aload_n 0, 1, 0, 0, 0, 0, 0),
  (175, .invokevirtual 151, 3, 161, 1, 0, 6072, 11),
  (178, .return_, 1, 0, 0, 0, 0, 0)]
/-- SpanCopierModel.act -/
def ai_k100 : List ai_N := [(0, .iload 4, 2, 0, 0, 0, 0, 0),
  (2, .ifCond .ne 5, 3, 0, 0, 0, 0, 0),
  (5, .iconst (-1), 1, 0, 0, 0, 0, 0),
  (6, .ireturn, 1, 0, 0, 0, 0, 0),
  (7, .iload_n 1, 1, 0, 0, 0, 0, 0),
  (8, .iconst 3, 1, 0, 0, 0, 0, 0),
  (9, .if_icmp .ne 11, 3, 0, 0, 0, 0, 0),
  (20, .aload_n 0, 1, 0, 0, 0, 0, 0),
  (21, .iload_n 1, 1, 0, 0, 0, 0, 0),
  (22, .iload_n 2, 1, 0, 0, 0, 0, 0),
  (23, .invokevirtual 334, 3, 175, 3, 0, 8004, 11),
  (26, .istore 5, 2, 0, 0, 0, 0, 0),
  (28, .iload 5, 2, 0, 0, 0, 0, 0),
  (30, .ifCond .eq 6, 3, 0, 0, 0, 0, 0),
  (33, .iload 5, 2, 0, 0, 0, 0, 0),
  (35, .ireturn, 1, 0, 0, 0, 0, 0)]
/-- SpanCopierModel.allCome -/
def ai_k101 : List ai_N := [(0, .iconst 0, 1, 0, 0, 0, 0, 0),
  (1, .istore_n 1, 1, 0, 0, 0, 0, 0),
  (2, .iload_n 1, 1, 0, 0, 0, 0, 0),
  (3, .aload_n 0, 1, 0, 0, 0, 0, 0),
  (4, .getfield 98, 3, 14, 11, 0, 6094, 2),
  (7, .bipush 45, 2, 0, 0, 0, 0, 0),
  (9, .iaload, 1, 0, 0, 0, 0, 0),
  (10, .if_icmp .ge 75, 3, 0, 0, 0, 0, 0),
  (85, .return_, 1, 0, 0, 0, 0, 0)]
/-- SpanCopierModel.bad -/
def ai_k102 : List ai_N := [(0, .aload_n 0, 1, 0, 0, 0, 0, 0),
  (1, .aload_n 0, 1, 0, 0, 0, 0, 0),
  (2, .getfield 30, 3, 7, 11, 0, 6087, 0),
  (5, .iconst 1, 1, 0, 0, 0, 0, 0),
  (6, .if_icmp .ne 7, 3, 0, 0, 0, 0, 0),
  (13, .iload_n 1, 1, 0, 0, 0, 0, 0),
  (14, .putfield 66, 3, 10, 11, 0, 6090, 0),
  (17, .aload_n 0, 1, 0, 0, 0, 0, 0),
  (18, .aload_n 0, 1, 0, 0, 0, 0, 0),
  (19, .getfield 24, 3, 6, 11, 0, 6086, 0),
  (22, .putfield 69, 3, 11, 11, 0, 6091, 0),
  (25, .iconst 0, 1, 0, 0, 0, 0, 0),
  (26, .ireturn, 1, 1, 0, 0, 0, 0)]
/-- SpanCopierModel.begin -/
def ai_k103 : List ai_N := [(0, .aload_n 0, 1, 0, 0, 0, 0, 0),
  (1, .iconst 0, 1, 0, 0, 0, 0, 0),
  (2, .putfield 1, 3, 0, 11, 0, 6080, 0),
  (5, .aload_n 0, 1, 0, 0, 0, 0, 0),
  (6, .aload_n 0, 1, 0, 0, 0, 0, 0),
  (7, .invokevirtual 89, 3, 165, 1, 0, 6207, 11),
  (10, .putfield 18, 3, 3, 11, 0, 6083, 0),
  (13, .aload_n 0, 1, 0, 0, 0, 0, 0),
  (14, .iload_n 1, 1, 0, 0, 0, 0, 0),
  (15, .putfield 27, 3, 4, 11, 0, 6084, 0),
  (18, .aload_n 0, 1, 0, 0, 0, 0, 0),
  (19, .iconst 0, 1, 0, 0, 0, 0, 0),
  (20, .putfield 66, 3, 10, 11, 0, 6090, 0),
  (23, .aload_n 0, 1, 0, 0, 0, 0, 0),
  (24, .iconst 0, 1, 0, 0, 0, 0, 0),
  (25, .putfield 21, 3, 5, 11, 0, 6085, 0),
  (28, .aload_n 0, 1, 0, 0, 0, 0, 0),
  (29, .invokevirtual 82, 3, 121, 1, 0, 6211, 11),
  (32, .return_, 1, 0, 0, 0, 0, 0)]
/-- SpanCopierModel.book -/
def ai_k104 : List ai_N := [(0, .aload_n 0, 1, 0, 0, 0, 0, 0),
  (1, .iconst 0, 1, 0, 0, 0, 0, 0),
  (2, .putfield 1, 3, 0, 11, 0, 6080, 0),
  (5, .iload_n 1, 1, 0, 0, 0, 0, 0),
  (6, .iconst 0, 1, 0, 0, 0, 0, 0),
  (7, .iconst 1, 1, 0, 0, 0, 0, 0),
  (8, .invokestatic 75, 3, 125, 3, 4, 7013, 11),
  (11, .ifCond .ne 7, 3, 0, 0, 0, 0, 0),
  (14, .sipush (-1000), 3, 0, 0, 0, 0, 0),
  (17, .ireturn, 1, 0, 0, 0, 0, 0),
  (18, .aload_n 0, 1, 0, 0, 0, 0, 0),
  (19, .sipush 400, 3, 0, 0, 0, 0, 0),
  (22, .invokevirtual 200, 3, 103, 2, 0, 6203, 11),
  (25, .aload_n 0, 1, 0, 0, 0, 0, 0),
  (26, .iconst 0, 1, 0, 0, 0, 0, 0),
  (27, .putfield 386, 3, 32, 11, 0, 6112, 0),
  (30, .aload_n 0, 1, 0, 0, 0, 0, 0),
  (31, .getfield 30, 3, 7, 11, 0, 6087, 0),
  (34, .ifCond .eq 31, 3, 0, 0, 0, 0, 0),
  (65, .aload_n 0, 1, 0, 0, 0, 0, 0),
  (66, .aload_n 0, 1, 0, 0, 0, 0, 0),
  (67, .getfield 113, 3, 19, 11, 0, 6099, 2),
  (70, .iconst 0, 1, 0, 0, 0, 0, 0),
  (71, .invokevirtual 318, 3, 151, 3, 0, 7082, 11),
  (74, .iconst 0, 1, 0, 0, 0, 0, 0),
  (75, .istore_n 2, 1, 0, 0, 0, 0, 0),
  (76, .iconst 0, 1, 0, 0, 0, 0, 0),
  (77, .istore_n 3, 1, 0, 0, 0, 0, 0),
  (78, .iload_n 2, 1, 0, 0, 0, 0, 0),
  (79, .aload_n 0, 1, 0, 0, 0, 0, 0),
  (80, .getfield 386, 3, 32, 11, 0, 6112, 0),
  (83, .if_icmp .ge 25, 3, 0, 0, 0, 0, 0),
  (108, .aload_n 0, 1, 0, 0, 0, 0, 0),
  (109, .getfield 142, 3, 31, 11, 0, 6111, 2),
  (112, .iconst 0, 1, 0, 0, 0, 0, 0),
  (113, .iload_n 3, 1, 0, 0, 0, 0, 0),
  (114, .iastore, 1, 0, 0, 0, 0, 0),
  (115, .aload_n 0, 1, 0, 0, 0, 0, 0),
  (116, .getfield 142, 3, 31, 11, 0, 6111, 2),
  (119, .iconst 1, 1, 0, 0, 0, 0, 0),
  (120, .iload_n 2, 1, 0, 0, 0, 0, 0),
  (121, .iastore, 1, 0, 0, 0, 0, 0),
  (122, .aload_n 0, 1, 0, 0, 0, 0, 0),
  (123, .getfield 142, 3, 31, 11, 0, 6111, 2),
  (126, .iconst 2, 1, 0, 0, 0, 0, 0),
  (127, .aload_n 0, 1, 0, 0, 0, 0, 0),
  (128, .getfield 98, 3, 14, 11, 0, 6094, 2),
  (131, .bipush 28, 2, 0, 0, 0, 0, 0),
  (133, .iaload, 1, 0, 0, 0, 0, 0),
  (134, .iastore, 1, 0, 0, 0, 0, 0),
  (135, .aload_n 0, 1, 0, 0, 0, 0, 0),
  (136, .getfield 142, 3, 31, 11, 0, 6111, 2),
  (139, .iconst 3, 1, 0, 0, 0, 0, 0),
  (140, .aload_n 0, 1, 0, 0, 0, 0, 0),
  (141, .getfield 98, 3, 14, 11, 0, 6094, 2),
  (144, .bipush 45, 2, 0, 0, 0, 0, 0),
  (146, .iaload, 1, 0, 0, 0, 0, 0),
  (147, .iastore, 1, 0, 0, 0, 0, 0),
  (148, .aload_n 0, 1, 0, 0, 0, 0, 0),
  (149, .iconst 1, 1, 0, 0, 0, 0, 0),
  (150, .putfield 398, 3, 33, 11, 0, 6113, 1),
  (153, .aload_n 0, 1, 0, 0, 0, 0, 0),
  (154, .iload_n 1, 1, 0, 0, 0, 0, 0),
  (155, .iconst 1, 1, 0, 0, 0, 0, 0),
  (156, .if_icmp .ne 11, 3, 0, 0, 0, 0, 0),
  (159, .iload_n 2, 1, 0, 0, 0, 0, 0),
  (160, .ifCond .le 7, 3, 0, 0, 0, 0, 0),
  (167, .iconst 0, 1, 0, 0, 0, 0, 0),
  (168, .invokevirtual 401, 3, 162, 2, 0, 8144, 11),
  (171, .iload_n 3, 1, 0, 0, 0, 0, 0),
  (172, .ifCond .ne 7, 3, 0, 0, 0, 0, 0),
  (175, .iconst (-1), 1, 0, 0, 0, 0, 0),
  (176, .goto 4, 3, 0, 0, 0, 0, 0),
  (180, .ireturn, 1, 0, 0, 0, 0, 0)]
/-- SpanCopierModel.come -/
def ai_k105 : List ai_N := [(0, .bipush 24, 2, 0, 0, 0, 0, 0),
  (2, .istore_n 2, 1, 0, 0, 0, 0, 0),
  (3, .iload_n 2, 1, 0, 0, 0, 0, 0),
  (4, .ifCond .lt 35, 3, 0, 0, 0, 0, 0),
  (7, .aload_n 0, 1, 0, 0, 0, 0, 0),
  (8, .getfield 7, 3, 1, 11, 0, 6081, 2),
  (11, .aload_n 0, 1, 0, 0, 0, 0, 0),
  (12, .getfield 11, 3, 2, 11, 0, 6082, 0),
  (15, .iload_n 1, 1, 0, 0, 0, 0, 0),
  (16, .iload_n 2, 1, 0, 0, 0, 0, 0),
  (17, .iushr, 1, 0, 0, 0, 0, 0),
  (18, .sipush 255, 3, 0, 0, 0, 0, 0),
  (21, .iand, 1, 0, 0, 0, 0, 0),
  (22, .iastore, 1, 0, 0, 0, 0, 0),
  (23, .aload_n 0, 1, 0, 0, 0, 0, 0),
  (24, .dup, 1, 0, 0, 0, 0, 0),
  (25, .getfield 11, 3, 2, 11, 0, 6082, 0),
  (28, .iconst 1, 1, 0, 0, 0, 0, 0),
  (29, .iadd, 1, 0, 0, 0, 0, 0),
  (30, .putfield 11, 3, 2, 11, 0, 6082, 0),
  (33, .iinc 2 (-8), 3, 0, 0, 0, 0, 0),
  (36, .goto (-33), 3, 0, 0, 0, 0, 0),
  (39, .return_, 1, 0, 0, 0, 0, 0)]
/-- SpanCopierModel.comeBack -/
def ai_k106 : List ai_N := [(0, .iconst 0, 1, 0, 0, 0, 0, 0),
  (1, .istore_n 3, 1, 0, 0, 0, 0, 0),
  (2, .iload_n 3, 1, 0, 0, 0, 0, 0),
  (3, .sipush 2996, 3, 0, 0, 0, 0, 0),
  (6, .if_icmp .ge 23, 3, 0, 0, 0, 0, 0),
  (9, .aload_n 0, 1, 0, 0, 0, 0, 0),
  (10, .getfield 98, 3, 14, 11, 0, 6094, 2),
  (13, .bipush 28, 2, 0, 0, 0, 0, 0),
  (15, .iload_n 3, 1, 0, 0, 0, 0, 0),
  (16, .iadd, 1, 0, 0, 0, 0, 0),
  (17, .aload_n 1, 1, 0, 0, 0, 0, 0),
  (18, .iload_n 2, 1, 0, 0, 0, 0, 0),
  (19, .iload_n 3, 1, 0, 0, 0, 0, 0),
  (20, .iadd, 1, 0, 0, 0, 0, 0),
  (21, .iaload, 1, 0, 0, 0, 0, 0),
  (22, .iastore, 1, 0, 0, 0, 0, 0),
  (23, .iinc 3 1, 3, 0, 0, 0, 0, 0),
  (26, .goto (-24), 3, 0, 0, 0, 0, 0),
  (29, .return_, 1, 0, 0, 0, 0, 0)]
/-- SpanCopierModel.count -/
def ai_k107 : List ai_N := [(0, .aload_n 0, 1, 0, 0, 0, 0, 0),
  (1, .iconst 0, 1, 0, 0, 0, 0, 0),
  (2, .putfield 1, 3, 0, 11, 0, 6080, 0),
  (5, .iload_n 1, 1, 0, 0, 0, 0, 0),
  (6, .tableswitch 113 0 8 #[50, 57, 64, 71, 78, 85, 92, 100, 108], 50, 0, 0, 0, 0, 0),
  (56, .aload_n 0, 1, 0, 0, 0, 0, 0),
  (57, .getfield 98, 3, 14, 11, 0, 6094, 2),
  (60, .iconst 0, 1, 0, 0, 0, 0, 0),
  (61, .iaload, 1, 0, 0, 0, 0, 0),
  (62, .ireturn, 1, 0, 0, 0, 0, 0),
  (63, .aload_n 0, 1, 0, 0, 0, 0, 0),
  (64, .getfield 98, 3, 14, 11, 0, 6094, 2),
  (67, .iconst 1, 1, 0, 0, 0, 0, 0),
  (68, .iaload, 1, 0, 0, 0, 0, 0),
  (69, .ireturn, 1, 0, 0, 0, 0, 0),
  (70, .aload_n 0, 1, 0, 0, 0, 0, 0),
  (71, .getfield 98, 3, 14, 11, 0, 6094, 2),
  (74, .iconst 2, 1, 0, 0, 0, 0, 0),
  (75, .iaload, 1, 0, 0, 0, 0, 0),
  (76, .ireturn, 1, 0, 0, 0, 0, 0),
  (77, .aload_n 0, 1, 0, 0, 0, 0, 0),
  (78, .getfield 98, 3, 14, 11, 0, 6094, 2),
  (81, .iconst 3, 1, 0, 0, 0, 0, 0),
  (82, .iaload, 1, 0, 0, 0, 0, 0),
  (83, .ireturn, 1, 0, 0, 0, 0, 0),
  (84, .aload_n 0, 1, 0, 0, 0, 0, 0),
  (85, .getfield 98, 3, 14, 11, 0, 6094, 2),
  (88, .iconst 4, 1, 0, 0, 0, 0, 0),
  (89, .iaload, 1, 0, 0, 0, 0, 0),
  (90, .ireturn, 1, 0, 0, 0, 0, 0),
  (91, .aload_n 0, 1, 0, 0, 0, 0, 0),
  (92, .getfield 98, 3, 14, 11, 0, 6094, 2),
  (95, .iconst 5, 1, 0, 0, 0, 0, 0),
  (96, .iaload, 1, 0, 0, 0, 0, 0),
  (97, .ireturn, 1, 0, 0, 0, 0, 0),
  (98, .aload_n 0, 1, 0, 0, 0, 0, 0),
  (99, .getfield 98, 3, 14, 11, 0, 6094, 2),
  (102, .bipush 7, 2, 0, 0, 0, 0, 0),
  (104, .iaload, 1, 0, 0, 0, 0, 0),
  (105, .ireturn, 1, 0, 0, 0, 0, 0),
  (106, .aload_n 0, 1, 0, 0, 0, 0, 0),
  (107, .getfield 98, 3, 14, 11, 0, 6094, 2),
  (110, .bipush 8, 2, 0, 0, 0, 0, 0),
  (112, .iaload, 1, 0, 0, 0, 0, 0),
  (113, .ireturn, 1, 0, 0, 0, 0, 0),
  (114, .aload_n 0, 1, 0, 0, 0, 0, 0),
  (115, .getfield 11, 3, 2, 11, 0, 6082, 0),
  (118, .ireturn, 1, 0, 0, 0, 0, 0),
  (119, .iconst (-1), 1, 0, 0, 0, 0, 0),
  (120, .ireturn, 1, 0, 0, 0, 0, 0)]
/-- SpanCopierModel.crash -/
def ai_k108 : List ai_N := [(0, .aload_n 0, 1, 0, 0, 0, 0, 0),
  (1, .iconst 0, 1, 0, 0, 0, 0, 0),
  (2, .putfield 1, 3, 0, 11, 0, 6080, 0),
  (5, .aload_n 0, 1, 0, 0, 0, 0, 0),
  (6, .iconst 5, 1, 0, 0, 0, 0, 0),
  (7, .iconst 0, 1, 0, 0, 0, 0, 0),
  (8, .iconst 0, 1, 0, 0, 0, 0, 0),
  (9, .iconst 1, 1, 0, 0, 0, 0, 0),
  (10, .invokevirtual 344, 3, 100, 5, 0, 7236, 11),
  (13, .ireturn, 1, 0, 0, 0, 0, 0)]
/-- SpanCopierModel.doIf -/
def ai_k109 : List ai_N := [(0, .aload_n 0, 1, 0, 0, 0, 0, 0),
  (1, .iload_n 1, 1, 0, 0, 0, 0, 0),
  (2, .iload_n 2, 1, 0, 0, 0, 0, 0),
  (3, .invokevirtual 334, 3, 175, 3, 0, 8004, 11),
  (6, .ifCond .ne 10, 3, 0, 0, 0, 0, 0),
  (16, .return_, 1, 0, 0, 0, 0, 0)]
/-- SpanCopierModel.draw -/
def ai_k110 : List ai_N := [(0, .aload_n 0, 1, 0, 0, 0, 0, 0),
  (1, .aload_n 0, 1, 0, 0, 0, 0, 0),
  (2, .getfield 367, 3, 29, 11, 0, 6109, 0),
  (5, .ldc_w 370, 3, 1103515245, 0, 0, 8115, 0),
  (8, .imul, 1, 0, 0, 0, 0, 0),
  (9, .sipush 12345, 3, 0, 0, 0, 0, 0),
  (12, .iadd, 1, 0, 0, 0, 0, 0),
  (13, .putfield 367, 3, 29, 11, 0, 6109, 0),
  (16, .aload_n 0, 1, 0, 0, 0, 0, 0),
  (17, .getfield 367, 3, 29, 11, 0, 6109, 0),
  (20, .bipush 8, 2, 0, 0, 0, 0, 0),
  (22, .iushr, 1, 0, 0, 0, 0, 0),
  (23, .iload_n 1, 1, 0, 0, 0, 0, 0),
  (24, .irem, 1, 0, 0, 0, 0, 0),
  (25, .ireturn, 1, 0, 0, 0, 0, 0)]
/-- SpanCopierModel.drawTicks -/
def ai_k111 : List ai_N := [(0, .aload_n 0, 1, 0, 0, 0, 0, 0),
  (1, .iload_n 2, 1, 0, 0, 0, 0, 0),
  (2, .putfield 367, 3, 29, 11, 0, 6109, 0),
  (5, .iload_n 1, 1, 0, 0, 0, 0, 0),
  (6, .sipush 2000, 3, 0, 0, 0, 0, 0),
  (9, .aload_n 0, 1, 0, 0, 0, 0, 0),
  (10, .getfield 98, 3, 14, 11, 0, 6094, 2),
  (13, .bipush 28, 2, 0, 0, 0, 0, 0),
  (15, .iaload, 1, 0, 0, 0, 0, 0),
  (16, .isub, 1, 0, 0, 0, 0, 0),
  (17, .invokestatic 239, 3, 132, 2, 4, 7094, 11),
  (20, .istore_n 3, 1, 0, 0, 0, 0, 0),
  (21, .iconst 0, 1, 0, 0, 0, 0, 0),
  (22, .istore 4, 2, 0, 0, 0, 0, 0),
  (24, .iload 4, 2, 0, 0, 0, 0, 0),
  (26, .iload_n 3, 1, 0, 0, 0, 0, 0),
  (27, .if_icmp .ge 17, 3, 0, 0, 0, 0, 0),
  (30, .aload_n 0, 1, 0, 0, 0, 0, 0),
  (31, .invokevirtual 380, 3, 113, 1, 0, 8107, 11),
  (34, .aload_n 0, 1, 0, 0, 0, 0, 0),
  (35, .invokevirtual 315, 3, 138, 1, 0, 7097, 11),
  (38, .iinc 4 1, 3, 0, 0, 0, 0, 0),
  (41, .goto (-17), 3, 0, 0, 0, 0, 0),
  (44, .iload_n 3, 1, 0, 0, 0, 0, 0),
  (45, .ireturn, 1, 0, 0, 0, 0, 0)]
/-- SpanCopierModel.drawn -/
def ai_k112 : List ai_N := [(0, .aload_n 0, 1, 0, 0, 0, 0, 0),
  (1, .iconst 0, 1, 0, 0, 0, 0, 0),
  (2, .putfield 1, 3, 0, 11, 0, 6080, 0),
  (5, .iload_n 1, 1, 0, 0, 0, 0, 0),
  (6, .iconst 1, 1, 0, 0, 0, 0, 0),
  (7, .bipush 60, 2, 0, 0, 0, 0, 0),
  (9, .invokestatic 75, 3, 125, 3, 4, 7013, 11),
  (12, .ifCond .ne 5, 3, 0, 0, 0, 0, 0),
  (15, .iconst (-1), 1, 0, 0, 0, 0, 0),
  (16, .ireturn, 1, 0, 0, 0, 0, 0),
  (17, .aload_n 0, 1, 0, 0, 0, 0, 0),
  (18, .getfield 98, 3, 14, 11, 0, 6094, 2),
  (21, .bipush 28, 2, 0, 0, 0, 0, 0),
  (23, .iaload, 1, 0, 0, 0, 0, 0),
  (24, .sipush 2000, 3, 0, 0, 0, 0, 0),
  (27, .if_icmp .ne 5, 3, 0, 0, 0, 0, 0),
  (32, .aload_n 0, 1, 0, 0, 0, 0, 0),
  (33, .invokevirtual 325, 3, 155, 1, 0, 7078, 11),
  (36, .aload_n 0, 1, 0, 0, 0, 0, 0),
  (37, .iload_n 1, 1, 0, 0, 0, 0, 0),
  (38, .iload_n 2, 1, 0, 0, 0, 0, 0),
  (39, .invokevirtual 383, 3, 111, 3, 0, 8103, 11),
  (42, .ireturn, 1, 0, 0, 0, 0, 0)]
/-- SpanCopierModel.drawsFirst -/
def ai_k113 : List ai_N := [(0, .aload_n 0, 1, 0, 0, 0, 0, 0),
  (1, .bipush 12, 2, 0, 0, 0, 0, 0),
  (3, .invokevirtual 371, 3, 110, 2, 0, 8111, 11),
  (6, .istore_n 1, 1, 0, 0, 0, 0, 0),
  (7, .iload_n 1, 1, 0, 0, 0, 0, 0),
  (8, .iconst 2, 1, 0, 0, 0, 0, 0),
  (9, .if_icmp .ge 8, 3, 0, 0, 0, 0, 0),
  (12, .aload_n 0, 1, 0, 0, 0, 0, 0),
  (13, .iconst 0, 1, 0, 0, 0, 0, 0),
  (14, .invokevirtual 377, 3, 114, 2, 0, 8116, 11),
  (17, .iload_n 1, 1, 0, 0, 0, 0, 0),
  (18, .iconst 2, 1, 0, 0, 0, 0, 0),
  (19, .if_icmp .ne 8, 3, 0, 0, 0, 0, 0),
  (22, .aload_n 0, 1, 0, 0, 0, 0, 0),
  (23, .iconst 1, 1, 0, 0, 0, 0, 0),
  (24, .invokevirtual 377, 3, 114, 2, 0, 8116, 11),
  (27, .iload_n 1, 1, 0, 0, 0, 0, 0),
  (28, .iconst 3, 1, 0, 0, 0, 0, 0),
  (29, .if_icmp .ne 8, 3, 0, 0, 0, 0, 0),
  (32, .aload_n 0, 1, 0, 0, 0, 0, 0),
  (33, .iconst 2, 1, 0, 0, 0, 0, 0),
  (34, .invokevirtual 377, 3, 114, 2, 0, 8116, 11),
  (37, .iload_n 1, 1, 0, 0, 0, 0, 0),
  (38, .iconst 4, 1, 0, 0, 0, 0, 0),
  (39, .if_icmp .ne 19, 3, 0, 0, 0, 0, 0),
  (42, .aload_n 0, 1, 0, 0, 0, 0, 0),
  (43, .bipush 8, 2, 0, 0, 0, 0, 0),
  (45, .invokevirtual 371, 3, 110, 2, 0, 8111, 11),
  (48, .ifCond .ne 10, 3, 0, 0, 0, 0, 0),
  (51, .aload_n 0, 1, 0, 0, 0, 0, 0),
  (52, .iconst 5, 1, 0, 0, 0, 0, 0),
  (53, .iconst 0, 1, 0, 0, 0, 0, 0),
  (54, .iconst 0, 1, 0, 0, 0, 0, 0),
  (55, .invokevirtual 374, 3, 109, 4, 0, 8120, 11),
  (58, .return_, 1, 0, 0, 0, 0, 0)]
/-- SpanCopierModel.drawsUnit -/
def ai_k114 : List ai_N := [(0, .aload_n 0, 1, 0, 0, 0, 0, 0),
  (1, .getfield 98, 3, 14, 11, 0, 6094, 2),
  (4, .bipush 45, 2, 0, 0, 0, 0, 0),
  (6, .iaload, 1, 0, 0, 0, 0, 0),
  (7, .ifCond .ne 4, 3, 0, 0, 0, 0, 0),
  (10, .return_, 1, 0, 0, 0, 0, 0)]
/-- SpanCopierModel.end -/
def ai_k115 : List ai_N := [(0, .aload_n 0, 1, 0, 0, 0, 0, 0),
  (1, .iconst 0, 1, 0, 0, 0, 0, 0),
  (2, .putfield 1, 3, 0, 11, 0, 6080, 0),
  (5, .iload_n 1, 1, 0, 0, 0, 0, 0),
  (6, .ifCond .lt 11, 3, 0, 0, 0, 0, 0),
  (9, .iload_n 1, 1, 0, 0, 0, 0, 0),
  (10, .aload_n 0, 1, 0, 0, 0, 0, 0),
  (11, .getfield 11, 3, 2, 11, 0, 6082, 0),
  (14, .if_icmp .le 5, 3, 0, 0, 0, 0, 0),
  (17, .iconst 0, 1, 0, 0, 0, 0, 0),
  (18, .ireturn, 1, 1, 0, 0, 0, 0),
  (19, .aload_n 0, 1, 0, 0, 0, 0, 0),
  (20, .iload_n 1, 1, 0, 0, 0, 0, 0),
  (21, .putfield 11, 3, 2, 11, 0, 6082, 0),
  (24, .iconst 1, 1, 0, 0, 0, 0, 0),
  (25, .ireturn, 1, 1, 0, 0, 0, 0)]
/-- SpanCopierModel.fault -/
def ai_k116 : List ai_N := [(0, .aload_n 0, 1, 0, 0, 0, 0, 0),
  (1, .iconst 0, 1, 0, 0, 0, 0, 0),
  (2, .putfield 1, 3, 0, 11, 0, 6080, 0),
  (5, .aload_n 0, 1, 0, 0, 0, 0, 0),
  (6, .getfield 66, 3, 10, 11, 0, 6090, 0),
  (9, .ireturn, 1, 0, 0, 0, 0, 0)]
/-- SpanCopierModel.feed -/
def ai_k117 : List ai_N := [(0, .aload_n 0, 1, 0, 0, 0, 0, 0),
  (1, .iconst 0, 1, 0, 0, 0, 0, 0),
  (2, .putfield 1, 3, 0, 11, 0, 6080, 0),
  (5, .aload_n 0, 1, 0, 0, 0, 0, 0),
  (6, .getfield 11, 3, 2, 11, 0, 6082, 0),
  (9, .bipush 20, 2, 0, 0, 0, 0, 0),
  (11, .iadd, 1, 0, 0, 0, 0, 0),
  (12, .sipush 940, 3, 0, 0, 0, 0, 0),
  (15, .if_icmp .le 5, 3, 0, 0, 0, 0, 0),
  (20, .aload_n 0, 1, 0, 0, 0, 0, 0),
  (21, .iload_n 1, 1, 0, 0, 0, 0, 0),
  (22, .invokevirtual 14, 3, 105, 2, 0, 6054, 11),
  (25, .aload_n 0, 1, 0, 0, 0, 0, 0),
  (26, .iload_n 2, 1, 0, 0, 0, 0, 0),
  (27, .invokevirtual 14, 3, 105, 2, 0, 6054, 11),
  (30, .aload_n 0, 1, 0, 0, 0, 0, 0),
  (31, .iload_n 3, 1, 0, 0, 0, 0, 0),
  (32, .invokevirtual 14, 3, 105, 2, 0, 6054, 11),
  (35, .aload_n 0, 1, 0, 0, 0, 0, 0),
  (36, .iload 4, 2, 0, 0, 0, 0, 0),
  (38, .invokevirtual 14, 3, 105, 2, 0, 6054, 11),
  (41, .aload_n 0, 1, 0, 0, 0, 0, 0),
  (42, .iload 5, 2, 0, 0, 0, 0, 0),
  (44, .invokevirtual 14, 3, 105, 2, 0, 6054, 11),
  (47, .aload_n 0, 1, 0, 0, 0, 0, 0),
  (48, .getfield 11, 3, 2, 11, 0, 6082, 0),
  (51, .ireturn, 1, 0, 0, 0, 0, 0)]
/-- SpanCopierModel.file -/
def ai_k118 : List ai_N := [(0, .aload_n 0, 1, 0, 0, 0, 0, 0),
  (1, .iconst 0, 1, 0, 0, 0, 0, 0),
  (2, .putfield 1, 3, 0, 11, 0, 6080, 0),
  (5, .aload_n 0, 1, 0, 0, 0, 0, 0),
  (6, .invokevirtual 89, 3, 165, 1, 0, 6207, 11),
  (9, .istore_n 1, 1, 0, 0, 0, 0, 0),
  (10, .iload_n 1, 1, 0, 0, 0, 0, 0),
  (11, .iconst 1, 1, 0, 0, 0, 0, 0),
  (12, .sipush 240, 3, 0, 0, 0, 0, 0),
  (15, .invokestatic 75, 3, 125, 3, 4, 7013, 11),
  (18, .ifCond .ne 5, 3, 0, 0, 0, 0, 0),
  (21, .iconst (-1), 1, 0, 0, 0, 0, 0),
  (22, .ireturn, 1, 0, 0, 0, 0, 0)]
/-- SpanCopierModel.fileSum -/
def ai_k119 : List ai_N := [(0, .iconst 0, 1, 0, 0, 0, 0, 0),
  (1, .istore_n 1, 1, 0, 0, 0, 0, 0),
  (2, .iconst 0, 1, 0, 0, 0, 0, 0),
  (3, .istore_n 2, 1, 0, 0, 0, 0, 0),
  (4, .iload_n 2, 1, 0, 0, 0, 0, 0),
  (5, .aload_n 0, 1, 0, 0, 0, 0, 0),
  (6, .getfield 98, 3, 14, 11, 0, 6094, 2),
  (9, .bipush 30, 2, 0, 0, 0, 0, 0),
  (11, .iaload, 1, 0, 0, 0, 0, 0),
  (12, .if_icmp .ge 26, 3, 0, 0, 0, 0, 0),
  (38, .iload_n 1, 1, 0, 0, 0, 0, 0),
  (39, .ireturn, 1, 0, 0, 0, 0, 0)]
/-- SpanCopierModel.gap -/
def ai_k120 : List ai_N := [(0, .aload_n 0, 1, 0, 0, 0, 0, 0),
  (1, .iconst 0, 1, 0, 0, 0, 0, 0),
  (2, .putfield 1, 3, 0, 11, 0, 6080, 0),
  (5, .aload_n 0, 1, 0, 0, 0, 0, 0),
  (6, .iconst 0, 1, 0, 0, 0, 0, 0),
  (7, .iload_n 1, 1, 0, 0, 0, 0, 0),
  (8, .iload_n 2, 1, 0, 0, 0, 0, 0),
  (9, .invokevirtual 242, 3, 157, 4, 0, 7153, 11),
  (12, .ireturn, 1, 0, 0, 0, 0, 0)]
/-- SpanCopierModel.go -/
def ai_k121 : List ai_N := [(0, .aload_n 0, 1, 0, 0, 0, 0, 0),
  (1, .getfield 21, 3, 5, 11, 0, 6085, 0),
  (4, .aload_n 0, 1, 0, 0, 0, 0, 0),
  (5, .getfield 18, 3, 3, 11, 0, 6083, 0),
  (8, .if_icmp .ge 44, 3, 0, 0, 0, 0, 0),
  (52, .aload_n 0, 1, 0, 0, 0, 0, 0),
  (53, .aload_n 0, 1, 0, 0, 0, 0, 0),
  (54, .getfield 21, 3, 5, 11, 0, 6085, 0),
  (57, .putfield 24, 3, 6, 11, 0, 6086, 0),
  (60, .aload_n 0, 1, 0, 0, 0, 0, 0),
  (61, .getfield 18, 3, 3, 11, 0, 6083, 0),
  (64, .aload_n 0, 1, 0, 0, 0, 0, 0),
  (65, .getfield 27, 3, 4, 11, 0, 6084, 0),
  (68, .if_icmp .le 28, 3, 0, 0, 0, 0, 0),
  (96, .aload_n 0, 1, 0, 0, 0, 0, 0),
  (97, .getfield 21, 3, 5, 11, 0, 6085, 0),
  (100, .aload_n 0, 1, 0, 0, 0, 0, 0),
  (101, .getfield 18, 3, 3, 11, 0, 6083, 0),
  (104, .if_icmp .lt 9, 3, 0, 0, 0, 0, 0),
  (107, .aload_n 0, 1, 0, 0, 0, 0, 0),
  (108, .iconst 0, 1, 0, 0, 0, 0, 0),
  (109, .putfield 30, 3, 7, 11, 0, 6087, 0),
  (112, .return_, 1, 0, 0, 0, 0, 0)]
/-- SpanCopierModel.image -/
def ai_k122 : List ai_N := [(0, .aload_n 0, 1, 0, 0, 0, 0, 0),
  (1, .iconst 0, 1, 0, 0, 0, 0, 0),
  (2, .putfield 1, 3, 0, 11, 0, 6080, 0),
  (5, .iload_n 1, 1, 0, 0, 0, 0, 0),
  (6, .iconst 0, 1, 0, 0, 0, 0, 0),
  (7, .iconst 1, 1, 0, 0, 0, 0, 0),
  (8, .invokestatic 75, 3, 125, 3, 4, 7013, 11),
  (11, .ifCond .ne 5, 3, 0, 0, 0, 0, 0),
  (14, .iconst 0, 1, 0, 0, 0, 0, 0),
  (15, .ireturn, 1, 1, 0, 0, 0, 0),
  (16, .iconst 0, 1, 0, 0, 0, 0, 0),
  (17, .istore_n 2, 1, 0, 0, 0, 0, 0),
  (18, .iload_n 2, 1, 0, 0, 0, 0, 0),
  (19, .sipush 3266, 3, 0, 0, 0, 0, 0),
  (22, .if_icmp .ge 27, 3, 0, 0, 0, 0, 0),
  (25, .aload_n 0, 1, 0, 0, 0, 0, 0),
  (26, .getfield 104, 3, 16, 11, 0, 6096, 2),
  (29, .sipush 3266, 3, 0, 0, 0, 0, 0),
  (32, .iload_n 1, 1, 0, 0, 0, 0, 0),
  (33, .imul, 1, 0, 0, 0, 0, 0),
  (34, .iload_n 2, 1, 0, 0, 0, 0, 0),
  (35, .iadd, 1, 0, 0, 0, 0, 0),
  (36, .aload_n 0, 1, 0, 0, 0, 0, 0),
  (37, .getfield 98, 3, 14, 11, 0, 6094, 2),
  (40, .iload_n 2, 1, 0, 0, 0, 0, 0),
  (41, .iaload, 1, 0, 0, 0, 0, 0),
  (42, .iastore, 1, 0, 0, 0, 0, 0),
  (43, .iinc 2 1, 3, 0, 0, 0, 0, 0),
  (46, .goto (-28), 3, 0, 0, 0, 0, 0),
  (49, .iconst 0, 1, 0, 0, 0, 0, 0),
  (50, .istore_n 2, 1, 0, 0, 0, 0, 0),
  (51, .iload_n 2, 1, 0, 0, 0, 0, 0),
  (52, .bipush 10, 2, 0, 0, 0, 0, 0),
  (54, .if_icmp .ge 26, 3, 0, 0, 0, 0, 0),
  (57, .aload_n 0, 1, 0, 0, 0, 0, 0),
  (58, .getfield 123, 3, 22, 11, 0, 6102, 2),
  (61, .bipush 10, 2, 0, 0, 0, 0, 0),
  (63, .iload_n 1, 1, 0, 0, 0, 0, 0),
  (64, .imul, 1, 0, 0, 0, 0, 0),
  (65, .iload_n 2, 1, 0, 0, 0, 0, 0),
  (66, .iadd, 1, 0, 0, 0, 0, 0),
  (67, .aload_n 0, 1, 0, 0, 0, 0, 0),
  (68, .getfield 116, 3, 20, 11, 0, 6100, 2),
  (71, .iload_n 2, 1, 0, 0, 0, 0, 0),
  (72, .laload, 1, 0, 0, 0, 0, 0),
  (73, .lastore, 1, 0, 0, 0, 0, 0),
  (74, .iinc 2 1, 3, 0, 0, 0, 0, 0),
  (77, .goto (-26), 3, 0, 0, 0, 0, 0),
  (80, .aload_n 0, 1, 0, 0, 0, 0, 0),
  (81, .getfield 126, 3, 23, 11, 0, 6103, 2),
  (84, .iload_n 1, 1, 0, 0, 0, 0, 0),
  (85, .iconst 1, 1, 0, 0, 0, 0, 0),
  (86, .bastore, 1, 0, 0, 0, 0, 0),
  (87, .iconst 1, 1, 0, 0, 0, 0, 0),
  (88, .ireturn, 1, 1, 0, 0, 0, 0)]
/-- SpanCopierModel.isBusy -/
def ai_k123 : List ai_N := [(0, .aload_n 0, 1, 0, 0, 0, 0, 0),
  (1, .getfield 98, 3, 14, 11, 0, 6094, 2),
  (4, .bipush 29, 2, 0, 0, 0, 0, 0),
  (6, .iaload, 1, 0, 0, 0, 0, 0),
  (7, .iconst 1, 1, 0, 0, 0, 0, 0),
  (8, .if_icmp .eq 25, 3, 0, 0, 0, 0, 0),
  (11, .aload_n 0, 1, 0, 0, 0, 0, 0),
  (12, .getfield 98, 3, 14, 11, 0, 6094, 2),
  (15, .bipush 29, 2, 0, 0, 0, 0, 0),
  (17, .iaload, 1, 0, 0, 0, 0, 0),
  (18, .iconst 2, 1, 0, 0, 0, 0, 0),
  (19, .if_icmp .eq 14, 3, 0, 0, 0, 0, 0),
  (22, .aload_n 0, 1, 0, 0, 0, 0, 0),
  (23, .getfield 98, 3, 14, 11, 0, 6094, 2),
  (26, .bipush 29, 2, 0, 0, 0, 0, 0),
  (28, .iaload, 1, 0, 0, 0, 0, 0),
  (29, .iconst 3, 1, 0, 0, 0, 0, 0),
  (30, .if_icmp .ne 7, 3, 0, 0, 0, 0, 0),
  (37, .iconst 0, 1, 0, 0, 0, 0, 0),
  (38, .ireturn, 1, 1, 0, 0, 0, 0)]
/-- SpanCopierModel.isGap -/
def ai_k124 : List ai_N := [(0, .iload_n 1, 1, 0, 0, 0, 0, 0),
  (1, .aload_n 0, 1, 0, 0, 0, 0, 0),
  (2, .getfield 98, 3, 14, 11, 0, 6094, 2),
  (5, .bipush 47, 2, 0, 0, 0, 0, 0),
  (7, .iaload, 1, 0, 0, 0, 0, 0),
  (8, .if_icmp .ge 19, 3, 0, 0, 0, 0, 0),
  (27, .iconst 0, 1, 0, 0, 0, 0, 0),
  (28, .ireturn, 1, 1, 0, 0, 0, 0)]
/-- SpanCopierModel.isIn -/
def ai_k125 : List ai_N := [(0, .iload_n 0, 1, 0, 0, 0, 0, 0),
  (1, .iload_n 1, 1, 0, 0, 0, 0, 0),
  (2, .if_icmp .lt 12, 3, 0, 0, 0, 0, 0),
  (5, .iload_n 0, 1, 0, 0, 0, 0, 0),
  (6, .iload_n 2, 1, 0, 0, 0, 0, 0),
  (7, .if_icmp .gt 7, 3, 0, 0, 0, 0, 0),
  (10, .iconst 1, 1, 0, 0, 0, 0, 0),
  (11, .goto 4, 3, 0, 0, 0, 0, 0),
  (14, .iconst 0, 1, 0, 0, 0, 0, 0),
  (15, .ireturn, 1, 1, 0, 0, 0, 0)]
/-- SpanCopierModel.isMarked -/
def ai_k126 : List ai_N := [(0, .iload_n 2, 1, 0, 0, 0, 0, 0),
  (1, .sipush 240, 3, 0, 0, 0, 0, 0),
  (4, .if_icmp .ge 67, 3, 0, 0, 0, 0, 0),
  (7, .iload_n 1, 1, 0, 0, 0, 0, 0),
  (8, .ifCond .ne 14, 3, 0, 0, 0, 0, 0),
  (11, .aload_n 0, 1, 0, 0, 0, 0, 0),
  (12, .iload_n 2, 1, 0, 0, 0, 0, 0),
  (13, .invokevirtual 216, 3, 124, 2, 0, 7121, 11),
  (16, .ifCond .eq 55, 3, 0, 0, 0, 0, 0),
  (22, .iload_n 1, 1, 0, 0, 0, 0, 0),
  (23, .iconst 1, 1, 0, 0, 0, 0, 0),
  (24, .if_icmp .ne 20, 3, 0, 0, 0, 0, 0),
  (27, .aload_n 0, 1, 0, 0, 0, 0, 0),
  (28, .getfield 98, 3, 14, 11, 0, 6094, 2),
  (31, .sipush 1264, 3, 0, 0, 0, 0, 0),
  (34, .iload_n 2, 1, 0, 0, 0, 0, 0),
  (35, .iadd, 1, 0, 0, 0, 0, 0),
  (36, .iaload, 1, 0, 0, 0, 0, 0),
  (37, .iconst 1, 1, 0, 0, 0, 0, 0),
  (38, .if_icmp .ne 33, 3, 0, 0, 0, 0, 0),
  (71, .iconst 0, 1, 0, 0, 0, 0, 0),
  (72, .ireturn, 1, 1, 0, 0, 0, 0)]
/-- SpanCopierModel.isSign -/
def ai_k127 : List ai_N := [(0, .aload_n 0, 1, 0, 0, 0, 0, 0),
  (1, .getfield 30, 3, 7, 11, 0, 6087, 0),
  (4, .iconst 4, 1, 0, 0, 0, 0, 0),
  (5, .if_icmp .ne 15, 3, 0, 0, 0, 0, 0),
  (20, .iconst 0, 1, 0, 0, 0, 0, 0),
  (21, .ireturn, 1, 1, 0, 0, 0, 0)]
/-- SpanCopierModel.isUnit -/
def ai_k128 : List ai_N := [(0, .iload_n 1, 1, 0, 0, 0, 0, 0),
  (1, .iconst 0, 1, 0, 0, 0, 0, 0),
  (2, .aload_n 0, 1, 0, 0, 0, 0, 0),
  (3, .getfield 98, 3, 14, 11, 0, 6094, 2),
  (6, .bipush 45, 2, 0, 0, 0, 0, 0),
  (8, .iaload, 1, 0, 0, 0, 0, 0),
  (9, .iconst 1, 1, 0, 0, 0, 0, 0),
  (10, .isub, 1, 0, 0, 0, 0, 0),
  (11, .invokestatic 75, 3, 125, 3, 4, 7013, 11),
  (14, .ireturn, 1, 1, 0, 0, 0, 0)]
/-- SpanCopierModel.isWord -/
def ai_k129 : List ai_N := [(0, .aload_n 0, 1, 0, 0, 0, 0, 0),
  (1, .getfield 30, 3, 7, 11, 0, 6087, 0),
  (4, .iconst 2, 1, 0, 0, 0, 0, 0),
  (5, .if_icmp .ne 19, 3, 0, 0, 0, 0, 0),
  (24, .iconst 0, 1, 0, 0, 0, 0, 0),
  (25, .ireturn, 1, 1, 0, 0, 0, 0)]
/-- SpanCopierModel.journal -/
def ai_k130 : List ai_N := [(0, .aload_n 0, 1, 0, 0, 0, 0, 0),
  (1, .iconst 0, 1, 0, 0, 0, 0, 0),
  (2, .putfield 1, 3, 0, 11, 0, 6080, 0),
  (5, .iload_n 1, 1, 0, 0, 0, 0, 0),
  (6, .iconst 0, 1, 0, 0, 0, 0, 0),
  (7, .aload_n 0, 1, 0, 0, 0, 0, 0),
  (8, .getfield 98, 3, 14, 11, 0, 6094, 2),
  (11, .bipush 43, 2, 0, 0, 0, 0, 0),
  (13, .iaload, 1, 0, 0, 0, 0, 0),
  (14, .iconst 1, 1, 0, 0, 0, 0, 0),
  (15, .isub, 1, 0, 0, 0, 0, 0),
  (16, .invokestatic 75, 3, 125, 3, 4, 7013, 11),
  (19, .ifCond .eq 15, 3, 0, 0, 0, 0, 0),
  (34, .iconst (-1), 1, 0, 0, 0, 0, 0),
  (35, .ireturn, 1, 0, 0, 0, 0, 0)]
/-- SpanCopierModel.late -/
def ai_k131 : List ai_N := [(0, .aload_n 0, 1, 0, 0, 0, 0, 0),
  (1, .iconst 0, 1, 0, 0, 0, 0, 0),
  (2, .putfield 1, 3, 0, 11, 0, 6080, 0),
  (5, .aload_n 0, 1, 0, 0, 0, 0, 0),
  (6, .iconst 2, 1, 0, 0, 0, 0, 0),
  (7, .iload_n 1, 1, 0, 0, 0, 0, 0),
  (8, .iload_n 2, 1, 0, 0, 0, 0, 0),
  (9, .aload_n 0, 1, 0, 0, 0, 0, 0),
  (10, .iload_n 1, 1, 0, 0, 0, 0, 0),
  (11, .invokevirtual 341, 3, 128, 2, 0, 7232, 11),
  (14, .ifCond .eq 17, 3, 0, 0, 0, 0, 0),
  (31, .iconst 0, 1, 0, 0, 0, 0, 0),
  (32, .invokevirtual 344, 3, 100, 5, 0, 7236, 11),
  (35, .ireturn, 1, 0, 0, 0, 0, 0)]
/-- SpanCopierModel.least -/
def ai_k132 : List ai_N := [(0, .iload_n 0, 1, 0, 0, 0, 0, 0),
  (1, .iload_n 1, 1, 0, 0, 0, 0, 0),
  (2, .if_icmp .ge 7, 3, 0, 0, 0, 0, 0),
  (5, .iload_n 0, 1, 0, 0, 0, 0, 0),
  (6, .goto 4, 3, 0, 0, 0, 0, 0),
  (10, .ireturn, 1, 0, 0, 0, 0, 0)]
/-- SpanCopierModel.lose -/
def ai_k133 : List ai_N := [(0, .aload_n 0, 1, 0, 0, 0, 0, 0),
  (1, .iconst 0, 1, 0, 0, 0, 0, 0),
  (2, .putfield 1, 3, 0, 11, 0, 6080, 0),
  (5, .aload_n 0, 1, 0, 0, 0, 0, 0),
  (6, .iconst 0, 1, 0, 0, 0, 0, 0),
  (7, .iload_n 1, 1, 0, 0, 0, 0, 0),
  (8, .iconst 0, 1, 0, 0, 0, 0, 0),
  (9, .aload_n 0, 1, 0, 0, 0, 0, 0),
  (10, .iload_n 1, 1, 0, 0, 0, 0, 0),
  (11, .invokevirtual 341, 3, 128, 2, 0, 7232, 11),
  (14, .invokevirtual 344, 3, 100, 5, 0, 7236, 11),
  (17, .ireturn, 1, 0, 0, 0, 0, 0)]
/-- SpanCopierModel.need -/
def ai_k134 : List ai_N := [(0, .aload_n 0, 1, 0, 0, 0, 0, 0),
  (1, .iconst 0, 1, 0, 0, 0, 0, 0),
  (2, .putfield 1, 3, 0, 11, 0, 6080, 0),
  (5, .aload_n 0, 1, 0, 0, 0, 0, 0),
  (6, .getfield 98, 3, 14, 11, 0, 6094, 2),
  (9, .bipush 30, 2, 0, 0, 0, 0, 0),
  (11, .iaload, 1, 0, 0, 0, 0, 0),
  (12, .ifCond .ne 5, 3, 0, 0, 0, 0, 0),
  (15, .iconst (-1), 1, 0, 0, 0, 0, 0),
  (16, .ireturn, 1, 0, 0, 0, 0, 0)]
/-- SpanCopierModel.nextMark -/
def ai_k135 : List ai_N := [(0, .iload_n 2, 1, 0, 0, 0, 0, 0),
  (1, .istore 4, 2, 0, 0, 0, 0, 0),
  (3, .iload 4, 2, 0, 0, 0, 0, 0),
  (5, .sipush 240, 3, 0, 0, 0, 0, 0),
  (8, .if_icmp .ge 20, 3, 0, 0, 0, 0, 0),
  (11, .aload_n 0, 1, 0, 0, 0, 0, 0),
  (12, .iload_n 1, 1, 0, 0, 0, 0, 0),
  (13, .iload 4, 2, 0, 0, 0, 0, 0),
  (15, .invokevirtual 219, 3, 126, 3, 0, 7145, 11),
  (18, .iload_n 3, 1, 0, 0, 0, 0, 0),
  (19, .if_icmp .eq 9, 3, 0, 0, 0, 0, 0),
  (22, .iinc 4 1, 3, 0, 0, 0, 0, 0),
  (25, .goto (-22), 3, 0, 0, 0, 0, 0),
  (28, .iload 4, 2, 0, 0, 0, 0, 0),
  (30, .ireturn, 1, 0, 0, 0, 0, 0)]
/-- SpanCopierModel.now -/
def ai_k136 : List ai_N := [(0, .aload_n 0, 1, 0, 0, 0, 0, 0),
  (1, .iconst 0, 1, 0, 0, 0, 0, 0),
  (2, .putfield 1, 3, 0, 11, 0, 6080, 0),
  (5, .iload_n 1, 1, 0, 0, 0, 0, 0),
  (6, .tableswitch 154 0 11 #[62, 70, 78, 86, 94, 100, 106, 114, 122, 130, 138, 146], 62, 0, 0, 0, 0, 0),
  (68, .aload_n 0, 1, 0, 0, 0, 0, 0),
  (69, .getfield 98, 3, 14, 11, 0, 6094, 2),
  (72, .bipush 28, 2, 0, 0, 0, 0, 0),
  (74, .iaload, 1, 0, 0, 0, 0, 0),
  (75, .ireturn, 1, 0, 0, 0, 0, 0),
  (76, .aload_n 0, 1, 0, 0, 0, 0, 0),
  (77, .getfield 98, 3, 14, 11, 0, 6094, 2),
  (80, .bipush 29, 2, 0, 0, 0, 0, 0),
  (82, .iaload, 1, 0, 0, 0, 0, 0),
  (83, .ireturn, 1, 0, 0, 0, 0, 0),
  (84, .aload_n 0, 1, 0, 0, 0, 0, 0),
  (85, .getfield 98, 3, 14, 11, 0, 6094, 2),
  (88, .bipush 46, 2, 0, 0, 0, 0, 0),
  (90, .iaload, 1, 0, 0, 0, 0, 0),
  (91, .ireturn, 1, 0, 0, 0, 0, 0),
  (92, .aload_n 0, 1, 0, 0, 0, 0, 0),
  (93, .getfield 98, 3, 14, 11, 0, 6094, 2),
  (96, .bipush 45, 2, 0, 0, 0, 0, 0),
  (98, .iaload, 1, 0, 0, 0, 0, 0),
  (99, .ireturn, 1, 0, 0, 0, 0, 0),
  (100, .aload_n 0, 1, 0, 0, 0, 0, 0),
  (101, .iconst 0, 1, 0, 0, 0, 0, 0),
  (102, .invokevirtual 226, 3, 158, 2, 0, 7137, 11),
  (105, .ireturn, 1, 0, 0, 0, 0, 0),
  (106, .aload_n 0, 1, 0, 0, 0, 0, 0),
  (107, .iconst 1, 1, 0, 0, 0, 0, 0),
  (108, .invokevirtual 226, 3, 158, 2, 0, 7137, 11),
  (111, .ireturn, 1, 0, 0, 0, 0, 0),
  (112, .aload_n 0, 1, 0, 0, 0, 0, 0),
  (113, .getfield 98, 3, 14, 11, 0, 6094, 2),
  (116, .bipush 47, 2, 0, 0, 0, 0, 0),
  (118, .iaload, 1, 0, 0, 0, 0, 0),
  (119, .ireturn, 1, 0, 0, 0, 0, 0),
  (120, .aload_n 0, 1, 0, 0, 0, 0, 0),
  (121, .getfield 98, 3, 14, 11, 0, 6094, 2),
  (124, .bipush 31, 2, 0, 0, 0, 0, 0),
  (126, .iaload, 1, 0, 0, 0, 0, 0),
  (127, .ireturn, 1, 0, 0, 0, 0, 0),
  (128, .aload_n 0, 1, 0, 0, 0, 0, 0),
  (129, .getfield 98, 3, 14, 11, 0, 6094, 2),
  (132, .bipush 53, 2, 0, 0, 0, 0, 0),
  (134, .iaload, 1, 0, 0, 0, 0, 0),
  (135, .ireturn, 1, 0, 0, 0, 0, 0),
  (136, .aload_n 0, 1, 0, 0, 0, 0, 0),
  (137, .getfield 98, 3, 14, 11, 0, 6094, 2),
  (140, .bipush 48, 2, 0, 0, 0, 0, 0),
  (142, .iaload, 1, 0, 0, 0, 0, 0),
  (143, .ireturn, 1, 0, 0, 0, 0, 0),
  (144, .aload_n 0, 1, 0, 0, 0, 0, 0),
  (145, .getfield 98, 3, 14, 11, 0, 6094, 2),
  (148, .bipush 35, 2, 0, 0, 0, 0, 0),
  (150, .iaload, 1, 0, 0, 0, 0, 0),
  (151, .ireturn, 1, 0, 0, 0, 0, 0),
  (152, .aload_n 0, 1, 0, 0, 0, 0, 0),
  (153, .getfield 98, 3, 14, 11, 0, 6094, 2),
  (156, .bipush 30, 2, 0, 0, 0, 0, 0),
  (158, .iaload, 1, 0, 0, 0, 0, 0),
  (159, .ireturn, 1, 0, 0, 0, 0, 0),
  (160, .iconst (-1), 1, 0, 0, 0, 0, 0),
  (161, .ireturn, 1, 0, 0, 0, 0, 0)]
/-- SpanCopierModel.odds -/
def ai_k137 : List ai_N := [(0, .aload_n 0, 1, 0, 0, 0, 0, 0),
  (1, .iconst 0, 1, 0, 0, 0, 0, 0),
  (2, .putfield 1, 3, 0, 11, 0, 6080, 0),
  (5, .aload_n 0, 1, 0, 0, 0, 0, 0),
  (6, .getfield 98, 3, 14, 11, 0, 6094, 2),
  (9, .bipush 30, 2, 0, 0, 0, 0, 0),
  (11, .iaload, 1, 0, 0, 0, 0, 0),
  (12, .ifCond .eq 13, 3, 0, 0, 0, 0, 0),
  (25, .iconst (-1), 1, 0, 0, 0, 0, 0),
  (26, .ireturn, 1, 0, 0, 0, 0, 0)]
/-- SpanCopierModel.oneTick -/
def ai_k138 : List ai_N := [(0, .aload_n 0, 1, 0, 0, 0, 0, 0),
  (1, .invokevirtual 306, 3, 101, 1, 0, 7101, 11),
  (4, .aload_n 0, 1, 0, 0, 0, 0, 0),
  (5, .invokevirtual 309, 3, 153, 1, 0, 7169, 11),
  (8, .aload_n 0, 1, 0, 0, 0, 0, 0),
  (9, .invokevirtual 312, 3, 168, 1, 0, 7196, 11),
  (12, .aload_n 0, 1, 0, 0, 0, 0, 0),
  (13, .getfield 98, 3, 14, 11, 0, 6094, 2),
  (16, .bipush 28, 2, 0, 0, 0, 0, 0),
  (18, .iaload, 1, 0, 0, 0, 0, 0),
  (19, .iconst 1, 1, 0, 0, 0, 0, 0),
  (20, .iadd, 1, 0, 0, 0, 0, 0),
  (21, .aload_n 0, 1, 0, 0, 0, 0, 0),
  (22, .getfield 98, 3, 14, 11, 0, 6094, 2),
  (25, .iconst 5, 1, 0, 0, 0, 0, 0),
  (26, .iaload, 1, 0, 0, 0, 0, 0),
  (27, .irem, 1, 0, 0, 0, 0, 0),
  (28, .ifCond .ne 7, 3, 0, 0, 0, 0, 0),
  (31, .aload_n 0, 1, 0, 0, 0, 0, 0),
  (32, .invokevirtual 154, 3, 152, 1, 0, 6076, 11),
  (35, .aload_n 0, 1, 0, 0, 0, 0, 0),
  (36, .getfield 98, 3, 14, 11, 0, 6094, 2),
  (39, .bipush 28, 2, 0, 0, 0, 0, 0),
  (41, .dup2, 1, 0, 0, 0, 0, 0),
  (42, .iaload, 1, 0, 0, 0, 0, 0),
  (43, .iconst 1, 1, 0, 0, 0, 0, 0),
  (44, .iadd, 1, 0, 0, 0, 0, 0),
  (45, .iastore, 1, 0, 0, 0, 0, 0),
  (46, .return_, 1, 0, 0, 0, 0, 0)]
/-- SpanCopierModel.order -/
def ai_k139 : List ai_N := [(0, .aload_n 0, 1, 0, 0, 0, 0, 0),
  (1, .sipush 900, 3, 0, 0, 0, 0, 0),
  (4, .invokevirtual 200, 3, 103, 2, 0, 6203, 11),
  (7, .aload_n 0, 1, 0, 0, 0, 0, 0),
  (8, .invokevirtual 148, 3, 160, 1, 0, 6068, 11),
  (11, .iconst 0, 1, 0, 0, 0, 0, 0),
  (12, .istore_n 1, 1, 0, 0, 0, 0, 0),
  (13, .aload_n 0, 1, 0, 0, 0, 0, 0),
  (14, .getfield 30, 3, 7, 11, 0, 6087, 0),
  (17, .ifCond .eq 30, 3, 0, 0, 0, 0, 0),
  (47, .iconst 0, 1, 0, 0, 0, 0, 0),
  (48, .istore_n 2, 1, 0, 0, 0, 0, 0),
  (49, .iload_n 2, 1, 0, 0, 0, 0, 0),
  (50, .bipush 28, 2, 0, 0, 0, 0, 0),
  (52, .if_icmp .ge 21, 3, 0, 0, 0, 0, 0),
  (55, .aload_n 0, 1, 0, 0, 0, 0, 0),
  (56, .getfield 98, 3, 14, 11, 0, 6094, 2),
  (59, .iload_n 2, 1, 0, 0, 0, 0, 0),
  (60, .aload_n 0, 1, 0, 0, 0, 0, 0),
  (61, .getfield 101, 3, 15, 11, 0, 6095, 2),
  (64, .iload_n 2, 1, 0, 0, 0, 0, 0),
  (65, .iaload, 1, 0, 0, 0, 0, 0),
  (66, .iastore, 1, 0, 0, 0, 0, 0),
  (67, .iinc 2 1, 3, 0, 0, 0, 0, 0),
  (70, .goto (-21), 3, 0, 0, 0, 0, 0),
  (73, .iconst 0, 1, 0, 0, 0, 0, 0),
  (74, .istore_n 2, 1, 0, 0, 0, 0, 0),
  (75, .iload_n 2, 1, 0, 0, 0, 0, 0),
  (76, .bipush 10, 2, 0, 0, 0, 0, 0),
  (78, .if_icmp .ge 21, 3, 0, 0, 0, 0, 0),
  (81, .aload_n 0, 1, 0, 0, 0, 0, 0),
  (82, .getfield 116, 3, 20, 11, 0, 6100, 2),
  (85, .iload_n 2, 1, 0, 0, 0, 0, 0),
  (86, .aload_n 0, 1, 0, 0, 0, 0, 0),
  (87, .getfield 120, 3, 21, 11, 0, 6101, 2),
  (90, .iload_n 2, 1, 0, 0, 0, 0, 0),
  (91, .laload, 1, 0, 0, 0, 0, 0),
  (92, .lastore, 1, 0, 0, 0, 0, 0),
  (93, .iinc 2 1, 3, 0, 0, 0, 0, 0),
  (96, .goto (-21), 3, 0, 0, 0, 0, 0),
  (99, .aload_n 0, 1, 0, 0, 0, 0, 0),
  (100, .invokevirtual 151, 3, 161, 1, 0, 6072, 11),
  (103, .aload_n 0, 1, 0, 0, 0, 0, 0),
  (104, .getfield 98, 3, 14, 11, 0, 6094, 2),
  (107, .sipush 3024, 3, 0, 0, 0, 0, 0),
  (110, .iconst 0, 1, 0, 0, 0, 0, 0),
  (111, .iastore, 1, 0, 0, 0, 0, 0),
  (112, .aload_n 0, 1, 0, 0, 0, 0, 0),
  (113, .iconst 0, 1, 0, 0, 0, 0, 0),
  (114, .putfield 209, 3, 25, 11, 0, 6105, 0),
  (117, .iload_n 1, 1, 0, 0, 0, 0, 0),
  (118, .ireturn, 1, 0, 0, 0, 0, 0)]
/-- SpanCopierModel.over -/
def ai_k140 : List ai_N := [(0, .aload_n 0, 1, 0, 0, 0, 0, 0),
  (1, .iconst 0, 1, 0, 0, 0, 0, 0),
  (2, .putfield 1, 3, 0, 11, 0, 6080, 0),
  (5, .aload_n 0, 1, 0, 0, 0, 0, 0),
  (6, .getfield 98, 3, 14, 11, 0, 6094, 2),
  (9, .bipush 30, 2, 0, 0, 0, 0, 0),
  (11, .iaload, 1, 0, 0, 0, 0, 0),
  (12, .ifCond .ne 5, 3, 0, 0, 0, 0, 0),
  (15, .iconst (-1), 1, 0, 0, 0, 0, 0),
  (16, .ireturn, 1, 0, 0, 0, 0, 0)]
/-- SpanCopierModel.overAs -/
def ai_k141 : List ai_N := [(0, .aload_n 0, 1, 0, 0, 0, 0, 0),
  (1, .iconst 0, 1, 0, 0, 0, 0, 0),
  (2, .putfield 1, 3, 0, 11, 0, 6080, 0),
  (5, .aload_n 0, 1, 0, 0, 0, 0, 0),
  (6, .getfield 363, 3, 28, 11, 0, 6108, 1),
  (9, .ifCond .eq 21, 3, 0, 0, 0, 0, 0),
  (30, .iconst (-1), 1, 0, 0, 0, 0, 0),
  (31, .ireturn, 1, 0, 0, 0, 0, 0)]
/-- SpanCopierModel.passTicks -/
def ai_k142 : List ai_N := [(0, .iload_n 1, 1, 0, 0, 0, 0, 0),
  (1, .sipush 2000, 3, 0, 0, 0, 0, 0),
  (4, .aload_n 0, 1, 0, 0, 0, 0, 0),
  (5, .getfield 98, 3, 14, 11, 0, 6094, 2),
  (8, .bipush 28, 2, 0, 0, 0, 0, 0),
  (10, .iaload, 1, 0, 0, 0, 0, 0),
  (11, .isub, 1, 0, 0, 0, 0, 0),
  (12, .invokestatic 239, 3, 132, 2, 4, 7094, 11),
  (15, .istore_n 2, 1, 0, 0, 0, 0, 0),
  (16, .iconst 0, 1, 0, 0, 0, 0, 0),
  (17, .istore_n 3, 1, 0, 0, 0, 0, 0),
  (18, .iload_n 3, 1, 0, 0, 0, 0, 0),
  (19, .iload_n 2, 1, 0, 0, 0, 0, 0),
  (20, .if_icmp .ge 13, 3, 0, 0, 0, 0, 0),
  (23, .aload_n 0, 1, 0, 0, 0, 0, 0),
  (24, .invokevirtual 315, 3, 138, 1, 0, 7097, 11),
  (27, .iinc 3 1, 3, 0, 0, 0, 0, 0),
  (30, .goto (-12), 3, 0, 0, 0, 0, 0),
  (33, .iload_n 2, 1, 0, 0, 0, 0, 0),
  (34, .ireturn, 1, 0, 0, 0, 0, 0)]
/-- SpanCopierModel.prompt -/
def ai_k143 : List ai_N := [(0, .aload_n 0, 1, 0, 0, 0, 0, 0),
  (1, .iconst 0, 1, 0, 0, 0, 0, 0),
  (2, .putfield 1, 3, 0, 11, 0, 6080, 0),
  (5, .aload_n 0, 1, 0, 0, 0, 0, 0),
  (6, .iconst 4, 1, 0, 0, 0, 0, 0),
  (7, .iconst 0, 1, 0, 0, 0, 0, 0),
  (8, .iconst 0, 1, 0, 0, 0, 0, 0),
  (9, .iconst 1, 1, 0, 0, 0, 0, 0),
  (10, .invokevirtual 344, 3, 100, 5, 0, 7236, 11),
  (13, .ireturn, 1, 0, 0, 0, 0, 0)]
/-- SpanCopierModel.readAnd -/
def ai_k144 : List ai_N := [(0, .aload_n 0, 1, 0, 0, 0, 0, 0),
  (1, .invokevirtual 418, 3, 146, 1, 0, 8164, 11),
  (4, .ifCond .ne 5, 3, 0, 0, 0, 0, 0),
  (7, .iconst 0, 1, 0, 0, 0, 0, 0),
  (8, .ireturn, 1, 1, 0, 0, 0, 0)]
/-- SpanCopierModel.readOr -/
def ai_k145 : List ai_N := [(0, .aload_n 0, 1, 0, 0, 0, 0, 0),
  (1, .invokevirtual 408, 3, 144, 1, 0, 8160, 11),
  (4, .ifCond .ne 5, 3, 0, 0, 0, 0, 0),
  (7, .iconst 0, 1, 0, 0, 0, 0, 0),
  (8, .ireturn, 1, 1, 0, 0, 0, 0)]
/-- SpanCopierModel.readSaid -/
def ai_k146 : List ai_N := [(0, .aload_n 0, 1, 0, 0, 0, 0, 0),
  (1, .bipush 40, 2, 0, 0, 0, 0, 0),
  (3, .invokevirtual 86, 3, 127, 2, 0, 7058, 11),
  (6, .istore_n 1, 1, 0, 0, 0, 0, 0),
  (7, .bipush 25, 2, 0, 0, 0, 0, 0),
  (9, .istore_n 2, 1, 0, 0, 0, 0, 0),
  (10, .iload_n 2, 1, 0, 0, 0, 0, 0),
  (11, .bipush 36, 2, 0, 0, 0, 0, 0),
  (13, .if_icmp .gt 17, 3, 0, 0, 0, 0, 0),
  (16, .aload_n 0, 1, 0, 0, 0, 0, 0),
  (17, .iload_n 2, 1, 0, 0, 0, 0, 0),
  (18, .invokevirtual 174, 3, 129, 2, 0, 6231, 11),
  (21, .ifCond .ne 9, 3, 0, 0, 0, 0, 0),
  (24, .iinc 2 1, 3, 0, 0, 0, 0, 0),
  (27, .goto (-17), 3, 0, 0, 0, 0, 0),
  (30, .iload_n 1, 1, 0, 0, 0, 0, 0),
  (31, .ifCond .ne 15, 3, 0, 0, 0, 0, 0),
  (34, .iload_n 2, 1, 0, 0, 0, 0, 0),
  (35, .bipush 36, 2, 0, 0, 0, 0, 0),
  (37, .if_icmp .le 9, 3, 0, 0, 0, 0, 0),
  (40, .aload_n 0, 1, 0, 0, 0, 0, 0),
  (41, .iconst 1, 1, 0, 0, 0, 0, 0),
  (42, .invokevirtual 72, 3, 102, 2, 0, 7005, 11),
  (45, .ireturn, 1, 1, 0, 0, 0, 0)]
/-- SpanCopierModel.refuse -/
def ai_k147 : List ai_N := [(0, .aload_n 0, 1, 0, 0, 0, 0, 0),
  (1, .iconst 1, 1, 0, 0, 0, 0, 0),
  (2, .putfield 1, 3, 0, 11, 0, 6080, 0),
  (5, .iconst 0, 1, 0, 0, 0, 0, 0),
  (6, .ireturn, 1, 0, 0, 0, 0, 0)]
/-- SpanCopierModel.resend -/
def ai_k148 : List ai_N := [(0, .aload_n 0, 1, 0, 0, 0, 0, 0),
  (1, .iconst 0, 1, 0, 0, 0, 0, 0),
  (2, .putfield 1, 3, 0, 11, 0, 6080, 0),
  (5, .aload_n 0, 1, 0, 0, 0, 0, 0),
  (6, .iconst 1, 1, 0, 0, 0, 0, 0),
  (7, .iload_n 1, 1, 0, 0, 0, 0, 0),
  (8, .iload_n 2, 1, 0, 0, 0, 0, 0),
  (9, .invokevirtual 242, 3, 157, 4, 0, 7153, 11),
  (12, .ireturn, 1, 0, 0, 0, 0, 0)]
/-- SpanCopierModel.restore -/
def ai_k149 : List ai_N := [(0, .aload_n 0, 1, 0, 0, 0, 0, 0),
  (1, .iconst 0, 1, 0, 0, 0, 0, 0),
  (2, .putfield 1, 3, 0, 11, 0, 6080, 0),
  (5, .iload_n 1, 1, 0, 0, 0, 0, 0),
  (6, .iconst 0, 1, 0, 0, 0, 0, 0),
  (7, .iconst 1, 1, 0, 0, 0, 0, 0),
  (8, .invokestatic 75, 3, 125, 3, 4, 7013, 11),
  (11, .ifCond .eq 12, 3, 0, 0, 0, 0, 0),
  (14, .aload_n 0, 1, 0, 0, 0, 0, 0),
  (15, .getfield 126, 3, 23, 11, 0, 6103, 2),
  (18, .iload_n 1, 1, 0, 0, 0, 0, 0),
  (19, .baload, 1, 0, 0, 0, 0, 0),
  (20, .ifCond .ne 5, 3, 0, 0, 0, 0, 0),
  (23, .iconst 0, 1, 0, 0, 0, 0, 0),
  (24, .ireturn, 1, 1, 0, 0, 0, 0)]
/-- SpanCopierModel.said -/
def ai_k150 : List ai_N := [(0, .aload_n 0, 1, 0, 0, 0, 0, 0),
  (1, .iconst 0, 1, 0, 0, 0, 0, 0),
  (2, .putfield 1, 3, 0, 11, 0, 6080, 0),
  (5, .aload_n 0, 1, 0, 0, 0, 0, 0),
  (6, .getfield 98, 3, 14, 11, 0, 6094, 2),
  (9, .sipush 3024, 3, 0, 0, 0, 0, 0),
  (12, .iaload, 1, 0, 0, 0, 0, 0),
  (13, .ifCond .ne 5, 3, 0, 0, 0, 0, 0),
  (16, .iconst (-1), 1, 0, 0, 0, 0, 0),
  (17, .ireturn, 1, 0, 0, 0, 0, 0)]
/-- SpanCopierModel.save -/
def ai_k151 : List ai_N := [(0, .iconst 0, 1, 0, 0, 0, 0, 0),
  (1, .istore_n 3, 1, 0, 0, 0, 0, 0),
  (2, .iload_n 3, 1, 0, 0, 0, 0, 0),
  (3, .sipush 2996, 3, 0, 0, 0, 0, 0),
  (6, .if_icmp .ge 23, 3, 0, 0, 0, 0, 0),
  (9, .aload_n 1, 1, 0, 0, 0, 0, 0),
  (10, .iload_n 2, 1, 0, 0, 0, 0, 0),
  (11, .iload_n 3, 1, 0, 0, 0, 0, 0),
  (12, .iadd, 1, 0, 0, 0, 0, 0),
  (13, .aload_n 0, 1, 0, 0, 0, 0, 0),
  (14, .getfield 98, 3, 14, 11, 0, 6094, 2),
  (17, .bipush 28, 2, 0, 0, 0, 0, 0),
  (19, .iload_n 3, 1, 0, 0, 0, 0, 0),
  (20, .iadd, 1, 0, 0, 0, 0, 0),
  (21, .iaload, 1, 0, 0, 0, 0, 0),
  (22, .iastore, 1, 0, 0, 0, 0, 0),
  (23, .iinc 3 1, 3, 0, 0, 0, 0, 0),
  (26, .goto (-24), 3, 0, 0, 0, 0, 0),
  (29, .return_, 1, 0, 0, 0, 0, 0)]
/-- SpanCopierModel.saveTaker -/
def ai_k152 : List ai_N := [(0, .iconst 0, 1, 0, 0, 0, 0, 0),
  (1, .istore_n 1, 1, 0, 0, 0, 0, 0),
  (2, .iload_n 1, 1, 0, 0, 0, 0, 0),
  (3, .sipush 489, 3, 0, 0, 0, 0, 0),
  (6, .if_icmp .ge 28, 3, 0, 0, 0, 0, 0),
  (9, .aload_n 0, 1, 0, 0, 0, 0, 0),
  (10, .getfield 98, 3, 14, 11, 0, 6094, 2),
  (13, .sipush 535, 3, 0, 0, 0, 0, 0),
  (16, .iload_n 1, 1, 0, 0, 0, 0, 0),
  (17, .iadd, 1, 0, 0, 0, 0, 0),
  (18, .aload_n 0, 1, 0, 0, 0, 0, 0),
  (19, .getfield 98, 3, 14, 11, 0, 6094, 2),
  (22, .bipush 46, 2, 0, 0, 0, 0, 0),
  (24, .iload_n 1, 1, 0, 0, 0, 0, 0),
  (25, .iadd, 1, 0, 0, 0, 0, 0),
  (26, .iaload, 1, 0, 0, 0, 0, 0),
  (27, .iastore, 1, 0, 0, 0, 0, 0),
  (28, .iinc 1 1, 3, 0, 0, 0, 0, 0),
  (31, .goto (-29), 3, 0, 0, 0, 0, 0),
  (34, .return_, 1, 0, 0, 0, 0, 0)]
/-- SpanCopierModel.senderGoes -/
def ai_k153 : List ai_N := [(0, .aload_n 0, 1, 0, 0, 0, 0, 0),
  (1, .invokevirtual 252, 3, 123, 1, 0, 7161, 11),
  (4, .ifCond .ne 4, 3, 0, 0, 0, 0, 0),
  (7, .return_, 1, 0, 0, 0, 0, 0)]
/-- SpanCopierModel.sentence -/
def ai_k154 : List ai_N := [(0, .aload_n 0, 1, 0, 0, 0, 0, 0),
  (1, .sipush 200, 3, 0, 0, 0, 0, 0),
  (4, .invokevirtual 200, 3, 103, 2, 0, 6203, 11),
  (7, .aload_n 0, 1, 0, 0, 0, 0, 0),
  (8, .iconst 0, 1, 0, 0, 0, 0, 0),
  (9, .putfield 405, 3, 35, 11, 0, 6115, 0),
  (12, .aload_n 0, 1, 0, 0, 0, 0, 0),
  (13, .iconst 0, 1, 0, 0, 0, 0, 0),
  (14, .putfield 421, 3, 36, 11, 0, 6116, 0),
  (17, .aload_n 0, 1, 0, 0, 0, 0, 0),
  (18, .iconst 0, 1, 0, 0, 0, 0, 0),
  (19, .putfield 424, 3, 37, 11, 0, 6117, 0),
  (22, .aload_n 0, 1, 0, 0, 0, 0, 0),
  (23, .invokevirtual 439, 3, 145, 1, 0, 8156, 11),
  (26, .ifCond .ne 10, 3, 0, 0, 0, 0, 0),
  (29, .iconst (-1), 1, 0, 0, 0, 0, 0),
  (30, .aload_n 0, 1, 0, 0, 0, 0, 0),
  (31, .getfield 69, 3, 11, 11, 0, 6091, 0),
  (34, .isub, 1, 0, 0, 0, 0, 0),
  (35, .ireturn, 1, 0, 0, 0, 0, 0)]
/-- SpanCopierModel.snap -/
def ai_k155 : List ai_N := [(0, .aload_n 0, 1, 0, 0, 0, 0, 0),
  (1, .getfield 209, 3, 25, 11, 0, 6105, 0),
  (4, .bipush 8, 2, 0, 0, 0, 0, 0),
  (6, .if_icmp .ne 44, 3, 0, 0, 0, 0, 0),
  (50, .aload_n 0, 1, 0, 0, 0, 0, 0),
  (51, .aload_n 0, 1, 0, 0, 0, 0, 0),
  (52, .getfield 107, 3, 17, 11, 0, 6097, 2),
  (55, .sipush 2996, 3, 0, 0, 0, 0, 0),
  (58, .aload_n 0, 1, 0, 0, 0, 0, 0),
  (59, .getfield 209, 3, 25, 11, 0, 6105, 0),
  (62, .imul, 1, 0, 0, 0, 0, 0),
  (63, .invokevirtual 318, 3, 151, 3, 0, 7082, 11),
  (66, .aload_n 0, 1, 0, 0, 0, 0, 0),
  (67, .dup, 1, 0, 0, 0, 0, 0),
  (68, .getfield 209, 3, 25, 11, 0, 6105, 0),
  (71, .iconst 1, 1, 0, 0, 0, 0, 0),
  (72, .iadd, 1, 0, 0, 0, 0, 0),
  (73, .putfield 209, 3, 25, 11, 0, 6105, 0),
  (76, .return_, 1, 0, 0, 0, 0, 0)]
/-- SpanCopierModel.span -/
def ai_k156 : List ai_N := [(0, .aload_n 0, 1, 0, 0, 0, 0, 0),
  (1, .iconst 0, 1, 0, 0, 0, 0, 0),
  (2, .putfield 1, 3, 0, 11, 0, 6080, 0),
  (5, .aload_n 0, 1, 0, 0, 0, 0, 0),
  (6, .iload_n 1, 1, 0, 0, 0, 0, 0),
  (7, .invokevirtual 341, 3, 128, 2, 0, 7232, 11),
  (10, .ifCond .eq 48, 3, 0, 0, 0, 0, 0),
  (58, .iconst (-1), 1, 0, 0, 0, 0, 0),
  (59, .ireturn, 1, 0, 0, 0, 0, 0)]
/-- SpanCopierModel.spanEnd -/
def ai_k157 : List ai_N := [(0, .iload_n 2, 1, 0, 0, 0, 0, 0),
  (1, .iconst 0, 1, 0, 0, 0, 0, 0),
  (2, .aload_n 0, 1, 0, 0, 0, 0, 0),
  (3, .iload_n 1, 1, 0, 0, 0, 0, 0),
  (4, .invokevirtual 226, 3, 158, 2, 0, 7137, 11),
  (7, .iconst 1, 1, 0, 0, 0, 0, 0),
  (8, .isub, 1, 0, 0, 0, 0, 0),
  (9, .invokestatic 75, 3, 125, 3, 4, 7013, 11),
  (12, .ifCond .eq 12, 3, 0, 0, 0, 0, 0),
  (24, .iconst (-1), 1, 0, 0, 0, 0, 0),
  (25, .ireturn, 1, 0, 0, 0, 0, 0)]
/-- SpanCopierModel.spansOf -/
def ai_k158 : List ai_N := [(0, .iconst 0, 1, 0, 0, 0, 0, 0),
  (1, .istore_n 2, 1, 0, 0, 0, 0, 0),
  (2, .aload_n 0, 1, 0, 0, 0, 0, 0),
  (3, .iload_n 1, 1, 0, 0, 0, 0, 0),
  (4, .iconst 0, 1, 0, 0, 0, 0, 0),
  (5, .iconst 1, 1, 0, 0, 0, 0, 0),
  (6, .invokevirtual 222, 3, 135, 4, 0, 7141, 11),
  (9, .istore_n 3, 1, 0, 0, 0, 0, 0),
  (10, .iload_n 3, 1, 0, 0, 0, 0, 0),
  (11, .sipush 240, 3, 0, 0, 0, 0, 0),
  (14, .if_icmp .ge 23, 3, 0, 0, 0, 0, 0),
  (37, .iload_n 2, 1, 0, 0, 0, 0, 0),
  (38, .ireturn, 1, 0, 0, 0, 0, 0)]
/-- SpanCopierModel.spoil -/
def ai_k159 : List ai_N := [(0, .aload_n 0, 1, 0, 0, 0, 0, 0),
  (1, .iconst 0, 1, 0, 0, 0, 0, 0),
  (2, .putfield 1, 3, 0, 11, 0, 6080, 0),
  (5, .aload_n 0, 1, 0, 0, 0, 0, 0),
  (6, .iconst 3, 1, 0, 0, 0, 0, 0),
  (7, .iload_n 1, 1, 0, 0, 0, 0, 0),
  (8, .iconst 0, 1, 0, 0, 0, 0, 0),
  (9, .aload_n 0, 1, 0, 0, 0, 0, 0),
  (10, .iload_n 1, 1, 0, 0, 0, 0, 0),
  (11, .invokevirtual 341, 3, 128, 2, 0, 7232, 11),
  (14, .invokevirtual 344, 3, 100, 5, 0, 7236, 11),
  (17, .ireturn, 1, 0, 0, 0, 0, 0)]
/-- SpanCopierModel.startRead -/
def ai_k160 : List ai_N := [(0, .iconst 0, 1, 0, 0, 0, 0, 0),
  (1, .istore_n 1, 1, 0, 0, 0, 0, 0),
  (2, .iload_n 1, 1, 0, 0, 0, 0, 0),
  (3, .bipush 28, 2, 0, 0, 0, 0, 0),
  (5, .if_icmp .ge 16, 3, 0, 0, 0, 0, 0),
  (8, .aload_n 0, 1, 0, 0, 0, 0, 0),
  (9, .getfield 101, 3, 15, 11, 0, 6095, 2),
  (12, .iload_n 1, 1, 0, 0, 0, 0, 0),
  (13, .iconst 0, 1, 0, 0, 0, 0, 0),
  (14, .iastore, 1, 0, 0, 0, 0, 0),
  (15, .iinc 1 1, 3, 0, 0, 0, 0, 0),
  (18, .goto (-16), 3, 0, 0, 0, 0, 0),
  (21, .iconst 0, 1, 0, 0, 0, 0, 0),
  (22, .istore_n 1, 1, 0, 0, 0, 0, 0),
  (23, .iload_n 1, 1, 0, 0, 0, 0, 0),
  (24, .bipush 7, 2, 0, 0, 0, 0, 0),
  (26, .if_icmp .ge 16, 3, 0, 0, 0, 0, 0),
  (29, .aload_n 0, 1, 0, 0, 0, 0, 0),
  (30, .getfield 130, 3, 24, 11, 0, 6104, 2),
  (33, .iload_n 1, 1, 0, 0, 0, 0, 0),
  (34, .iconst 0, 1, 0, 0, 0, 0, 0),
  (35, .bastore, 1, 0, 0, 0, 0, 0),
  (36, .iinc 1 1, 3, 0, 0, 0, 0, 0),
  (39, .goto (-16), 3, 0, 0, 0, 0, 0),
  (42, .aload_n 0, 1, 0, 0, 0, 0, 0),
  (43, .getfield 101, 3, 15, 11, 0, 6095, 2),
  (46, .iconst 0, 1, 0, 0, 0, 0, 0),
  (47, .bipush 8, 2, 0, 0, 0, 0, 0),
  (49, .iastore, 1, 0, 0, 0, 0, 0),
  (50, .aload_n 0, 1, 0, 0, 0, 0, 0),
  (51, .getfield 101, 3, 15, 11, 0, 6095, 2),
  (54, .iconst 1, 1, 0, 0, 0, 0, 0),
  (55, .iconst 1, 1, 0, 0, 0, 0, 0),
  (56, .iastore, 1, 0, 0, 0, 0, 0),
  (57, .aload_n 0, 1, 0, 0, 0, 0, 0),
  (58, .getfield 101, 3, 15, 11, 0, 6095, 2),
  (61, .iconst 2, 1, 0, 0, 0, 0, 0),
  (62, .iconst 2, 1, 0, 0, 0, 0, 0),
  (63, .iastore, 1, 0, 0, 0, 0, 0),
  (64, .aload_n 0, 1, 0, 0, 0, 0, 0),
  (65, .getfield 101, 3, 15, 11, 0, 6095, 2),
  (68, .iconst 3, 1, 0, 0, 0, 0, 0),
  (69, .bipush 12, 2, 0, 0, 0, 0, 0),
  (71, .iastore, 1, 0, 0, 0, 0, 0),
  (72, .aload_n 0, 1, 0, 0, 0, 0, 0),
  (73, .getfield 101, 3, 15, 11, 0, 6095, 2),
  (76, .iconst 4, 1, 0, 0, 0, 0, 0),
  (77, .iconst 3, 1, 0, 0, 0, 0, 0),
  (78, .iastore, 1, 0, 0, 0, 0, 0),
  (79, .aload_n 0, 1, 0, 0, 0, 0, 0),
  (80, .getfield 101, 3, 15, 11, 0, 6095, 2),
  (83, .iconst 5, 1, 0, 0, 0, 0, 0),
  (84, .iconst 1, 1, 0, 0, 0, 0, 0),
  (85, .iastore, 1, 0, 0, 0, 0, 0),
  (86, .aload_n 0, 1, 0, 0, 0, 0, 0),
  (87, .getfield 101, 3, 15, 11, 0, 6095, 2),
  (90, .bipush 6, 2, 0, 0, 0, 0, 0),
  (92, .iconst (-1), 1, 0, 0, 0, 0, 0),
  (93, .iastore, 1, 0, 0, 0, 0, 0),
  (94, .return_, 1, 0, 0, 0, 0, 0)]
/-- SpanCopierModel.startSo -/
def ai_k161 : List ai_N := [(0, .bipush 28, 2, 0, 0, 0, 0, 0),
  (2, .istore_n 1, 1, 0, 0, 0, 0, 0),
  (3, .iload_n 1, 1, 0, 0, 0, 0, 0),
  (4, .sipush 3024, 3, 0, 0, 0, 0, 0),
  (7, .if_icmp .ge 16, 3, 0, 0, 0, 0, 0),
  (10, .aload_n 0, 1, 0, 0, 0, 0, 0),
  (11, .getfield 98, 3, 14, 11, 0, 6094, 2),
  (14, .iload_n 1, 1, 0, 0, 0, 0, 0),
  (15, .iconst 0, 1, 0, 0, 0, 0, 0),
  (16, .iastore, 1, 0, 0, 0, 0, 0),
  (17, .iinc 1 1, 3, 0, 0, 0, 0, 0),
  (20, .goto (-17), 3, 0, 0, 0, 0, 0),
  (23, .aload_n 0, 1, 0, 0, 0, 0, 0),
  (24, .getfield 98, 3, 14, 11, 0, 6094, 2),
  (27, .bipush 36, 2, 0, 0, 0, 0, 0),
  (29, .aload_n 0, 1, 0, 0, 0, 0, 0),
  (30, .getfield 98, 3, 14, 11, 0, 6094, 2),
  (33, .bipush 9, 2, 0, 0, 0, 0, 0),
  (35, .iaload, 1, 0, 0, 0, 0, 0),
  (36, .iastore, 1, 0, 0, 0, 0, 0),
  (37, .aload_n 0, 1, 0, 0, 0, 0, 0),
  (38, .getfield 98, 3, 14, 11, 0, 6094, 2),
  (41, .bipush 53, 2, 0, 0, 0, 0, 0),
  (43, .iconst (-1), 1, 0, 0, 0, 0, 0),
  (44, .iastore, 1, 0, 0, 0, 0, 0),
  (45, .iconst 0, 1, 0, 0, 0, 0, 0),
  (46, .istore_n 1, 1, 0, 0, 0, 0, 0),
  (47, .iload_n 1, 1, 0, 0, 0, 0, 0),
  (48, .bipush 6, 2, 0, 0, 0, 0, 0),
  (50, .if_icmp .ge 19, 3, 0, 0, 0, 0, 0),
  (53, .aload_n 0, 1, 0, 0, 0, 0, 0),
  (54, .getfield 98, 3, 14, 11, 0, 6094, 2),
  (57, .bipush 37, 2, 0, 0, 0, 0, 0),
  (59, .iload_n 1, 1, 0, 0, 0, 0, 0),
  (60, .iadd, 1, 0, 0, 0, 0, 0),
  (61, .iconst (-1), 1, 0, 0, 0, 0, 0),
  (62, .iastore, 1, 0, 0, 0, 0, 0),
  (63, .iinc 1 1, 3, 0, 0, 0, 0, 0),
  (66, .goto (-19), 3, 0, 0, 0, 0, 0),
  (69, .aload_n 0, 1, 0, 0, 0, 0, 0),
  (70, .invokevirtual 154, 3, 152, 1, 0, 6076, 11),
  (73, .return_, 1, 0, 0, 0, 0, 0)]
/-- SpanCopierModel.stay -/
def ai_k162 : List ai_N := [(0, .aload_n 0, 1, 0, 0, 0, 0, 0),
  (1, .aload_n 0, 1, 0, 0, 0, 0, 0),
  (2, .getfield 110, 3, 18, 11, 0, 6098, 2),
  (5, .iconst 0, 1, 0, 0, 0, 0, 0),
  (6, .invokevirtual 318, 3, 151, 3, 0, 7082, 11),
  (9, .aload_n 0, 1, 0, 0, 0, 0, 0),
  (10, .aload_n 0, 1, 0, 0, 0, 0, 0),
  (11, .getfield 113, 3, 19, 11, 0, 6099, 2),
  (14, .iconst 0, 1, 0, 0, 0, 0, 0),
  (15, .invokevirtual 322, 3, 106, 3, 0, 7070, 11),
  (18, .iload_n 1, 1, 0, 0, 0, 0, 0),
  (19, .ifCond .ne 4, 3, 0, 0, 0, 0, 0),
  (22, .return_, 1, 0, 0, 0, 0, 0)]
/-- SpanCopierModel.store -/
def ai_k163 : List ai_N := [(0, .aload_n 0, 1, 0, 0, 0, 0, 0),
  (1, .iconst 0, 1, 0, 0, 0, 0, 0),
  (2, .putfield 1, 3, 0, 11, 0, 6080, 0),
  (5, .aload_n 0, 1, 0, 0, 0, 0, 0),
  (6, .getfield 98, 3, 14, 11, 0, 6094, 2),
  (9, .bipush 36, 2, 0, 0, 0, 0, 0),
  (11, .iaload, 1, 0, 0, 0, 0, 0),
  (12, .ireturn, 1, 0, 0, 0, 0, 0)]
/-- SpanCopierModel.sum -/
def ai_k164 : List ai_N := [(0, .aload_n 0, 1, 0, 0, 0, 0, 0),
  (1, .iconst 0, 1, 0, 0, 0, 0, 0),
  (2, .putfield 1, 3, 0, 11, 0, 6080, 0),
  (5, .iload_n 1, 1, 0, 0, 0, 0, 0),
  (6, .ifCond .ne 10, 3, 0, 0, 0, 0, 0),
  (9, .aload_n 0, 1, 0, 0, 0, 0, 0),
  (10, .invokevirtual 236, 3, 119, 1, 0, 7189, 11),
  (13, .goto 19, 3, 0, 0, 0, 0, 0),
  (16, .iload_n 1, 1, 0, 0, 0, 0, 0),
  (17, .iconst 1, 1, 0, 0, 0, 0, 0),
  (18, .if_icmp .ne 10, 3, 0, 0, 0, 0, 0),
  (21, .aload_n 0, 1, 0, 0, 0, 0, 0),
  (22, .invokevirtual 285, 3, 167, 1, 0, 7204, 11),
  (25, .goto 7, 3, 0, 0, 0, 0, 0),
  (28, .aload_n 0, 1, 0, 0, 0, 0, 0),
  (29, .invokevirtual 348, 3, 147, 1, 0, 8040, 11),
  (32, .ireturn, 1, 0, 0, 0, 0, 0)]
/-- SpanCopierModel.take -/
def ai_k165 : List ai_N := [(0, .aload_n 0, 1, 0, 0, 0, 0, 0),
  (1, .getfield 11, 3, 2, 11, 0, 6082, 0),
  (4, .istore_n 1, 1, 0, 0, 0, 0, 0),
  (5, .aload_n 0, 1, 0, 0, 0, 0, 0),
  (6, .iconst 0, 1, 0, 0, 0, 0, 0),
  (7, .putfield 11, 3, 2, 11, 0, 6082, 0),
  (10, .iload_n 1, 1, 0, 0, 0, 0, 0),
  (11, .ireturn, 1, 0, 0, 0, 0, 0)]
/-- SpanCopierModel.taken -/
def ai_k166 : List ai_N := [(0, .aload_n 0, 1, 0, 0, 0, 0, 0),
  (1, .iconst 0, 1, 0, 0, 0, 0, 0),
  (2, .putfield 1, 3, 0, 11, 0, 6080, 0),
  (5, .iload_n 1, 1, 0, 0, 0, 0, 0),
  (6, .iconst 0, 1, 0, 0, 0, 0, 0),
  (7, .sipush 239, 3, 0, 0, 0, 0, 0),
  (10, .invokestatic 75, 3, 125, 3, 4, 7013, 11),
  (13, .ifCond .eq 29, 3, 0, 0, 0, 0, 0),
  (16, .aload_n 0, 1, 0, 0, 0, 0, 0),
  (17, .getfield 98, 3, 14, 11, 0, 6094, 2),
  (20, .bipush 55, 2, 0, 0, 0, 0, 0),
  (22, .iload_n 1, 1, 0, 0, 0, 0, 0),
  (23, .iadd, 1, 0, 0, 0, 0, 0),
  (24, .iaload, 1, 0, 0, 0, 0, 0),
  (25, .iconst 1, 1, 0, 0, 0, 0, 0),
  (26, .if_icmp .ne 16, 3, 0, 0, 0, 0, 0),
  (42, .iconst (-1), 1, 0, 0, 0, 0, 0),
  (43, .ireturn, 1, 0, 0, 0, 0, 0)]
/-- SpanCopierModel.takenSum -/
def ai_k167 : List ai_N := [(0, .iconst 0, 1, 0, 0, 0, 0, 0),
  (1, .istore_n 1, 1, 0, 0, 0, 0, 0),
  (2, .iconst 0, 1, 0, 0, 0, 0, 0),
  (3, .istore_n 2, 1, 0, 0, 0, 0, 0),
  (4, .iload_n 2, 1, 0, 0, 0, 0, 0),
  (5, .sipush 240, 3, 0, 0, 0, 0, 0),
  (8, .if_icmp .ge 39, 3, 0, 0, 0, 0, 0),
  (11, .aload_n 0, 1, 0, 0, 0, 0, 0),
  (12, .getfield 98, 3, 14, 11, 0, 6094, 2),
  (15, .bipush 55, 2, 0, 0, 0, 0, 0),
  (17, .iload_n 2, 1, 0, 0, 0, 0, 0),
  (18, .iadd, 1, 0, 0, 0, 0, 0),
  (19, .iaload, 1, 0, 0, 0, 0, 0),
  (20, .iconst 1, 1, 0, 0, 0, 0, 0),
  (21, .if_icmp .ne 20, 3, 0, 0, 0, 0, 0),
  (41, .iinc 2 1, 3, 0, 0, 0, 0, 0),
  (44, .goto (-40), 3, 0, 0, 0, 0, 0),
  (47, .iload_n 1, 1, 0, 0, 0, 0, 0),
  (48, .ireturn, 1, 0, 0, 0, 0, 0)]
/-- SpanCopierModel.takerGoes -/
def ai_k168 : List ai_N := [(0, .aload_n 0, 1, 0, 0, 0, 0, 0),
  (1, .getfield 98, 3, 14, 11, 0, 6094, 2),
  (4, .bipush 46, 2, 0, 0, 0, 0, 0),
  (6, .iaload, 1, 0, 0, 0, 0, 0),
  (7, .iconst 1, 1, 0, 0, 0, 0, 0),
  (8, .if_icmp .ne 21, 3, 0, 0, 0, 0, 0),
  (29, .aload_n 0, 1, 0, 0, 0, 0, 0),
  (30, .getfield 98, 3, 14, 11, 0, 6094, 2),
  (33, .bipush 46, 2, 0, 0, 0, 0, 0),
  (35, .iaload, 1, 0, 0, 0, 0, 0),
  (36, .iconst 2, 1, 0, 0, 0, 0, 0),
  (37, .if_icmp .ne 10, 3, 0, 0, 0, 0, 0),
  (47, .aload_n 0, 1, 0, 0, 0, 0, 0),
  (48, .getfield 98, 3, 14, 11, 0, 6094, 2),
  (51, .bipush 46, 2, 0, 0, 0, 0, 0),
  (53, .iaload, 1, 0, 0, 0, 0, 0),
  (54, .iconst 3, 1, 0, 0, 0, 0, 0),
  (55, .if_icmp .ne 7, 3, 0, 0, 0, 0, 0),
  (62, .return_, 1, 0, 0, 0, 0, 0)]
/-- SpanCopierModel.thrown -/
def ai_k169 : List ai_N := [(0, .aload_n 0, 1, 0, 0, 0, 0, 0),
  (1, .getfield 1, 3, 0, 11, 0, 6080, 0),
  (4, .ireturn, 1, 0, 0, 0, 0, 0)]
/-- SpanCopierModel.ticks -/
def ai_k170 : List ai_N := [(0, .aload_n 0, 1, 0, 0, 0, 0, 0),
  (1, .iconst 0, 1, 0, 0, 0, 0, 0),
  (2, .putfield 1, 3, 0, 11, 0, 6080, 0),
  (5, .iload_n 1, 1, 0, 0, 0, 0, 0),
  (6, .iconst 1, 1, 0, 0, 0, 0, 0),
  (7, .bipush 60, 2, 0, 0, 0, 0, 0),
  (9, .invokestatic 75, 3, 125, 3, 4, 7013, 11),
  (12, .ifCond .ne 5, 3, 0, 0, 0, 0, 0),
  (15, .iconst (-1), 1, 0, 0, 0, 0, 0),
  (16, .ireturn, 1, 0, 0, 0, 0, 0),
  (17, .aload_n 0, 1, 0, 0, 0, 0, 0),
  (18, .getfield 98, 3, 14, 11, 0, 6094, 2),
  (21, .bipush 28, 2, 0, 0, 0, 0, 0),
  (23, .iaload, 1, 0, 0, 0, 0, 0),
  (24, .sipush 2000, 3, 0, 0, 0, 0, 0),
  (27, .if_icmp .ne 5, 3, 0, 0, 0, 0, 0),
  (32, .aload_n 0, 1, 0, 0, 0, 0, 0),
  (33, .invokevirtual 325, 3, 155, 1, 0, 7078, 11),
  (36, .aload_n 0, 1, 0, 0, 0, 0, 0),
  (37, .iload_n 1, 1, 0, 0, 0, 0, 0),
  (38, .invokevirtual 328, 3, 142, 2, 0, 7090, 11),
  (41, .ireturn, 1, 0, 0, 0, 0, 0)]
/-- SpanCopierModel.told -/
def ai_k171 : List ai_N := [(0, .aload_n 0, 1, 0, 0, 0, 0, 0),
  (1, .iconst 0, 1, 0, 0, 0, 0, 0),
  (2, .putfield 1, 3, 0, 11, 0, 6080, 0),
  (5, .aload_n 0, 1, 0, 0, 0, 0, 0),
  (6, .getfield 398, 3, 33, 11, 0, 6113, 1),
  (9, .ifCond .eq 21, 3, 0, 0, 0, 0, 0),
  (30, .iconst (-1), 1, 0, 0, 0, 0, 0),
  (31, .ireturn, 1, 0, 0, 0, 0, 0)]
/-- SpanCopierModel.twice -/
def ai_k172 : List ai_N := [(0, .aload_n 0, 1, 0, 0, 0, 0, 0),
  (1, .iconst 0, 1, 0, 0, 0, 0, 0),
  (2, .putfield 1, 3, 0, 11, 0, 6080, 0),
  (5, .aload_n 0, 1, 0, 0, 0, 0, 0),
  (6, .iconst 1, 1, 0, 0, 0, 0, 0),
  (7, .iload_n 1, 1, 0, 0, 0, 0, 0),
  (8, .iconst 0, 1, 0, 0, 0, 0, 0),
  (9, .aload_n 0, 1, 0, 0, 0, 0, 0),
  (10, .iload_n 1, 1, 0, 0, 0, 0, 0),
  (11, .invokevirtual 341, 3, 128, 2, 0, 7232, 11),
  (14, .invokevirtual 344, 3, 100, 5, 0, 7236, 11),
  (17, .ireturn, 1, 0, 0, 0, 0, 0)]
/-- SpanCopierModel.undo -/
def ai_k173 : List ai_N := [(0, .aload_n 0, 1, 0, 0, 0, 0, 0),
  (1, .iconst 0, 1, 0, 0, 0, 0, 0),
  (2, .putfield 1, 3, 0, 11, 0, 6080, 0),
  (5, .aload_n 0, 1, 0, 0, 0, 0, 0),
  (6, .getfield 209, 3, 25, 11, 0, 6105, 0),
  (9, .ifCond .ne 5, 3, 0, 0, 0, 0, 0),
  (12, .iconst (-1), 1, 0, 0, 0, 0, 0),
  (13, .ireturn, 1, 0, 0, 0, 0, 0)]
/-- SpanCopierModel.unit -/
def ai_k174 : List ai_N := [(0, .aload_n 0, 1, 0, 0, 0, 0, 0),
  (1, .iconst 0, 1, 0, 0, 0, 0, 0),
  (2, .putfield 1, 3, 0, 11, 0, 6080, 0),
  (5, .aload_n 0, 1, 0, 0, 0, 0, 0),
  (6, .iload_n 1, 1, 0, 0, 0, 0, 0),
  (7, .invokevirtual 341, 3, 128, 2, 0, 7232, 11),
  (10, .ifCond .ne 8, 3, 0, 0, 0, 0, 0),
  (13, .aload_n 0, 1, 0, 0, 0, 0, 0),
  (14, .invokevirtual 348, 3, 147, 1, 0, 8040, 11),
  (17, .ireturn, 1, 0, 0, 0, 0, 0)]
/-- SpanCopierModel.why -/
def ai_k175 : List ai_N := [(0, .iload_n 1, 1, 0, 0, 0, 0, 0),
  (1, .tableswitch 104 1 5 #[35, 104, 104, 53, 66], 35, 0, 0, 0, 0, 0),
  (54, .aload_n 0, 1, 0, 0, 0, 0, 0),
  (55, .invokevirtual 252, 3, 123, 1, 0, 7161, 11),
  (58, .ifCond .eq 7, 3, 0, 0, 0, 0, 0),
  (65, .iconst 1, 1, 0, 0, 0, 0, 0),
  (66, .ireturn, 1, 0, 0, 0, 0, 0),
  (67, .aload_n 0, 1, 0, 0, 0, 0, 0),
  (68, .getfield 98, 3, 14, 11, 0, 6094, 2),
  (71, .bipush 46, 2, 0, 0, 0, 0, 0),
  (73, .iaload, 1, 0, 0, 0, 0, 0),
  (74, .ifCond .eq 25, 3, 0, 0, 0, 0, 0),
  (99, .iconst 1, 1, 0, 0, 0, 0, 0),
  (100, .goto 4, 3, 0, 0, 0, 0, 0),
  (104, .ireturn, 1, 0, 0, 0, 0, 0)]
/-- java/lang/Math.min -/
def ai_k176 : List ai_N := [(0, .iload_n 0, 1, 0, 0, 0, 0, 0),
  (1, .iload_n 1, 1, 0, 0, 0, 0, 0),
  (2, .if_icmp .gt 7, 3, 0, 0, 0, 0, 0),
  (5, .iload_n 0, 1, 0, 0, 0, 0, 0),
  (6, .goto 4, 3, 0, 0, 0, 0, 0),
  (10, .ireturn, 1, 0, 0, 0, 0, 0)]
/-- java/util/Arrays.fill -/
def ai_k177 : List ai_N := [(0, .iconst 0, 1, 0, 0, 0, 0, 0),
  (1, .istore_n 2, 1, 0, 0, 0, 0, 0),
  (2, .aload_n 0, 1, 0, 0, 0, 0, 0),
  (3, .arraylength, 1, 0, 0, 0, 0, 0),
  (4, .istore_n 3, 1, 0, 0, 0, 0, 0),
  (5, .iload_n 2, 1, 0, 0, 0, 0, 0),
  (6, .iload_n 3, 1, 0, 0, 0, 0, 0),
  (7, .if_icmp .ge 13, 3, 0, 0, 0, 0, 0),
  (10, .aload_n 0, 1, 0, 0, 0, 0, 0),
  (11, .iload_n 2, 1, 0, 0, 0, 0, 0),
  (12, .iload_n 1, 1, 0, 0, 0, 0, 0),
  (13, .bastore, 1, 0, 0, 0, 0, 0),
  (14, .iinc 2 1, 3, 0, 0, 0, 0, 0),
  (17, .goto (-12), 3, 0, 0, 0, 0, 0),
  (20, .return_, 1, 0, 0, 0, 0, 0)]
/-- java/util/Arrays.fill -/
def ai_k178 : List ai_N := [(0, .iconst 0, 1, 0, 0, 0, 0, 0),
  (1, .istore_n 2, 1, 0, 0, 0, 0, 0),
  (2, .aload_n 0, 1, 0, 0, 0, 0, 0),
  (3, .arraylength, 1, 0, 0, 0, 0, 0),
  (4, .istore_n 3, 1, 0, 0, 0, 0, 0),
  (5, .iload_n 2, 1, 0, 0, 0, 0, 0),
  (6, .iload_n 3, 1, 0, 0, 0, 0, 0),
  (7, .if_icmp .ge 13, 3, 0, 0, 0, 0, 0),
  (10, .aload_n 0, 1, 0, 0, 0, 0, 0),
  (11, .iload_n 2, 1, 0, 0, 0, 0, 0),
  (12, .iload_n 1, 1, 0, 0, 0, 0, 0),
  (13, .iastore, 1, 0, 0, 0, 0, 0),
  (14, .iinc 2 1, 3, 0, 0, 0, 0, 0),
  (17, .goto (-12), 3, 0, 0, 0, 0, 0),
  (20, .return_, 1, 0, 0, 0, 0, 0)]
/-- SpanCopierLaw.law -/
def ai_k179 : List ai_N := [(0, .new 8, 3, 10, 12, 0, 1023, 0),
  (3, .dup, 1, 0, 0, 0, 0, 0),
  (4, .invokespecial 19, 3, 0, 1, 2, 1025, 10),
  (7, .astore_n 1, 1, 0, 0, 0, 0, 0),
  (8, .new 20, 3, 11, 39, 0, 6063, 0),
  (11, .dup, 1, 0, 0, 0, 0, 0),
  (12, .invokespecial 22, 3, 99, 1, 2, 6064, 11),
  (15, .astore_n 2, 1, 0, 0, 0, 0, 0),
  (16, .iconst 1, 1, 0, 0, 0, 0, 0),
  (17, .newarray .long, 2, 4, 0, 0, 0, 0),
  (19, .astore_n 3, 1, 0, 0, 0, 0, 0),
  (20, .iconst 0, 1, 0, 0, 0, 0, 0),
  (21, .istore 4, 2, 0, 0, 0, 0, 0),
  (23, .iload 4, 2, 0, 0, 0, 0, 0),
  (25, .aload_n 0, 1, 0, 0, 0, 0, 0),
  (26, .arraylength, 1, 0, 0, 0, 0, 0),
  (27, .bipush 6, 2, 0, 0, 0, 0, 0),
  (29, .isub, 1, 0, 0, 0, 0, 0),
  (30, .if_icmp .gt 1104, 3, 0, 0, 0, 0, 0),
  (33, .aload_n 0, 1, 0, 0, 0, 0, 0),
  (34, .iload 4, 2, 0, 0, 0, 0, 0),
  (36, .iaload, 1, 0, 0, 0, 0, 0),
  (37, .bipush 63, 2, 0, 0, 0, 0, 0),
  (39, .iand, 1, 0, 0, 0, 0, 0),
  (40, .tableswitch 1088 0 33 #[152, 225, 250, 263, 276, 289, 314, 339, 364, 401, 426, 439, 452, 465, 490, 558, 607, 644, 681, 706, 762, 775, 800, 813, 826, 851, 888, 925, 950, 975, 988, 1013, 1038, 1063], 152, 0, 0, 0, 0, 0),
  (192, .aload_n 1, 1, 0, 0, 0, 0, 0),
  (193, .aload_n 0, 1, 0, 0, 0, 0, 0),
  (194, .iload 4, 2, 0, 0, 0, 0, 0),
  (196, .iconst 1, 1, 0, 0, 0, 0, 0),
  (197, .iadd, 1, 0, 0, 0, 0, 0),
  (198, .iaload, 1, 0, 0, 0, 0, 0),
  (199, .aload_n 0, 1, 0, 0, 0, 0, 0),
  (200, .iload 4, 2, 0, 0, 0, 0, 0),
  (202, .iconst 2, 1, 0, 0, 0, 0, 0),
  (203, .iadd, 1, 0, 0, 0, 0, 0),
  (204, .iaload, 1, 0, 0, 0, 0, 0),
  (205, .aload_n 0, 1, 0, 0, 0, 0, 0),
  (206, .iload 4, 2, 0, 0, 0, 0, 0),
  (208, .iconst 3, 1, 0, 0, 0, 0, 0),
  (209, .iadd, 1, 0, 0, 0, 0, 0),
  (210, .iaload, 1, 0, 0, 0, 0, 0),
  (211, .aload_n 0, 1, 0, 0, 0, 0, 0),
  (212, .iload 4, 2, 0, 0, 0, 0, 0),
  (214, .iconst 4, 1, 0, 0, 0, 0, 0),
  (215, .iadd, 1, 0, 0, 0, 0, 0),
  (216, .iaload, 1, 0, 0, 0, 0, 0),
  (217, .aload_n 0, 1, 0, 0, 0, 0, 0),
  (218, .iload 4, 2, 0, 0, 0, 0, 0),
  (220, .iconst 5, 1, 0, 0, 0, 0, 0),
  (221, .iadd, 1, 0, 0, 0, 0, 0),
  (222, .iaload, 1, 0, 0, 0, 0, 0),
  (223, .invokevirtual 23, 3, 8, 6, 0, 2177, 10),
  (226, .aload_n 2, 1, 0, 0, 0, 0, 0),
  (227, .aload_n 0, 1, 0, 0, 0, 0, 0),
  (228, .iload 4, 2, 0, 0, 0, 0, 0),
  (230, .iconst 1, 1, 0, 0, 0, 0, 0),
  (231, .iadd, 1, 0, 0, 0, 0, 0),
  (232, .iaload, 1, 0, 0, 0, 0, 0),
  (233, .aload_n 0, 1, 0, 0, 0, 0, 0),
  (234, .iload 4, 2, 0, 0, 0, 0, 0),
  (236, .iconst 2, 1, 0, 0, 0, 0, 0),
  (237, .iadd, 1, 0, 0, 0, 0, 0),
  (238, .iaload, 1, 0, 0, 0, 0, 0),
  (239, .aload_n 0, 1, 0, 0, 0, 0, 0),
  (240, .iload 4, 2, 0, 0, 0, 0, 0),
  (242, .iconst 3, 1, 0, 0, 0, 0, 0),
  (243, .iadd, 1, 0, 0, 0, 0, 0),
  (244, .iaload, 1, 0, 0, 0, 0, 0),
  (245, .aload_n 0, 1, 0, 0, 0, 0, 0),
  (246, .iload 4, 2, 0, 0, 0, 0, 0),
  (248, .iconst 4, 1, 0, 0, 0, 0, 0),
  (249, .iadd, 1, 0, 0, 0, 0, 0),
  (250, .iaload, 1, 0, 0, 0, 0, 0),
  (251, .aload_n 0, 1, 0, 0, 0, 0, 0),
  (252, .iload 4, 2, 0, 0, 0, 0, 0),
  (254, .iconst 5, 1, 0, 0, 0, 0, 0),
  (255, .iadd, 1, 0, 0, 0, 0, 0),
  (256, .iaload, 1, 0, 0, 0, 0, 0),
  (257, .invokevirtual 27, 3, 117, 6, 0, 6050, 11),
  (260, .if_icmp .eq 868, 3, 0, 0, 0, 0, 0),
  (265, .aload_n 1, 1, 0, 0, 0, 0, 0),
  (266, .aload_n 0, 1, 0, 0, 0, 0, 0),
  (267, .iload 4, 2, 0, 0, 0, 0, 0),
  (269, .iconst 1, 1, 0, 0, 0, 0, 0),
  (270, .iadd, 1, 0, 0, 0, 0, 0),
  (271, .iaload, 1, 0, 0, 0, 0, 0),
  (272, .invokevirtual 28, 3, 6, 2, 0, 2185, 10),
  (275, .aload_n 2, 1, 0, 0, 0, 0, 0),
  (276, .aload_n 0, 1, 0, 0, 0, 0, 0),
  (277, .iload 4, 2, 0, 0, 0, 0, 0),
  (279, .iconst 1, 1, 0, 0, 0, 0, 0),
  (280, .iadd, 1, 0, 0, 0, 0, 0),
  (281, .iaload, 1, 0, 0, 0, 0, 0),
  (282, .invokevirtual 32, 3, 115, 2, 0, 6059, 11),
  (285, .if_icmp .eq 843, 3, 0, 0, 0, 0, 0),
  (290, .aload_n 1, 1, 0, 0, 0, 0, 0),
  (291, .invokevirtual 33, 3, 22, 1, 0, 2189, 10),
  (294, .aload_n 2, 1, 0, 0, 0, 0, 0),
  (295, .invokevirtual 37, 3, 139, 1, 0, 6199, 11),
  (298, .if_icmp .eq 830, 3, 0, 0, 0, 0, 0),
  (303, .aload_n 1, 1, 0, 0, 0, 0, 0),
  (304, .invokevirtual 38, 3, 7, 1, 0, 3105, 10),
  (307, .aload_n 2, 1, 0, 0, 0, 0, 0),
  (308, .invokevirtual 41, 3, 116, 1, 0, 7062, 11),
  (311, .if_icmp .eq 817, 3, 0, 0, 0, 0, 0),
  (316, .aload_n 1, 1, 0, 0, 0, 0, 0),
  (317, .invokevirtual 42, 3, 9, 1, 0, 3109, 10),
  (320, .aload_n 2, 1, 0, 0, 0, 0, 0),
  (321, .invokevirtual 45, 3, 118, 1, 0, 7074, 11),
  (324, .if_icmp .eq 804, 3, 0, 0, 0, 0, 0),
  (329, .aload_n 1, 1, 0, 0, 0, 0, 0),
  (330, .aload_n 0, 1, 0, 0, 0, 0, 0),
  (331, .iload 4, 2, 0, 0, 0, 0, 0),
  (333, .iconst 1, 1, 0, 0, 0, 0, 0),
  (334, .iadd, 1, 0, 0, 0, 0, 0),
  (335, .iaload, 1, 0, 0, 0, 0, 0),
  (336, .invokevirtual 46, 3, 36, 2, 0, 3166, 10),
  (339, .aload_n 2, 1, 0, 0, 0, 0, 0),
  (340, .aload_n 0, 1, 0, 0, 0, 0, 0),
  (341, .iload 4, 2, 0, 0, 0, 0, 0),
  (343, .iconst 1, 1, 0, 0, 0, 0, 0),
  (344, .iadd, 1, 0, 0, 0, 0, 0),
  (345, .iaload, 1, 0, 0, 0, 0, 0),
  (346, .invokevirtual 49, 3, 170, 2, 0, 7086, 11),
  (349, .if_icmp .eq 779, 3, 0, 0, 0, 0, 0),
  (354, .aload_n 1, 1, 0, 0, 0, 0, 0),
  (355, .aload_n 0, 1, 0, 0, 0, 0, 0),
  (356, .iload 4, 2, 0, 0, 0, 0, 0),
  (358, .iconst 1, 1, 0, 0, 0, 0, 0),
  (359, .iadd, 1, 0, 0, 0, 0, 0),
  (360, .iaload, 1, 0, 0, 0, 0, 0),
  (361, .invokevirtual 50, 3, 18, 2, 0, 4103, 10),
  (364, .aload_n 2, 1, 0, 0, 0, 0, 0),
  (365, .aload_n 0, 1, 0, 0, 0, 0, 0),
  (366, .iload 4, 2, 0, 0, 0, 0, 0),
  (368, .iconst 1, 1, 0, 0, 0, 0, 0),
  (369, .iadd, 1, 0, 0, 0, 0, 0),
  (370, .iaload, 1, 0, 0, 0, 0, 0),
  (371, .invokevirtual 53, 3, 133, 2, 0, 7228, 11),
  (374, .if_icmp .eq 754, 3, 0, 0, 0, 0, 0),
  (379, .aload_n 1, 1, 0, 0, 0, 0, 0),
  (380, .aload_n 0, 1, 0, 0, 0, 0, 0),
  (381, .iload 4, 2, 0, 0, 0, 0, 0),
  (383, .iconst 1, 1, 0, 0, 0, 0, 0),
  (384, .iadd, 1, 0, 0, 0, 0, 0),
  (385, .iaload, 1, 0, 0, 0, 0, 0),
  (386, .invokevirtual 54, 3, 39, 2, 0, 4112, 10),
  (389, .aload_n 2, 1, 0, 0, 0, 0, 0),
  (390, .aload_n 0, 1, 0, 0, 0, 0, 0),
  (391, .iload 4, 2, 0, 0, 0, 0, 0),
  (393, .iconst 1, 1, 0, 0, 0, 0, 0),
  (394, .iadd, 1, 0, 0, 0, 0, 0),
  (395, .iaload, 1, 0, 0, 0, 0, 0),
  (396, .invokevirtual 57, 3, 172, 2, 0, 8012, 11),
  (399, .if_icmp .eq 729, 3, 0, 0, 0, 0, 0),
  (404, .aload_n 1, 1, 0, 0, 0, 0, 0),
  (405, .aload_n 0, 1, 0, 0, 0, 0, 0),
  (406, .iload 4, 2, 0, 0, 0, 0, 0),
  (408, .iconst 1, 1, 0, 0, 0, 0, 0),
  (409, .iadd, 1, 0, 0, 0, 0, 0),
  (410, .iaload, 1, 0, 0, 0, 0, 0),
  (411, .aload_n 0, 1, 0, 0, 0, 0, 0),
  (412, .iload 4, 2, 0, 0, 0, 0, 0),
  (414, .iconst 2, 1, 0, 0, 0, 0, 0),
  (415, .iadd, 1, 0, 0, 0, 0, 0),
  (416, .iaload, 1, 0, 0, 0, 0, 0),
  (417, .invokevirtual 58, 3, 16, 3, 0, 4120, 10),
  (420, .aload_n 2, 1, 0, 0, 0, 0, 0),
  (421, .aload_n 0, 1, 0, 0, 0, 0, 0),
  (422, .iload 4, 2, 0, 0, 0, 0, 0),
  (424, .iconst 1, 1, 0, 0, 0, 0, 0),
  (425, .iadd, 1, 0, 0, 0, 0, 0),
  (426, .iaload, 1, 0, 0, 0, 0, 0),
  (427, .aload_n 0, 1, 0, 0, 0, 0, 0),
  (428, .iload 4, 2, 0, 0, 0, 0, 0),
  (430, .iconst 2, 1, 0, 0, 0, 0, 0),
  (431, .iadd, 1, 0, 0, 0, 0, 0),
  (432, .iaload, 1, 0, 0, 0, 0, 0),
  (433, .invokevirtual 61, 3, 131, 3, 0, 8016, 11),
  (436, .if_icmp .eq 692, 3, 0, 0, 0, 0, 0),
  (441, .aload_n 1, 1, 0, 0, 0, 0, 0),
  (442, .aload_n 0, 1, 0, 0, 0, 0, 0),
  (443, .iload 4, 2, 0, 0, 0, 0, 0),
  (445, .iconst 1, 1, 0, 0, 0, 0, 0),
  (446, .iadd, 1, 0, 0, 0, 0, 0),
  (447, .iaload, 1, 0, 0, 0, 0, 0),
  (448, .invokevirtual 62, 3, 31, 2, 0, 4128, 10),
  (451, .aload_n 2, 1, 0, 0, 0, 0, 0),
  (452, .aload_n 0, 1, 0, 0, 0, 0, 0),
  (453, .iload 4, 2, 0, 0, 0, 0, 0),
  (455, .iconst 1, 1, 0, 0, 0, 0, 0),
  (456, .iadd, 1, 0, 0, 0, 0, 0),
  (457, .iaload, 1, 0, 0, 0, 0, 0),
  (458, .invokevirtual 65, 3, 159, 2, 0, 8020, 11),
  (461, .if_icmp .eq 667, 3, 0, 0, 0, 0, 0),
  (466, .aload_n 1, 1, 0, 0, 0, 0, 0),
  (467, .invokevirtual 66, 3, 25, 1, 0, 4137, 10),
  (470, .aload_n 2, 1, 0, 0, 0, 0, 0),
  (471, .invokevirtual 69, 3, 143, 1, 0, 8024, 11),
  (474, .if_icmp .eq 654, 3, 0, 0, 0, 0, 0),
  (479, .aload_n 1, 1, 0, 0, 0, 0, 0),
  (480, .invokevirtual 70, 3, 4, 1, 0, 4147, 10),
  (483, .aload_n 2, 1, 0, 0, 0, 0, 0),
  (484, .invokevirtual 73, 3, 108, 1, 0, 8028, 11),
  (487, .if_icmp .eq 641, 3, 0, 0, 0, 0, 0),
  (492, .aload_n 1, 1, 0, 0, 0, 0, 0),
  (493, .invokevirtual 74, 3, 40, 1, 0, 4159, 10),
  (496, .aload_n 2, 1, 0, 0, 0, 0, 0),
  (497, .invokevirtual 77, 3, 173, 1, 0, 7066, 11),
  (500, .if_icmp .eq 628, 3, 0, 0, 0, 0, 0),
  (505, .aload_n 1, 1, 0, 0, 0, 0, 0),
  (506, .aload_n 0, 1, 0, 0, 0, 0, 0),
  (507, .iload 4, 2, 0, 0, 0, 0, 0),
  (509, .iconst 1, 1, 0, 0, 0, 0, 0),
  (510, .iadd, 1, 0, 0, 0, 0, 0),
  (511, .iaload, 1, 0, 0, 0, 0, 0),
  (512, .invokevirtual 78, 3, 20, 2, 0, 4163, 10),
  (515, .aload_n 2, 1, 0, 0, 0, 0, 0),
  (516, .aload_n 0, 1, 0, 0, 0, 0, 0),
  (517, .iload 4, 2, 0, 0, 0, 0, 0),
  (519, .iconst 1, 1, 0, 0, 0, 0, 0),
  (520, .iadd, 1, 0, 0, 0, 0, 0),
  (521, .iaload, 1, 0, 0, 0, 0, 0),
  (522, .invokevirtual 81, 3, 136, 2, 0, 8032, 11),
  (525, .if_icmp .eq 603, 3, 0, 0, 0, 0, 0),
  (530, .aload_n 1, 1, 0, 0, 0, 0, 0),
  (531, .aload_n 0, 1, 0, 0, 0, 0, 0),
  (532, .iload 4, 2, 0, 0, 0, 0, 0),
  (534, .iconst 1, 1, 0, 0, 0, 0, 0),
  (535, .iadd, 1, 0, 0, 0, 0, 0),
  (536, .iaload, 1, 0, 0, 0, 0, 0),
  (537, .aload_n 0, 1, 0, 0, 0, 0, 0),
  (538, .iload 4, 2, 0, 0, 0, 0, 0),
  (540, .iconst 2, 1, 0, 0, 0, 0, 0),
  (541, .iadd, 1, 0, 0, 0, 0, 0),
  (542, .iaload, 1, 0, 0, 0, 0, 0),
  (543, .aload_n 3, 1, 0, 0, 0, 0, 0),
  (547, .istore 5, 2, 0, 0, 0, 0, 0),
  (549, .aload_n 2, 1, 0, 0, 0, 0, 0),
  (550, .aload_n 0, 1, 0, 0, 0, 0, 0),
  (551, .iload 4, 2, 0, 0, 0, 0, 0),
  (553, .iconst 1, 1, 0, 0, 0, 0, 0),
  (554, .iadd, 1, 0, 0, 0, 0, 0),
  (555, .iaload, 1, 0, 0, 0, 0, 0),
  (556, .aload_n 0, 1, 0, 0, 0, 0, 0),
  (557, .iload 4, 2, 0, 0, 0, 0, 0),
  (559, .iconst 2, 1, 0, 0, 0, 0, 0),
  (560, .iadd, 1, 0, 0, 0, 0, 0),
  (561, .iaload, 1, 0, 0, 0, 0, 0),
  (562, .invokevirtual 87, 3, 174, 3, 0, 8036, 11),
  (565, .istore 6, 2, 0, 0, 0, 0, 0),
  (567, .aload_n 2, 1, 0, 0, 0, 0, 0),
  (568, .invokevirtual 88, 3, 169, 1, 0, 6046, 11),
  (571, .iload 5, 2, 0, 0, 0, 0, 0),
  (573, .if_icmp .eq 5, 3, 0, 0, 0, 0, 0),
  (578, .iload 5, 2, 0, 0, 0, 0, 0),
  (580, .ifCond .ne 15, 3, 0, 0, 0, 0, 0),
  (595, .goto 533, 3, 0, 0, 0, 0, 0),
  (598, .aload_n 1, 1, 0, 0, 0, 0, 0),
  (599, .aload_n 0, 1, 0, 0, 0, 0, 0),
  (600, .iload 4, 2, 0, 0, 0, 0, 0),
  (602, .iconst 1, 1, 0, 0, 0, 0, 0),
  (603, .iadd, 1, 0, 0, 0, 0, 0),
  (604, .iaload, 1, 0, 0, 0, 0, 0),
  (605, .aload_n 0, 1, 0, 0, 0, 0, 0),
  (606, .iload 4, 2, 0, 0, 0, 0, 0),
  (608, .iconst 2, 1, 0, 0, 0, 0, 0),
  (609, .iadd, 1, 0, 0, 0, 0, 0),
  (610, .iaload, 1, 0, 0, 0, 0, 0),
  (611, .aload_n 0, 1, 0, 0, 0, 0, 0),
  (612, .iload 4, 2, 0, 0, 0, 0, 0),
  (614, .iconst 3, 1, 0, 0, 0, 0, 0),
  (615, .iadd, 1, 0, 0, 0, 0, 0),
  (616, .iaload, 1, 0, 0, 0, 0, 0),
  (617, .invokevirtual 91, 3, 30, 4, 0, 4176, 10),
  (620, .aload_n 2, 1, 0, 0, 0, 0, 0),
  (621, .aload_n 0, 1, 0, 0, 0, 0, 0),
  (622, .iload 4, 2, 0, 0, 0, 0, 0),
  (624, .iconst 1, 1, 0, 0, 0, 0, 0),
  (625, .iadd, 1, 0, 0, 0, 0, 0),
  (626, .iaload, 1, 0, 0, 0, 0, 0),
  (627, .aload_n 0, 1, 0, 0, 0, 0, 0),
  (628, .iload 4, 2, 0, 0, 0, 0, 0),
  (630, .iconst 2, 1, 0, 0, 0, 0, 0),
  (631, .iadd, 1, 0, 0, 0, 0, 0),
  (632, .iaload, 1, 0, 0, 0, 0, 0),
  (633, .aload_n 0, 1, 0, 0, 0, 0, 0),
  (634, .iload 4, 2, 0, 0, 0, 0, 0),
  (636, .iconst 3, 1, 0, 0, 0, 0, 0),
  (637, .iadd, 1, 0, 0, 0, 0, 0),
  (638, .iaload, 1, 0, 0, 0, 0, 0),
  (639, .invokevirtual 95, 3, 156, 4, 0, 8055, 11),
  (642, .if_icmp .eq 486, 3, 0, 0, 0, 0, 0),
  (647, .aload_n 1, 1, 0, 0, 0, 0, 0),
  (648, .aload_n 0, 1, 0, 0, 0, 0, 0),
  (649, .iload 4, 2, 0, 0, 0, 0, 0),
  (651, .iconst 1, 1, 0, 0, 0, 0, 0),
  (652, .iadd, 1, 0, 0, 0, 0, 0),
  (653, .iaload, 1, 0, 0, 0, 0, 0),
  (654, .aload_n 0, 1, 0, 0, 0, 0, 0),
  (655, .iload 4, 2, 0, 0, 0, 0, 0),
  (657, .iconst 2, 1, 0, 0, 0, 0, 0),
  (658, .iadd, 1, 0, 0, 0, 0, 0),
  (659, .iaload, 1, 0, 0, 0, 0, 0),
  (660, .invokevirtual 96, 3, 10, 3, 0, 4184, 10),
  (663, .aload_n 2, 1, 0, 0, 0, 0, 0),
  (664, .aload_n 0, 1, 0, 0, 0, 0, 0),
  (665, .iload 4, 2, 0, 0, 0, 0, 0),
  (667, .iconst 1, 1, 0, 0, 0, 0, 0),
  (668, .iadd, 1, 0, 0, 0, 0, 0),
  (669, .iaload, 1, 0, 0, 0, 0, 0),
  (670, .aload_n 0, 1, 0, 0, 0, 0, 0),
  (671, .iload 4, 2, 0, 0, 0, 0, 0),
  (673, .iconst 2, 1, 0, 0, 0, 0, 0),
  (674, .iadd, 1, 0, 0, 0, 0, 0),
  (675, .iaload, 1, 0, 0, 0, 0, 0),
  (676, .invokevirtual 99, 3, 120, 3, 0, 8059, 11),
  (679, .if_icmp .eq 449, 3, 0, 0, 0, 0, 0),
  (684, .aload_n 1, 1, 0, 0, 0, 0, 0),
  (685, .aload_n 0, 1, 0, 0, 0, 0, 0),
  (686, .iload 4, 2, 0, 0, 0, 0, 0),
  (688, .iconst 1, 1, 0, 0, 0, 0, 0),
  (689, .iadd, 1, 0, 0, 0, 0, 0),
  (690, .iaload, 1, 0, 0, 0, 0, 0),
  (691, .aload_n 0, 1, 0, 0, 0, 0, 0),
  (692, .iload 4, 2, 0, 0, 0, 0, 0),
  (694, .iconst 2, 1, 0, 0, 0, 0, 0),
  (695, .iadd, 1, 0, 0, 0, 0, 0),
  (696, .iaload, 1, 0, 0, 0, 0, 0),
  (697, .invokevirtual 100, 3, 26, 3, 0, 4193, 10),
  (700, .aload_n 2, 1, 0, 0, 0, 0, 0),
  (701, .aload_n 0, 1, 0, 0, 0, 0, 0),
  (702, .iload 4, 2, 0, 0, 0, 0, 0),
  (704, .iconst 1, 1, 0, 0, 0, 0, 0),
  (705, .iadd, 1, 0, 0, 0, 0, 0),
  (706, .iaload, 1, 0, 0, 0, 0, 0),
  (707, .aload_n 0, 1, 0, 0, 0, 0, 0),
  (708, .iload 4, 2, 0, 0, 0, 0, 0),
  (710, .iconst 2, 1, 0, 0, 0, 0, 0),
  (711, .iadd, 1, 0, 0, 0, 0, 0),
  (712, .iaload, 1, 0, 0, 0, 0, 0),
  (713, .invokevirtual 103, 3, 148, 3, 0, 8063, 11),
  (716, .if_icmp .eq 412, 3, 0, 0, 0, 0, 0),
  (721, .aload_n 1, 1, 0, 0, 0, 0, 0),
  (722, .aload_n 0, 1, 0, 0, 0, 0, 0),
  (723, .iload 4, 2, 0, 0, 0, 0, 0),
  (725, .iconst 1, 1, 0, 0, 0, 0, 0),
  (726, .iadd, 1, 0, 0, 0, 0, 0),
  (727, .iaload, 1, 0, 0, 0, 0, 0),
  (728, .invokevirtual 104, 3, 34, 2, 0, 4197, 10),
  (731, .aload_n 2, 1, 0, 0, 0, 0, 0),
  (732, .aload_n 0, 1, 0, 0, 0, 0, 0),
  (733, .iload 4, 2, 0, 0, 0, 0, 0),
  (735, .iconst 1, 1, 0, 0, 0, 0, 0),
  (736, .iadd, 1, 0, 0, 0, 0, 0),
  (737, .iaload, 1, 0, 0, 0, 0, 0),
  (738, .invokevirtual 107, 3, 166, 2, 0, 8067, 11),
  (741, .if_icmp .eq 387, 3, 0, 0, 0, 0, 0),
  (746, .aload_n 1, 1, 0, 0, 0, 0, 0),
  (747, .aload_n 0, 1, 0, 0, 0, 0, 0),
  (748, .iload 4, 2, 0, 0, 0, 0, 0),
  (750, .iconst 1, 1, 0, 0, 0, 0, 0),
  (751, .iadd, 1, 0, 0, 0, 0, 0),
  (752, .iaload, 1, 0, 0, 0, 0, 0),
  (753, .aload_n 3, 1, 0, 0, 0, 0, 0),
  (757, .istore 5, 2, 0, 0, 0, 0, 0),
  (759, .aload_n 2, 1, 0, 0, 0, 0, 0),
  (760, .aload_n 0, 1, 0, 0, 0, 0, 0),
  (761, .iload 4, 2, 0, 0, 0, 0, 0),
  (763, .iconst 1, 1, 0, 0, 0, 0, 0),
  (764, .iadd, 1, 0, 0, 0, 0, 0),
  (765, .iaload, 1, 0, 0, 0, 0, 0),
  (766, .invokevirtual 111, 3, 164, 2, 0, 8071, 11),
  (769, .istore 6, 2, 0, 0, 0, 0, 0),
  (771, .aload_n 2, 1, 0, 0, 0, 0, 0),
  (772, .invokevirtual 88, 3, 169, 1, 0, 6046, 11),
  (775, .iload 5, 2, 0, 0, 0, 0, 0),
  (777, .if_icmp .eq 5, 3, 0, 0, 0, 0, 0),
  (782, .iload 5, 2, 0, 0, 0, 0, 0),
  (784, .ifCond .ne 15, 3, 0, 0, 0, 0, 0),
  (787, .aload_n 3, 1, 0, 0, 0, 0, 0),
  (788, .iconst 0, 1, 0, 0, 0, 0, 0),
  (789, .laload, 1, 0, 0, 0, 0, 0),
  (790, .iload 6, 2, 0, 0, 0, 0, 0),
  (792, .i2l, 1, 0, 0, 0, 0, 0),
  (793, .lcmp, 1, 0, 0, 0, 0, 0),
  (794, .ifCond .eq 5, 3, 0, 0, 0, 0, 0),
  (799, .goto 329, 3, 0, 0, 0, 0, 0),
  (802, .aload_n 1, 1, 0, 0, 0, 0, 0),
  (803, .invokevirtual 112, 3, 32, 1, 0, 4205, 10),
  (806, .aload_n 2, 1, 0, 0, 0, 0, 0),
  (807, .invokevirtual 115, 3, 163, 1, 0, 8075, 11),
  (810, .if_icmp .eq 318, 3, 0, 0, 0, 0, 0),
  (815, .aload_n 1, 1, 0, 0, 0, 0, 0),
  (816, .aload_n 0, 1, 0, 0, 0, 0, 0),
  (817, .iload 4, 2, 0, 0, 0, 0, 0),
  (819, .iconst 1, 1, 0, 0, 0, 0, 0),
  (820, .iadd, 1, 0, 0, 0, 0, 0),
  (821, .iaload, 1, 0, 0, 0, 0, 0),
  (822, .invokevirtual 116, 3, 12, 2, 0, 4209, 10),
  (825, .aload_n 2, 1, 0, 0, 0, 0, 0),
  (826, .aload_n 0, 1, 0, 0, 0, 0, 0),
  (827, .iload 4, 2, 0, 0, 0, 0, 0),
  (829, .iconst 1, 1, 0, 0, 0, 0, 0),
  (830, .iadd, 1, 0, 0, 0, 0, 0),
  (831, .iaload, 1, 0, 0, 0, 0, 0),
  (832, .invokevirtual 119, 3, 130, 2, 0, 8079, 11),
  (835, .if_icmp .eq 293, 3, 0, 0, 0, 0, 0),
  (840, .aload_n 1, 1, 0, 0, 0, 0, 0),
  (841, .invokevirtual 120, 3, 19, 1, 0, 4217, 10),
  (844, .aload_n 2, 1, 0, 0, 0, 0, 0),
  (845, .invokevirtual 123, 3, 134, 1, 0, 8083, 11),
  (848, .if_icmp .eq 280, 3, 0, 0, 0, 0, 0),
  (853, .aload_n 1, 1, 0, 0, 0, 0, 0),
  (854, .invokevirtual 124, 3, 23, 1, 0, 4226, 10),
  (857, .aload_n 2, 1, 0, 0, 0, 0, 0),
  (858, .invokevirtual 127, 3, 140, 1, 0, 8087, 11),
  (861, .if_icmp .eq 267, 3, 0, 0, 0, 0, 0),
  (866, .aload_n 1, 1, 0, 0, 0, 0, 0),
  (867, .aload_n 0, 1, 0, 0, 0, 0, 0),
  (868, .iload 4, 2, 0, 0, 0, 0, 0),
  (870, .iconst 1, 1, 0, 0, 0, 0, 0),
  (871, .iadd, 1, 0, 0, 0, 0, 0),
  (872, .iaload, 1, 0, 0, 0, 0, 0),
  (873, .invokevirtual 128, 3, 24, 2, 0, 5010, 10),
  (876, .aload_n 2, 1, 0, 0, 0, 0, 0),
  (877, .aload_n 0, 1, 0, 0, 0, 0, 0),
  (878, .iload 4, 2, 0, 0, 0, 0, 0),
  (880, .iconst 1, 1, 0, 0, 0, 0, 0),
  (881, .iadd, 1, 0, 0, 0, 0, 0),
  (882, .iaload, 1, 0, 0, 0, 0, 0),
  (883, .invokevirtual 131, 3, 141, 2, 0, 8095, 11),
  (886, .if_icmp .eq 242, 3, 0, 0, 0, 0, 0),
  (891, .aload_n 1, 1, 0, 0, 0, 0, 0),
  (892, .aload_n 0, 1, 0, 0, 0, 0, 0),
  (893, .iload 4, 2, 0, 0, 0, 0, 0),
  (895, .iconst 1, 1, 0, 0, 0, 0, 0),
  (896, .iadd, 1, 0, 0, 0, 0, 0),
  (897, .iaload, 1, 0, 0, 0, 0, 0),
  (898, .aload_n 0, 1, 0, 0, 0, 0, 0),
  (899, .iload 4, 2, 0, 0, 0, 0, 0),
  (901, .iconst 2, 1, 0, 0, 0, 0, 0),
  (902, .iadd, 1, 0, 0, 0, 0, 0),
  (903, .iaload, 1, 0, 0, 0, 0, 0),
  (904, .invokevirtual 132, 3, 5, 3, 0, 5014, 10),
  (907, .aload_n 2, 1, 0, 0, 0, 0, 0),
  (908, .aload_n 0, 1, 0, 0, 0, 0, 0),
  (909, .iload 4, 2, 0, 0, 0, 0, 0),
  (911, .iconst 1, 1, 0, 0, 0, 0, 0),
  (912, .iadd, 1, 0, 0, 0, 0, 0),
  (913, .iaload, 1, 0, 0, 0, 0, 0),
  (914, .aload_n 0, 1, 0, 0, 0, 0, 0),
  (915, .iload 4, 2, 0, 0, 0, 0, 0),
  (917, .iconst 2, 1, 0, 0, 0, 0, 0),
  (918, .iadd, 1, 0, 0, 0, 0, 0),
  (919, .iaload, 1, 0, 0, 0, 0, 0),
  (920, .invokevirtual 135, 3, 112, 3, 0, 8099, 11),
  (923, .if_icmp .eq 205, 3, 0, 0, 0, 0, 0),
  (928, .aload_n 1, 1, 0, 0, 0, 0, 0),
  (929, .aload_n 0, 1, 0, 0, 0, 0, 0),
  (930, .iload 4, 2, 0, 0, 0, 0, 0),
  (932, .iconst 1, 1, 0, 0, 0, 0, 0),
  (933, .iadd, 1, 0, 0, 0, 0, 0),
  (934, .iaload, 1, 0, 0, 0, 0, 0),
  (935, .aload_n 0, 1, 0, 0, 0, 0, 0),
  (936, .iload 4, 2, 0, 0, 0, 0, 0),
  (938, .iconst 2, 1, 0, 0, 0, 0, 0),
  (939, .iadd, 1, 0, 0, 0, 0, 0),
  (940, .iaload, 1, 0, 0, 0, 0, 0),
  (941, .invokevirtual 136, 3, 21, 3, 0, 5032, 10),
  (944, .aload_n 2, 1, 0, 0, 0, 0, 0),
  (945, .aload_n 0, 1, 0, 0, 0, 0, 0),
  (946, .iload 4, 2, 0, 0, 0, 0, 0),
  (948, .iconst 1, 1, 0, 0, 0, 0, 0),
  (949, .iadd, 1, 0, 0, 0, 0, 0),
  (950, .iaload, 1, 0, 0, 0, 0, 0),
  (951, .aload_n 0, 1, 0, 0, 0, 0, 0),
  (952, .iload 4, 2, 0, 0, 0, 0, 0),
  (954, .iconst 2, 1, 0, 0, 0, 0, 0),
  (955, .iadd, 1, 0, 0, 0, 0, 0),
  (956, .iaload, 1, 0, 0, 0, 0, 0),
  (957, .invokevirtual 139, 3, 137, 3, 0, 8124, 11),
  (960, .if_icmp .eq 168, 3, 0, 0, 0, 0, 0),
  (965, .aload_n 1, 1, 0, 0, 0, 0, 0),
  (966, .aload_n 0, 1, 0, 0, 0, 0, 0),
  (967, .iload 4, 2, 0, 0, 0, 0, 0),
  (969, .iconst 1, 1, 0, 0, 0, 0, 0),
  (970, .iadd, 1, 0, 0, 0, 0, 0),
  (971, .iaload, 1, 0, 0, 0, 0, 0),
  (972, .invokevirtual 140, 3, 1, 2, 0, 5048, 10),
  (975, .aload_n 2, 1, 0, 0, 0, 0, 0),
  (976, .aload_n 0, 1, 0, 0, 0, 0, 0),
  (977, .iload 4, 2, 0, 0, 0, 0, 0),
  (979, .iconst 1, 1, 0, 0, 0, 0, 0),
  (980, .iadd, 1, 0, 0, 0, 0, 0),
  (981, .iaload, 1, 0, 0, 0, 0, 0),
  (982, .invokevirtual 143, 3, 104, 2, 0, 8128, 11),
  (985, .if_icmp .eq 143, 3, 0, 0, 0, 0, 0),
  (990, .aload_n 1, 1, 0, 0, 0, 0, 0),
  (991, .aload_n 0, 1, 0, 0, 0, 0, 0),
  (992, .iload 4, 2, 0, 0, 0, 0, 0),
  (994, .iconst 1, 1, 0, 0, 0, 0, 0),
  (995, .iadd, 1, 0, 0, 0, 0, 0),
  (996, .iaload, 1, 0, 0, 0, 0, 0),
  (997, .invokevirtual 144, 3, 37, 2, 0, 5098, 10),
  (1000, .aload_n 2, 1, 0, 0, 0, 0, 0),
  (1001, .aload_n 0, 1, 0, 0, 0, 0, 0),
  (1002, .iload 4, 2, 0, 0, 0, 0, 0),
  (1004, .iconst 1, 1, 0, 0, 0, 0, 0),
  (1005, .iadd, 1, 0, 0, 0, 0, 0),
  (1006, .iaload, 1, 0, 0, 0, 0, 0),
  (1007, .invokevirtual 147, 3, 171, 2, 0, 8148, 11),
  (1010, .if_icmp .eq 118, 3, 0, 0, 0, 0, 0),
  (1015, .aload_n 1, 1, 0, 0, 0, 0, 0),
  (1016, .invokevirtual 148, 3, 29, 1, 0, 5102, 10),
  (1019, .aload_n 2, 1, 0, 0, 0, 0, 0),
  (1020, .invokevirtual 151, 3, 154, 1, 0, 8152, 11),
  (1023, .if_icmp .eq 105, 3, 0, 0, 0, 0, 0),
  (1028, .aload_n 1, 1, 0, 0, 0, 0, 0),
  (1029, .aload_n 0, 1, 0, 0, 0, 0, 0),
  (1030, .iload 4, 2, 0, 0, 0, 0, 0),
  (1032, .iconst 1, 1, 0, 0, 0, 0, 0),
  (1033, .iadd, 1, 0, 0, 0, 0, 0),
  (1034, .iaload, 1, 0, 0, 0, 0, 0),
  (1035, .invokevirtual 152, 3, 28, 2, 0, 5174, 10),
  (1038, .aload_n 2, 1, 0, 0, 0, 0, 0),
  (1039, .aload_n 0, 1, 0, 0, 0, 0, 0),
  (1040, .iload 4, 2, 0, 0, 0, 0, 0),
  (1042, .iconst 1, 1, 0, 0, 0, 0, 0),
  (1043, .iadd, 1, 0, 0, 0, 0, 0),
  (1044, .iaload, 1, 0, 0, 0, 0, 0),
  (1045, .invokevirtual 155, 3, 150, 2, 0, 8188, 11),
  (1048, .if_icmp .eq 80, 3, 0, 0, 0, 0, 0),
  (1053, .aload_n 1, 1, 0, 0, 0, 0, 0),
  (1054, .aload_n 0, 1, 0, 0, 0, 0, 0),
  (1055, .iload 4, 2, 0, 0, 0, 0, 0),
  (1057, .iconst 1, 1, 0, 0, 0, 0, 0),
  (1058, .iadd, 1, 0, 0, 0, 0, 0),
  (1059, .iaload, 1, 0, 0, 0, 0, 0),
  (1060, .invokevirtual 156, 3, 11, 2, 0, 5192, 10),
  (1063, .aload_n 2, 1, 0, 0, 0, 0, 0),
  (1064, .aload_n 0, 1, 0, 0, 0, 0, 0),
  (1065, .iload 4, 2, 0, 0, 0, 0, 0),
  (1067, .iconst 1, 1, 0, 0, 0, 0, 0),
  (1068, .iadd, 1, 0, 0, 0, 0, 0),
  (1069, .iaload, 1, 0, 0, 0, 0, 0),
  (1070, .invokevirtual 159, 3, 122, 2, 0, 8196, 11),
  (1073, .if_icmp .eq 55, 3, 0, 0, 0, 0, 0),
  (1078, .aload_n 1, 1, 0, 0, 0, 0, 0),
  (1079, .aload_n 0, 1, 0, 0, 0, 0, 0),
  (1080, .iload 4, 2, 0, 0, 0, 0, 0),
  (1082, .iconst 1, 1, 0, 0, 0, 0, 0),
  (1083, .iadd, 1, 0, 0, 0, 0, 0),
  (1084, .iaload, 1, 0, 0, 0, 0, 0),
  (1085, .invokevirtual 160, 3, 27, 2, 0, 5196, 10),
  (1088, .aload_n 2, 1, 0, 0, 0, 0, 0),
  (1089, .aload_n 0, 1, 0, 0, 0, 0, 0),
  (1090, .iload 4, 2, 0, 0, 0, 0, 0),
  (1092, .iconst 1, 1, 0, 0, 0, 0, 0),
  (1093, .iadd, 1, 0, 0, 0, 0, 0),
  (1094, .iaload, 1, 0, 0, 0, 0, 0),
  (1095, .invokevirtual 163, 3, 149, 2, 0, 8200, 11),
  (1098, .if_icmp .eq 30, 3, 0, 0, 0, 0, 0),
  (1103, .aload_n 1, 1, 0, 0, 0, 0, 0),
  (1104, .aload_n 0, 1, 0, 0, 0, 0, 0),
  (1105, .iload 4, 2, 0, 0, 0, 0, 0),
  (1107, .iconst 1, 1, 0, 0, 0, 0, 0),
  (1108, .iadd, 1, 0, 0, 0, 0, 0),
  (1109, .iaload, 1, 0, 0, 0, 0, 0),
  (1110, .invokevirtual 164, 3, 3, 2, 0, 5200, 10),
  (1113, .aload_n 2, 1, 0, 0, 0, 0, 0),
  (1114, .aload_n 0, 1, 0, 0, 0, 0, 0),
  (1115, .iload 4, 2, 0, 0, 0, 0, 0),
  (1117, .iconst 1, 1, 0, 0, 0, 0, 0),
  (1118, .iadd, 1, 0, 0, 0, 0, 0),
  (1119, .iaload, 1, 0, 0, 0, 0, 0),
  (1120, .invokevirtual 167, 3, 107, 2, 0, 8204, 11),
  (1123, .if_icmp .eq 5, 3, 0, 0, 0, 0, 0),
  (1128, .iinc 4 6, 3, 0, 0, 0, 0, 0),
  (1131, .goto (-1108), 3, 0, 0, 0, 0, 0),
  (1134, .iconst 1, 1, 0, 0, 0, 0, 0),
  (1135, .ireturn, 1, 1, 0, 0, 0, 0)]
/-- SpanCopierLaw.unit -/
def ai_k180 : List ai_N := [(0, .aload_n 3, 1, 0, 0, 0, 0, 0),
  (1, .iconst 0, 1, 0, 0, 0, 0, 0),
  (2, .aload_n 0, 1, 0, 0, 0, 0, 0),
  (3, .iload_n 1, 1, 0, 0, 0, 0, 0),
  (4, .iload_n 2, 1, 0, 0, 0, 0, 0),
  (5, .invokevirtual 7, 3, 41, 3, 0, 5212, 10),
  (8, .i2l, 1, 0, 0, 0, 0, 0),
  (9, .lastore, 1, 0, 0, 0, 0, 0),
  (10, .goto 7, 3, 0, 0, 0, 0, 0),
  (13, .astore 4, 2, 0, 0, 0, 0, 0),
  (15, .iconst 1, 1, 0, 0, 0, 0, 0),
  (16, .ireturn, 1, 0, 0, 0, 0, 0),
  (17, .iconst 0, 1, 0, 0, 0, 0, 0),
  (18, .ireturn, 1, 0, 0, 0, 0, 0)]
/-- SpanCopierLaw.sum -/
def ai_k181 : List ai_N := [(0, .aload_n 2, 1, 0, 0, 0, 0, 0),
  (1, .iconst 0, 1, 0, 0, 0, 0, 0),
  (2, .aload_n 0, 1, 0, 0, 0, 0, 0),
  (3, .iload_n 1, 1, 0, 0, 0, 0, 0),
  (4, .invokevirtual 15, 3, 33, 2, 0, 6041, 10),
  (7, .i2l, 1, 0, 0, 0, 0, 0),
  (8, .lastore, 1, 0, 0, 0, 0, 0),
  (9, .goto 6, 3, 0, 0, 0, 0, 0),
  (12, .astore_n 3, 1, 0, 0, 0, 0, 0),
  (13, .iconst 1, 1, 0, 0, 0, 0, 0),
  (14, .ireturn, 1, 0, 0, 0, 0, 0),
  (15, .iconst 0, 1, 0, 0, 0, 0, 0),
  (16, .ireturn, 1, 0, 0, 0, 0, 0)]
def ai_tab : List ai_M := [(1, ai_k0, 56, 4762), (5, ai_k1, 46, 3670), (1, ai_k2, 0, 0), (2, ai_k3, 0, 0), (1, ai_k4, 0, 0), (4, ai_k5, 23, 1835), (2, ai_k6, 0, 0), (1, ai_k7, 0, 0), (6, ai_k8, 0, 0), (2, ai_k9, 0, 0), (3, ai_k10, 0, 0), (3, ai_k11, 23, 1835), (2, ai_k12, 0, 0), (3, ai_k13, 23, 1835), (2, ai_k14, 23, 1835), (2, ai_k15, 0, 0), (3, ai_k16, 0, 0), (1, ai_k17, 0, 0), (2, ai_k18, 0, 0), (1, ai_k19, 0, 0), (2, ai_k20, 0, 0), (5, ai_k21, 0, 0), (3, ai_k22, 6, 45), (3, ai_k23, 0, 0), (2, ai_k24, 0, 0), (1, ai_k25, 0, 0), (3, ai_k26, 0, 0), (3, ai_k27, 0, 0), (5, ai_k28, 0, 0), (2, ai_k29, 4, 125), (6, ai_k30, 0, 0), (2, ai_k31, 0, 0), (1, ai_k32, 0, 0), (2, ai_k33, 1, 6), (2, ai_k34, 0, 0), (4, ai_k35, 0, 0), (2, ai_k36, 23, 1835), (2, ai_k37, 0, 0), (1, ai_k38, 23, 1835), (2, ai_k39, 0, 0), (2, ai_k40, 0, 0), (4, ai_k41, 1, 6), (2, ai_k42, 3, 120), (3, ai_k43, 0, 0), (1, ai_k44, 2, 533), (1, ai_k45, 0, 0), (2, ai_k46, 0, 0), (3, ai_k47, 0, 0), (2, ai_k48, 0, 0), (2, ai_k49, 0, 0), (3, ai_k50, 0, 0), (2, ai_k51, 0, 0), (2, ai_k52, 5, 34), (3, ai_k53, 0, 0), (2, ai_k54, 0, 0), (1, ai_k55, 1, 240), (1, ai_k56, 0, 0), (2, ai_k57, 0, 0), (3, ai_k58, 0, 0), (5, ai_k59, 0, 0), (2, ai_k60, 0, 0), (2, ai_k61, 0, 0), (1, ai_k62, 2, 242), (3, ai_k63, 0, 0), (1, ai_k64, 0, 0), (2, ai_k65, 0, 0), (1, ai_k66, 0, 0), (2, ai_k67, 3, 120), (1, ai_k68, 0, 0), (1, ai_k69, 0, 0), (4, ai_k70, 0, 0), (4, ai_k71, 0, 0), (5, ai_k72, 0, 0), (1, ai_k73, 1, 6), (2, ai_k74, 0, 0), (2, ai_k75, 0, 0), (2, ai_k76, 0, 0), (1, ai_k77, 3, 482), (2, ai_k78, 0, 0), (2, ai_k79, 0, 0), (1, ai_k80, 0, 0), (2, ai_k81, 0, 0), (2, ai_k82, 0, 0), (3, ai_k83, 0, 0), (1, ai_k84, 1, 940), (2, ai_k85, 0, 0), (2, ai_k86, 0, 0), (3, ai_k87, 0, 0), (2, ai_k88, 0, 0), (1, ai_k89, 22, 1824), (2, ai_k90, 0, 0), (2, ai_k91, 0, 0), (1, ai_k92, 0, 0), (2, ai_k93, 0, 0), (3, ai_k94, 0, 0), (3, ai_k95, 0, 0), (3, ai_k96, 0, 0), (3, ai_k97, 0, 0), (1, ai_k98, 0, 0), (2, ai_k99, 17, 41180), (6, ai_k100, 0, 0), (3, ai_k101, 0, 0), (2, ai_k102, 0, 0), (2, ai_k103, 0, 0), (4, ai_k104, 0, 0), (3, ai_k105, 0, 0), (4, ai_k106, 0, 0), (2, ai_k107, 0, 0), (1, ai_k108, 0, 0), (4, ai_k109, 0, 0), (2, ai_k110, 0, 0), (5, ai_k111, 0, 0), (3, ai_k112, 0, 0), (2, ai_k113, 0, 0), (3, ai_k114, 0, 0), (2, ai_k115, 0, 0), (1, ai_k116, 0, 0), (6, ai_k117, 0, 0), (3, ai_k118, 0, 0), (3, ai_k119, 0, 0), (3, ai_k120, 0, 0), (5, ai_k121, 0, 0), (3, ai_k122, 0, 0), (1, ai_k123, 0, 0), (2, ai_k124, 0, 0), (3, ai_k125, 0, 0), (3, ai_k126, 0, 0), (2, ai_k127, 0, 0), (2, ai_k128, 0, 0), (2, ai_k129, 0, 0), (2, ai_k130, 0, 0), (3, ai_k131, 0, 0), (2, ai_k132, 0, 0), (2, ai_k133, 0, 0), (3, ai_k134, 0, 0), (5, ai_k135, 0, 0), (2, ai_k136, 0, 0), (5, ai_k137, 0, 0), (1, ai_k138, 0, 0), (3, ai_k139, 0, 0), (3, ai_k140, 0, 0), (2, ai_k141, 0, 0), (4, ai_k142, 0, 0), (1, ai_k143, 0, 0), (2, ai_k144, 0, 0), (2, ai_k145, 0, 0), (4, ai_k146, 0, 0), (1, ai_k147, 0, 0), (3, ai_k148, 0, 0), (3, ai_k149, 0, 0), (4, ai_k150, 0, 0), (4, ai_k151, 0, 0), (2, ai_k152, 0, 0), (2, ai_k153, 0, 0), (2, ai_k154, 0, 0), (2, ai_k155, 0, 0), (4, ai_k156, 0, 0), (6, ai_k157, 0, 0), (4, ai_k158, 0, 0), (2, ai_k159, 0, 0), (2, ai_k160, 0, 0), (2, ai_k161, 0, 0), (2, ai_k162, 0, 0), (1, ai_k163, 0, 0), (2, ai_k164, 0, 0), (2, ai_k165, 0, 0), (2, ai_k166, 0, 0), (3, ai_k167, 0, 0), (1, ai_k168, 0, 0), (1, ai_k169, 0, 0), (2, ai_k170, 0, 0), (2, ai_k171, 0, 0), (2, ai_k172, 0, 0), (1, ai_k173, 0, 0), (3, ai_k174, 0, 0), (3, ai_k175, 0, 0), (2, ai_k176, 0, 0), (4, ai_k177, 0, 0), (4, ai_k178, 0, 0), (7, ai_k179, 600002, 7302232), (5, ai_k180, 1, 6), (4, ai_k181, 1, 6)]
end
section
/-- constant things: class, name, descriptor -/
def ak_sts : List (String × String × String) := [("SpanCopier$Word", "OTHER", "LSpanCopier$Word;"), ("SpanCopier$Word", "CHUNK", "LSpanCopier$Word;"), ("SpanCopier$Word", "POLICY", "LSpanCopier$Word;"), ("SpanCopier$Word", "NOW", "LSpanCopier$Word;"), ("SpanCopier$Word", "END", "LSpanCopier$Word;"), ("SpanCopier$Word", "ASKED", "LSpanCopier$Word;"), ("SpanCopier$Word", "DELAY", "LSpanCopier$Word;"), ("SpanCopier$Word", "WAIT", "LSpanCopier$Word;"), ("SpanCopier$Word", "TRIES", "LSpanCopier$Word;"), ("SpanCopier$Word", "SAVE", "LSpanCopier$Word;"), ("SpanCopier$Word", "TO", "LSpanCopier$Word;"), ("SpanCopier$Word", "HAS", "LSpanCopier$Word;"), ("SpanCopier$Word", "ACT", "LSpanCopier$Word;"), ("SpanCopier$Word", "MAKE", "LSpanCopier$Word;"), ("SpanCopier$Word", "DROP", "LSpanCopier$Word;"), ("SpanCopier$Word", "MOVE", "LSpanCopier$Word;"), ("SpanCopier$Word", "COPY", "LSpanCopier$Word;"), ("SpanCopier$Word", "LOSE", "LSpanCopier$Word;"), ("SpanCopier$Word", "TWICE", "LSpanCopier$Word;"), ("SpanCopier$Word", "LATE", "LSpanCopier$Word;"), ("SpanCopier$Word", "SPOIL", "LSpanCopier$Word;"), ("SpanCopier$Word", "PROMPT", "LSpanCopier$Word;"), ("SpanCopier$Word", "CRASH", "LSpanCopier$Word;"), ("SpanCopier$Word", "TICK", "LSpanCopier$Word;"), ("SpanCopier$Word", "OR", "LSpanCopier$Word;"), ("SpanCopier$Word", "AND", "LSpanCopier$Word;"), ("SpanCopier$Word", "NOT", "LSpanCopier$Word;"), ("SpanCopier$Word", "DATA", "LSpanCopier$Word;"), ("SpanCopier$Word", "EOF", "LSpanCopier$Word;"), ("SpanCopier$Word", "NAK", "LSpanCopier$Word;"), ("SpanCopier$Word", "ACK", "LSpanCopier$Word;"), ("SpanCopier$Word", "FIN", "LSpanCopier$Word;"), ("SpanCopier$Word", "OUT", "LSpanCopier$Word;"), ("SpanCopier$Word", "SPOILT", "LSpanCopier$Word;"), ("SpanCopier$Word", "FROM", "LSpanCopier$Word;"), ("SpanCopier$Word", "MANY", "LSpanCopier$Word;"), ("SpanCopier$Word", "TICKS", "LSpanCopier$Word;"), ("SpanCopier$Word", "NUMBER", "LSpanCopier$Word;"), ("", "", ""), ("", "", ""), ("SpanCopier$Order", "WITHOUT", "[I"), ("SpanCopier$Order", "HIGHEST", "[I"), ("SpanCopier$World", "NO_FILE", "[B"), ("SpanCopier$1", "$SwitchMap$SpanCopier$Word", "[I")]
def ak_nm : List String := ["OTHER", "CHUNK", "POLICY", "NOW", "END", "ASKED", "DELAY", "WAIT", "TRIES", "SAVE", "TO", "HAS", "ACT", "MAKE", "DROP", "MOVE", "COPY", "LOSE", "TWICE", "LATE", "SPOIL", "PROMPT", "CRASH", "TICK", "OR", "AND", "NOT", "DATA", "EOF", "NAK", "ACK", "FIN", "OUT", "SPOILT", "FROM", "MANY", "TICKS", "NUMBER"]
/-- the methods: name, bytes, what is answered, kind (0 of an object, 1 a constructor, 2 of a class) -/
def ak_mt : List (MethodName × ByteArray × Option FieldType × Nat) := [(⟨"SpanCopier", "<init>", "()V"⟩, prog_1_method_1_code, (Option.none : Option Jvm.ClassFile.FieldType), 1),
  (⟨"SpanCopier", "book", "(I)I"⟩, prog_1_method_36_code, (Option.some Jvm.ClassFile.FieldType.int), 0),
  (⟨"SpanCopier", "closeText", "()V"⟩, prog_1_method_5_code, (Option.none : Option Jvm.ClassFile.FieldType), 0),
  (⟨"SpanCopier", "count", "(I)I"⟩, prog_1_method_43_code, (Option.some Jvm.ClassFile.FieldType.int), 0),
  (⟨"SpanCopier", "crash", "()I"⟩, prog_1_method_18_code, (Option.some Jvm.ClassFile.FieldType.int), 0),
  (⟨"SpanCopier", "drawn", "(II)I"⟩, prog_1_method_33_code, (Option.some Jvm.ClassFile.FieldType.int), 0),
  (⟨"SpanCopier", "end", "(I)Z"⟩, prog_1_method_3_code, (Option.some Jvm.ClassFile.FieldType.boolean), 0),
  (⟨"SpanCopier", "fault", "()I"⟩, prog_1_method_6_code, (Option.some Jvm.ClassFile.FieldType.int), 0),
  (⟨"SpanCopier", "feed", "(IIIII)I"⟩, prog_1_method_2_code, (Option.some Jvm.ClassFile.FieldType.int), 0),
  (⟨"SpanCopier", "file", "()I"⟩, prog_1_method_7_code, (Option.some Jvm.ClassFile.FieldType.int), 0),
  (⟨"SpanCopier", "gap", "(II)I"⟩, prog_1_method_23_code, (Option.some Jvm.ClassFile.FieldType.int), 0),
  (⟨"SpanCopier", "image", "(I)Z"⟩, prog_1_method_41_code, (Option.some Jvm.ClassFile.FieldType.boolean), 0),
  (⟨"SpanCopier", "journal", "(I)I"⟩, prog_1_method_28_code, (Option.some Jvm.ClassFile.FieldType.int), 0),
  (⟨"SpanCopier", "keepLooked", "()V"⟩, prog_1_method_9_code, (Option.none : Option Jvm.ClassFile.FieldType), 0),
  (⟨"SpanCopier", "keptIfAbove", "(I)I"⟩, prog_1_method_11_code, (Option.some Jvm.ClassFile.FieldType.int), 0),
  (⟨"SpanCopier", "keptIfDone", "(I)I"⟩, prog_1_method_13_code, (Option.some Jvm.ClassFile.FieldType.int), 0),
  (⟨"SpanCopier", "late", "(II)I"⟩, prog_1_method_15_code, (Option.some Jvm.ClassFile.FieldType.int), 0),
  (⟨"SpanCopier", "lookBefore", "()V"⟩, prog_1_method_8_code, (Option.none : Option Jvm.ClassFile.FieldType), 0),
  (⟨"SpanCopier", "lose", "(I)I"⟩, prog_1_method_12_code, (Option.some Jvm.ClassFile.FieldType.int), 0),
  (⟨"SpanCopier", "need", "()I"⟩, prog_1_method_29_code, (Option.some Jvm.ClassFile.FieldType.int), 0),
  (⟨"SpanCopier", "now", "(I)I"⟩, prog_1_method_20_code, (Option.some Jvm.ClassFile.FieldType.int), 0),
  (⟨"SpanCopier", "odds", "(II)I"⟩, prog_1_method_34_code, (Option.some Jvm.ClassFile.FieldType.int), 0),
  (⟨"SpanCopier", "order", "()I"⟩, prog_1_method_4_code, (Option.some Jvm.ClassFile.FieldType.int), 0),
  (⟨"SpanCopier", "over", "()I"⟩, prog_1_method_30_code, (Option.some Jvm.ClassFile.FieldType.int), 0),
  (⟨"SpanCopier", "overAs", "(I)I"⟩, prog_1_method_32_code, (Option.some Jvm.ClassFile.FieldType.int), 0),
  (⟨"SpanCopier", "prompt", "()I"⟩, prog_1_method_17_code, (Option.some Jvm.ClassFile.FieldType.int), 0),
  (⟨"SpanCopier", "resend", "(II)I"⟩, prog_1_method_24_code, (Option.some Jvm.ClassFile.FieldType.int), 0),
  (⟨"SpanCopier", "restore", "(I)Z"⟩, prog_1_method_42_code, (Option.some Jvm.ClassFile.FieldType.boolean), 0),
  (⟨"SpanCopier", "said", "(I)I"⟩, prog_1_method_40_code, (Option.some Jvm.ClassFile.FieldType.int), 0),
  (⟨"SpanCopier", "sentence", "()I"⟩, prog_1_method_39_code, (Option.some Jvm.ClassFile.FieldType.int), 0),
  (⟨"SpanCopier", "span", "(III)I"⟩, prog_1_method_22_code, (Option.some Jvm.ClassFile.FieldType.int), 0),
  (⟨"SpanCopier", "spoil", "(I)I"⟩, prog_1_method_16_code, (Option.some Jvm.ClassFile.FieldType.int), 0),
  (⟨"SpanCopier", "store", "()I"⟩, prog_1_method_27_code, (Option.some Jvm.ClassFile.FieldType.int), 0),
  (⟨"SpanCopier", "sum", "(I)I"⟩, prog_1_method_26_code, (Option.some Jvm.ClassFile.FieldType.int), 0),
  (⟨"SpanCopier", "taken", "(I)I"⟩, prog_1_method_25_code, (Option.some Jvm.ClassFile.FieldType.int), 0),
  (⟨"SpanCopier", "tellJudged", "(IILSpanCopier$World;)V"⟩, prog_1_method_37_code, (Option.none : Option Jvm.ClassFile.FieldType), 0),
  (⟨"SpanCopier", "ticks", "(I)I"⟩, prog_1_method_10_code, (Option.some Jvm.ClassFile.FieldType.int), 0),
  (⟨"SpanCopier", "told", "(I)I"⟩, prog_1_method_38_code, (Option.some Jvm.ClassFile.FieldType.int), 0),
  (⟨"SpanCopier", "trialWorld", "()LSpanCopier$World;"⟩, prog_1_method_31_code, (Option.some (Jvm.ClassFile.FieldType.object "SpanCopier$World")), 0),
  (⟨"SpanCopier", "twice", "(I)I"⟩, prog_1_method_14_code, (Option.some Jvm.ClassFile.FieldType.int), 0),
  (⟨"SpanCopier", "undo", "()I"⟩, prog_1_method_19_code, (Option.some Jvm.ClassFile.FieldType.int), 0),
  (⟨"SpanCopier", "unit", "(II)I"⟩, prog_1_method_21_code, (Option.some Jvm.ClassFile.FieldType.int), 0),
  (⟨"SpanCopier$Book", "<init>", "()V"⟩, prog_3_method_1_code, (Option.none : Option Jvm.ClassFile.FieldType), 1),
  (⟨"SpanCopier$Book", "readLines", "(LSpanCopier$Tape;)Z"⟩, prog_3_method_2_code, (Option.some Jvm.ClassFile.FieldType.boolean), 0),
  (⟨"SpanCopier$Link", "<init>", "()V"⟩, prog_4_method_1_code, (Option.none : Option Jvm.ClassFile.FieldType), 1),
  (⟨"SpanCopier$Link", "clear", "()V"⟩, prog_4_method_2_code, (Option.none : Option Jvm.ClassFile.FieldType), 0),
  (⟨"SpanCopier$Link", "copyFrom", "(LSpanCopier$Link;)V"⟩, prog_4_method_3_code, (Option.none : Option Jvm.ClassFile.FieldType), 0),
  (⟨"SpanCopier$Link", "delay", "(II)I"⟩, prog_4_method_14_code, (Option.some Jvm.ClassFile.FieldType.int), 0),
  (⟨"SpanCopier$Link", "flip", "(I)I"⟩, prog_4_method_15_code, (Option.some Jvm.ClassFile.FieldType.int), 0),
  (⟨"SpanCopier$Link", "has", "(I)Z"⟩, prog_4_method_7_code, (Option.some Jvm.ClassFile.FieldType.boolean), 0),
  (⟨"SpanCopier$Link", "remove", "(I)I"⟩, prog_4_method_12_code, (Option.some Jvm.ClassFile.FieldType.int), 0),
  (⟨"SpanCopier$Link", "repeat", "(I)I"⟩, prog_4_method_13_code, (Option.some Jvm.ClassFile.FieldType.int), 0),
  (⟨"SpanCopier$Order", "<init>", "()V"⟩, prog_5_method_1_code, (Option.none : Option Jvm.ClassFile.FieldType), 1),
  (⟨"SpanCopier$Order", "readLines", "(LSpanCopier$Tape;)I"⟩, prog_5_method_3_code, (Option.some Jvm.ClassFile.FieldType.int), 0),
  (⟨"SpanCopier$Order", "setting", "(I)I"⟩, prog_5_method_2_code, (Option.some Jvm.ClassFile.FieldType.int), 0),
  (⟨"SpanCopier$Places", "<init>", "()V"⟩, prog_6_method_1_code, (Option.none : Option Jvm.ClassFile.FieldType), 1),
  (⟨"SpanCopier$Places", "clear", "()V"⟩, prog_6_method_3_code, (Option.none : Option Jvm.ClassFile.FieldType), 0),
  (⟨"SpanCopier$Places", "copyFrom", "(LSpanCopier$Places;)V"⟩, prog_6_method_2_code, (Option.none : Option Jvm.ClassFile.FieldType), 0),
  (⟨"SpanCopier$Places", "countSpans", "()I"⟩, prog_6_method_10_code, (Option.some Jvm.ClassFile.FieldType.int), 0),
  (⟨"SpanCopier$Places", "edge", "(II)I"⟩, prog_6_method_11_code, (Option.some Jvm.ClassFile.FieldType.int), 0),
  (⟨"SpanCopier$Places", "has", "(I)Z"⟩, prog_6_method_4_code, (Option.some Jvm.ClassFile.FieldType.boolean), 0),
  (⟨"SpanCopier$Places", "startsSpan", "(I)Z"⟩, prog_6_method_9_code, (Option.some Jvm.ClassFile.FieldType.boolean), 0),
  (⟨"SpanCopier$Sender", "<init>", "()V"⟩, prog_7_method_1_code, (Option.none : Option Jvm.ClassFile.FieldType), 1),
  (⟨"SpanCopier$Sender", "act", "(LSpanCopier$World;)V"⟩, prog_7_method_9_code, (Option.none : Option Jvm.ClassFile.FieldType), 0),
  (⟨"SpanCopier$Sender", "clear", "()V"⟩, prog_7_method_2_code, (Option.none : Option Jvm.ClassFile.FieldType), 0),
  (⟨"SpanCopier$Sender", "copyFrom", "(LSpanCopier$Sender;)V"⟩, prog_7_method_3_code, (Option.none : Option Jvm.ClassFile.FieldType), 0),
  (⟨"SpanCopier$Sender", "isActive", "()Z"⟩, prog_7_method_4_code, (Option.some Jvm.ClassFile.FieldType.boolean), 0),
  (⟨"SpanCopier$Sentence", "<init>", "()V"⟩, prog_8_method_1_code, (Option.none : Option Jvm.ClassFile.FieldType), 1),
  (⟨"SpanCopier$Sentence", "isMeasure", "(LSpanCopier$Word;)Z"⟩, prog_8_method_6_code, (Option.some Jvm.ClassFile.FieldType.boolean), 2),
  (⟨"SpanCopier$Sentence", "isSaid", "(LSpanCopier$Word;)Z"⟩, prog_8_method_5_code, (Option.some Jvm.ClassFile.FieldType.boolean), 2),
  (⟨"SpanCopier$Sentence", "readAll", "(LSpanCopier$Tape;I)Z"⟩, prog_8_method_3_code, (Option.some Jvm.ClassFile.FieldType.boolean), 0),
  (⟨"SpanCopier$Sentence", "readCond", "(LSpanCopier$Tape;I)Z"⟩, prog_8_method_2_code, (Option.some Jvm.ClassFile.FieldType.boolean), 0),
  (⟨"SpanCopier$Sentence", "readOne", "(LSpanCopier$Tape;I)Z"⟩, prog_8_method_4_code, (Option.some Jvm.ClassFile.FieldType.boolean), 0),
  (⟨"SpanCopier$Shelf", "<init>", "()V"⟩, prog_9_method_1_code, (Option.none : Option Jvm.ClassFile.FieldType), 1),
  (⟨"SpanCopier$Shelf", "clear", "(I)V"⟩, prog_9_method_2_code, (Option.none : Option Jvm.ClassFile.FieldType), 0),
  (⟨"SpanCopier$Shelf", "copyFrom", "(LSpanCopier$Shelf;)V"⟩, prog_9_method_3_code, (Option.none : Option Jvm.ClassFile.FieldType), 0),
  (⟨"SpanCopier$Shelf", "entry", "(I)I"⟩, prog_9_method_4_code, (Option.some Jvm.ClassFile.FieldType.int), 0),
  (⟨"SpanCopier$Taker", "<init>", "()V"⟩, prog_10_method_1_code, (Option.none : Option Jvm.ClassFile.FieldType), 1),
  (⟨"SpanCopier$Taker", "act", "(LSpanCopier$World;)V"⟩, prog_10_method_14_code, (Option.none : Option Jvm.ClassFile.FieldType), 0),
  (⟨"SpanCopier$Taker", "byteAt", "(I)I"⟩, prog_10_method_6_code, (Option.some Jvm.ClassFile.FieldType.int), 0),
  (⟨"SpanCopier$Taker", "clear", "()V"⟩, prog_10_method_2_code, (Option.none : Option Jvm.ClassFile.FieldType), 0),
  (⟨"SpanCopier$Taker", "copyFrom", "(LSpanCopier$Taker;)V"⟩, prog_10_method_3_code, (Option.none : Option Jvm.ClassFile.FieldType), 0),
  (⟨"SpanCopier$Taker", "hasByte", "(I)Z"⟩, prog_10_method_5_code, (Option.some Jvm.ClassFile.FieldType.boolean), 0),
  (⟨"SpanCopier$Taker", "sumOfBytes", "()I"⟩, prog_10_method_7_code, (Option.some Jvm.ClassFile.FieldType.int), 0),
  (⟨"SpanCopier$Tape", "<init>", "()V"⟩, prog_11_method_1_code, (Option.none : Option Jvm.ClassFile.FieldType), 1),
  (⟨"SpanCopier$Tape", "fail", "(I)Z"⟩, prog_11_method_4_code, (Option.some Jvm.ClassFile.FieldType.boolean), 0),
  (⟨"SpanCopier$Tape", "open", "(I)V"⟩, prog_11_method_3_code, (Option.none : Option Jvm.ClassFile.FieldType), 0),
  (⟨"SpanCopier$Tape", "put", "(I)V"⟩, prog_11_method_2_code, (Option.none : Option Jvm.ClassFile.FieldType), 0),
  (⟨"SpanCopier$Tape", "step", "()V"⟩, prog_11_method_6_code, (Option.none : Option Jvm.ClassFile.FieldType), 0),
  (⟨"SpanCopier$World", "<init>", "()V"⟩, prog_13_method_1_code, (Option.none : Option Jvm.ClassFile.FieldType), 1),
  (⟨"SpanCopier$World", "begin", "(LSpanCopier$Order;)V"⟩, prog_13_method_3_code, (Option.none : Option Jvm.ClassFile.FieldType), 0),
  (⟨"SpanCopier$World", "copyFrom", "(LSpanCopier$World;)V"⟩, prog_13_method_2_code, (Option.none : Option Jvm.ClassFile.FieldType), 0),
  (⟨"SpanCopier$World", "crashTaker", "()I"⟩, prog_13_method_11_code, (Option.some Jvm.ClassFile.FieldType.int), 0),
  (⟨"SpanCopier$World", "draw", "(I)I"⟩, prog_13_method_9_code, (Option.some Jvm.ClassFile.FieldType.int), 0),
  (⟨"SpanCopier$World", "drawWhatHappens", "()V"⟩, prog_13_method_8_code, (Option.none : Option Jvm.ClassFile.FieldType), 0),
  (⟨"SpanCopier$World", "passTick", "()V"⟩, prog_13_method_7_code, (Option.none : Option Jvm.ClassFile.FieldType), 0),
  (⟨"SpanCopier$World", "passTicks", "(I)I"⟩, prog_13_method_6_code, (Option.some Jvm.ClassFile.FieldType.int), 0),
  (⟨"SpanCopier$World", "restart", "([B)V"⟩, prog_13_method_5_code, (Option.none : Option Jvm.ClassFile.FieldType), 0),
  (⟨"SpanCopier$World", "sendPrompt", "()I"⟩, prog_13_method_10_code, (Option.some Jvm.ClassFile.FieldType.int), 0),
  (⟨"SpanCopierModel", "<init>", "()V"⟩, prog_15_method_26_code, (Option.none : Option Jvm.ClassFile.FieldType), 1),
  (⟨"SpanCopierModel", "act", "(IIIZ)I"⟩, prog_15_method_87_code, (Option.some Jvm.ClassFile.FieldType.int), 0),
  (⟨"SpanCopierModel", "allCome", "()V"⟩, prog_15_method_65_code, (Option.none : Option Jvm.ClassFile.FieldType), 0),
  (⟨"SpanCopierModel", "bad", "(I)Z"⟩, prog_15_method_22_code, (Option.some Jvm.ClassFile.FieldType.boolean), 0),
  (⟨"SpanCopierModel", "begin", "(I)V"⟩, prog_15_method_25_code, (Option.none : Option Jvm.ClassFile.FieldType), 0),
  (⟨"SpanCopierModel", "book", "(I)I"⟩, prog_15_method_119_code, (Option.some Jvm.ClassFile.FieldType.int), 0),
  (⟨"SpanCopierModel", "come", "(I)V"⟩, prog_15_method_3_code, (Option.none : Option Jvm.ClassFile.FieldType), 0),
  (⟨"SpanCopierModel", "comeBack", "([II)V"⟩, prog_15_method_79_code, (Option.none : Option Jvm.ClassFile.FieldType), 0),
  (⟨"SpanCopierModel", "count", "(I)I"⟩, prog_15_method_135_code, (Option.some Jvm.ClassFile.FieldType.int), 0),
  (⟨"SpanCopierModel", "crash", "()I"⟩, prog_15_method_93_code, (Option.some Jvm.ClassFile.FieldType.int), 0),
  (⟨"SpanCopierModel", "doIf", "(III)V"⟩, prog_15_method_110_code, (Option.none : Option Jvm.ClassFile.FieldType), 0),
  (⟨"SpanCopierModel", "draw", "(I)I"⟩, prog_15_method_109_code, (Option.some Jvm.ClassFile.FieldType.int), 0),
  (⟨"SpanCopierModel", "drawTicks", "(II)I"⟩, prog_15_method_113_code, (Option.some Jvm.ClassFile.FieldType.int), 0),
  (⟨"SpanCopierModel", "drawn", "(II)I"⟩, prog_15_method_114_code, (Option.some Jvm.ClassFile.FieldType.int), 0),
  (⟨"SpanCopierModel", "drawsFirst", "()V"⟩, prog_15_method_112_code, (Option.none : Option Jvm.ClassFile.FieldType), 0),
  (⟨"SpanCopierModel", "drawsUnit", "(I)V"⟩, prog_15_method_111_code, (Option.none : Option Jvm.ClassFile.FieldType), 0),
  (⟨"SpanCopierModel", "end", "(I)Z"⟩, prog_15_method_5_code, (Option.some Jvm.ClassFile.FieldType.boolean), 0),
  (⟨"SpanCopierModel", "fault", "()I"⟩, prog_15_method_41_code, (Option.some Jvm.ClassFile.FieldType.int), 0),
  (⟨"SpanCopierModel", "feed", "(IIIII)I"⟩, prog_15_method_4_code, (Option.some Jvm.ClassFile.FieldType.int), 0),
  (⟨"SpanCopierModel", "file", "()I"⟩, prog_15_method_82_code, (Option.some Jvm.ClassFile.FieldType.int), 0),
  (⟨"SpanCopierModel", "fileSum", "()I"⟩, prog_15_method_43_code, (Option.some Jvm.ClassFile.FieldType.int), 0),
  (⟨"SpanCopierModel", "gap", "(II)I"⟩, prog_15_method_99_code, (Option.some Jvm.ClassFile.FieldType.int), 0),
  (⟨"SpanCopierModel", "go", "()V"⟩, prog_15_method_16_code, (Option.none : Option Jvm.ClassFile.FieldType), 0),
  (⟨"SpanCopierModel", "image", "(I)Z"⟩, prog_15_method_133_code, (Option.some Jvm.ClassFile.FieldType.boolean), 0),
  (⟨"SpanCopierModel", "isBusy", "()Z"⟩, prog_15_method_61_code, (Option.some Jvm.ClassFile.FieldType.boolean), 0),
  (⟨"SpanCopierModel", "isGap", "(I)Z"⟩, prog_15_method_45_code, (Option.some Jvm.ClassFile.FieldType.boolean), 0),
  (⟨"SpanCopierModel", "isIn", "(III)Z"⟩, prog_15_method_7_code, (Option.some Jvm.ClassFile.FieldType.boolean), 2),
  (⟨"SpanCopierModel", "isMarked", "(II)Z"⟩, prog_15_method_46_code, (Option.some Jvm.ClassFile.FieldType.boolean), 0),
  (⟨"SpanCopierModel", "isSign", "(I)Z"⟩, prog_15_method_20_code, (Option.some Jvm.ClassFile.FieldType.boolean), 0),
  (⟨"SpanCopierModel", "isUnit", "(I)Z"⟩, prog_15_method_51_code, (Option.some Jvm.ClassFile.FieldType.boolean), 0),
  (⟨"SpanCopierModel", "isWord", "(I)Z"⟩, prog_15_method_19_code, (Option.some Jvm.ClassFile.FieldType.boolean), 0),
  (⟨"SpanCopierModel", "journal", "(I)I"⟩, prog_15_method_104_code, (Option.some Jvm.ClassFile.FieldType.int), 0),
  (⟨"SpanCopierModel", "late", "(II)I"⟩, prog_15_method_90_code, (Option.some Jvm.ClassFile.FieldType.int), 0),
  (⟨"SpanCopierModel", "least", "(II)I"⟩, prog_15_method_10_code, (Option.some Jvm.ClassFile.FieldType.int), 2),
  (⟨"SpanCopierModel", "lose", "(I)I"⟩, prog_15_method_88_code, (Option.some Jvm.ClassFile.FieldType.int), 0),
  (⟨"SpanCopierModel", "need", "()I"⟩, prog_15_method_105_code, (Option.some Jvm.ClassFile.FieldType.int), 0),
  (⟨"SpanCopierModel", "nextMark", "(IIZ)I"⟩, prog_15_method_47_code, (Option.some Jvm.ClassFile.FieldType.int), 0),
  (⟨"SpanCopierModel", "now", "(I)I"⟩, prog_15_method_94_code, (Option.some Jvm.ClassFile.FieldType.int), 0),
  (⟨"SpanCopierModel", "odds", "(II)I"⟩, prog_15_method_115_code, (Option.some Jvm.ClassFile.FieldType.int), 0),
  (⟨"SpanCopierModel", "oneTick", "()V"⟩, prog_15_method_76_code, (Option.none : Option Jvm.ClassFile.FieldType), 0),
  (⟨"SpanCopierModel", "order", "()I"⟩, prog_15_method_40_code, (Option.some Jvm.ClassFile.FieldType.int), 0),
  (⟨"SpanCopierModel", "over", "()I"⟩, prog_15_method_107_code, (Option.some Jvm.ClassFile.FieldType.int), 0),
  (⟨"SpanCopierModel", "overAs", "(I)I"⟩, prog_15_method_108_code, (Option.some Jvm.ClassFile.FieldType.int), 0),
  (⟨"SpanCopierModel", "passTicks", "(I)I"⟩, prog_15_method_77_code, (Option.some Jvm.ClassFile.FieldType.int), 0),
  (⟨"SpanCopierModel", "prompt", "()I"⟩, prog_15_method_92_code, (Option.some Jvm.ClassFile.FieldType.int), 0),
  (⟨"SpanCopierModel", "readAnd", "()Z"⟩, prog_15_method_124_code, (Option.some Jvm.ClassFile.FieldType.boolean), 0),
  (⟨"SpanCopierModel", "readOr", "()Z"⟩, prog_15_method_123_code, (Option.some Jvm.ClassFile.FieldType.boolean), 0),
  (⟨"SpanCopierModel", "readSaid", "()Z"⟩, prog_15_method_125_code, (Option.some Jvm.ClassFile.FieldType.boolean), 0),
  (⟨"SpanCopierModel", "refuse", "()I"⟩, prog_15_method_2_code, (Option.some Jvm.ClassFile.FieldType.int), 0),
  (⟨"SpanCopierModel", "resend", "(II)I"⟩, prog_15_method_100_code, (Option.some Jvm.ClassFile.FieldType.int), 0),
  (⟨"SpanCopierModel", "restore", "(I)Z"⟩, prog_15_method_134_code, (Option.some Jvm.ClassFile.FieldType.boolean), 0),
  (⟨"SpanCopierModel", "said", "(I)I"⟩, prog_15_method_132_code, (Option.some Jvm.ClassFile.FieldType.int), 0),
  (⟨"SpanCopierModel", "save", "([II)V"⟩, prog_15_method_78_code, (Option.none : Option Jvm.ClassFile.FieldType), 0),
  (⟨"SpanCopierModel", "saveTaker", "()V"⟩, prog_15_method_29_code, (Option.none : Option Jvm.ClassFile.FieldType), 0),
  (⟨"SpanCopierModel", "senderGoes", "()V"⟩, prog_15_method_68_code, (Option.none : Option Jvm.ClassFile.FieldType), 0),
  (⟨"SpanCopierModel", "sentence", "()I"⟩, prog_15_method_130_code, (Option.some Jvm.ClassFile.FieldType.int), 0),
  (⟨"SpanCopierModel", "snap", "()V"⟩, prog_15_method_80_code, (Option.none : Option Jvm.ClassFile.FieldType), 0),
  (⟨"SpanCopierModel", "span", "(III)I"⟩, prog_15_method_98_code, (Option.some Jvm.ClassFile.FieldType.int), 0),
  (⟨"SpanCopierModel", "spanEnd", "(III)I"⟩, prog_15_method_49_code, (Option.some Jvm.ClassFile.FieldType.int), 0),
  (⟨"SpanCopierModel", "spansOf", "(I)I"⟩, prog_15_method_48_code, (Option.some Jvm.ClassFile.FieldType.int), 0),
  (⟨"SpanCopierModel", "spoil", "(I)I"⟩, prog_15_method_91_code, (Option.some Jvm.ClassFile.FieldType.int), 0),
  (⟨"SpanCopierModel", "startRead", "()V"⟩, prog_15_method_27_code, (Option.none : Option Jvm.ClassFile.FieldType), 0),
  (⟨"SpanCopierModel", "startSo", "()V"⟩, prog_15_method_28_code, (Option.none : Option Jvm.ClassFile.FieldType), 0),
  (⟨"SpanCopierModel", "stay", "(Z)V"⟩, prog_15_method_120_code, (Option.none : Option Jvm.ClassFile.FieldType), 0),
  (⟨"SpanCopierModel", "store", "()I"⟩, prog_15_method_103_code, (Option.some Jvm.ClassFile.FieldType.int), 0),
  (⟨"SpanCopierModel", "sum", "(I)I"⟩, prog_15_method_102_code, (Option.some Jvm.ClassFile.FieldType.int), 0),
  (⟨"SpanCopierModel", "take", "()I"⟩, prog_15_method_6_code, (Option.some Jvm.ClassFile.FieldType.int), 0),
  (⟨"SpanCopierModel", "taken", "(I)I"⟩, prog_15_method_101_code, (Option.some Jvm.ClassFile.FieldType.int), 0),
  (⟨"SpanCopierModel", "takenSum", "()I"⟩, prog_15_method_44_code, (Option.some Jvm.ClassFile.FieldType.int), 0),
  (⟨"SpanCopierModel", "takerGoes", "()V"⟩, prog_15_method_75_code, (Option.none : Option Jvm.ClassFile.FieldType), 0),
  (⟨"SpanCopierModel", "thrown", "()I"⟩, prog_15_method_1_code, (Option.some Jvm.ClassFile.FieldType.int), 0),
  (⟨"SpanCopierModel", "ticks", "(I)I"⟩, prog_15_method_83_code, (Option.some Jvm.ClassFile.FieldType.int), 0),
  (⟨"SpanCopierModel", "told", "(I)I"⟩, prog_15_method_121_code, (Option.some Jvm.ClassFile.FieldType.int), 0),
  (⟨"SpanCopierModel", "twice", "(I)I"⟩, prog_15_method_89_code, (Option.some Jvm.ClassFile.FieldType.int), 0),
  (⟨"SpanCopierModel", "undo", "()I"⟩, prog_15_method_81_code, (Option.some Jvm.ClassFile.FieldType.int), 0),
  (⟨"SpanCopierModel", "unit", "(II)I"⟩, prog_15_method_97_code, (Option.some Jvm.ClassFile.FieldType.int), 0),
  (⟨"SpanCopierModel", "why", "(II)I"⟩, prog_15_method_84_code, (Option.some Jvm.ClassFile.FieldType.int), 0),
  (⟨"java/lang/Math", "min", "(II)I"⟩, prog_20_method_69_code, (Option.some Jvm.ClassFile.FieldType.int), 2),
  (⟨"java/util/Arrays", "fill", "([BB)V"⟩, prog_24_method_109_code, (Option.none : Option Jvm.ClassFile.FieldType), 2),
  (⟨"java/util/Arrays", "fill", "([II)V"⟩, prog_24_method_103_code, (Option.none : Option Jvm.ClassFile.FieldType), 2),
  (⟨"SpanCopierLaw", "law", "([I)Z"⟩, code, ret, 0),
  (⟨"SpanCopierLaw", "unit", "(LSpanCopier;II[J)I"⟩, method_3_code, (Option.some Jvm.ClassFile.FieldType.int), 2),
  (⟨"SpanCopierLaw", "sum", "(LSpanCopier;I[J)I"⟩, method_4_code, (Option.some Jvm.ClassFile.FieldType.int), 2)]
end
section
/-! ===== lists by their recursors, what is found is handed on ===== -/
noncomputable def ai_nt {α : Type} (n : Nat) (f : Nat → α) : α := @Nat.rec (fun _ => α) (f 0) (fun m _ => f (Nat.succ m)) n
noncomputable def ai_look {α : Type} (i : Nat) (l : List (Nat × ai_V)) (n : α) (f : ai_V → α) : α := @List.rec (Nat × ai_V) (fun _ => α) n (fun q _ ih => (@Prod.rec _ _ (fun _ => _) (fun a v => (@Bool.rec (fun _ => _) ih (f v) (Nat.beq a i))) q)) l
noncomputable def ai_put {α : Type} (j : Nat) (v : ai_V) (l : List (Nat × ai_V)) : (List (Nat × ai_V) → α) → α := @List.rec (Nat × ai_V) (fun _ => (List (Nat × ai_V) → α) → α) (fun f => f [(j, v)]) (fun q tl ih f => (@Prod.rec _ _ (fun _ => _) (fun a _ => (@Bool.rec (fun _ => _) (ih (fun r => f (q :: r))) (f ((j, v) :: tl)) (Nat.beq a j))) q)) l
noncomputable def ai_nth {α β : Type} (l : List α) (n : β) (f : α → β) : Nat → β := @List.rec α (fun _ => Nat → β) (fun _ => n) (fun a _ ih k => @Nat.rec (fun _ => β) (f a) (fun k' _ => ih k') k) l
noncomputable def ai_set {α β : Type} (x : α) (n : β) (l : List α) : Nat → (List α → β) → β := @List.rec α (fun _ => Nat → (List α → β) → β) (fun _ _ => n) (fun a tl ih k f => @Nat.rec (fun _ => β) (f (x :: tl)) (fun k' _ => ih k' (fun r => f (a :: r))) k) l
noncomputable def ai_app {α : Type} (l k : List α) : List α := @List.rec α (fun _ => List α) k (fun a _ ih => a :: ih) l
noncomputable def ai_len {α : Type} (l : List α) : Nat := @List.rec α (fun _ => Nat) 0 (fun _ _ ih => Nat.succ ih) l
noncomputable def ai_seek (t : Nat) (l : List ai_N) : List ai_N := @List.rec ai_N (fun _ => List ai_N) [] (fun e tl ih => (@Bool.rec (fun _ => _) ih (e :: tl) (Nat.beq e.1 t))) l
noncomputable def ai_eqV (u v : ai_V) : Bool := (@Bool.rec (fun _ => _) false (Nat.beq u.2 v.2) (Nat.beq u.1 v.1))
noncomputable def ai_rd {α : Type} (c : ai_C) (j : Nat) (f : ai_V → α) : α := (@Prod.rec _ _ (fun _ => _) (fun _ c1 => (@Prod.rec _ _ (fun _ => _) (fun _ c2 => (@Prod.rec _ _ (fun _ => _) (fun df ov => ai_look j ov (f df) f) c2)) c1)) c)
/-- the cell written; n: as it was -/
noncomputable def ai_wr {α : Type} (c : ai_C) (j : Nat) (v : ai_V) (n : α) (f : ai_C → α) : α := (@Prod.rec _ _ (fun _ => _) (fun kd c1 => (@Prod.rec _ _ (fun _ => _) (fun inf c2 => (@Prod.rec _ _ (fun _ => _) (fun df ov => ai_look j ov ((@Bool.rec (fun _ => _) (ai_put j v ov (fun r => f (kd, inf, df, r))) n (ai_eqV v df))) (fun u => (@Bool.rec (fun _ => _) (ai_put j v ov (fun r => f (kd, inf, df, r))) n (ai_eqV v u)))) c2)) c1)) c)
/-! ===== numbers ===== -/
/-- signed numbers in their order -/
noncomputable def ai_b (n : Nat) : Nat := Nat.mod (Nat.add n 2147483648) 4294967296
noncomputable def ai_ofI (n : Int) : Nat := (n % 4294967296).toNat
noncomputable def ai_sub (a b : Nat) : Nat := Nat.mod (Nat.add a (Nat.sub 4294967296 (Nat.mod b 4294967296))) 4294967296
noncomputable def ai_add (a b : Nat) : Nat := Nat.mod (Nat.add a b) 4294967296
noncomputable def ai_mul (a b : Nat) : Nat := Nat.mod (Nat.mul a b) 4294967296
/-- a symbol of one value is that value -/
noncomputable def ai_res {α : Type} (env : ai_E) (v : ai_V) (f : ai_V → α) : α := (@Prod.rec _ _ (fun _ => _) (fun t k => (@Bool.rec (fun _ => _) (f v) (ai_nth env (f v) (fun q => (@Prod.rec _ _ (fun _ => _) (fun lo hi => (@Bool.rec (fun _ => _) (f v) (ai_nt (ai_b lo) (fun n => f (0, n))) (Nat.beq lo hi))) q)) k) (Nat.beq t 1))) v)
noncomputable def ai_in (lo hi : Nat) (v : ai_V) : Bool := (@Bool.rec (fun _ => _) false (Nat.ble v.1 hi) (Nat.ble lo v.1))
/-! ===== going on ===== -/
noncomputable def ai_jm (ih : ai_X) (d : Nat) (M : ai_M) (t : Nat) : ai_Q := ih d M t (ai_seek t M.2.1)
/-- first the one, then the other -/
noncomputable def ai_two (a b : ai_P) : ai_P := (@Option.rec _ (fun _ => _) none (fun x => (@Option.rec _ (fun _ => _) none (fun y => some (ai_app x y)) b)) a)
/-- for each of a list; of one alone nothing is left behind -/
noncomputable def ai_all {α : Type} (f : α → ai_P) (l : List α) : ai_P := @List.rec α (fun _ => ai_P) (some []) (fun q tl ih => (@List.rec _ (fun _ => _) (f q) (fun _ _ _ => ai_two (f q) ih) tl)) l
/-- with other bounds of a symbol -/
noncomputable def ai_env (k lo hi : Nat) (w : ai_W) (f : ai_W → ai_P) : ai_P := (@Prod.rec _ _ (fun _ => _) (fun n w1 => (@Prod.rec _ _ (fun _ => _) (fun h w2 => (@Prod.rec _ _ (fun _ => _) (fun env w3 => ai_nt lo (fun lo => ai_nt hi (fun hi => ai_set (lo, hi) none env k (fun env => f (n, h, env, w3))))) w2)) w1)) w)
/-! ===== what an instruction does ===== -/
noncomputable def ai_push (v : ai_V) : ai_D := fun sq _ _ loc stk w => sq loc (v :: stk) w
noncomputable def ai_goto (t : Nat) : ai_D := fun _ jm _ loc stk w => jm t loc stk w
noncomputable def ai_ups (n : Nat) : List Nat := @Nat.rec (fun _ => List Nat) [] (fun i ih => i :: ih) n
/-- of a symbol of few values, each value on its own; else as it is -/
noncomputable def ai_split (v : ai_V) (w : ai_W) (f : ai_P) (g : ai_W → ai_P) : ai_P := (@Bool.rec (fun _ => _) f (ai_nth w.2.2.1 none (fun q => (@Bool.rec (fun _ => _) ((@Bool.rec (fun _ => _) f (ai_all (fun i => ai_env v.2 (Nat.add q.1 i) (Nat.add q.1 i) w g) (ai_ups (Nat.succ (Nat.sub q.2 q.1)))) (Nat.ble (Nat.sub q.2 q.1) 255))) f (Nat.ble q.2 q.1))) v.2) (Nat.beq v.1 1))
noncomputable def ai_ld (i lo hi : Nat) : ai_D := fun sq _ _ loc stk w => ai_nth loc none (fun v => (@Bool.rec (fun _ => _) none (sq loc (v :: stk) w) (ai_in lo hi v))) i
noncomputable def ai_cat (v : ai_V) : Nat := (@Bool.rec (fun _ => _) 1 2 (ai_in 3 4 v))
noncomputable def ai_sto (i lo hi : Nat) : ai_D := fun sq _ _ loc stk w => (@List.rec _ (fun _ => _) none (fun v st _ => (@Bool.rec (fun _ => _) none (ai_set v none loc i (fun l => sq l st w)) (ai_in lo hi v))) stk)
/-- two ints -/
noncomputable def ai_op2 (f : Nat → Nat → Nat) (x y : ai_V) (k : ai_V → ai_P) : ai_P := (@Prod.rec _ _ (fun _ => _) (fun tx nx => (@Prod.rec _ _ (fun _ => _) (fun ty ny => (@Bool.rec (fun _ => _) none ((@Bool.rec (fun _ => _) none ((@Bool.rec (fun _ => _) (k (2, 0)) (ai_nt (f nx ny) (fun r => k (0, r))) (Nat.beq (Nat.add tx ty) 0))) (Nat.ble ty 2))) (Nat.ble tx 2))) y)) x)
noncomputable def ai_bin (g : ai_V → ai_V → (ai_V → ai_P) → ai_P) : ai_D := fun sq jm κ loc stk w => (@List.rec _ (fun _ => _) none (fun y st _ => (@List.rec _ (fun _ => _) none (fun x st _ => ai_split x w (ai_split y w (ai_res w.2.2.1 x (fun x => ai_res w.2.2.1 y (fun y => g x y (fun v => sq loc (v :: st) w)))) (jm κ.2.2.2 loc stk)) (jm κ.2.2.2 loc stk)) st)) stk)
/-- some int of two -/
noncomputable def ai_any2 (x y : ai_V) (k : ai_V → ai_P) : ai_P := (@Bool.rec (fun _ => _) none (k (2, 0)) ((@Bool.rec (fun _ => _) false (Nat.ble y.1 2) (Nat.ble x.1 2))))
/-- of the script's first number the six low bits are the symbol 6 -/
noncomputable def ai_iand (x y : ai_V) (k : ai_V → ai_P) : ai_P := (@Bool.rec (fun _ => _) (ai_op2 Nat.land x y k) (k (1, 6)) ((@Bool.rec (fun _ => _) false (ai_eqV y (0, 63)) (ai_eqV x (1, 0)))))
noncomputable def ai_irem (x y : ai_V) (k : ai_V → ai_P) : ai_P := (@Bool.rec (fun _ => _) none ((@Bool.rec (fun _ => _) (k (2, 0)) (ai_nt (Nat.mod x.2 y.2) (fun r => k (0, r))) ((@Bool.rec (fun _ => _) false (Nat.ble x.2 2147483647) (Nat.beq x.1 0))))) ((@Bool.rec (fun _ => _) false ((@Bool.rec (fun _ => _) false ((@Bool.rec (fun _ => _) false (Nat.ble y.2 2147483647) (Nat.ble 1 y.2))) (Nat.beq y.1 0))) (Nat.ble x.1 2))))
noncomputable def ai_iinc (i n : Nat) : ai_D := fun sq _ _ loc stk w => ai_nth loc none (fun x => ai_res w.2.2.1 x (fun x => ai_op2 ai_add x (0, n) (fun v => ai_set v none loc i (fun l => sq l stk w)))) i
/-- the bounds of a symbol, narrowed; nothing is left: nothing to do -/
noncomputable def ai_nar (k l h : Nat) (w : ai_W) (f : ai_W → ai_P) : ai_P := ai_nth w.2.2.1 none (fun q => (@Bool.rec (fun _ => _) (some []) (ai_env k ((@Bool.rec (fun _ => _) l q.1 (Nat.ble l q.1))) ((@Bool.rec (fun _ => _) q.2 h (Nat.ble h q.2))) w f) (Nat.ble ((@Bool.rec (fun _ => _) l q.1 (Nat.ble l q.1))) ((@Bool.rec (fun _ => _) q.2 h (Nat.ble h q.2)))))) k
noncomputable def ai_blw (k c : Nat) (w : ai_W) (f : ai_W → ai_P) : ai_P := (@Bool.rec (fun _ => _) (ai_nar k 0 (Nat.sub c 1) w f) (some []) (Nat.beq c 0))
/-- conditions by number: 0 eq, 1 ne, 2 lt, 3 ge, 4 gt, 5 le; of a symbol and a number: on where it holds -/
noncomputable def ai_hold (o k c : Nat) (w : ai_W) (f : ai_W → ai_P) : ai_P :=
  (@Bool.rec (fun _ => _) ((@Bool.rec (fun _ => _) ((@Bool.rec (fun _ => _) ((@Bool.rec (fun _ => _) ((@Bool.rec (fun _ => _) (ai_nar k 0 c w f) (ai_nar k (Nat.succ c) 4294967295 w f) (Nat.beq o 4))) (ai_nar k c 4294967295 w f) (Nat.beq o 3))) (ai_blw k c w f) (Nat.beq o 2))) (ai_two (ai_blw k c w f) (ai_nar k (Nat.succ c) 4294967295 w f)) (Nat.beq o 1))) (ai_nar k c c w f) (Nat.beq o 0))
noncomputable def ai_not (o : Nat) : Nat := (@Bool.rec (fun _ => _) ((@Bool.rec (fun _ => _) ((@Bool.rec (fun _ => _) ((@Bool.rec (fun _ => _) ((@Bool.rec (fun _ => _) 4 5 (Nat.beq o 4))) 2 (Nat.beq o 3))) 3 (Nat.beq o 2))) 0 (Nat.beq o 1))) 1 (Nat.beq o 0))
noncomputable def ai_flip (o : Nat) : Nat := (@Bool.rec (fun _ => _) ((@Bool.rec (fun _ => _) ((@Bool.rec (fun _ => _) ((@Bool.rec (fun _ => _) o 3 (Nat.beq o 5))) 5 (Nat.beq o 3))) 2 (Nat.beq o 4))) 4 (Nat.beq o 2))
noncomputable def ai_tst (o a c : Nat) : Bool := (@Bool.rec (fun _ => _) ((@Bool.rec (fun _ => _) ((@Bool.rec (fun _ => _) ((@Bool.rec (fun _ => _) ((@Bool.rec (fun _ => _) (Nat.ble a c) (Nat.ble (Nat.succ c) a) (Nat.beq o 4))) (Nat.ble c a) (Nat.beq o 3))) (Nat.ble (Nat.succ a) c) (Nat.beq o 2))) ((@Bool.rec (fun _ => _) true false (Nat.beq a c))) (Nat.beq o 1))) (Nat.beq a c) (Nat.beq o 0))
/-- a branch; t where it holds, f where not -/
noncomputable def ai_br (o : Nat) (x y : ai_V) (w : ai_W) (t f : ai_W → ai_P) : ai_P :=
  (@Bool.rec (fun _ => _) ((@Bool.rec (fun _ => _) ((@Bool.rec (fun _ => _) none (ai_two (t w) (f w)) ((@Bool.rec (fun _ => _) false (Nat.ble y.1 2) (Nat.ble x.1 2))))) (ai_two (ai_hold o x.2 (ai_b y.2) w t) (ai_hold (ai_not o) x.2 (ai_b y.2) w f)) ((@Bool.rec (fun _ => _) false (Nat.beq y.1 0) (Nat.beq x.1 1))))) ((@Bool.rec (fun _ => _) ((@Bool.rec (fun _ => _) ((@Bool.rec (fun _ => _) none (ai_two (t w) (f w)) (Nat.beq y.1 2))) (ai_two (ai_hold (ai_flip o) y.2 (ai_b x.2) w t) (ai_hold (ai_not (ai_flip o)) y.2 (ai_b x.2) w f)) (Nat.beq y.1 1))) ((@Bool.rec (fun _ => _) (f w) (t w) (ai_tst o (ai_b x.2) (ai_b y.2)))) (Nat.beq y.1 0))) (Nat.beq x.1 0))
noncomputable def ai_icmp (o t : Nat) : ai_D := fun sq jm _ loc stk w => (@List.rec _ (fun _ => _) none (fun y st _ => (@List.rec _ (fun _ => _) none (fun x st _ => ai_res w.2.2.1 x (fun x => ai_res w.2.2.1 y (fun y => ai_br o x y w (jm t loc st) (sq loc st)))) st)) stk)
noncomputable def ai_if0 (o t : Nat) : ai_D := fun sq jm _ loc stk w => (@List.rec _ (fun _ => _) none (fun x st _ => ai_res w.2.2.1 x (fun x => ai_br o x (0, 0) w (jm t loc st) (sq loc st))) stk)
/-- may be told apart -/
noncomputable def ai_acm (v : ai_V) : Bool := (@Bool.rec (fun _ => _) ((@Bool.rec (fun _ => _) (ai_eqV v (5, 0)) (Nat.ble v.2 37) (Nat.beq v.1 7))) true (Nat.beq v.1 6))
noncomputable def ai_acmp (eq : Bool) (t : Nat) : ai_D := fun sq jm _ loc stk w => (@List.rec _ (fun _ => _) none (fun y st _ => (@List.rec _ (fun _ => _) none (fun x st _ => (@Bool.rec (fun _ => _) none ((@Bool.rec (fun _ => _) ((@Bool.rec (fun _ => _) none ((@Bool.rec (fun _ => _) (jm t loc st w) (sq loc st w) eq)) ((@Bool.rec (fun _ => _) false (ai_acm y) (ai_acm x))))) ((@Bool.rec (fun _ => _) (sq loc st w) (jm t loc st w) eq)) (ai_eqV x y))) ((@Bool.rec (fun _ => _) false (ai_in 5 7 y) (ai_in 5 7 x))))) st)) stk)
noncomputable def ai_nul (eq : Bool) (t : Nat) : ai_D := fun sq jm _ loc stk w => (@List.rec _ (fun _ => _) none (fun x st _ => (@Bool.rec (fun _ => _) none ((@Bool.rec (fun _ => _) ((@Bool.rec (fun _ => _) (jm t loc st w) (sq loc st w) eq)) ((@Bool.rec (fun _ => _) (sq loc st w) (jm t loc st w) eq)) (Nat.beq x.1 5))) (ai_in 5 7 x))) stk)
/-- a switch over v .. by a symbol: each number with its target -/
noncomputable def ai_casd (k df : Nat) (w : ai_W) (g : Nat → ai_W → ai_P) (ts : List Nat) : Nat → ai_P := @List.rec Nat (fun _ => Nat → ai_P) (fun v => ai_nar k (Nat.add v 2147483648) 4294967295 w (g df)) (fun t _ ih v => ai_two (ai_nar k (Nat.add v 2147483648) (Nat.add v 2147483648) w (g t)) (ih (Nat.succ v))) ts
noncomputable def ai_tsw (df lo : Nat) (ts : List Nat) : ai_D := fun _ jm _ loc stk w => (@List.rec _ (fun _ => _) none (fun x st _ => ai_res w.2.2.1 x (fun x =>
  (@Bool.rec (fun _ => _) ((@Bool.rec (fun _ => _) none (ai_two (ai_nar x.2 0 (Nat.add lo 2147483647) w (jm df loc st)) (ai_casd x.2 df w (fun t => jm t loc st) ts lo)) (Nat.beq x.1 1))) ((@Bool.rec (fun _ => _) none ((@Bool.rec (fun _ => _) (jm df loc st w) (ai_nth ts (jm df loc st w) (fun t => jm t loc st w) (Nat.sub x.2 lo)) (Nat.ble lo x.2))) (Nat.ble x.2 2147483647))) (Nat.beq x.1 0)))) stk)
/-! ===== cells ===== -/
/-- the cell k -/
noncomputable def ai_cel (w : ai_W) (o : ai_V) (f : ai_C → ai_P) : ai_P := (@Bool.rec (fun _ => _) none ((@Bool.rec (fun _ => _) none (ai_nth w.2.1 none f (Nat.sub w.1 (Nat.succ o.2))) (Nat.ble (Nat.succ o.2) w.1))) (Nat.beq o.1 6))
noncomputable def ai_get (k ci : Nat) : ai_D := fun sq _ _ loc stk w => (@List.rec _ (fun _ => _) none (fun o st _ => ai_cel w o (fun c => (@Bool.rec (fun _ => _) none (ai_rd c k (fun v => sq loc (v :: st) w)) ((@Bool.rec (fun _ => _) false (Nat.beq c.2.1 ci) (Nat.beq c.1 0)))))) stk)
/-- may it stand in a field of the type: 0 int, 1 boolean, 2 a reference, 3 long -/
noncomputable def ai_fit (ty : Nat) (v : ai_V) : Bool := (@Bool.rec (fun _ => _) ((@Bool.rec (fun _ => _) ((@Bool.rec (fun _ => _) (ai_in 3 4 v) (ai_in 5 7 v) (Nat.beq ty 2))) ((@Bool.rec (fun _ => _) false (Nat.ble v.2 1) (Nat.beq v.1 0))) (Nat.beq ty 1))) (ai_in 0 2 v) (Nat.beq ty 0))
/-- another cell in its place -/
noncomputable def ai_chg (o : ai_V) (c : ai_C) (w : ai_W) (f : ai_W → ai_P) : ai_P := (@Prod.rec _ _ (fun _ => _) (fun n w1 => (@Prod.rec _ _ (fun _ => _) (fun h w2 => ai_set c none h (Nat.sub n (Nat.succ o.2)) (fun h => f (n, h, w2))) w1)) w)
noncomputable def ai_putf (k ci ty : Nat) : ai_D := fun sq jm κ loc stk w => (@List.rec _ (fun _ => _) none (fun v st _ => (@List.rec _ (fun _ => _) none (fun o st _ => (@Bool.rec (fun _ => _) none (ai_cel w o (fun c => (@Bool.rec (fun _ => _) none (ai_wr c k v (sq loc st w) (fun c => ai_chg o c w (sq loc st))) ((@Bool.rec (fun _ => _) false (Nat.beq c.2.1 ci) (Nat.beq c.1 0)))))) (ai_fit ty v))) st)) stk)
noncomputable def ai_alloc (sz : Nat) (c : ai_C) : ai_D := fun sq jm κ loc st w => (@Prod.rec _ _ (fun _ => _) (fun n w1 => (@Prod.rec _ _ (fun _ => _) (fun h w2 => (@Prod.rec _ _ (fun _ => _) (fun env w3 => (@Prod.rec _ _ (fun _ => _) (fun nc ns => ai_nt (Nat.succ nc) (fun nc => ai_nt (Nat.add ns sz) (fun ns => (@Bool.rec (fun _ => _) none (sq loc ((6, n) :: st) (Nat.succ n, c :: h, env, nc, ns)) ((@Bool.rec (fun _ => _) false (Nat.ble ns κ.2.2.1.2.2.2) (Nat.ble nc κ.2.2.1.2.2.1))))))) w3)) w2)) w1)) w)
noncomputable def ai_adf (kd : Nat) : ai_V := (@Bool.rec (fun _ => _) ((@Bool.rec (fun _ => _) (5, 0) (3, 0) (Nat.beq kd 4))) (0, 0) (Nat.ble kd 3))
noncomputable def ai_newa (kd : Nat) : ai_D := fun sq jm κ loc stk w => (@List.rec _ (fun _ => _) none (fun n st _ => ai_res w.2.2.1 n (fun x => (@Prod.rec _ _ (fun _ => _) (fun t m => (@Bool.rec (fun _ => _) none (ai_alloc m (kd, m, ai_adf kd, []) sq jm κ loc st w) ((@Bool.rec (fun _ => _) false (Nat.ble m 30000) (Nat.beq t 0))))) x))) stk)
/-- constant arrays of ints -/
noncomputable def ai_sar (j : Nat) : Option (List Nat) := (@Bool.rec (fun _ => _) ((@Bool.rec (fun _ => _) ((@Bool.rec (fun _ => _) none (some ai_sw) (Nat.beq j 43))) (some [32, 2, 9, 60, 9, 60]) (Nat.beq j 41))) (some [8, 1, 2, 12, 3, 1]) (Nat.beq j 40))
noncomputable def ai_alen : ai_D := fun sq jm κ loc stk w => (@List.rec _ (fun _ => _) none (fun o st _ => (@Bool.rec (fun _ => _) (ai_cel w o (fun c => (@Prod.rec _ _ (fun _ => _) (fun kd c1 => (@Prod.rec _ _ (fun _ => _) (fun m _ => (@Bool.rec (fun _ => _) none (sq loc ((0, m) :: st) w) ((@Bool.rec (fun _ => _) false (Nat.ble m 30000) ((@Bool.rec (fun _ => _) false (Nat.ble kd 6) (Nat.ble 1 kd))))))) c1)) c))) ((@Bool.rec (fun _ => _) ((@Bool.rec (fun _ => _) ((@Option.rec _ (fun _ => _) none (fun l => ai_nt (ai_len l) (fun n => sq loc ((0, n) :: st) w)) (ai_sar o.2))) (sq loc ((0, 0) :: st) w) (Nat.beq o.2 42))) (sq loc ((1, 7) :: st) w) (Nat.beq o.2 45))) (Nat.beq o.1 7))) stk)
/-- the script has six numbers -/
noncomputable def ai_six (env : ai_E) : Bool := ai_nth env false (fun q => ai_eqV q (2147483654, 2147483654)) 7
/-- may the place j of the cell be used as one of the kinds k1 .. k2 -/
noncomputable def ai_at (k1 k2 : Nat) (c : ai_C) (j : Nat) : Bool := (@Bool.rec (fun _ => _) false ((@Bool.rec (fun _ => _) false (Nat.ble c.2.1 30000) (Nat.ble (Nat.succ j) c.2.1))) ((@Bool.rec (fun _ => _) false (Nat.ble c.1 k2) (Nat.ble k1 c.1))))
noncomputable def ai_ald (k1 k2 : Nat) : ai_D := fun sq jm κ loc stk w => (@List.rec _ (fun _ => _) none (fun j st _ => (@List.rec _ (fun _ => _) none (fun o st _ => ai_split j w (ai_res w.2.2.1 j (fun j => (@Prod.rec _ _ (fun _ => _) (fun tj nj => (@Bool.rec (fun _ => _) none ((@Bool.rec (fun _ => _) (ai_cel w o (fun c => (@Bool.rec (fun _ => _) none (ai_rd c nj (fun v => sq loc (v :: st) w)) (ai_at k1 k2 c nj)))) ((@Bool.rec (fun _ => _) none ((@Bool.rec (fun _ => _) ((@Option.rec _ (fun _ => _) none (fun l => ai_nth l none (fun x => sq loc ((0, x) :: st) w) nj) (ai_sar o.2))) ((@Bool.rec (fun _ => _) none (sq loc ((1, nj) :: st) w) ((@Bool.rec (fun _ => _) false (ai_six w.2.2.1) (Nat.ble nj 5))))) (Nat.beq o.2 45))) (Nat.beq k1 1))) (Nat.beq o.1 7))) (Nat.beq tj 0))) j))) (jm κ.2.2.2 loc stk)) st)) stk)
/-- what a cell of the kind keeps of a value; none: it may not stand there -/
noncomputable def ai_keep (w : ai_W) (kd : Nat) (v : ai_V) (f : ai_V → ai_P) : ai_P :=
  (@Bool.rec (fun _ => _) ((@Bool.rec (fun _ => _) ((@Bool.rec (fun _ => _) ((@Bool.rec (fun _ => _) ((@Bool.rec (fun _ => _) ((@Bool.rec (fun _ => _) none (ai_cel w v (fun c => (@Bool.rec (fun _ => _) none (f v) ((@Bool.rec (fun _ => _) false (Nat.beq c.2.1 9) (Nat.beq c.1 0)))))) (Nat.beq kd 6))) ((@Bool.rec (fun _ => _) none (f v) ((@Bool.rec (fun _ => _) false (Nat.ble v.2 37) (Nat.beq v.1 7))))) (Nat.beq kd 5))) ((@Bool.rec (fun _ => _) none (f v) (ai_in 3 4 v))) (Nat.beq kd 4))) ((@Bool.rec (fun _ => _) none (f v) ((@Bool.rec (fun _ => _) false (Nat.ble v.2 1) (Nat.beq v.1 0))))) (Nat.beq kd 3))) ((@Bool.rec (fun _ => _) none ((@Bool.rec (fun _ => _) (f (2, 0)) (f v) ((@Bool.rec (fun _ => _) false (Nat.ble v.2 127) (Nat.beq v.1 0))))) (Nat.ble v.1 2))) (Nat.beq kd 2))) ((@Bool.rec (fun _ => _) none (f v) (Nat.ble v.1 2))) (Nat.beq kd 1))
noncomputable def ai_ast (k1 k2 : Nat) : ai_D := fun sq jm κ loc stk w => (@List.rec _ (fun _ => _) none (fun v st _ => (@List.rec _ (fun _ => _) none (fun j st _ => (@List.rec _ (fun _ => _) none (fun o st _ => ai_split j w (ai_res w.2.2.1 j (fun j => (@Prod.rec _ _ (fun _ => _) (fun tj nj => (@Bool.rec (fun _ => _) none (ai_cel w o (fun c => (@Bool.rec (fun _ => _) none (ai_res w.2.2.1 v (fun v => ai_keep w c.1 v (fun u => ai_wr c nj u (sq loc st w) (fun c => ai_chg o c w (sq loc st))))) (ai_at k1 k2 c nj)))) (Nat.beq tj 0))) j))) (jm κ.2.2.2 loc stk)) st)) st)) stk)
/-- what differs outside dp .. -/
noncomputable def ai_out {α : Type} (dp n : Nat) (l : List (Nat × ai_V)) : (List (Nat × ai_V) → α) → α := @List.rec (Nat × ai_V) (fun _ => (List (Nat × ai_V) → α) → α) (fun f => f []) (fun q _ ih f => (@Bool.rec (fun _ => _) (ih (fun r => f (q :: r))) (ih f) ((@Bool.rec (fun _ => _) false (Nat.ble (Nat.succ q.1) (Nat.add dp n)) (Nat.ble dp q.1))))) l
/-- a stretch of one row over another's: of the numbers sp .. what differs, moved to dp .. -/
noncomputable def ai_mov {α : Type} (sp dp n : Nat) (l : List (Nat × ai_V)) : (List (Nat × ai_V) → α) → α := @List.rec (Nat × ai_V) (fun _ => (List (Nat × ai_V) → α) → α) (fun f => f []) (fun q _ ih f => (@Bool.rec (fun _ => _) (ih f) (ai_nt (Nat.add (Nat.sub q.1 sp) dp) (fun k => (@Prod.rec _ _ (fun _ => _) (fun _ v => ih (fun r => f ((k, v) :: r))) q))) ((@Bool.rec (fun _ => _) false (Nat.ble (Nat.succ q.1) (Nat.add sp n)) (Nat.ble sp q.1))))) l
/-- one list behind the other -/
noncomputable def ai_cat2 {α : Type} (k : List (Nat × ai_V)) (l : List (Nat × ai_V)) : (List (Nat × ai_V) → α) → α := @List.rec (Nat × ai_V) (fun _ => (List (Nat × ai_V) → α) → α) (fun f => f k) (fun q _ ih f => ih (fun r => f (q :: r))) l
noncomputable def ai_cpy {α : Type} (s d : ai_C) (sp dp n : Nat) (f : ai_C → α) : α := (@Prod.rec _ _ (fun _ => _) (fun kd d1 => (@Prod.rec _ _ (fun _ => _) (fun m d2 => (@Prod.rec _ _ (fun _ => _) (fun df ov => ai_out dp n ov (fun a => ai_mov sp dp n s.2.2.2 (fun b => ai_cat2 b a (fun r => f (kd, m, df, r))))) d2)) d1)) d)
/-- a constant array as a cell -/
noncomputable def ai_num (l : List Nat) : Nat → List (Nat × ai_V) := @List.rec Nat (fun _ => Nat → List (Nat × ai_V)) (fun _ => []) (fun x _ ih k => (k, (0, x)) :: ih (Nat.succ k)) l
noncomputable def ai_src (w : ai_W) (o : ai_V) (f : ai_C → ai_P) : ai_P := (@Bool.rec (fun _ => _) (ai_cel w o f) ((@Option.rec _ (fun _ => _) none (fun l => f (1, ai_len l, (0, 0), ai_num l 0)) (ai_sar o.2))) (Nat.beq o.1 7))
noncomputable def ai_copy : ai_D := fun sq jm κ loc stk w => (@List.rec _ (fun _ => _) none (fun n st _ => (@List.rec _ (fun _ => _) none (fun dp st _ => (@List.rec _ (fun _ => _) none (fun d st _ => (@List.rec _ (fun _ => _) none (fun sp st _ => (@List.rec _ (fun _ => _) none (fun s st _ =>   ai_res w.2.2.1 n (fun n => ai_res w.2.2.1 dp (fun dp => ai_res w.2.2.1 sp (fun sp => (@Bool.rec (fun _ => _) none (ai_src w s (fun cs => ai_cel w d (fun cd => (@Bool.rec (fun _ => _) none (ai_cpy cs cd sp.2 dp.2 n.2 (fun c => ai_chg d c w (sq loc st))) ((@Bool.rec (fun _ => _) false ((@Bool.rec (fun _ => _) false ((@Bool.rec (fun _ => _) false ((@Bool.rec (fun _ => _) false (Nat.ble cd.2.1 30000) (Nat.ble cs.2.1 30000))) ((@Bool.rec (fun _ => _) false (Nat.ble (Nat.add dp.2 n.2) cd.2.1) (Nat.ble (Nat.add sp.2 n.2) cs.2.1))))) (ai_eqV cs.2.2.1 cd.2.2.1))) ((@Bool.rec (fun _ => _) false ((@Bool.rec (fun _ => _) false (Nat.ble cs.1 2) (Nat.ble 1 cs.1))) (Nat.beq cs.1 cd.1))))))))) ((@Bool.rec (fun _ => _) false ((@Bool.rec (fun _ => _) false (Nat.beq sp.1 0) (Nat.beq dp.1 0))) (Nat.beq n.1 0)))))))) st)) st)) st)) st)) stk) 
/-- the arguments of a call off the stack, and what stays -/
noncomputable def ai_args (n : Nat) : List ai_V → List ai_V → (List ai_V → List ai_V → ai_P) → ai_P := @Nat.rec (fun _ => List ai_V → List ai_V → (List ai_V → List ai_V → ai_P) → ai_P) (fun a st f => f a st) (fun _ ih a st f => (@List.rec _ (fun _ => _) none (fun v st _ => ih (v :: a) st f) st)) n
noncomputable def ai_sum (l : List ai_V) : Nat := @List.rec ai_V (fun _ => Nat) 0 (fun v _ ih => Nat.add (ai_cat v) ih) l
/-- the locals of a method that begins: one place each -/
noncomputable def ai_ent (nL : Nat) : List ai_V → (ai_L → ai_P) → ai_P := @Nat.rec (fun _ => List ai_V → (ai_L → ai_P) → ai_P) (fun a f => (@List.rec _ (fun _ => _) (f []) (fun _ _ _ => none) a)) (fun _ ih a f => (@List.rec _ (fun _ => _) (ih [] (fun r => f ((9, 0) :: r))) (fun v a _ => (@Bool.rec (fun _ => _) (ih a (fun r => f (v :: r))) none (ai_in 3 4 v))) a)) nL
noncomputable def ai_eqO (u v : ai_O) : Bool := (@Bool.rec (fun _ => _) false ((@Bool.rec (fun _ => _) false ((@Bool.rec (fun _ => _) false (decide (u.2.2.1 = v.2.2.1)) (Nat.beq u.2.1 v.2.1))) (decide (u.1 = v.1)))) (decide (u.2.2.2 = v.2.2.2)))
noncomputable def ai_has (u : ai_O) (l : List ai_O) : Bool := @List.rec ai_O (fun _ => Bool) false (fun v _ ih => (@Bool.rec (fun _ => _) ih true (ai_eqO u v))) l
noncomputable def ai_uni (l : List ai_O) : List ai_O := @List.rec ai_O (fun _ => List ai_O) [] (fun u tl ih => (@List.rec _ (fun _ => _) [u] (fun _ _ _ => (@Bool.rec (fun _ => _) (u :: ih) ih (ai_has u tl))) tl)) l
/-- behind a call: the caller goes on, its own cells counted -/
noncomputable def ai_back (nc ns : Nat) (st : List ai_V) (sq : List ai_V → ai_W → ai_P) (o : ai_O) : ai_P := (@Prod.rec _ _ (fun _ => _) (fun v o1 => (@Prod.rec _ _ (fun _ => _) (fun n o2 => (@Prod.rec _ _ (fun _ => _) (fun h env => (@Option.rec _ (fun _ => _) (sq st (n, h, env, nc, ns)) (fun v => sq (v :: st) (n, h, env, nc, ns)) v)) o2)) o1)) o)
/-- the one that a call is of: modes 0, 1 an object of the kind ci, 2, 3 some cell -/
noncomputable def ai_rcv (mode ci : Nat) (w : ai_W) (a : List ai_V) (f : ai_P) : ai_P := (@Bool.rec (fun _ => _) ((@Bool.rec (fun _ => _) f ((@List.rec _ (fun _ => _) none (fun v _ _ => (@Bool.rec (fun _ => _) none f (Nat.beq v.1 6))) a)) (Nat.ble mode 3))) ((@List.rec _ (fun _ => _) none (fun v _ _ => ai_cel w v (fun c => (@Bool.rec (fun _ => _) none f ((@Bool.rec (fun _ => _) false (Nat.beq c.2.1 ci) (Nat.beq c.1 0)))))) a)) (Nat.ble mode 1))
/-- none of the ends is a stop on the way -/
noncomputable def ai_no8 (l : List ai_O) : Bool := @List.rec ai_O (fun _ => Bool) true (fun o _ ih => (@Option.rec _ (fun _ => _) ih (fun v => (@Bool.rec (fun _ => _) ih false (Nat.beq v.1 8))) o.1)) l
/-- a call: nc, ns what is made behind it -/
noncomputable def ai_call2 (M : ai_M) (a st : List ai_V) (nc ns : Nat) : ai_D := fun sq _ κ loc _ w => (@Bool.rec (fun _ => _) none (@Nat.rec (fun _ => ai_P) none (fun d' _ => ai_ent M.1 a (fun l => (@Option.rec _ (fun _ => _) none (fun os => (@Bool.rec (fun _ => _) none (ai_all (ai_back nc ns st (sq loc)) (ai_uni os)) (ai_no8 os))) (κ.1 d' M 0 M.2.1 l [] (w.1, w.2.1, w.2.2.1, 0, 0))))) κ.2.1) ((@Bool.rec (fun _ => _) false ((@Bool.rec (fun _ => _) false (Nat.ble ns κ.2.2.1.2.2.2) (Nat.ble nc κ.2.2.1.2.2.1))) (Nat.ble (ai_sum st) 8))))
noncomputable def ai_call (mode mid k ci : Nat) : ai_D := fun sq jm κ loc stk w => ai_args k [] stk (fun a st => ai_rcv mode ci w a (ai_nth ai_tab none (fun M => ai_nt (Nat.add w.2.2.2.1 M.2.2.1) (fun nc => ai_nt (Nat.add w.2.2.2.2 M.2.2.2) (fun ns => ai_call2 M a st nc ns sq jm κ loc stk w))) mid))
noncomputable def ai_obj : ai_D := fun sq jm κ loc stk w => (@List.rec _ (fun _ => _) none (fun v st _ => (@Bool.rec (fun _ => _) none (sq loc st w) ((@Bool.rec (fun _ => _) false (Nat.ble (ai_sum st) 8) (Nat.beq v.1 6))))) stk)
noncomputable def ai_ord : ai_D := fun sq _ κ loc stk w => (@List.rec _ (fun _ => _) none (fun v st _ => (@Prod.rec _ _ (fun _ => _) (fun t j => (@Bool.rec (fun _ => _) none (sq loc ((0, j) :: st) w) ((@Bool.rec (fun _ => _) false ((@Bool.rec (fun _ => _) false ((@Bool.rec (fun _ => _) false (Nat.ble w.2.2.2.2 κ.2.2.1.2.2.2) (Nat.ble w.2.2.2.1 κ.2.2.1.2.2.1))) (Nat.ble 1 κ.2.1))) ((@Bool.rec (fun _ => _) false (Nat.ble (ai_sum st) 8) ((@Bool.rec (fun _ => _) false (Nat.ble j 37) (Nat.beq t 7))))))))) v)) stk)
noncomputable def ai_non : ai_D := fun _ _ _ _ _ _ => none
noncomputable def ai_cp : ai_D := fun sq jm κ loc stk w => (@Bool.rec (fun _ => _) none (ai_copy sq jm κ loc stk w) (Nat.ble (ai_sum stk) 13))
noncomputable def ai_inv (mode mid n ci : Nat) : ai_D := (@Bool.rec (fun _ => _) ((@Bool.rec (fun _ => _) ((@Bool.rec (fun _ => _) ((@Bool.rec (fun _ => _) ai_non ai_ord (Nat.beq mode 9))) ai_cp (Nat.beq mode 8))) ai_obj (Nat.beq mode 7))) (ai_call mode mid n ci) (Nat.ble mode 6))
noncomputable def ai_ret2 (v : Option ai_V) (κ : ai_K) (w : ai_W) : ai_P := (@Prod.rec _ _ (fun _ => _) (fun n w1 => (@Prod.rec _ _ (fun _ => _) (fun h w2 => (@Prod.rec _ _ (fun _ => _) (fun env w3 => (@Bool.rec (fun _ => _) none (some [(v, n, h, env)]) ((@Bool.rec (fun _ => _) false (Nat.ble w3.2 κ.2.2.1.2.2.2) (Nat.ble w3.1 κ.2.2.1.2.2.1))))) w2)) w1)) w)
noncomputable def ai_ret (lo hi : Nat) : ai_D := fun sq jm κ loc stk w => (@List.rec _ (fun _ => _) none (fun v st _ => (@List.rec _ (fun _ => _) ((@Bool.rec (fun _ => _) none (ai_res w.2.2.1 v (fun v => ai_ret2 (some v) κ w)) (ai_in lo hi v))) (fun _ _ _ => none) st)) stk)
/-- a boolean -/
noncomputable def ai_retz : ai_D := fun _ _ κ _ stk w => (@List.rec _ (fun _ => _) none (fun v st _ => (@List.rec _ (fun _ => _) (ai_res w.2.2.1 v (fun v => (@Bool.rec (fun _ => _) none (ai_ret2 (some v) κ w) ((@Bool.rec (fun _ => _) false (Nat.ble v.2 1) (Nat.beq v.1 0)))))) (fun _ _ _ => none) st)) stk)
noncomputable def ai_retv : ai_D := fun sq jm κ loc stk w => (@List.rec _ (fun _ => _) (ai_ret2 none κ w) (fun _ _ _ => none) stk)
noncomputable def ai_i2b : ai_D := fun sq _ _ loc stk w => (@List.rec _ (fun _ => _) none (fun x st _ => (@Bool.rec (fun _ => _) none (sq loc ((2, 0) :: st) w) (Nat.ble x.1 2))) stk)
noncomputable def ai_i2l : ai_D := fun sq jm κ loc stk w => (@List.rec _ (fun _ => _) none (fun x st _ => (@Prod.rec _ _ (fun _ => _) (fun t n => (@Bool.rec (fun _ => _) none (sq loc ((3, n) :: st) w) ((@Bool.rec (fun _ => _) false (Nat.ble n 2147483647) (Nat.beq t 0))))) x)) stk)
noncomputable def ai_lcmp : ai_D := fun sq _ _ loc stk w => (@List.rec _ (fun _ => _) none (fun y st _ => (@List.rec _ (fun _ => _) none (fun x st _ => (@Bool.rec (fun _ => _) none (sq loc ((0, 0) :: st) w) ((@Bool.rec (fun _ => _) false (ai_eqV x y) (Nat.beq x.1 3))))) st)) stk)
noncomputable def ai_dup : ai_D := fun sq jm κ loc stk w => (@List.rec _ (fun _ => _) none (fun x st _ => (@Bool.rec (fun _ => _) none (sq loc (x :: x :: st) w) (Nat.beq (ai_cat x) 1))) stk)
noncomputable def ai_dup2 : ai_D := fun sq jm κ loc stk w => (@List.rec _ (fun _ => _) none (fun x st _ => (@List.rec _ (fun _ => _) none (fun y st _ => (@Bool.rec (fun _ => _) none (sq loc (x :: y :: x :: y :: st) w) ((@Bool.rec (fun _ => _) false (Nat.beq (ai_cat y) 1) (Nat.beq (ai_cat x) 1))))) st)) stk)
noncomputable def ai_pop : ai_D := fun sq jm κ loc stk w => (@List.rec _ (fun _ => _) none (fun x st _ => (@Bool.rec (fun _ => _) none (sq loc st w) (Nat.beq (ai_cat x) 1))) stk)
/-- a target -/
noncomputable def ai_tgt (pc : Nat) (off : Int) : Option Nat := match (pc : Int) + off with
  | .ofNat t => some t
  | .negSucc _ => none
noncomputable def ai_to (pc : Nat) (off : Int) (f : Nat → ai_D) : Option ai_D := (@Option.rec _ (fun _ => _) none (fun t => some (f t)) (ai_tgt pc off))
noncomputable def ai_tgts (pc : Nat) (l : List Int) : Option (List Nat) := @List.rec Int (fun _ => Option (List Nat)) (some []) (fun o _ ih => (@Option.rec _ (fun _ => _) none (fun t => (@Option.rec _ (fun _ => _) none (fun ts => some (t :: ts)) ih)) (ai_tgt pc o))) l
/-! ===== an instruction's doing ===== -/
noncomputable def ai_h (e : ai_N) : Option ai_D := match e.2.1 with
  | .iconst n => some (ai_push (0, ai_ofI n))
  | .bipush n => (@Bool.rec (fun _ => _) none (some (ai_push (0, ai_ofI n))) (decide (-128 ≤ n) && decide (n ≤ 127)))
  | .sipush n => (@Bool.rec (fun _ => _) none (some (ai_push (0, ai_ofI n))) (decide (-32768 ≤ n) && decide (n ≤ 32767)))
  | .ldc _ => some (ai_push (0, e.2.2.2.1))
  | .ldc_w _ => some (ai_push (0, e.2.2.2.1))
  | .lconst n => some (ai_push (3, n.val))
  | .aconst_null => some (ai_push (5, 0))
  | .iload i => some (ai_ld i 0 2)
  | .iload_n i => some (ai_ld i.val 0 2)
  | .aload i => some (ai_ld i 5 7)
  | .aload_n i => some (ai_ld i.val 5 7)
  | .istore i => some (ai_sto i 0 2)
  | .istore_n i => some (ai_sto i.val 0 2)
  | .astore i => some (ai_sto i 5 7)
  | .astore_n i => some (ai_sto i.val 5 7)
  | .iinc i n => some (ai_iinc i (ai_ofI n))
  | .iadd => some (ai_bin (ai_op2 ai_add))
  | .isub => some (ai_bin (ai_op2 ai_sub))
  | .imul => some (ai_bin (ai_op2 ai_mul))
  | .iand => some (ai_bin ai_iand)
  | .iushr => some (ai_bin ai_any2)
  | .ishr => some (ai_bin ai_any2)
  | .irem => some (ai_bin ai_irem)
  | .i2b => some ai_i2b
  | .i2l => some ai_i2l
  | .lcmp => some ai_lcmp
  | .dup => some ai_dup
  | .dup2 => some ai_dup2
  | .pop => some ai_pop
  | .goto off => ai_to e.1 off ai_goto
  | .if_icmp .eq off => ai_to e.1 off (ai_icmp 0)
  | .if_icmp .ne off => ai_to e.1 off (ai_icmp 1)
  | .if_icmp .lt off => ai_to e.1 off (ai_icmp 2)
  | .if_icmp .ge off => ai_to e.1 off (ai_icmp 3)
  | .if_icmp .gt off => ai_to e.1 off (ai_icmp 4)
  | .if_icmp .le off => ai_to e.1 off (ai_icmp 5)
  | .ifCond .eq off => ai_to e.1 off (ai_if0 0)
  | .ifCond .ne off => ai_to e.1 off (ai_if0 1)
  | .ifCond .lt off => ai_to e.1 off (ai_if0 2)
  | .ifCond .ge off => ai_to e.1 off (ai_if0 3)
  | .ifCond .gt off => ai_to e.1 off (ai_if0 4)
  | .ifCond .le off => ai_to e.1 off (ai_if0 5)
  | .if_acmp .eq off => ai_to e.1 off (ai_acmp true)
  | .if_acmp .ne off => ai_to e.1 off (ai_acmp false)
  | .ifnull off => ai_to e.1 off (ai_nul true)
  | .ifnonnull off => ai_to e.1 off (ai_nul false)
  | .tableswitch df lo hi offs => (@Option.rec _ (fun _ => _) none (fun lo' => (@Bool.rec (fun _ => _) none ((@Option.rec _ (fun _ => _) none (fun ts => ai_to e.1 df (fun d => ai_tsw d lo' ts)) (ai_tgts e.1 offs.toList))) (decide (hi = lo + offs.toList.length - 1)))) (ai_tgt 0 lo))
  | .getfield _ => some (ai_get e.2.2.2.1 e.2.2.2.2.1)
  | .putfield _ => some (ai_putf e.2.2.2.1 e.2.2.2.2.1 e.2.2.2.2.2.2.2)
  | .getstatic _ => some (ai_push (7, e.2.2.2.1))
  | .new _ => some (ai_alloc e.2.2.2.2.1 (0, e.2.2.2.1, (5, 0), ai_ini e.2.2.2.1))
  | .newarray _ => some (ai_newa e.2.2.2.1)
  | .anewarray _ => some (ai_newa e.2.2.2.1)
  | .arraylength => some ai_alen
  | .iaload => some (ai_ald 1 1)
  | .baload => some (ai_ald 2 3)
  | .laload => some (ai_ald 4 4)
  | .aaload => some (ai_ald 5 6)
  | .iastore => some (ai_ast 1 1)
  | .bastore => some (ai_ast 2 3)
  | .lastore => some (ai_ast 4 4)
  | .aastore => some (ai_ast 5 6)
  | .invokevirtual _ => some (ai_inv e.2.2.2.2.2.1 e.2.2.2.1 e.2.2.2.2.1 e.2.2.2.2.2.2.2)
  | .invokespecial _ => some (ai_inv e.2.2.2.2.2.1 e.2.2.2.1 e.2.2.2.2.1 e.2.2.2.2.2.2.2)
  | .invokestatic _ => some (ai_inv e.2.2.2.2.2.1 e.2.2.2.1 e.2.2.2.2.1 e.2.2.2.2.2.2.2)
  | .ireturn => (@Bool.rec (fun _ => _) (some (ai_ret 0 2)) (some ai_retz) (Nat.beq e.2.2.2.1 1))
  | .areturn => some (ai_ret 5 7)
  | .return_ => some ai_retv
  | _ => none
/-! ===== the run ===== -/
noncomputable def ai_one (ih : ai_X) (d : Nat) (M : ai_M) (loc : ai_L) (stk : List ai_V) (w : ai_W) (e : ai_N) (tl : List ai_N) : ai_P := (@Option.rec _ (fun _ => _) none (fun hd => hd (ih d M (Nat.add e.1 e.2.2.1) tl) (ai_jm ih d M) (ih, d, M, e.1) loc stk w) (ai_h e))
noncomputable def ai_body (ih : ai_X) : ai_X := fun d M pc rest loc stk w => (@List.rec _ (fun _ => _) none (fun e tl _ => (@Bool.rec (fun _ => _) none (ai_one ih d M loc stk w e tl) (Nat.beq e.1 pc))) rest)
noncomputable def ai_run (n : Nat) : ai_X := @Nat.rec (fun _ => ai_X) (fun _ _ _ _ _ _ _ => none) (fun _ ih => ai_body ih) n
end
section
/-! ===== the recursors as choices ===== -/
theorem ak_if {α : Type} (c : Bool) (a b : α) : (@Bool.rec (fun _ => α) b a c) = if c = true then a else b := by cases c <;> rfl
theorem ak_op {α β : Type} (o : Option α) (n : β) (f : α → β) : (@Option.rec α (fun _ => β) n f o) = o.elim n f := by cases o <;> rfl
theorem ak_and (P : Prop) [Decidable P] (b : Bool) : ((if P then b else false) = true) = (P ∧ b = true) := by by_cases h : P <;> simp [h]
theorem ai_nt_eq {α : Type} (n : Nat) (f : Nat → α) : ai_nt n f = f n := by cases n <;> rfl
theorem ai_nth_eq {α β : Type} (l : List α) (n : β) (f : α → β) (k : Nat) : ai_nth l n f k = (l[k]?).elim n f := by
  induction l generalizing k with
  | nil => rfl
  | cons a l ih =>
    cases k with
    | zero => rfl
    | succ k =>
      have h : ai_nth (a :: l) n f (k + 1) = ai_nth l n f k := rfl
      rw [h, ih k]
      rfl
theorem ai_set_eq {α β : Type} (x : α) (n : β) (l : List α) (k : Nat) (f : List α → β) : ai_set x n l k f = if k < l.length then f (l.set k x) else n := by
  induction l generalizing k f with
  | nil => rfl
  | cons a l ih =>
    cases k with
    | zero =>
      have h : ai_set x n (a :: l) 0 f = f (x :: l) := rfl
      rw [h]
      simp
    | succ k =>
      have h : ai_set x n (a :: l) (k + 1) f = ai_set x n l k (fun r => f (a :: r)) := rfl
      rw [h, ih k]
      simp
theorem ai_app_eq {α : Type} (l k : List α) : ai_app l k = l ++ k := by
  induction l with
  | nil => rfl
  | cons a l ih =>
    have h : ai_app (a :: l) k = a :: ai_app l k := rfl
    rw [h, ih]
    rfl
theorem ai_len_eq {α : Type} (l : List α) : ai_len l = l.length := by
  induction l with
  | nil => rfl
  | cons a l ih =>
    have h : ai_len (a :: l) = Nat.succ (ai_len l) := rfl
    rw [h, ih]
    rfl
/-- what a row has at a place -/
def ak_look (i : Nat) : List (Nat × ai_V) → Option ai_V
  | [] => none
  | q :: l => if q.1 = i then some q.2 else ak_look i l
def ak_put (j : Nat) (v : ai_V) : List (Nat × ai_V) → List (Nat × ai_V)
  | [] => [(j, v)]
  | q :: l => if q.1 = j then (j, v) :: l else q :: ak_put j v l
theorem ai_look_eq {α : Type} (i : Nat) (l : List (Nat × ai_V)) (n : α) (f : ai_V → α) : ai_look i l n f = (ak_look i l).elim n f := by
  induction l with
  | nil => rfl
  | cons q l ih =>
    obtain ⟨a, v⟩ := q
    have h : ai_look i ((a, v) :: l) n f = (@Bool.rec (fun _ => α) (ai_look i l n f) (f v) (Nat.beq a i)) := rfl
    rw [h, ak_if, ih, ak_look]
    by_cases e : a = i
    · simp [e]
    · have : ¬ (Nat.beq a i = true) := by rw [Nat.beq_eq]; exact e
      simp [e, this]
theorem ai_put_eq {α : Type} (j : Nat) (v : ai_V) (l : List (Nat × ai_V)) (f : List (Nat × ai_V) → α) : ai_put j v l f = f (ak_put j v l) := by
  induction l generalizing f with
  | nil => rfl
  | cons q l ih =>
    obtain ⟨a, u⟩ := q
    have h : ai_put j v ((a, u) :: l) f = (@Bool.rec (fun _ => α) (ai_put j v l (fun r => f ((a, u) :: r))) (f ((j, v) :: l)) (Nat.beq a j)) := rfl
    rw [h, ak_if, ih, ak_put]
    by_cases e : a = j
    · simp [e]
    · have : ¬ (Nat.beq a j = true) := by rw [Nat.beq_eq]; exact e
      simp [e, this]
theorem ak_look_put (j : Nat) (v : ai_V) (l : List (Nat × ai_V)) (i : Nat) : ak_look i (ak_put j v l) = if i = j then some v else ak_look i l := by
  induction l with
  | nil =>
    simp only [ak_put, ak_look]
    by_cases e : j = i
    · simp [e]
    · simp [e, Ne.symm e]
  | cons q l ih =>
    obtain ⟨a, u⟩ := q
    simp only [ak_put]
    by_cases e : a = j
    · subst e
      simp only [if_true, ak_look]
      by_cases e2 : a = i
      · simp [e2]
      · simp [e2, Ne.symm e2]
    · simp only [if_neg e, ak_look, ih]
      by_cases e2 : a = i
      · subst e2
        simp [e]
      · simp [e2]
/-- what a cell has at a place -/
def ak_rd (c : ai_C) (j : Nat) : ai_V := (ak_look j c.2.2.2).getD c.2.2.1
theorem ai_rd_eq {α : Type} (c : ai_C) (j : Nat) (f : ai_V → α) : ai_rd c j f = f (ak_rd c j) := by
  obtain ⟨kd, inf, df, ov⟩ := c
  have h : ai_rd (kd, inf, df, ov) j f = ai_look j ov (f df) f := rfl
  rw [h, ai_look_eq, ak_rd]
  cases ak_look j ov <;> rfl
theorem ai_eqV_iff (u v : ai_V) : (ai_eqV u v = true) = (u = v) := by
  obtain ⟨a, b⟩ := u
  obtain ⟨c, d⟩ := v
  have h : ai_eqV (a, b) (c, d) = (@Bool.rec (fun _ => Bool) false (Nat.beq b d) (Nat.beq a c)) := rfl
  rw [h, ak_if, ak_and, Nat.beq_eq, Nat.beq_eq, Prod.mk.injEq]
theorem ai_wr_eq {α : Type} (c : ai_C) (j : Nat) (v : ai_V) (n : α) (f : ai_C → α) : (ai_wr c j v n f = n ∧ ak_rd c j = v) ∨ ∃ c' : ai_C, ai_wr c j v n f = f c' ∧ c'.1 = c.1 ∧ c'.2.1 = c.2.1 ∧ ∀ i, ak_rd c' i = if i = j then v else ak_rd c i := by
  obtain ⟨kd, inf, df, ov⟩ := c
  have h : ai_wr (kd, inf, df, ov) j v n f = ai_look j ov (@Bool.rec (fun _ => α) (ai_put j v ov (fun r => f (kd, inf, df, r))) n (ai_eqV v df)) (fun u => @Bool.rec (fun _ => α) (ai_put j v ov (fun r => f (kd, inf, df, r))) n (ai_eqV v u)) := rfl
  have hw : ∀ i, ak_rd (kd, inf, df, ak_put j v ov) i = if i = j then v else ak_rd (kd, inf, df, ov) i := by
    intro i
    simp only [ak_rd, ak_look_put]
    by_cases e : i = j
    · simp [e]
    · simp [e]
  rw [h, ai_look_eq]
  cases hl : ak_look j ov with
  | none =>
    simp only [Option.elim, ak_if, ai_eqV_iff, ai_put_eq]
    by_cases e : v = df
    · left
      simp [e, ak_rd, hl]
    · right
      exact ⟨(kd, inf, df, ak_put j v ov), by simp [e], rfl, rfl, hw⟩
  | some u =>
    simp only [Option.elim, ak_if, ai_eqV_iff, ai_put_eq]
    by_cases e : v = u
    · left
      simp [e, ak_rd, hl]
    · right
      exact ⟨(kd, inf, df, ak_put j v ov), by simp [e], rfl, rfl, hw⟩
theorem ai_seek_mem (t : Nat) (l : List ai_N) : ∀ e ∈ ai_seek t l, e ∈ l := by
  induction l with
  | nil => intro e h; exact h
  | cons a l ih =>
    have h : ai_seek t (a :: l) = (@Bool.rec (fun _ => List ai_N) (ai_seek t l) (a :: l) (Nat.beq a.1 t)) := rfl
    intro e he
    rw [h, ak_if] at he
    split at he
    · exact he
    · exact List.mem_cons_of_mem _ (ih e he)
/-! ===== ends, put together ===== -/
theorem ai_two_some {a b : ai_P} {o : List ai_O} (h : ai_two a b = some o) : ∃ x y, a = some x ∧ b = some y ∧ o = x ++ y := by
  cases a with
  | none => exact absurd h (by simp [ai_two])
  | some x =>
    cases b with
    | none => exact absurd h (by simp [ai_two])
    | some y =>
      have h1 : ai_two (some x) (some y) = some (ai_app x y) := rfl
      rw [h1, ai_app_eq] at h
      exact ⟨x, y, rfl, rfl, (Option.some.inj h).symm⟩
theorem ai_all_some {α : Type} {f : α → ai_P} {l : List α} {o : List ai_O} (h : ai_all f l = some o) : ∀ q ∈ l, ∃ x, f q = some x ∧ ∀ z ∈ x, z ∈ o := by
  induction l generalizing o with
  | nil => intro q hq; exact absurd hq List.not_mem_nil
  | cons a l ih =>
    cases l with
    | nil =>
      have h1 : ai_all f [a] = f a := rfl
      rw [h1] at h
      intro q hq
      rw [List.mem_singleton.mp hq]
      exact ⟨o, h, fun _ h => h⟩
    | cons b l =>
      have h1 : ai_all f (a :: b :: l) = ai_two (f a) (ai_all f (b :: l)) := rfl
      rw [h1] at h
      obtain ⟨x, y, hx, hy, rfl⟩ := ai_two_some h
      intro q hq
      rcases List.mem_cons.mp hq with rfl | hq
      · exact ⟨x, hx, fun z hz => List.mem_append_left _ hz⟩
      · obtain ⟨z, hz, hm⟩ := ih hy q hq
        exact ⟨z, hz, fun w hw => List.mem_append_right _ (hm w hw)⟩
theorem ai_ups_mem (n i : Nat) (h : i < n) : i ∈ ai_ups n := by
  induction n with
  | zero => omega
  | succ n ih =>
    have h1 : ai_ups (n + 1) = n :: ai_ups n := rfl
    rw [h1]
    by_cases e : i = n
    · rw [e]; exact List.mem_cons_self
    · exact List.mem_cons_of_mem _ (ih (by omega))
/-! ===== numbers ===== -/
/-- a signed number in its order -/
def ak_b (x : Int32) : Nat := (x.toInt + 2147483648).toNat
theorem ak_b_int (x : Int32) : (ak_b x : Int) = x.toInt + 2147483648 := by
  have h := Int32.le_toInt x
  unfold ak_b
  omega
theorem ak_b_lt (x : Int32) : ak_b x < 4294967296 := by
  have h := Int32.toInt_lt x
  have h2 := ak_b_int x
  omega
theorem ak_b_nI (n : Nat) : ak_b (nI n) = ai_b n := by
  have h2 := ak_b_int (nI n)
  have h3 : (nI n).toInt = (n : Int).bmod (2 ^ 32) := Int32.toInt_ofNat' 
  have h4 : ai_b n = (n + 2147483648) % 4294967296 := rfl
  rw [h3, Int.bmod_def] at h2
  rw [h4]
  split at h2 <;> omega
theorem ak_lt (x y : Int32) : (x < y) = (ak_b x < ak_b y) := by
  rw [Int32.lt_iff_toInt_lt]
  have h1 := ak_b_int x
  have h2 := ak_b_int y
  exact propext ⟨fun h => by omega, fun h => by omega⟩
theorem ak_le (x y : Int32) : (x ≤ y) = (ak_b x ≤ ak_b y) := by
  rw [Int32.le_iff_toInt_le]
  have h1 := ak_b_int x
  have h2 := ak_b_int y
  exact propext ⟨fun h => by omega, fun h => by omega⟩
theorem ak_eq (x y : Int32) : (x = y) = (ak_b x = ak_b y) := by
  have h1 := ak_b_int x
  have h2 := ak_b_int y
  refine propext ⟨fun h => by rw [h], fun h => Int32.toInt_inj.mp (by omega)⟩
theorem ak_of_b (x : Int32) : x = nI (ai_b (ak_b x)) := by
  rw [ak_eq, ak_b_nI]
  have h := ak_b_lt x
  have h4 : ∀ n, ai_b n = (n + 2147483648) % 4294967296 := fun _ => rfl
  rw [h4, h4]
  omega
theorem nI_mod (n : Nat) : nI (n % 4294967296) = nI n := by
  rw [ak_eq, ak_b_nI, ak_b_nI]
  have h4 : ∀ n, ai_b n = (n + 2147483648) % 4294967296 := fun _ => rfl
  rw [h4, h4]
  omega
theorem ak_add (a b : Nat) : nI (ai_add a b) = nI a + nI b := by
  have h : ai_add a b = (a + b) % 4294967296 := rfl
  rw [h, nI_mod, nI_add]
theorem ak_mul (a b : Nat) : nI (ai_mul a b) = nI a * nI b := by
  have h : ai_mul a b = (a * b) % 4294967296 := rfl
  rw [h, nI_mod, pk_mul]
theorem ak_sub (a b : Nat) : nI (ai_sub a b) = nI a - nI b := by
  have h : ai_sub a b = (a + (4294967296 - b % 4294967296)) % 4294967296 := rfl
  have h1 : nI a = nI (ai_sub a b) + nI b := by
    rw [h, nI_mod, nI_add, ← nI_mod (a + _ + b), ← nI_mod a]
    congr 1
    omega
  rw [h1, Int32.add_sub_cancel]
theorem ak_land (a b : Nat) : nI (Nat.land a b) = nI a &&& nI b := by
  apply Int32.toBitVec_inj.mp
  show (Int32.ofNat (a &&& b)).toBitVec = (Int32.ofNat a &&& Int32.ofNat b).toBitVec
  rw [Int32.toBitVec_and]
  simp [Int32.toBitVec_ofNat', BitVec.ofNat_and]
theorem ak_ofI (n : Int) : nI (ai_ofI n) = Int32.ofInt n := by
  apply Int32.toInt_inj.mp
  have h : ai_ofI n = (n % 4294967296).toNat := rfl
  have h3 : (nI (ai_ofI n)).toInt = ((ai_ofI n : Nat) : Int).bmod (2 ^ 32) := Int32.toInt_ofNat'
  rw [h3, h, Int32.toInt_ofInt]
  have h5 : (((n % 4294967296).toNat : Nat) : Int) = n % 4294967296 := by omega
  rw [h5]
  simp [Int.bmod_def, Int.emod_emod_of_dvd]
end
section
/-! ===== what the small machine's words stand for ===== -/
/-- from where on cells may be written, classes and slots, array classes by kind, constant things' cells, symbols' values, the cells that were there when the method began -/
abbrev ak_I : Type := Nat × va_G × (Nat → ClassId) × (Nat → Nat) × (Nat → Int32) × List Nat
abbrev ak_A (ι : ak_I) : Nat → Prop := fun q => ι.1 ≤ q
def ak_v (ι : ak_I) (ads : List Nat) (a : ai_V) (v : Value) : Prop :=
  (a.1 = 0 ∧ v = .int (nI a.2)) ∨ (a.1 = 1 ∧ v = .int (ι.2.2.2.2.1 a.2)) ∨ (a.1 = 2 ∧ ∃ x : Int32, v = .int x) ∨ (a.1 = 3 ∧ v = .long (lN a.2)) ∨ (a.1 = 4 ∧ ∃ x : Int64, v = .long x) ∨ (a.1 = 5 ∧ v = .null) ∨ (a.1 = 6 ∧ ∃ q : Nat, ads[a.2]? = some q ∧ v = .ref q) ∨ (a.1 = 7 ∧ v = .ref (ι.2.2.2.1 a.2))
def ak_e (ι : ak_I) (env : ai_E) : Prop := ∀ (k : Nat) (q : Nat × Nat), env[k]? = some q → q.1 ≤ ak_b (ι.2.2.2.2.1 k) ∧ ak_b (ι.2.2.2.2.1 k) ≤ q.2
def ak_n (ci : Nat) : Nat := (vwCl[ci]?).elim 0 (fun q => q.2.2)
def ak_fd (ci k : Nat) : String × String × String × Bool := (vwCl[ci]?).elim ("", "", "", false) (fun q => q.2.1 k)
def ak_el (e : va_E) (j : Nat) : Value := match e with
  | .inl (_, _, .inl f) => .int (f j)
  | .inl (_, _, .inr (.inl f)) => .long (f j)
  | .inl (_, _, .inr (.inr (.inl f))) => .float (f j)
  | .inl (_, _, .inr (.inr (.inr (.inl f)))) => .double (f j)
  | .inl (_, _, .inr (.inr (.inr (.inr f)))) => va_rf (f j)
  | .inr (_, fs) => vp_V fs j
def ak_sh (ι : ak_I) (c : ai_C) (e : va_E) : Prop :=
  (c.1 = 0 ∧ ∃ fs : List Value, e = .inr (c.2.1, fs) ∧ fs.length = ak_n c.2.1) ∨ (c.1 = 1 ∧ ∃ f : Nat → Int32, e = .inl (ι.2.2.1 1, c.2.1, .inl f)) ∨ (c.1 = 2 ∧ ∃ f : Nat → Int32, e = .inl (ι.2.2.1 2, c.2.1, .inl f) ∧ ∀ j, j < c.2.1 → fits .byte (.int (f j)) = true) ∨ (c.1 = 3 ∧ ∃ f : Nat → Int32, e = .inl (ι.2.2.1 3, c.2.1, .inl f)) ∨ (c.1 = 4 ∧ ∃ f : Nat → Int64, e = .inl (ι.2.2.1 4, c.2.1, .inr (.inl f))) ∨ (c.1 = 5 ∧ ∃ f : Nat → Option Nat, e = .inl (ι.2.2.1 5, c.2.1, .inr (.inr (.inr (.inr f))))) ∨ (c.1 = 6 ∧ ∃ f : Nat → Option Nat, e = .inl (ι.2.2.1 6, c.2.1, .inr (.inr (.inr (.inr f)))))
def ak_sz (c : ai_C) : Nat := if c.1 = 0 then ak_n c.2.1 else c.2.1
/-- a cell; of kind 9 nothing is said -/
def ak_c (ι : ak_I) (ads : List Nat) (c : ai_C) (e : va_E) : Prop := c.1 = 9 ∨ (ak_sh ι c e ∧ ∀ j, j < ak_sz c → ak_v ι ads (ak_rd c j) (ak_el e j))
def ak_h (ι : ak_I) (n : Nat) (h : ai_H) (ws : va_W) : Prop := h.length = n ∧ ws.length = n ∧ ∀ (k : Nat) (c : ai_C), k < n → h[n - (k + 1)]? = some c → ∃ q : Nat × va_E, ws[k]? = some q ∧ ak_c ι (ws.map Prod.fst) c q.2
def ak_l (ι : ak_I) (ads : List Nat) (loc : ai_L) (nL : Nat) (ls : Array Slot) : Prop := loc.length ≤ nL ∧ ∃ lv : List (Nat × Value), lv_has ls nL lv ∧ ∀ (i : Nat) (a : ai_V), loc[i]? = some a → a.1 ≤ 7 → ∃ v : Value, (i, v) ∈ lv ∧ ak_v ι ads a v ∧ v.category = 1
def ak_s (ι : ak_I) (ads : List Nat) : List ai_V → List Value → Prop
  | [], [] => True
  | a :: l, v :: k => ak_v ι ads a v ∧ ak_s ι ads l k
  | _, _ => False
/-- the array classes -/
def ak_T (ι : ak_I) : List (ClassId × FieldType) := [(ι.2.2.1 1, .int), (ι.2.2.1 2, .byte), (ι.2.2.1 3, .boolean), (ι.2.2.1 4, .long), (ι.2.2.1 5, .object "SpanCopier$Word"), (ι.2.2.1 6, .object "SpanCopier$World")]
def ak_ors : List (String × String × String × List Int32) := [("java/lang/Enum", "ordinal", "I", (List.range 38).map nI)]
def ak_st (j : Nat) : String × String × String := ak_sts.getD j ("", "", "")
/-- constant things, and the script -/
def ak_S (ι : ak_I) (U : State) (H : Heap) : Prop :=
  va_En "SpanCopier$Word" "LSpanCopier$Word;" ak_nm ak_ors ι.2.2.2.1 (ak_A ι) U H ∧ (∀ (j : Nat) (l : List Nat), ai_sar j = some l → va_Z (ak_st j).1 (ak_st j).2.1 (ak_st j).2.2 (.ref (ι.2.2.2.1 j)) (ak_A ι) U H ∧ va_T .int (ι.2.2.2.1 j) l.length (fun i => .int (nI (l.getD i 0))) (ak_A ι) U H) ∧ (va_Z (ak_st 42).1 (ak_st 42).2.1 (ak_st 42).2.2 (.ref (ι.2.2.2.1 42)) (ak_A ι) U H ∧ va_T .byte (ι.2.2.2.1 42) 0 (fun _ => .int 0) (ak_A ι) U H) ∧
  ∃ (L : Nat) (xs : Nat → Int32), va_X (ι.2.2.2.1 45) L xs U H ∧ ι.2.2.2.1 45 < ι.1 ∧ ι.2.2.2.1 45 < H.size ∧ L ≤ 6 ∧ ι.2.2.2.2.1 7 = Int32.ofNat L ∧ (∀ k, k < L → ι.2.2.2.2.1 k = xs k) ∧ ι.2.2.2.2.1 6 = ι.2.2.2.2.1 0 &&& 63
/-- words that calls don't hand on by themselves -/
def ak_Nw (U : State) : Prop := (∀ (a : String) (i : Nat) (b n d h : String), Cond.fieldLinkNest a i b n d h ∈ lw_tbl → va_Nw (.fieldLinkNest a i b n d h) U) ∧ (∀ (a : String) (i : Nat) (x : MethodName) (h : String), Cond.methodLinkNest a i x h ∈ lw_tbl → va_Nw (.methodLinkNest a i x h) U) ∧ va_AO "SpanCopier$Word" U ∧ va_AO "SpanCopier$World" U
abbrev ak_Fr : Type := Program × Launch × Env × Room × State × MethodId × Array Value × List Frame × Method × Code
abbrev ak_WW (φ : ak_Fr) (H : Heap) (locs : List Loc) (nc ns : Nat) (Q : State → Prop) (g : JFrame) : Prop := W φ.1 φ.2.1 φ.2.2.1 φ.2.2.2.1 φ.2.2.2.2.1 φ.2.2.2.2.2.1 φ.2.2.2.2.2.2.1 φ.2.2.2.2.2.2.2.1 φ.2.2.2.2.2.2.2.2.1 φ.2.2.2.2.2.2.2.2.2 H locs nc ns Q g
/-- a state of the small machine and one of the machine -/
def ak_M (ι : ak_I) (s : State) (nL : Nat) (loc : ai_L) (stk : List ai_V) (w : ai_W) (ws : va_W) (ls : Array Slot) (st : List Value) (H : Heap) (locs : List Loc) : Prop :=
  va_P ι.2.1 vwCl ws H ∧ (va_D (ak_A ι) ws ∧ ι.2.2.2.2.2 <+: ws.map Prod.fst) ∧ va_S (ak_A ι) s.heap H locs ∧ ak_h ι w.1 w.2.1 ws ∧ ak_l ι (ws.map Prod.fst) loc nL ls ∧ ak_s ι (ws.map Prod.fst) stk st ∧ ak_e ι w.2.2.1
/-- the frame of a method: its name, its bytes, what it answers -/
def ak_C (ι : ak_I) (y : MethodName) (b : ByteArray) (rt : Option FieldType) (M : ai_M) (d : Nat) (p : Program) (l : Launch) (e : Env) (R : Room) (s : State) (m : MethodId) (args : Array Value) (below : List Frame) (meth : Method) (c : Code) : Prop :=
  (p.tables.exec = Jvm.exec ∧ c.code = b ∧ meth.sig.returnType = rt ∧ c.maxLocals = M.1) ∧ (s.vm.findClass y.cls = some m.cls ∧ (∀ w ∈ ak_W, w.before args s = true) ∧ meth.locks = false ∧ meth.name = y.name) ∧ (va_K ι.2.1 vwCl (ak_T ι) s ∧ ak_S ι s s.heap ∧ ι.1 ≤ s.heap.size ∧ ak_Nw s) ∧ (d + 1 ≤ R.frames ∧ 64 * (d + 1) ≤ R.locals ∧ R.cells = M.2.2.1 ∧ R.slots = M.2.2.2)
/-- what an end owes -/
def ak_End (ι : ak_I) (M : ai_M) (φ : ak_Fr) (Q : State → Prop) (o : ai_O) : Prop :=
  ∀ (ws : va_W) (ls : Array Slot) (H : Heap) (locs : List Loc) (pc nc ns : Nat) (v : Option Value), nc ≤ M.2.2.1 → ns ≤ M.2.2.2 → va_P ι.2.1 vwCl ws H → va_D (ak_A ι) ws → ι.2.2.2.2.2 <+: ws.map Prod.fst → va_S (ak_A ι) φ.2.2.2.2.1.heap H locs → ak_h ι o.2.1 o.2.2.1 ws → ak_e ι o.2.2.2 →
    ((o.1 = none ∧ v = none ∧ φ.2.2.2.2.2.2.2.2.1.sig.returnType = none ∧ decode φ.2.2.2.2.2.2.2.2.2.code pc = .ok (.return_, 1)) ∨ (∃ (a : ai_V) (x : Int32), o.1 = some a ∧ v = some (.int x) ∧ ak_v ι (ws.map Prod.fst) a (.int x) ∧ (∃ ty, φ.2.2.2.2.2.2.2.2.1.sig.returnType = some ty ∧ narrow ty (.int x) = .int x) ∧ decode φ.2.2.2.2.2.2.2.2.2.code pc = .ok (.ireturn, 1)) ∨ (∃ (a : ai_V) (x : Value), o.1 = some a ∧ v = some x ∧ (x = .null ∨ ∃ q, x = .ref q) ∧ ak_v ι (ws.map Prod.fst) a x ∧ (∃ ty, φ.2.2.2.2.2.2.2.2.1.sig.returnType = some ty ∧ ((∃ n, ty = .object n) ∨ ∃ t, ty = .array t)) ∧ decode φ.2.2.2.2.2.2.2.2.2.code pc = .ok (.areturn, 1)) ∨ (∃ k : Nat, o.1 = some (8, k) ∧ v = none ∧ pc = k ∧ ls.size = M.1 ∧ nc = 0 ∧ ns = 0)) →
    ak_WW φ H locs nc ns Q (F0 φ.2.2.2.2.2.1 pc ls v.toList)
/-- to go on at pc as f does is sound -/
def ak_Snd (ι : ak_I) (M : ai_M) (φ : ak_Fr) (pc : Nat) (f : ai_Q) : Prop :=
  ∀ (loc : ai_L) (stk : List ai_V) (w : ai_W) (outs : List ai_O), f loc stk w = some outs → ∀ Q : State → Prop, (∀ o ∈ outs, ak_End ι M φ Q o) → ∀ (ws : va_W) (ls : Array Slot) (st : List Value) (H : Heap) (locs : List Loc), ak_M ι φ.2.2.2.2.1 M.1 loc stk w ws ls st H locs → ak_WW φ H locs w.2.2.2.1 w.2.2.2.2 Q (F0 φ.2.2.2.2.2.1 pc ls st)
/-! ===== values ===== -/
theorem ak_v_int {ι : ak_I} {ads : List Nat} {a : ai_V} {v : Value} (h : ak_v ι ads a v) (ha : a.1 ≤ 2) : ∃ x : Int32, v = .int x ∧ (a.1 = 0 → x = nI a.2) ∧ (a.1 = 1 → x = ι.2.2.2.2.1 a.2) := by
  rcases h with ⟨h, e⟩ | ⟨h, e⟩ | ⟨h, x, e⟩ | ⟨h, e⟩ | ⟨h, x, e⟩ | ⟨h, e⟩ | ⟨h, x, e⟩ | ⟨h, e⟩ <;> first | omega | exact ⟨_, e, fun h0 => by first | rfl | omega, fun h1 => by first | rfl | omega⟩
theorem ak_v_ref {ι : ak_I} {ads : List Nat} {a : ai_V} {v : Value} (h : ak_v ι ads a v) (h5 : 5 ≤ a.1) : v = .null ∧ a.1 = 5 ∨ (∃ q : Nat, v = .ref q) ∧ (a.1 = 6 ∨ a.1 = 7) := by
  rcases h with ⟨h, e⟩ | ⟨h, e⟩ | ⟨h, x, e⟩ | ⟨h, e⟩ | ⟨h, x, e⟩ | ⟨h, e⟩ | ⟨h, x, -, e⟩ | ⟨h, e⟩ <;> first | omega | exact Or.inl ⟨e, h⟩ | exact Or.inr ⟨⟨_, e⟩, Or.inl h⟩ | exact Or.inr ⟨⟨_, e⟩, Or.inr h⟩
theorem ak_v_cell {ι : ak_I} {ads : List Nat} {a : ai_V} {v : Value} (h : ak_v ι ads a v) (ha : a.1 = 6) : ∃ q : Nat, ads[a.2]? = some q ∧ v = .ref q := by
  rcases h with ⟨h, e⟩ | ⟨h, e⟩ | ⟨h, x, e⟩ | ⟨h, e⟩ | ⟨h, x, e⟩ | ⟨h, e⟩ | ⟨h, x, e⟩ | ⟨h, e⟩ <;> first | omega | exact ⟨x, e⟩
theorem ak_v_const {ι : ak_I} {ads : List Nat} {a : ai_V} {v : Value} (h : ak_v ι ads a v) (ha : a.1 = 7) : v = .ref (ι.2.2.2.1 a.2) := by
  rcases h with ⟨h, e⟩ | ⟨h, e⟩ | ⟨h, x, e⟩ | ⟨h, e⟩ | ⟨h, x, e⟩ | ⟨h, e⟩ | ⟨h, x, e⟩ | ⟨h, e⟩ <;> first | omega | exact e
theorem ak_v_long {ι : ak_I} {ads : List Nat} {a : ai_V} {v : Value} (h : ak_v ι ads a v) (h3 : 3 ≤ a.1) (h4 : a.1 ≤ 4) : ∃ x : Int64, v = .long x ∧ (a.1 = 3 → x = lN a.2) := by
  rcases h with ⟨h, e⟩ | ⟨h, e⟩ | ⟨h, x, e⟩ | ⟨h, e⟩ | ⟨h, x, e⟩ | ⟨h, e⟩ | ⟨h, x, e⟩ | ⟨h, e⟩ <;> first | omega | exact ⟨_, e, fun _ => by first | rfl | omega⟩
theorem ak_v_cat {ι : ak_I} {ads : List Nat} {a : ai_V} {v : Value} (h : ak_v ι ads a v) : v.category = ai_cat a := by
  have hc : ai_cat a = if ai_in 3 4 a = true then 2 else 1 := ak_if _ _ _
  have hi : (ai_in 3 4 a = true) = (3 ≤ a.1 ∧ a.1 ≤ 4) := by
    have : ai_in 3 4 a = if Nat.ble 3 a.1 = true then Nat.ble a.1 4 else false := ak_if _ _ _
    rw [this, ak_and, Nat.ble_eq, Nat.ble_eq]
  rw [hc]
  simp only [hi]
  rcases h with ⟨h, e⟩ | ⟨h, e⟩ | ⟨h, x, e⟩ | ⟨h, e⟩ | ⟨h, x, e⟩ | ⟨h, e⟩ | ⟨h, x, -, e⟩ | ⟨h, e⟩ <;> rw [e, h] <;> simp [Value.category]
theorem ai_in_iff (lo hi : Nat) (v : ai_V) : (ai_in lo hi v = true) = (lo ≤ v.1 ∧ v.1 ≤ hi) := by
  have : ai_in lo hi v = if Nat.ble lo v.1 = true then Nat.ble v.1 hi else false := ak_if _ _ _
  rw [this, ak_and, Nat.ble_eq, Nat.ble_eq]
theorem ak_v_mono {ι : ak_I} {ads ads' : List Nat} (hp : ads <+: ads') {a : ai_V} {v : Value} (h : ak_v ι ads a v) : ak_v ι ads' a v := by
  rcases h with h | h | h | h | h | h | ⟨h, q, e1, e2⟩ | h
  · exact Or.inl h
  · exact Or.inr (Or.inl h)
  · exact Or.inr (Or.inr (Or.inl h))
  · exact Or.inr (Or.inr (Or.inr (Or.inl h)))
  · exact Or.inr (Or.inr (Or.inr (Or.inr (Or.inl h))))
  · exact Or.inr (Or.inr (Or.inr (Or.inr (Or.inr (Or.inl h)))))
  · refine Or.inr (Or.inr (Or.inr (Or.inr (Or.inr (Or.inr (Or.inl ⟨h, q, ?_, e2⟩))))))
    obtain ⟨t, rfl⟩ := hp
    rw [List.getElem?_append_left ((List.getElem?_eq_some_iff.mp e1).1)]
    exact e1
  · exact Or.inr (Or.inr (Or.inr (Or.inr (Or.inr (Or.inr (Or.inr h))))))
theorem ak_s_mono {ι : ak_I} {ads ads' : List Nat} (hp : ads <+: ads') : ∀ {l : List ai_V} {k : List Value}, ak_s ι ads l k → ak_s ι ads' l k
  | [], [], _ => trivial
  | _ :: _, _ :: _, h => ⟨ak_v_mono hp h.1, ak_s_mono hp h.2⟩
  | [], _ :: _, h => h
  | _ :: _, [], h => h
theorem ak_l_mono {ι : ak_I} {ads ads' : List Nat} (hp : ads <+: ads') {loc : ai_L} {nL : Nat} {ls : Array Slot} (h : ak_l ι ads loc nL ls) : ak_l ι ads' loc nL ls := by
  obtain ⟨h1, lv, h2, h3⟩ := h
  refine ⟨h1, lv, h2, fun i a hi ha => ?_⟩
  obtain ⟨v, m1, m2, m3⟩ := h3 i a hi ha
  exact ⟨v, m1, ak_v_mono hp m2, m3⟩
theorem ak_c_mono {ι : ak_I} {ads ads' : List Nat} (hp : ads <+: ads') {c : ai_C} {e : va_E} (h : ak_c ι ads c e) : ak_c ι ads' c e := by
  rcases h with h | ⟨h1, h2⟩
  · exact Or.inl h
  · exact Or.inr ⟨h1, fun j hj => ak_v_mono hp (h2 j hj)⟩
/-- a symbol of one value -/
theorem ai_res_eq {α : Type} (ι : ak_I) (env : ai_E) (he : ak_e ι env) (v : ai_V) (f : ai_V → α) : ∃ u : ai_V, ai_res env v f = f u ∧ (∀ ads x, ak_v ι ads v x → ak_v ι ads u x) ∧ (1 < v.1 → u = v) ∧ (v.1 ≤ 2 → u.1 ≤ 2) := by
  obtain ⟨t, k⟩ := v
  have h : ai_res env (t, k) f = (@Bool.rec (fun _ => α) (f (t, k)) (ai_nth env (f (t, k)) (fun q => @Prod.rec _ _ (fun _ => α) (fun lo hi => @Bool.rec (fun _ => α) (f (t, k)) (ai_nt (ai_b lo) (fun n => f (0, n))) (Nat.beq lo hi)) q) k) (Nat.beq t 1)) := rfl
  rw [h, ak_if, ai_nth_eq]
  by_cases ht : t = 1
  · subst ht
    simp only [Nat.beq_eq, if_true]
    cases hk : env[k]? with
    | none => exact ⟨(1, k), rfl, fun _ _ h => h, fun _ => rfl, fun h => h⟩
    | some q =>
      obtain ⟨lo, hi⟩ := q
      simp only [Option.elim, ak_if, Nat.beq_eq, ai_nt_eq]
      by_cases e : lo = hi
      · subst e
        refine ⟨(0, ai_b lo), by simp, fun ads x hx => ?_, fun h => absurd h (by simp), fun _ => by simp⟩
        obtain ⟨b1, b2⟩ := he k (lo, lo) hk
        have eb : ak_b (ι.2.2.2.2.1 k) = lo := Nat.le_antisymm b2 b1
        obtain ⟨z, rfl, -, h1⟩ := ak_v_int hx (by simp)
        refine Or.inl ⟨rfl, ?_⟩
        have hz := h1 rfl
        dsimp only at hz ⊢
        rw [hz, ← eb, ← ak_of_b]
      · exact ⟨(1, k), by simp [e], fun _ _ h => h, fun _ => rfl, fun h => h⟩
  · have : ¬ (Nat.beq t 1 = true) := by rw [Nat.beq_eq]; exact ht
    exact ⟨(t, k), by simp [this], fun _ _ h => h, fun _ => rfl, fun h => h⟩
/-! ===== states ===== -/
theorem ak_M.restk {ι : ak_I} {s : State} {nL : Nat} {loc : ai_L} {stk stk' : List ai_V} {w : ai_W} {ws : va_W} {ls : Array Slot} {st st' : List Value} {H : Heap} {locs : List Loc} (h : ak_M ι s nL loc stk w ws ls st H locs) (hs : ak_s ι (ws.map Prod.fst) stk' st') : ak_M ι s nL loc stk' w ws ls st' H locs :=
  ⟨h.1, h.2.1, h.2.2.1, h.2.2.2.1, h.2.2.2.2.1, hs, h.2.2.2.2.2.2⟩
theorem ak_M.push {ι : ak_I} {s : State} {nL : Nat} {loc : ai_L} {stk : List ai_V} {w : ai_W} {ws : va_W} {ls : Array Slot} {st : List Value} {H : Heap} {locs : List Loc} {a : ai_V} {x : Value} (h : ak_M ι s nL loc stk w ws ls st H locs) (hv : ak_v ι (ws.map Prod.fst) a x) : ak_M ι s nL loc (a :: stk) w ws ls (x :: st) H locs := h.restk ⟨hv, h.2.2.2.2.2.1⟩
theorem ak_M.reloc {ι : ak_I} {s : State} {nL : Nat} {loc loc' : ai_L} {stk : List ai_V} {w : ai_W} {ws : va_W} {ls ls' : Array Slot} {st : List Value} {H : Heap} {locs : List Loc} (h : ak_M ι s nL loc stk w ws ls st H locs) (hl : ak_l ι (ws.map Prod.fst) loc' nL ls') : ak_M ι s nL loc' stk w ws ls' st H locs :=
  ⟨h.1, h.2.1, h.2.2.1, h.2.2.2.1, hl, h.2.2.2.2.2.1, h.2.2.2.2.2.2⟩
theorem ak_M.reenv {ι : ak_I} {s : State} {nL : Nat} {loc : ai_L} {stk : List ai_V} {n : Nat} {hp : ai_H} {env env' : ai_E} {cs : Nat × Nat} {ws : va_W} {ls : Array Slot} {st : List Value} {H : Heap} {locs : List Loc} (h : ak_M ι s nL loc stk (n, hp, env, cs) ws ls st H locs) (he : ak_e ι env') : ak_M ι s nL loc stk (n, hp, env', cs) ws ls st H locs :=
  ⟨h.1, h.2.1, h.2.2.1, h.2.2.2.1, h.2.2.2.2.1, h.2.2.2.2.2.1, he⟩
/-- a stack that is not empty -/
theorem ak_s_cons {ι : ak_I} {ads : List Nat} {a : ai_V} {l : List ai_V} {st : List Value} (h : ak_s ι ads (a :: l) st) : ∃ (x : Value) (k : List Value), st = x :: k ∧ ak_v ι ads a x ∧ ak_s ι ads l k := by
  cases st with
  | nil => exact h.elim
  | cons x k => exact ⟨x, k, rfl, h.1, h.2⟩
theorem ak_s_nil {ι : ak_I} {ads : List Nat} {st : List Value} (h : ak_s ι ads [] st) : st = [] := by
  cases st with
  | nil => rfl
  | cons x k => exact h.elim
end
section
/-! ===== instructions without cells ===== -/
section PLAIN
variable {ι : ak_I} {y : MethodName} {b : ByteArray} {rt : Option FieldType} {M : ai_M} {d : Nat} {p : Program} {l : Launch} {e : Env} {R : Room} {s : State} {m : MethodId} {args : Array Value} {below : List Frame} {meth : Method} {c : Code} {pc : Nat} {sq : ai_Q} {jm : Nat → ai_Q} {κ : ai_K}
/-- a number is pushed -/
theorem ah_push {len : Nat} {a : ai_V} {x : Value} (hv : ∀ ads, ak_v ι ads a x) (hrow : ∀ (H : Heap) (locs : List Loc) (nc ns : Nat) (Q : State → Prop) (ls : Array Slot) (st : List Value), W p l e R s m args below meth c H locs nc ns Q (F0 m (pc + len) ls (x :: st)) → W p l e R s m args below meth c H locs nc ns Q (F0 m pc ls st)) (hs : ak_Snd ι M (p, l, e, R, s, m, args, below, meth, c) (pc + len) sq) : ak_Snd ι M (p, l, e, R, s, m, args, below, meth, c) pc (ai_push a sq jm κ) := by
  intro loc stk w outs h Q hQ ws ls st H locs hM
  exact hrow _ _ _ _ _ _ _ (hs loc (a :: stk) w outs h Q hQ ws ls (x :: st) H locs (hM.push (hv _)))
theorem ah_iconst {n : Int} (C : ak_C ι y b rt M d p l e R s m args below meth c) (hd : decode b pc = .ok (.iconst n, 1)) (hs : ak_Snd ι M (p, l, e, R, s, m, args, below, meth, c) (pc + 1) sq) : ak_Snd ι M (p, l, e, R, s, m, args, below, meth, c) pc (ai_push (0, ai_ofI n) sq jm κ) :=
  ah_push (x := .int (nI (ai_ofI n))) (fun _ => Or.inl ⟨rfl, rfl⟩) (fun _ _ _ _ _ _ _ k => lv_iconst C.1.1 C.1.2.1 hd (ak_ofI n).symm k) hs
theorem ah_bipush {n : Int} (C : ak_C ι y b rt M d p l e R s m args below meth c) (hn : -128 ≤ n ∧ n ≤ 127) (hd : decode b pc = .ok (.bipush n, 2)) (hs : ak_Snd ι M (p, l, e, R, s, m, args, below, meth, c) (pc + 2) sq) : ak_Snd ι M (p, l, e, R, s, m, args, below, meth, c) pc (ai_push (0, ai_ofI n) sq jm κ) := by
  refine ah_push (x := .int (nI (ai_ofI n))) (fun _ => Or.inl ⟨rfl, rfl⟩) (fun _ _ _ _ _ _ _ k => lv_bipush C.1.1 C.1.2.1 hd ?_ k) hs
  rw [ak_ofI]
  apply Int32.toInt_inj.mp
  rw [Int8.toInt_toInt32, Int8.toInt_ofInt, Int32.toInt_ofInt, Int.bmod_def, Int.bmod_def, show ((Int8.size : Nat) : Int) = 256 from rfl, show ((Int32.size : Nat) : Int) = 4294967296 from rfl]
  split <;> split <;> omega
theorem ah_sipush {n : Int} (C : ak_C ι y b rt M d p l e R s m args below meth c) (hn : -32768 ≤ n ∧ n ≤ 32767) (hd : decode b pc = .ok (.sipush n, 3)) (hs : ak_Snd ι M (p, l, e, R, s, m, args, below, meth, c) (pc + 3) sq) : ak_Snd ι M (p, l, e, R, s, m, args, below, meth, c) pc (ai_push (0, ai_ofI n) sq jm κ) := by
  refine ah_push (x := .int (nI (ai_ofI n))) (fun _ => Or.inl ⟨rfl, rfl⟩) (fun _ _ _ _ _ _ _ k => lv_sipush C.1.1 C.1.2.1 hd ?_ k) hs
  rw [ak_ofI]
  apply Int32.toInt_inj.mp
  rw [Int16.toInt_toInt32, Int16.toInt_ofInt, Int32.toInt_ofInt, Int.bmod_def, Int.bmod_def, show ((Int16.size : Nat) : Int) = 65536 from rfl, show ((Int32.size : Nat) : Int) = 4294967296 from rfl]
  split <;> split <;> omega
theorem ah_ldc {i n : Nat} (C : ak_C ι y b rt M d p l e R s m args below meth c) (hw : Cond.constant y.cls i (nI n) ∈ ak_W) (hd : decode b pc = .ok (.ldc i, 2)) (hs : ak_Snd ι M (p, l, e, R, s, m, args, below, meth, c) (pc + 2) sq) : ak_Snd ι M (p, l, e, R, s, m, args, below, meth, c) pc (ai_push (0, n) sq jm κ) :=
  ah_push (x := .int (nI n)) (fun _ => Or.inl ⟨rfl, rfl⟩) (fun _ _ _ _ _ _ _ k => lv_ldc C.1.1 C.1.2.1 C.2.1.1 (C.2.1.2.1 _ hw) hd k) hs
theorem ah_ldcw {i n : Nat} (C : ak_C ι y b rt M d p l e R s m args below meth c) (hw : Cond.constant y.cls i (nI n) ∈ ak_W) (hd : decode b pc = .ok (.ldc_w i, 3)) (hs : ak_Snd ι M (p, l, e, R, s, m, args, below, meth, c) (pc + 3) sq) : ak_Snd ι M (p, l, e, R, s, m, args, below, meth, c) pc (ai_push (0, n) sq jm κ) :=
  ah_push (x := .int (nI n)) (fun _ => Or.inl ⟨rfl, rfl⟩) (fun _ _ _ _ _ _ _ k => lv_ldcw C.1.1 C.1.2.1 C.2.1.1 (C.2.1.2.1 _ hw) hd k) hs
theorem ah_lconst {n : Fin 2} (C : ak_C ι y b rt M d p l e R s m args below meth c) (hd : decode b pc = .ok (.lconst n, 1)) (hs : ak_Snd ι M (p, l, e, R, s, m, args, below, meth, c) (pc + 1) sq) : ak_Snd ι M (p, l, e, R, s, m, args, below, meth, c) pc (ai_push (3, n.val) sq jm κ) :=
  ah_push (x := .long (lN n.val)) (fun _ => Or.inr (Or.inr (Or.inr (Or.inl ⟨rfl, rfl⟩)))) (fun _ _ _ _ _ _ _ k => lv_lconst C.1.1 C.1.2.1 hd rfl k) hs
theorem ah_null (C : ak_C ι y b rt M d p l e R s m args below meth c) (hd : decode b pc = .ok (.aconst_null, 1)) (hs : ak_Snd ι M (p, l, e, R, s, m, args, below, meth, c) (pc + 1) sq) : ak_Snd ι M (p, l, e, R, s, m, args, below, meth, c) pc (ai_push (5, 0) sq jm κ) :=
  ah_push (x := .null) (fun _ => Or.inr (Or.inr (Or.inr (Or.inr (Or.inr (Or.inl ⟨rfl, rfl⟩)))))) (fun _ _ _ _ _ _ _ k => lv_null C.1.1 C.1.2.1 hd k) hs
/-- a local is pushed -/
theorem ah_ld {len i lo hi : Nat} (h7 : hi ≤ 7) (hrow : ∀ (H : Heap) (locs : List Loc) (nc ns : Nat) (Q : State → Prop) (ls : Array Slot) (st : List Value) (ads : List Nat) (a : ai_V) (x : Value), lo ≤ a.1 → a.1 ≤ hi → ak_v ι ads a x → ls[i]? = some (.val x) → W p l e R s m args below meth c H locs nc ns Q (F0 m (pc + len) ls (x :: st)) → W p l e R s m args below meth c H locs nc ns Q (F0 m pc ls st)) (hs : ak_Snd ι M (p, l, e, R, s, m, args, below, meth, c) (pc + len) sq) : ak_Snd ι M (p, l, e, R, s, m, args, below, meth, c) pc (ai_ld i lo hi sq jm κ) := by
  intro loc stk w outs h Q hQ ws ls st H locs hM
  simp only [ai_ld, ai_nth_eq, ak_if] at h
  cases ho : loc[i]? with
  | none => rw [ho] at h; exact absurd h (by simp)
  | some a =>
    rw [ho] at h
    simp only [Option.elim, ai_in_iff] at h
    split at h
    · rename_i hi2
      obtain ⟨-, lv, hl, hx⟩ := hM.2.2.2.2.1
      obtain ⟨x, h1, h2, -⟩ := hx i a ho (Nat.le_trans hi2.2 h7)
      exact hrow _ _ _ _ _ _ _ _ a x hi2.1 hi2.2 h2 (hl.2.2 _ h1) (hs loc (a :: stk) w outs h Q hQ ws ls (x :: st) H locs (hM.push h2))
    · exact absurd h (by simp)
theorem ah_iload {i : Nat} (C : ak_C ι y b rt M d p l e R s m args below meth c) (hd : decode b pc = .ok (.iload i, 2)) (hs : ak_Snd ι M (p, l, e, R, s, m, args, below, meth, c) (pc + 2) sq) : ak_Snd ι M (p, l, e, R, s, m, args, below, meth, c) pc (ai_ld i 0 2 sq jm κ) :=
  ah_ld (by omega) (fun _ _ _ _ _ _ _ _ _ _ _ h2 hv hl k => by obtain ⟨x, rfl, -⟩ := ak_v_int hv h2; exact lv_iload C.1.1 C.1.2.1 hd hl k) hs
theorem ah_iload_n {i : Fin 4} (C : ak_C ι y b rt M d p l e R s m args below meth c) (hd : decode b pc = .ok (.iload_n i, 1)) (hs : ak_Snd ι M (p, l, e, R, s, m, args, below, meth, c) (pc + 1) sq) : ak_Snd ι M (p, l, e, R, s, m, args, below, meth, c) pc (ai_ld i.val 0 2 sq jm κ) :=
  ah_ld (by omega) (fun _ _ _ _ _ _ _ _ _ _ _ h2 hv hl k => by obtain ⟨x, rfl, -⟩ := ak_v_int hv h2; exact lv_iload_n C.1.1 C.1.2.1 hd rfl hl k) hs
theorem ah_aload {i : Nat} (C : ak_C ι y b rt M d p l e R s m args below meth c) (hd : decode b pc = .ok (.aload i, 2)) (hs : ak_Snd ι M (p, l, e, R, s, m, args, below, meth, c) (pc + 2) sq) : ak_Snd ι M (p, l, e, R, s, m, args, below, meth, c) pc (ai_ld i 5 7 sq jm κ) :=
  ah_ld (by omega) (fun _ _ _ _ _ _ _ _ _ _ h5 _ hv hl k => by
    rcases ak_v_ref hv h5 with ⟨rfl, -⟩ | ⟨⟨q, rfl⟩, -⟩
    · exact lv_aloadN C.1.1 C.1.2.1 hd hl k
    · exact lv_aload C.1.1 C.1.2.1 hd hl k) hs
theorem ah_aload_n {i : Fin 4} (C : ak_C ι y b rt M d p l e R s m args below meth c) (hd : decode b pc = .ok (.aload_n i, 1)) (hs : ak_Snd ι M (p, l, e, R, s, m, args, below, meth, c) (pc + 1) sq) : ak_Snd ι M (p, l, e, R, s, m, args, below, meth, c) pc (ai_ld i.val 5 7 sq jm κ) :=
  ah_ld (by omega) (fun _ _ _ _ _ _ _ _ _ _ h5 _ hv hl k => by
    rcases ak_v_ref hv h5 with ⟨rfl, -⟩ | ⟨⟨q, rfl⟩, -⟩
    · exact lv_aload_nN C.1.1 C.1.2.1 hd rfl hl k
    · exact lv_aload_n C.1.1 C.1.2.1 hd rfl hl k) hs
/-- the locals behind a store -/
theorem ak_l_set {ads : List Nat} {loc : ai_L} {nL i : Nat} {ls : Array Slot} {a : ai_V} {x : Value} (hi : i < loc.length) (hv : ak_v ι ads a x) (hc : x.category = 1) {lv : List (Nat × Value)} (h1 : loc.length ≤ nL) (hx : ∀ (j : Nat) (a : ai_V), loc[j]? = some a → a.1 ≤ 7 → ∃ v : Value, (j, v) ∈ lv ∧ ak_v ι ads a v ∧ v.category = 1) (hl : lv_has ls nL ((i, x) :: lv.filter (fun q => !(q.1 == i) && !(q.1 + 1 == i && q.2.category == 2)))) : ak_l ι ads (loc.set i a) nL ls := by
  refine ⟨by rw [List.length_set]; exact h1, _, hl, fun j u hj hu => ?_⟩
  by_cases e : j = i
  · subst e
    rw [List.getElem?_set_self hi] at hj
    cases hj
    exact ⟨x, List.mem_cons_self, hv, hc⟩
  · rw [List.getElem?_set_ne (Ne.symm e)] at hj
    obtain ⟨v, m1, m2, m3⟩ := hx j u hj hu
    exact ⟨v, List.mem_cons_of_mem _ (List.mem_filter.mpr ⟨m1, by simp [e, m3]⟩), m2, m3⟩
/-- a store -/
theorem ah_sto {len i lo hi : Nat} (h7 : hi ≤ 7) (hrow : ∀ (H : Heap) (locs : List Loc) (nc ns : Nat) (Q : State → Prop) (ls : Array Slot) (st : List Value) (ads : List Nat) (a : ai_V) (x : Value) (nL : Nat) (lv : List (Nat × Value)), lo ≤ a.1 → a.1 ≤ hi → ak_v ι ads a x → i < nL → lv_has ls nL lv → (∀ ls' : Array Slot, lv_has ls' nL ((i, x) :: lv.filter (fun q => !(q.1 == i) && !(q.1 + 1 == i && q.2.category == 2))) → W p l e R s m args below meth c H locs nc ns Q (F0 m (pc + len) ls' st)) → W p l e R s m args below meth c H locs nc ns Q (F0 m pc ls (x :: st))) (hcat : ∀ (ads : List Nat) (a : ai_V) (x : Value), lo ≤ a.1 → a.1 ≤ hi → ak_v ι ads a x → x.category = 1) (hs : ak_Snd ι M (p, l, e, R, s, m, args, below, meth, c) (pc + len) sq) : ak_Snd ι M (p, l, e, R, s, m, args, below, meth, c) pc (ai_sto i lo hi sq jm κ) := by
  intro loc stk w outs h Q hQ ws ls st H locs hM
  cases stk with
  | nil => exact absurd h (by simp [ai_sto])
  | cons a stk =>
    simp only [ai_sto, ai_set_eq, ak_if, ai_in_iff] at h
    split at h
    · rename_i hi2
      split at h
      · rename_i hlt
        obtain ⟨x, st, rfl, hv, hst⟩ := ak_s_cons hM.2.2.2.2.2.1
        obtain ⟨h1, lv, hl, hx⟩ := hM.2.2.2.2.1
        refine hrow _ _ _ _ _ _ _ _ a x M.1 lv hi2.1 hi2.2 hv (Nat.lt_of_lt_of_le hlt h1) hl (fun ls' hl' => ?_)
        exact hs _ stk w outs h Q hQ ws ls' st H locs ((hM.restk hst).reloc (ak_l_set hlt hv (hcat _ a x hi2.1 hi2.2 hv) h1 hx hl'))
      · exact absurd h (by simp)
    · exact absurd h (by simp)
theorem ah_istore {i : Nat} (C : ak_C ι y b rt M d p l e R s m args below meth c) (hd : decode b pc = .ok (.istore i, 2)) (hs : ak_Snd ι M (p, l, e, R, s, m, args, below, meth, c) (pc + 2) sq) : ak_Snd ι M (p, l, e, R, s, m, args, below, meth, c) pc (ai_sto i 0 2 sq jm κ) :=
  ah_sto (by omega) (fun _ _ _ _ _ _ _ _ _ _ _ _ _ h2 hv hn hl k => by obtain ⟨x, rfl, -⟩ := ak_v_int hv h2; exact lv_istore C.1.1 C.1.2.1 hd hl hn rfl k) (fun _ _ _ _ h2 hv => by obtain ⟨x, rfl, -⟩ := ak_v_int hv h2; rfl) hs
theorem ah_istore_n {i : Fin 4} (C : ak_C ι y b rt M d p l e R s m args below meth c) (hd : decode b pc = .ok (.istore_n i, 1)) (hs : ak_Snd ι M (p, l, e, R, s, m, args, below, meth, c) (pc + 1) sq) : ak_Snd ι M (p, l, e, R, s, m, args, below, meth, c) pc (ai_sto i.val 0 2 sq jm κ) :=
  ah_sto (by omega) (fun _ _ _ _ _ _ _ _ _ _ _ _ _ h2 hv hn hl k => by obtain ⟨x, rfl, -⟩ := ak_v_int hv h2; exact lv_istore_n C.1.1 C.1.2.1 hd rfl hl hn rfl k) (fun _ _ _ _ h2 hv => by obtain ⟨x, rfl, -⟩ := ak_v_int hv h2; rfl) hs
theorem ah_astore {i : Nat} (C : ak_C ι y b rt M d p l e R s m args below meth c) (hd : decode b pc = .ok (.astore i, 2)) (hs : ak_Snd ι M (p, l, e, R, s, m, args, below, meth, c) (pc + 2) sq) : ak_Snd ι M (p, l, e, R, s, m, args, below, meth, c) pc (ai_sto i 5 7 sq jm κ) :=
  ah_sto (by omega) (fun _ _ _ _ _ _ _ _ _ _ _ _ h5 _ hv hn hl k => by
    rcases ak_v_ref hv h5 with ⟨rfl, -⟩ | ⟨⟨q, rfl⟩, -⟩
    · exact lv_astoreN C.1.1 C.1.2.1 hd hl hn rfl k
    · exact lv_astore C.1.1 C.1.2.1 hd hl hn rfl k) (fun _ _ _ h5 _ hv => by rcases ak_v_ref hv h5 with ⟨rfl, -⟩ | ⟨⟨q, rfl⟩, -⟩ <;> rfl) hs
theorem ah_astore_n {i : Fin 4} (C : ak_C ι y b rt M d p l e R s m args below meth c) (hd : decode b pc = .ok (.astore_n i, 1)) (hs : ak_Snd ι M (p, l, e, R, s, m, args, below, meth, c) (pc + 1) sq) : ak_Snd ι M (p, l, e, R, s, m, args, below, meth, c) pc (ai_sto i.val 5 7 sq jm κ) :=
  ah_sto (by omega) (fun _ _ _ _ _ _ _ _ _ _ _ _ h5 _ hv hn hl k => by
    rcases ak_v_ref hv h5 with ⟨rfl, -⟩ | ⟨⟨q, rfl⟩, -⟩
    · exact lv_astore_nN C.1.1 C.1.2.1 hd rfl hl hn rfl k
    · exact lv_astore_n C.1.1 C.1.2.1 hd rfl hl hn rfl k) (fun _ _ _ h5 _ hv => by rcases ak_v_ref hv h5 with ⟨rfl, -⟩ | ⟨⟨q, rfl⟩, -⟩ <;> rfl) hs
/-- two ints and what comes of them -/
theorem ai_op2_some {f : Nat → Nat → Nat} {x y : ai_V} {k : ai_V → ai_P} {outs : List ai_O} (h : ai_op2 f x y k = some outs) : x.1 ≤ 2 ∧ y.1 ≤ 2 ∧ ∃ v : ai_V, k v = some outs ∧ ((v = (0, f x.2 y.2) ∧ x.1 = 0 ∧ y.1 = 0) ∨ v = (2, 0)) := by
  obtain ⟨tx, nx⟩ := x
  obtain ⟨ty, ny⟩ := y
  simp only [ai_op2, ak_if, ai_nt_eq, Nat.ble_eq, Nat.beq_eq] at h
  split at h
  · rename_i h1
    split at h
    · rename_i h2
      split at h
      · rename_i h3
        have h3' : tx + ty = 0 := h3
        exact ⟨h1, h2, (0, f nx ny), h, Or.inl ⟨rfl, by show tx = 0; omega, by show ty = 0; omega⟩⟩
      · exact ⟨h1, h2, (2, 0), h, Or.inr rfl⟩
    · exact absurd h (by simp)
  · exact absurd h (by simp)
theorem ah_iinc {i : Nat} {n : Int} (C : ak_C ι y b rt M d p l e R s m args below meth c) (hd : decode b pc = .ok (.iinc i n, 3)) (hs : ak_Snd ι M (p, l, e, R, s, m, args, below, meth, c) (pc + 3) sq) : ak_Snd ι M (p, l, e, R, s, m, args, below, meth, c) pc (ai_iinc i (ai_ofI n) sq jm κ) := by
  intro loc stk w outs h Q hQ ws ls st H locs hM
  simp only [ai_iinc, ai_nth_eq] at h
  cases ho : loc[i]? with
  | none => rw [ho] at h; exact absurd h (by simp)
  | some a =>
    rw [ho] at h
    simp only [Option.elim] at h
    obtain ⟨u, hu, huv, hus, -⟩ := ai_res_eq ι w.2.2.1 hM.2.2.2.2.2.2 a (fun x => ai_op2 ai_add x (0, ai_ofI n) (fun v => ai_set v none loc i (fun l => sq l stk w)))
    rw [hu] at h
    obtain ⟨h2, -, v, hk, hv⟩ := ai_op2_some h
    rw [ai_set_eq] at hk
    split at hk
    · rename_i hlt
      obtain ⟨h1, lv, hl, hx⟩ := hM.2.2.2.2.1
      have h27 : a.1 ≤ 7 := by
        rcases Nat.lt_or_ge 1 a.1 with hc | hc
        · rw [hus hc] at h2
          omega
        · omega
      obtain ⟨x, m1, m2, m3⟩ := hx i a ho h27
      obtain ⟨j, hj⟩ := List.getElem?_of_mem m1
      obtain ⟨z, rfl, hz0, -⟩ := ak_v_int (huv _ _ m2) h2
      refine lv_iinc (lv := lv) (k := j) (v := z + Int32.ofInt n) C.1.1 C.1.2.1 hd hl hj rfl (Nat.lt_of_lt_of_le hlt h1) rfl (fun ls' hl' => ?_)
      refine hs _ stk w outs hk Q hQ ws ls' st H locs (hM.reloc (ak_l_set hlt ?_ rfl h1 hx hl'))
      rcases hv with ⟨rfl, hz, -⟩ | rfl
      · exact Or.inl ⟨rfl, by rw [hz0 hz]; show _ = Value.int (nI (ai_add u.2 (ai_ofI n))); rw [ak_add, ak_ofI]⟩
      · exact Or.inr (Or.inr (Or.inl ⟨rfl, _, rfl⟩))
    · exact absurd hk (by simp)
end PLAIN
end
section
/-! ===== bounds of symbols ===== -/
theorem ak_e_set {ι : ak_I} {env : ai_E} {k lo hi : Nat} (h : ak_e ι env) (h1 : lo ≤ ak_b (ι.2.2.2.2.1 k)) (h2 : ak_b (ι.2.2.2.2.1 k) ≤ hi) : ak_e ι (env.set k (lo, hi)) := by
  intro j q hj
  by_cases e : j = k
  · subst e
    by_cases hl : j < env.length
    · rw [List.getElem?_set_self hl] at hj
      cases hj
      exact ⟨h1, h2⟩
    · rw [List.getElem?_eq_none (by rw [List.length_set]; omega)] at hj
      cases hj
  · rw [List.getElem?_set_ne (Ne.symm e)] at hj
    exact h j q hj
theorem ai_env_eq (k lo hi n : Nat) (hp : ai_H) (env : ai_E) (cs : Nat × Nat) (f : ai_W → ai_P) : ai_env k lo hi (n, hp, env, cs) f = if k < env.length then f (n, hp, env.set k (lo, hi), cs) else none := by
  have h : ai_env k lo hi (n, hp, env, cs) f = ai_nt lo (fun lo => ai_nt hi (fun hi => ai_set (lo, hi) none env k (fun env => f (n, hp, env, cs)))) := rfl
  rw [h, ai_nt_eq, ai_nt_eq, ai_set_eq]
theorem ai_split_some {ι : ak_I} {v : ai_V} {n : Nat} {hp : ai_H} {env : ai_E} {cs : Nat × Nat} {f : ai_P} {g : ai_W → ai_P} {outs : List ai_O} (he : ak_e ι env) (h : ai_split v (n, hp, env, cs) f g = some outs) : f = some outs ∨ ∃ (env' : ai_E) (outs' : List ai_O), g (n, hp, env', cs) = some outs' ∧ (∀ o ∈ outs', o ∈ outs) ∧ ak_e ι env' := by
  simp only [ai_split, ak_if, ai_nth_eq, Nat.beq_eq, Nat.ble_eq] at h
  split at h
  · cases hk : env[v.2]? with
    | none => rw [hk] at h; exact absurd h (by simp)
    | some q =>
      rw [hk] at h
      simp only [Option.elim] at h
      split at h
      · exact Or.inl h
      · split at h
        · right
          obtain ⟨b1, b2⟩ := he _ _ hk
          obtain ⟨x, hx, hm⟩ := ai_all_some h (ak_b (ι.2.2.2.2.1 v.2) - q.1) (ai_ups_mem _ _ (by show _ < Nat.succ (q.2 - q.1); omega))
          rw [ai_env_eq] at hx
          split at hx
          · refine ⟨_, x, hx, hm, ak_e_set he ?_ ?_⟩
            · show q.1 + (ak_b (ι.2.2.2.2.1 v.2) - q.1) ≤ _; omega
            · show _ ≤ q.1 + (ak_b (ι.2.2.2.2.1 v.2) - q.1); omega
          · exact absurd hx (by simp)
        · exact Or.inl h
  · exact Or.inl h
theorem ai_nar_some {ι : ak_I} {k a b n : Nat} {hp : ai_H} {env : ai_E} {cs : Nat × Nat} {f : ai_W → ai_P} {outs : List ai_O} (he : ak_e ι env) (h : ai_nar k a b (n, hp, env, cs) f = some outs) (h1 : a ≤ ak_b (ι.2.2.2.2.1 k)) (h2 : ak_b (ι.2.2.2.2.1 k) ≤ b) : ∃ env' : ai_E, f (n, hp, env', cs) = some outs ∧ ak_e ι env' := by
  simp only [ai_nar, ak_if, ai_nth_eq, Nat.ble_eq] at h
  cases hk : env[k]? with
  | none => rw [hk] at h; exact absurd h (by simp)
  | some q =>
    rw [hk] at h
    simp only [Option.elim] at h
    obtain ⟨b1, b2⟩ := he _ _ hk
    have ha : (if a ≤ q.1 then q.1 else a) ≤ ak_b (ι.2.2.2.2.1 k) := by split <;> assumption
    have hb : ak_b (ι.2.2.2.2.1 k) ≤ (if b ≤ q.2 then b else q.2) := by split <;> assumption
    rw [if_pos (Nat.le_trans ha hb), ai_env_eq] at h
    split at h
    · exact ⟨_, h, ak_e_set he ha hb⟩
    · exact absurd h (by simp)
theorem ai_blw_some {ι : ak_I} {k b n : Nat} {hp : ai_H} {env : ai_E} {cs : Nat × Nat} {f : ai_W → ai_P} {outs : List ai_O} (he : ak_e ι env) (h : ai_blw k b (n, hp, env, cs) f = some outs) (h2 : ak_b (ι.2.2.2.2.1 k) < b) : ∃ env' : ai_E, f (n, hp, env', cs) = some outs ∧ ak_e ι env' := by
  simp only [ai_blw, ak_if, Nat.beq_eq] at h
  rw [if_neg (by omega)] at h
  exact ai_nar_some he h (Nat.zero_le _) (by show _ ≤ b - 1; omega)
/-- the condition of a number -/
def ak_t (o a c : Nat) : Prop := if o = 0 then a = c else if o = 1 then a ≠ c else if o = 2 then a < c else if o = 3 then c ≤ a else if o = 4 then c < a else a ≤ c
theorem ai_tst_iff (o a c : Nat) : (ai_tst o a c = true) = ak_t o a c := by
  simp only [ai_tst, ak_t, ak_if, Nat.beq_eq]
  split
  · rw [Nat.beq_eq]
  · split
    · by_cases h : a = c
      · simp [h]
      · have h' : ¬ (Nat.beq a c = true) := by rw [Nat.beq_eq]; exact h
        simp [h]
    · split
      · rw [Nat.ble_eq]; rfl
      · split
        · rw [Nat.ble_eq]
        · split
          · rw [Nat.ble_eq]; rfl
          · rw [Nat.ble_eq]
theorem ai_hold_some {ι : ak_I} {o k c n : Nat} {hp : ai_H} {env : ai_E} {cs : Nat × Nat} {f : ai_W → ai_P} {outs : List ai_O} (he : ak_e ι env) (h : ai_hold o k c (n, hp, env, cs) f = some outs) (ht : ak_t o (ak_b (ι.2.2.2.2.1 k)) c) : ∃ (env' : ai_E) (outs' : List ai_O), f (n, hp, env', cs) = some outs' ∧ (∀ z ∈ outs', z ∈ outs) ∧ ak_e ι env' := by
  have hb := ak_b_lt (ι.2.2.2.2.1 k)
  have wrap : (∃ env' : ai_E, f (n, hp, env', cs) = some outs ∧ ak_e ι env') → ∃ (env' : ai_E) (outs' : List ai_O), f (n, hp, env', cs) = some outs' ∧ (∀ z ∈ outs', z ∈ outs) ∧ ak_e ι env' := fun ⟨a, b, c⟩ => ⟨a, outs, b, fun _ h => h, c⟩
  simp only [ai_hold, ak_if, Nat.beq_eq] at h
  unfold ak_t at ht
  split at h
  · rename_i ho
    rw [if_pos ho] at ht
    exact wrap (ai_nar_some he h (by omega) (by omega))
  · rename_i ho
    rw [if_neg ho] at ht
    split at h
    · rename_i ho
      rw [if_pos ho] at ht
      obtain ⟨x, y, hx, hy, rfl⟩ := ai_two_some h
      rcases Nat.lt_or_ge (ak_b (ι.2.2.2.2.1 k)) c with hc | hc
      · obtain ⟨a, b, d⟩ := ai_blw_some he hx hc
        exact ⟨a, x, b, fun z hz => List.mem_append_left _ hz, d⟩
      · obtain ⟨a, b, d⟩ := ai_nar_some he hy (by show c + 1 ≤ _; omega) (by omega)
        exact ⟨a, y, b, fun z hz => List.mem_append_right _ hz, d⟩
    · rename_i ho
      rw [if_neg ho] at ht
      split at h
      · rename_i ho
        rw [if_pos ho] at ht
        exact wrap (ai_blw_some he h ht)
      · rename_i ho
        rw [if_neg ho] at ht
        split at h
        · rename_i ho
          rw [if_pos ho] at ht
          exact wrap (ai_nar_some he h ht (by omega))
        · rename_i ho
          rw [if_neg ho] at ht
          split at h
          · rename_i ho
            rw [if_pos ho] at ht
            exact wrap (ai_nar_some he h (by show c + 1 ≤ _; omega) (by omega))
          · rename_i ho
            rw [if_neg ho] at ht
            exact wrap (ai_nar_some he h (Nat.zero_le _) ht)
theorem ak_t_not {o a c : Nat} (ho : o ≤ 5) (h : ¬ ak_t o a c) : ak_t (ai_not o) a c := by
  rcases (show o = 0 ∨ o = 1 ∨ o = 2 ∨ o = 3 ∨ o = 4 ∨ o = 5 by omega) with rfl | rfl | rfl | rfl | rfl | rfl <;> simp [ak_t, ai_not, ak_if] at h ⊢ <;> omega
theorem ak_t_flip {o a c : Nat} (ho : o ≤ 5) : ak_t (ai_flip o) c a = ak_t o a c := by
  rcases (show o = 0 ∨ o = 1 ∨ o = 2 ∨ o = 3 ∨ o = 4 ∨ o = 5 by omega) with rfl | rfl | rfl | rfl | rfl | rfl <;> (try simp [ak_t, ai_flip, ak_if]) <;> (try omega)
theorem ai_flip_le {o : Nat} (ho : o ≤ 5) : ai_flip o ≤ 5 := by
  rcases (show o = 0 ∨ o = 1 ∨ o = 2 ∨ o = 3 ∨ o = 4 ∨ o = 5 by omega) with rfl | rfl | rfl | rfl | rfl | rfl <;> decide +kernel
/-- a branch: where it holds, and where not -/
theorem ai_br_some {ι : ak_I} {o n : Nat} {x y : ai_V} {hp : ai_H} {env : ai_E} {cs : Nat × Nat} {t f : ai_W → ai_P} {outs : List ai_O} (ho : o ≤ 5) (he : ak_e ι env) (h : ai_br o x y (n, hp, env, cs) t f = some outs) {ads : List Nat} {X Y : Value} (hx : ak_v ι ads x X) (hy : ak_v ι ads y Y) :
    ∃ A B : Int32, X = .int A ∧ Y = .int B ∧ (ak_t o (ak_b A) (ak_b B) → ∃ (env' : ai_E) (outs' : List ai_O), t (n, hp, env', cs) = some outs' ∧ (∀ z ∈ outs', z ∈ outs) ∧ ak_e ι env') ∧ (¬ ak_t o (ak_b A) (ak_b B) → ∃ (env' : ai_E) (outs' : List ai_O), f (n, hp, env', cs) = some outs' ∧ (∀ z ∈ outs', z ∈ outs) ∧ ak_e ι env') := by
  have both : ∀ {a b : ai_P}, ai_two a b = some outs → (∃ x, a = some x ∧ ∀ z ∈ x, z ∈ outs) ∧ ∃ y, b = some y ∧ ∀ z ∈ y, z ∈ outs := by
    intro a b h
    obtain ⟨x, y, hx, hy, rfl⟩ := ai_two_some h
    exact ⟨⟨x, hx, fun z hz => List.mem_append_left _ hz⟩, y, hy, fun z hz => List.mem_append_right _ hz⟩
  simp only [ai_br, ak_if, ak_and, Nat.beq_eq, Nat.ble_eq] at h
  split at h
  · rename_i hx0
    obtain ⟨A, rfl, hA, -⟩ := ak_v_int hx (by omega)
    split at h
    · rename_i hy0
      obtain ⟨B, rfl, hB, -⟩ := ak_v_int hy (by omega)
      refine ⟨A, B, rfl, rfl, fun ht => ?_, fun ht => ?_⟩
      · rw [hA hx0, hB hy0, ak_b_nI, ak_b_nI, ← ai_tst_iff] at ht
        rw [if_pos ht] at h
        exact ⟨env, outs, h, fun _ h => h, he⟩
      · rw [hA hx0, hB hy0, ak_b_nI, ak_b_nI, ← ai_tst_iff] at ht
        rw [if_neg ht] at h
        exact ⟨env, outs, h, fun _ h => h, he⟩
    · split at h
      · rename_i hy1
        obtain ⟨B, rfl, -, hB⟩ := ak_v_int hy (by omega)
        obtain ⟨⟨o1, h1, m1⟩, o2, h2, m2⟩ := both h
        refine ⟨A, B, rfl, rfl, fun ht => ?_, fun ht => ?_⟩
        · obtain ⟨e1, o3, a1, a2, a3⟩ := ai_hold_some he h1 (by rw [← hB hy1, ← ak_b_nI, ← hA hx0, ak_t_flip ho]; exact ht)
          exact ⟨e1, o3, a1, fun z hz => m1 z (a2 z hz), a3⟩
        · obtain ⟨e1, o3, a1, a2, a3⟩ := ai_hold_some he h2 (ak_t_not (ai_flip_le ho) (by rw [← hB hy1, ← ak_b_nI, ← hA hx0, ak_t_flip ho]; exact ht))
          exact ⟨e1, o3, a1, fun z hz => m2 z (a2 z hz), a3⟩
      · split at h
        · obtain ⟨B, rfl, -, -⟩ := ak_v_int hy (by omega)
          obtain ⟨⟨o1, h1, m1⟩, o2, h2, m2⟩ := both h
          exact ⟨A, B, rfl, rfl, fun _ => ⟨env, o1, h1, m1, he⟩, fun _ => ⟨env, o2, h2, m2, he⟩⟩
        · exact absurd h (by simp)
  · split at h
    · rename_i hxy
      obtain ⟨A, rfl, -, hA⟩ := ak_v_int hx (by omega)
      obtain ⟨B, rfl, hB, -⟩ := ak_v_int hy (by omega)
      obtain ⟨⟨o1, h1, m1⟩, o2, h2, m2⟩ := both h
      refine ⟨A, B, rfl, rfl, fun ht => ?_, fun ht => ?_⟩
      · obtain ⟨e1, o3, a1, a2, a3⟩ := ai_hold_some he h1 (by rw [← hA hxy.1, ← ak_b_nI, ← hB hxy.2]; exact ht)
        exact ⟨e1, o3, a1, fun z hz => m1 z (a2 z hz), a3⟩
      · obtain ⟨e1, o3, a1, a2, a3⟩ := ai_hold_some he h2 (ak_t_not ho (by rw [← hA hxy.1, ← ak_b_nI, ← hB hxy.2]; exact ht))
        exact ⟨e1, o3, a1, fun z hz => m2 z (a2 z hz), a3⟩
    · split at h
      · rename_i hxy
        obtain ⟨A, rfl, -, -⟩ := ak_v_int hx hxy.1
        obtain ⟨B, rfl, -, -⟩ := ak_v_int hy hxy.2
        obtain ⟨⟨o1, h1, m1⟩, o2, h2, m2⟩ := both h
        exact ⟨A, B, rfl, rfl, fun _ => ⟨env, o1, h1, m1, he⟩, fun _ => ⟨env, o2, h2, m2, he⟩⟩
      · exact absurd h (by simp)
end
section
/-! ===== instructions without cells, the rest ===== -/
section PLAIN2
variable {ι : ak_I} {y : MethodName} {b : ByteArray} {rt : Option FieldType} {M : ai_M} {d : Nat} {p : Program} {l : Launch} {e : Env} {R : Room} {s : State} {m : MethodId} {args : Array Value} {below : List Frame} {meth : Method} {c : Code} {pc : Nat} {sq : ai_Q} {jm : Nat → ai_Q} {κ : ai_K}
theorem ah_goto {off : Int} {t : Nat} (C : ak_C ι y b rt M d p l e R s m args below meth c) (ht : (pc : Int) + off = (t : Int)) (hd : decode b pc = .ok (.goto off, 3)) (hj : ∀ t, ak_Snd ι M (p, l, e, R, s, m, args, below, meth, c) t (jm t)) : ak_Snd ι M (p, l, e, R, s, m, args, below, meth, c) pc (ai_goto t sq jm κ) := by
  intro loc stk w outs h Q hQ ws ls st H locs hM
  exact lv_goto C.1.1 C.1.2.1 hd ht (hj t loc stk w outs h Q hQ ws ls st H locs hM)
/-- a step of two ints; g: what comes of them -/
theorem ah_bin {g : ai_V → ai_V → (ai_V → ai_P) → ai_P} {f : Int32 → Int32 → Int32} {ok : Int32 → Prop} (hκ : κ.2.2.2 = pc) (hg : ∀ (x y : ai_V) (k : ai_V → ai_P) (outs : List ai_O), g x y k = some outs → x.1 ≤ 2 ∧ y.1 ≤ 2 ∧ ∃ v : ai_V, k v = some outs ∧ ∀ (ads : List Nat) (X Y : Int32), ak_v ι ads x (.int X) → ak_v ι ads y (.int Y) → ok Y ∧ ak_v ι ads v (.int (f X Y)))
    (hrow : ∀ (H : Heap) (locs : List Loc) (nc ns : Nat) (Q : State → Prop) (ls : Array Slot) (st : List Value) (X Y : Int32), ok Y → W p l e R s m args below meth c H locs nc ns Q (F0 m (pc + 1) ls (.int (f X Y) :: st)) → W p l e R s m args below meth c H locs nc ns Q (F0 m pc ls (.int Y :: .int X :: st))) (hs : ak_Snd ι M (p, l, e, R, s, m, args, below, meth, c) (pc + 1) sq) (hj : ∀ t, ak_Snd ι M (p, l, e, R, s, m, args, below, meth, c) t (jm t)) : ak_Snd ι M (p, l, e, R, s, m, args, below, meth, c) pc (ai_bin g sq jm κ) := by
  intro loc stk w outs h Q hQ ws ls st H locs hM
  obtain ⟨n, hp, env, cs⟩ := w
  have he : ak_e ι env := hM.2.2.2.2.2.2
  cases stk with
  | nil => exact absurd h (by simp [ai_bin])
  | cons y' stk =>
    cases stk with
    | nil => exact absurd h (by simp [ai_bin])
    | cons x' stk =>
      simp only [ai_bin] at h
      rw [hκ] at h
      have again : (∃ (env' : ai_E) (outs' : List ai_O), jm pc loc (y' :: x' :: stk) (n, hp, env', cs) = some outs' ∧ (∀ o ∈ outs', o ∈ outs) ∧ ak_e ι env') → W p l e R s m args below meth c H locs cs.1 cs.2 Q (F0 m pc ls st) := by
        rintro ⟨env', outs', h1, h2, h3⟩
        exact hj pc loc (y' :: x' :: stk) (n, hp, env', cs) outs' h1 Q (fun o ho => hQ o (h2 o ho)) ws ls st H locs (hM.reenv h3)
      rcases ai_split_some he h with h | h
      · rcases ai_split_some he h with h | h
        · obtain ⟨u, hu, huv, -, -⟩ := ai_res_eq ι env he x' (fun x => ai_res env y' (fun y => g x y (fun v => sq loc (v :: stk) (n, hp, env, cs))))
          have h := hu.symm.trans h
          obtain ⟨u2, hu2, huv2, -, -⟩ := ai_res_eq ι env he y' (fun y => g u y (fun v => sq loc (v :: stk) (n, hp, env, cs)))
          have h := hu2.symm.trans h
          obtain ⟨b1, b2, v, hk, hv⟩ := hg _ _ _ _ h
          obtain ⟨Y, st, rfl, hy, hst⟩ := ak_s_cons hM.2.2.2.2.2.1
          obtain ⟨X, st, rfl, hx, hst2⟩ := ak_s_cons hst
          have hx2 := huv _ _ hx
          have hy2 := huv2 _ _ hy
          obtain ⟨X, rfl, -, -⟩ := ak_v_int hx2 b1
          obtain ⟨Y, rfl, -, -⟩ := ak_v_int hy2 b2
          obtain ⟨hok, hv⟩ := hv _ X Y hx2 hy2
          exact hrow _ _ _ _ _ _ _ X Y hok (hs loc (v :: stk) _ outs hk Q hQ ws ls _ H locs (hM.restk ⟨hv, hst2⟩))
        · exact again h
      · exact again h
theorem ah_op2 {F : Nat → Nat → Nat} {f : Int32 → Int32 → Int32} (hF : ∀ a b, nI (F a b) = f (nI a) (nI b)) (x y : ai_V) (k : ai_V → ai_P) (outs : List ai_O) (h : ai_op2 F x y k = some outs) : x.1 ≤ 2 ∧ y.1 ≤ 2 ∧ ∃ v : ai_V, k v = some outs ∧ ∀ (ads : List Nat) (X Y : Int32), ak_v ι ads x (.int X) → ak_v ι ads y (.int Y) → True ∧ ak_v ι ads v (.int (f X Y)) := by
  obtain ⟨h1, h2, v, hk, hv⟩ := ai_op2_some h
  refine ⟨h1, h2, v, hk, fun ads X Y hx hy => ⟨trivial, ?_⟩⟩
  rcases hv with ⟨rfl, z1, z2⟩ | rfl
  · obtain ⟨_, e1, q1, -⟩ := ak_v_int hx h1
    obtain ⟨_, e2, q2, -⟩ := ak_v_int hy h2
    cases e1
    cases e2
    exact Or.inl ⟨rfl, by rw [q1 z1, q2 z2, ← hF]⟩
  · exact Or.inr (Or.inr (Or.inl ⟨rfl, _, rfl⟩))
theorem ah_any2 {f : Int32 → Int32 → Int32} (x y : ai_V) (k : ai_V → ai_P) (outs : List ai_O) (h : ai_any2 x y k = some outs) : x.1 ≤ 2 ∧ y.1 ≤ 2 ∧ ∃ v : ai_V, k v = some outs ∧ ∀ (ads : List Nat) (X Y : Int32), ak_v ι ads x (.int X) → ak_v ι ads y (.int Y) → True ∧ ak_v ι ads v (.int (f X Y)) := by
  simp only [ai_any2, ak_if, ak_and, Nat.ble_eq] at h
  split at h
  · rename_i hh
    exact ⟨hh.1, hh.2, (2, 0), h, fun _ _ _ _ _ => ⟨trivial, Or.inr (Or.inr (Or.inl ⟨rfl, _, rfl⟩))⟩⟩
  · exact absurd h (by simp)
theorem ah_iadd (C : ak_C ι y b rt M d p l e R s m args below meth c) (hκ : κ.2.2.2 = pc) (hd : decode b pc = .ok (.iadd, 1)) (hs : ak_Snd ι M (p, l, e, R, s, m, args, below, meth, c) (pc + 1) sq) (hj : ∀ t, ak_Snd ι M (p, l, e, R, s, m, args, below, meth, c) t (jm t)) : ak_Snd ι M (p, l, e, R, s, m, args, below, meth, c) pc (ai_bin (ai_op2 ai_add) sq jm κ) :=
  ah_bin (f := fun X Y => X + Y) hκ (ah_op2 ak_add) (fun _ _ _ _ _ _ _ _ _ _ k => lv_iadd C.1.1 C.1.2.1 hd k) hs hj
theorem ah_isub (C : ak_C ι y b rt M d p l e R s m args below meth c) (hκ : κ.2.2.2 = pc) (hd : decode b pc = .ok (.isub, 1)) (hs : ak_Snd ι M (p, l, e, R, s, m, args, below, meth, c) (pc + 1) sq) (hj : ∀ t, ak_Snd ι M (p, l, e, R, s, m, args, below, meth, c) t (jm t)) : ak_Snd ι M (p, l, e, R, s, m, args, below, meth, c) pc (ai_bin (ai_op2 ai_sub) sq jm κ) :=
  ah_bin (f := fun X Y => X - Y) hκ (ah_op2 ak_sub) (fun _ _ _ _ _ _ _ _ _ _ k => lv_isub C.1.1 C.1.2.1 hd k) hs hj
theorem ah_imul (C : ak_C ι y b rt M d p l e R s m args below meth c) (hκ : κ.2.2.2 = pc) (hd : decode b pc = .ok (.imul, 1)) (hs : ak_Snd ι M (p, l, e, R, s, m, args, below, meth, c) (pc + 1) sq) (hj : ∀ t, ak_Snd ι M (p, l, e, R, s, m, args, below, meth, c) t (jm t)) : ak_Snd ι M (p, l, e, R, s, m, args, below, meth, c) pc (ai_bin (ai_op2 ai_mul) sq jm κ) :=
  ah_bin (f := fun X Y => X * Y) hκ (ah_op2 ak_mul) (fun _ _ _ _ _ _ _ _ _ _ k => lv_imul C.1.1 C.1.2.1 hd k) hs hj
theorem ah_ishr (C : ak_C ι y b rt M d p l e R s m args below meth c) (hκ : κ.2.2.2 = pc) (hd : decode b pc = .ok (.ishr, 1)) (hs : ak_Snd ι M (p, l, e, R, s, m, args, below, meth, c) (pc + 1) sq) (hj : ∀ t, ak_Snd ι M (p, l, e, R, s, m, args, below, meth, c) t (jm t)) : ak_Snd ι M (p, l, e, R, s, m, args, below, meth, c) pc (ai_bin ai_any2 sq jm κ) :=
  ah_bin (f := fun X Y => X >>> (Y &&& 31)) hκ ah_any2 (fun _ _ _ _ _ _ _ _ _ _ k => lv_ishr C.1.1 C.1.2.1 hd k) hs hj
theorem ah_iushr (C : ak_C ι y b rt M d p l e R s m args below meth c) (hκ : κ.2.2.2 = pc) (hd : decode b pc = .ok (.iushr, 1)) (hs : ak_Snd ι M (p, l, e, R, s, m, args, below, meth, c) (pc + 1) sq) (hj : ∀ t, ak_Snd ι M (p, l, e, R, s, m, args, below, meth, c) t (jm t)) : ak_Snd ι M (p, l, e, R, s, m, args, below, meth, c) pc (ai_bin ai_any2 sq jm κ) :=
  ah_bin (f := fun X Y => (X.toUInt32 >>> (Y.toUInt32 &&& Int32.toUInt32 31)).toInt32) hκ ah_any2 (fun _ _ _ _ _ _ _ _ _ _ k => lv_iushr C.1.1 C.1.2.1 hd rfl k) hs hj
theorem ah_iand (C : ak_C ι y b rt M d p l e R s m args below meth c) (hκ : κ.2.2.2 = pc) (hd : decode b pc = .ok (.iand, 1)) (hs : ak_Snd ι M (p, l, e, R, s, m, args, below, meth, c) (pc + 1) sq) (hj : ∀ t, ak_Snd ι M (p, l, e, R, s, m, args, below, meth, c) t (jm t)) : ak_Snd ι M (p, l, e, R, s, m, args, below, meth, c) pc (ai_bin ai_iand sq jm κ) := by
  refine ah_bin (f := fun X Y => X &&& Y) (ok := fun _ => True) hκ (fun x y k outs h => ?_) (fun _ _ _ _ _ _ _ _ _ _ k => lv_iand C.1.1 C.1.2.1 hd k) hs hj
  simp only [ai_iand, ak_if, ak_and, ai_eqV_iff] at h
  split at h
  · rename_i hh
    obtain ⟨rfl, rfl⟩ := hh
    refine ⟨by simp, by simp, (1, 6), h, fun ads X Y hx hy => ⟨trivial, Or.inr (Or.inl ⟨rfl, ?_⟩)⟩⟩
    obtain ⟨_, e1, -, q1⟩ := ak_v_int hx (by simp)
    obtain ⟨_, e2, q2, -⟩ := ak_v_int hy (by simp)
    cases e1
    cases e2
    obtain ⟨-, -, -, L, xs, -, -, -, -, -, -, h6⟩ := C.2.2.1.2.1
    have q1 := q1 rfl
    have q2 := q2 rfl
    dsimp only at q1 q2 ⊢
    rw [h6, q1, q2]
    rfl
  · exact ah_op2 ak_land x y k outs h
theorem ah_irem (C : ak_C ι y b rt M d p l e R s m args below meth c) (hκ : κ.2.2.2 = pc) (hd : decode b pc = .ok (.irem, 1)) (hs : ak_Snd ι M (p, l, e, R, s, m, args, below, meth, c) (pc + 1) sq) (hj : ∀ t, ak_Snd ι M (p, l, e, R, s, m, args, below, meth, c) t (jm t)) : ak_Snd ι M (p, l, e, R, s, m, args, below, meth, c) pc (ai_bin ai_irem sq jm κ) := by
  refine ah_bin (f := fun X Y => X - X / Y * Y) (ok := fun Y => ¬ Y = 0) hκ (fun x y k outs h => ?_) (fun _ _ _ _ _ _ _ _ _ hn k => lv_irem C.1.1 C.1.2.1 hd hn k) hs hj
  simp only [ai_irem, ak_if, ak_and, Nat.ble_eq, Nat.beq_eq, ai_nt_eq] at h
  split at h
  · rename_i hh
    obtain ⟨h1, h2, h3, h4⟩ := hh
    have h31 : y.2 < 2 ^ 31 := by omega
    refine ⟨h1, by omega, ?_⟩
    have fin : ∀ v : ai_V, k v = some outs → (v = (2, 0) ∨ (v = (0, x.2 % y.2) ∧ x.1 = 0 ∧ x.2 ≤ 2147483647)) → ∃ v : ai_V, k v = some outs ∧ ∀ (ads : List Nat) (X Y : Int32), ak_v ι ads x (.int X) → ak_v ι ads y (.int Y) → (¬ Y = 0) ∧ ak_v ι ads v (.int (X - X / Y * Y)) := by
      intro v hk hv
      refine ⟨v, hk, fun ads X Y hx hy => ?_⟩
      obtain ⟨_, e2, q2, -⟩ := ak_v_int hy (by omega)
      cases e2
      have q2 := q2 h2
      refine ⟨by rw [q2]; exact nI_ne0 (by omega) h31, ?_⟩
      rcases hv with rfl | ⟨rfl, z1, z2⟩
      · exact Or.inr (Or.inr (Or.inl ⟨rfl, _, rfl⟩))
      · obtain ⟨_, e1, q1, -⟩ := ak_v_int hx h1
        cases e1
        exact Or.inl ⟨rfl, by rw [q1 z1, q2, pk_rem (by omega) (by omega) h31]⟩
    split at h
    · rename_i hz
      exact fin _ h (Or.inr ⟨rfl, hz.1, hz.2⟩)
    · exact fin _ h (Or.inl rfl)
  · exact absurd h (by simp)
/-- one value off the stack -/
theorem ah_i2b (C : ak_C ι y b rt M d p l e R s m args below meth c) (hd : decode b pc = .ok (.i2b, 1)) (hs : ak_Snd ι M (p, l, e, R, s, m, args, below, meth, c) (pc + 1) sq) : ak_Snd ι M (p, l, e, R, s, m, args, below, meth, c) pc (ai_i2b sq jm κ) := by
  intro loc stk w outs h Q hQ ws ls st H locs hM
  cases stk with
  | nil => exact absurd h (by simp [ai_i2b])
  | cons x stk =>
    simp only [ai_i2b, ak_if, Nat.ble_eq] at h
    split at h
    · rename_i hx2
      obtain ⟨X, st, rfl, hx, hst⟩ := ak_s_cons hM.2.2.2.2.2.1
      obtain ⟨X, rfl, -, -⟩ := ak_v_int hx hx2
      exact lv_i2b C.1.1 C.1.2.1 hd rfl (hs _ _ _ _ h Q hQ ws ls _ H locs (hM.restk ⟨Or.inr (Or.inr (Or.inl ⟨rfl, _, rfl⟩)), hst⟩))
    · exact absurd h (by simp)
theorem ah_i2l (C : ak_C ι y b rt M d p l e R s m args below meth c) (hd : decode b pc = .ok (.i2l, 1)) (hs : ak_Snd ι M (p, l, e, R, s, m, args, below, meth, c) (pc + 1) sq) : ak_Snd ι M (p, l, e, R, s, m, args, below, meth, c) pc (ai_i2l sq jm κ) := by
  intro loc stk w outs h Q hQ ws ls st H locs hM
  cases stk with
  | nil => exact absurd h (by simp [ai_i2l])
  | cons x stk =>
    obtain ⟨t, n⟩ := x
    simp only [ai_i2l, ak_if, ak_and, Nat.ble_eq, Nat.beq_eq] at h
    split at h
    · rename_i hx2
      obtain ⟨X, st, rfl, hx, hst⟩ := ak_s_cons hM.2.2.2.2.2.1
      obtain ⟨X, rfl, h0, -⟩ := ak_v_int hx (by show t ≤ 2; omega)
      exact lv_i2l C.1.1 C.1.2.1 hd rfl (hs _ _ _ _ h Q hQ ws ls _ H locs (hM.restk ⟨Or.inr (Or.inr (Or.inr (Or.inl ⟨rfl, by rw [h0 hx2.1]; exact congrArg Value.long (nI_l (by omega))⟩))), hst⟩))
    · exact absurd h (by simp)
theorem ah_lcmp (C : ak_C ι y b rt M d p l e R s m args below meth c) (hd : decode b pc = .ok (.lcmp, 1)) (hs : ak_Snd ι M (p, l, e, R, s, m, args, below, meth, c) (pc + 1) sq) : ak_Snd ι M (p, l, e, R, s, m, args, below, meth, c) pc (ai_lcmp sq jm κ) := by
  intro loc stk w outs h Q hQ ws ls st H locs hM
  cases stk with
  | nil => exact absurd h (by simp [ai_lcmp])
  | cons y' stk =>
    cases stk with
    | nil => exact absurd h (by simp [ai_lcmp])
    | cons x stk =>
      simp only [ai_lcmp, ak_if, ak_and, Nat.beq_eq, ai_eqV_iff] at h
      split at h
      · rename_i hh
        obtain ⟨h3, rfl⟩ := hh
        obtain ⟨Y, st, rfl, hy, hst⟩ := ak_s_cons hM.2.2.2.2.2.1
        obtain ⟨X, st, rfl, hx, hst2⟩ := ak_s_cons hst
        obtain ⟨X, rfl, hX⟩ := ak_v_long hx (by omega) (by omega)
        obtain ⟨Y, rfl, hY⟩ := ak_v_long hy (by omega) (by omega)
        have e1 : X = Y := by rw [hX h3, hY h3]
        subst e1
        refine W.lcmp C.1.1 C.1.2.1 hd ?_
        refine hs _ _ _ _ h Q hQ ws ls _ H locs (hM.restk ⟨Or.inl ⟨rfl, ?_⟩, hst2⟩)
        simp [lg_cmp, nI]
      · exact absurd h (by simp)
theorem ah_dup (C : ak_C ι y b rt M d p l e R s m args below meth c) (hd : decode b pc = .ok (.dup, 1)) (hs : ak_Snd ι M (p, l, e, R, s, m, args, below, meth, c) (pc + 1) sq) : ak_Snd ι M (p, l, e, R, s, m, args, below, meth, c) pc (ai_dup sq jm κ) := by
  intro loc stk w outs h Q hQ ws ls st H locs hM
  cases stk with
  | nil => exact absurd h (by simp [ai_dup])
  | cons x stk =>
    simp only [ai_dup, ak_if, Nat.beq_eq] at h
    split at h
    · rename_i hx1
      obtain ⟨X, st, rfl, hx, hst⟩ := ak_s_cons hM.2.2.2.2.2.1
      exact lv_dup C.1.1 C.1.2.1 hd (by rw [ak_v_cat hx]; exact hx1) (hs _ _ _ _ h Q hQ ws ls _ H locs (hM.restk ⟨hx, hx, hst⟩))
    · exact absurd h (by simp)
theorem ah_dup2 (C : ak_C ι y b rt M d p l e R s m args below meth c) (hd : decode b pc = .ok (.dup2, 1)) (hs : ak_Snd ι M (p, l, e, R, s, m, args, below, meth, c) (pc + 1) sq) : ak_Snd ι M (p, l, e, R, s, m, args, below, meth, c) pc (ai_dup2 sq jm κ) := by
  intro loc stk w outs h Q hQ ws ls st H locs hM
  cases stk with
  | nil => exact absurd h (by simp [ai_dup2])
  | cons x stk =>
    cases stk with
    | nil => exact absurd h (by simp [ai_dup2])
    | cons z stk =>
      simp only [ai_dup2, ak_if, ak_and, Nat.beq_eq] at h
      split at h
      · rename_i hx1
        obtain ⟨X, st, rfl, hx, hst⟩ := ak_s_cons hM.2.2.2.2.2.1
        obtain ⟨Z, st, rfl, hz, hst⟩ := ak_s_cons hst
        exact lv_dup2_11 C.1.1 C.1.2.1 hd (by rw [ak_v_cat hx]; exact hx1.1) (by rw [ak_v_cat hz]; exact hx1.2) (hs _ _ _ _ h Q hQ ws ls _ H locs (hM.restk ⟨hx, hz, hx, hz, hst⟩))
      · exact absurd h (by simp)
theorem ah_pop (C : ak_C ι y b rt M d p l e R s m args below meth c) (hd : decode b pc = .ok (.pop, 1)) (hs : ak_Snd ι M (p, l, e, R, s, m, args, below, meth, c) (pc + 1) sq) : ak_Snd ι M (p, l, e, R, s, m, args, below, meth, c) pc (ai_pop sq jm κ) := by
  intro loc stk w outs h Q hQ ws ls st H locs hM
  cases stk with
  | nil => exact absurd h (by simp [ai_pop])
  | cons x stk =>
    simp only [ai_pop, ak_if, Nat.beq_eq] at h
    split at h
    · rename_i hx1
      obtain ⟨X, st, rfl, hx, hst⟩ := ak_s_cons hM.2.2.2.2.2.1
      exact lv_pop C.1.1 C.1.2.1 hd (by rw [ak_v_cat hx]; exact hx1) (hs _ _ _ _ h Q hQ ws ls _ H locs (hM.restk hst))
    · exact absurd h (by simp)
end PLAIN2
end
section
/-! ===== branches ===== -/
section JUMP
variable {ι : ak_I} {y : MethodName} {b : ByteArray} {rt : Option FieldType} {M : ai_M} {d : Nat} {p : Program} {l : Launch} {e : Env} {R : Room} {s : State} {m : MethodId} {args : Array Value} {below : List Frame} {meth : Method} {c : Code} {pc : Nat} {sq : ai_Q} {jm : Nat → ai_Q} {κ : ai_K}
theorem ah_icmp {o t : Nat} (ho : o ≤ 5) (hrow : ∀ (H : Heap) (locs : List Loc) (nc ns : Nat) (Q : State → Prop) (ls : Array Slot) (st : List Value) (A B : Int32), (ak_t o (ak_b A) (ak_b B) → W p l e R s m args below meth c H locs nc ns Q (F0 m t ls st)) → (¬ ak_t o (ak_b A) (ak_b B) → W p l e R s m args below meth c H locs nc ns Q (F0 m (pc + 3) ls st)) → W p l e R s m args below meth c H locs nc ns Q (F0 m pc ls (.int B :: .int A :: st))) (hs : ak_Snd ι M (p, l, e, R, s, m, args, below, meth, c) (pc + 3) sq) (hj : ∀ t, ak_Snd ι M (p, l, e, R, s, m, args, below, meth, c) t (jm t)) : ak_Snd ι M (p, l, e, R, s, m, args, below, meth, c) pc (ai_icmp o t sq jm κ) := by
  intro loc stk w outs h Q hQ ws ls st H locs hM
  obtain ⟨n, hp, env, cs⟩ := w
  have he : ak_e ι env := hM.2.2.2.2.2.2
  cases stk with
  | nil => exact absurd h (by simp [ai_icmp])
  | cons y' stk =>
    cases stk with
    | nil => exact absurd h (by simp [ai_icmp])
    | cons x' stk =>
      simp only [ai_icmp] at h
      obtain ⟨u, hu, huv, -, -⟩ := ai_res_eq ι env he x' (fun x => ai_res env y' (fun y => ai_br o x y (n, hp, env, cs) (jm t loc stk) (sq loc stk)))
      have h := hu.symm.trans h
      obtain ⟨u2, hu2, huv2, -, -⟩ := ai_res_eq ι env he y' (fun y => ai_br o u y (n, hp, env, cs) (jm t loc stk) (sq loc stk))
      have h := hu2.symm.trans h
      obtain ⟨Y, st, rfl, hy, hst⟩ := ak_s_cons hM.2.2.2.2.2.1
      obtain ⟨X, st, rfl, hx, hst2⟩ := ak_s_cons hst
      obtain ⟨A, B, rfl, rfl, hT, hF⟩ := ai_br_some ho he h (huv _ _ hx) (huv2 _ _ hy)
      refine hrow _ _ _ _ _ _ _ A B (fun ht => ?_) (fun ht => ?_)
      · obtain ⟨env', outs', a1, a2, a3⟩ := hT ht
        exact hj t _ _ _ _ a1 Q (fun z hz => hQ z (a2 z hz)) ws ls _ H locs ((hM.restk hst2).reenv a3)
      · obtain ⟨env', outs', a1, a2, a3⟩ := hF ht
        exact hs _ _ _ _ a1 Q (fun z hz => hQ z (a2 z hz)) ws ls _ H locs ((hM.restk hst2).reenv a3)
theorem ah_if0 {o t : Nat} (ho : o ≤ 5) (hrow : ∀ (H : Heap) (locs : List Loc) (nc ns : Nat) (Q : State → Prop) (ls : Array Slot) (st : List Value) (A : Int32), (ak_t o (ak_b A) (ak_b 0) → W p l e R s m args below meth c H locs nc ns Q (F0 m t ls st)) → (¬ ak_t o (ak_b A) (ak_b 0) → W p l e R s m args below meth c H locs nc ns Q (F0 m (pc + 3) ls st)) → W p l e R s m args below meth c H locs nc ns Q (F0 m pc ls (.int A :: st))) (hs : ak_Snd ι M (p, l, e, R, s, m, args, below, meth, c) (pc + 3) sq) (hj : ∀ t, ak_Snd ι M (p, l, e, R, s, m, args, below, meth, c) t (jm t)) : ak_Snd ι M (p, l, e, R, s, m, args, below, meth, c) pc (ai_if0 o t sq jm κ) := by
  intro loc stk w outs h Q hQ ws ls st H locs hM
  obtain ⟨n, hp, env, cs⟩ := w
  have he : ak_e ι env := hM.2.2.2.2.2.2
  cases stk with
  | nil => exact absurd h (by simp [ai_if0])
  | cons x' stk =>
    simp only [ai_if0] at h
    obtain ⟨u, hu, huv, -, -⟩ := ai_res_eq ι env he x' (fun x => ai_br o x (0, 0) (n, hp, env, cs) (jm t loc stk) (sq loc stk))
    have h := hu.symm.trans h
    obtain ⟨X, st, rfl, hx, hst⟩ := ak_s_cons hM.2.2.2.2.2.1
    obtain ⟨A, B, rfl, hB, hT, hF⟩ := ai_br_some ho he h (huv _ _ hx) (show ak_v ι (ws.map Prod.fst) (0, 0) (.int (nI 0)) from Or.inl ⟨rfl, rfl⟩)
    cases hB
    rw [nI_0] at hT hF
    refine hrow _ _ _ _ _ _ _ A (fun ht => ?_) (fun ht => ?_)
    · obtain ⟨env', outs', a1, a2, a3⟩ := hT ht
      exact hj t _ _ _ _ a1 Q (fun z hz => hQ z (a2 z hz)) ws ls _ H locs ((hM.restk hst).reenv a3)
    · obtain ⟨env', outs', a1, a2, a3⟩ := hF ht
      exact hs _ _ _ _ a1 Q (fun z hz => hQ z (a2 z hz)) ws ls _ H locs ((hM.restk hst).reenv a3)
theorem ak_t0 (A B : Int32) : ak_t 0 (ak_b A) (ak_b B) = (A = B) := by rw [ak_eq]; rfl
theorem ak_t1 (A B : Int32) : ak_t 1 (ak_b A) (ak_b B) = ¬ (A = B) := by rw [ak_eq]; rfl
theorem ak_t2 (A B : Int32) : ak_t 2 (ak_b A) (ak_b B) = (A < B) := by rw [ak_lt]; rfl
theorem ak_t3 (A B : Int32) : ak_t 3 (ak_b A) (ak_b B) = (B ≤ A) := by rw [ak_le]; rfl
theorem ak_t4 (A B : Int32) : ak_t 4 (ak_b A) (ak_b B) = (B < A) := by rw [ak_lt]; rfl
theorem ak_t5 (A B : Int32) : ak_t 5 (ak_b A) (ak_b B) = (A ≤ B) := by rw [ak_le]; rfl
theorem ah_icmp_eq {off : Int} {t : Nat} (C : ak_C ι y b rt M d p l e R s m args below meth c) (ht : (pc : Int) + off = (t : Int)) (hd : decode b pc = .ok (.if_icmp .eq off, 3)) (hs : ak_Snd ι M (p, l, e, R, s, m, args, below, meth, c) (pc + 3) sq) (hj : ∀ t, ak_Snd ι M (p, l, e, R, s, m, args, below, meth, c) t (jm t)) : ak_Snd ι M (p, l, e, R, s, m, args, below, meth, c) pc (ai_icmp 0 t sq jm κ) :=
  ah_icmp (by omega) (fun _ _ _ _ _ _ _ A B kt kf => by rw [ak_t0] at kt kf; exact lv_icmp_eq C.1.1 C.1.2.1 hd ht kt kf) hs hj
theorem ah_if_eq {off : Int} {t : Nat} (C : ak_C ι y b rt M d p l e R s m args below meth c) (ht : (pc : Int) + off = (t : Int)) (hd : decode b pc = .ok (.ifCond .eq off, 3)) (hs : ak_Snd ι M (p, l, e, R, s, m, args, below, meth, c) (pc + 3) sq) (hj : ∀ t, ak_Snd ι M (p, l, e, R, s, m, args, below, meth, c) t (jm t)) : ak_Snd ι M (p, l, e, R, s, m, args, below, meth, c) pc (ai_if0 0 t sq jm κ) :=
  ah_if0 (by omega) (fun _ _ _ _ _ _ _ A kt kf => by rw [ak_t0] at kt kf; exact lv_if_eq C.1.1 C.1.2.1 hd ht kt kf) hs hj
theorem ah_icmp_ne {off : Int} {t : Nat} (C : ak_C ι y b rt M d p l e R s m args below meth c) (ht : (pc : Int) + off = (t : Int)) (hd : decode b pc = .ok (.if_icmp .ne off, 3)) (hs : ak_Snd ι M (p, l, e, R, s, m, args, below, meth, c) (pc + 3) sq) (hj : ∀ t, ak_Snd ι M (p, l, e, R, s, m, args, below, meth, c) t (jm t)) : ak_Snd ι M (p, l, e, R, s, m, args, below, meth, c) pc (ai_icmp 1 t sq jm κ) :=
  ah_icmp (by omega) (fun _ _ _ _ _ _ _ A B kt kf => by rw [ak_t1] at kt kf; exact lv_icmp_ne C.1.1 C.1.2.1 hd ht kt (fun h => kf (fun hn => hn h))) hs hj
theorem ah_if_ne {off : Int} {t : Nat} (C : ak_C ι y b rt M d p l e R s m args below meth c) (ht : (pc : Int) + off = (t : Int)) (hd : decode b pc = .ok (.ifCond .ne off, 3)) (hs : ak_Snd ι M (p, l, e, R, s, m, args, below, meth, c) (pc + 3) sq) (hj : ∀ t, ak_Snd ι M (p, l, e, R, s, m, args, below, meth, c) t (jm t)) : ak_Snd ι M (p, l, e, R, s, m, args, below, meth, c) pc (ai_if0 1 t sq jm κ) :=
  ah_if0 (by omega) (fun _ _ _ _ _ _ _ A kt kf => by rw [ak_t1] at kt kf; exact lv_if_ne C.1.1 C.1.2.1 hd ht kt (fun h => kf (fun hn => hn h))) hs hj
theorem ah_icmp_lt {off : Int} {t : Nat} (C : ak_C ι y b rt M d p l e R s m args below meth c) (ht : (pc : Int) + off = (t : Int)) (hd : decode b pc = .ok (.if_icmp .lt off, 3)) (hs : ak_Snd ι M (p, l, e, R, s, m, args, below, meth, c) (pc + 3) sq) (hj : ∀ t, ak_Snd ι M (p, l, e, R, s, m, args, below, meth, c) t (jm t)) : ak_Snd ι M (p, l, e, R, s, m, args, below, meth, c) pc (ai_icmp 2 t sq jm κ) :=
  ah_icmp (by omega) (fun _ _ _ _ _ _ _ A B kt kf => by rw [ak_t2] at kt kf; exact lv_icmp_lt C.1.1 C.1.2.1 hd ht kt kf) hs hj
theorem ah_if_lt {off : Int} {t : Nat} (C : ak_C ι y b rt M d p l e R s m args below meth c) (ht : (pc : Int) + off = (t : Int)) (hd : decode b pc = .ok (.ifCond .lt off, 3)) (hs : ak_Snd ι M (p, l, e, R, s, m, args, below, meth, c) (pc + 3) sq) (hj : ∀ t, ak_Snd ι M (p, l, e, R, s, m, args, below, meth, c) t (jm t)) : ak_Snd ι M (p, l, e, R, s, m, args, below, meth, c) pc (ai_if0 2 t sq jm κ) :=
  ah_if0 (by omega) (fun _ _ _ _ _ _ _ A kt kf => by rw [ak_t2] at kt kf; exact lv_if_lt C.1.1 C.1.2.1 hd ht kt kf) hs hj
theorem ah_icmp_ge {off : Int} {t : Nat} (C : ak_C ι y b rt M d p l e R s m args below meth c) (ht : (pc : Int) + off = (t : Int)) (hd : decode b pc = .ok (.if_icmp .ge off, 3)) (hs : ak_Snd ι M (p, l, e, R, s, m, args, below, meth, c) (pc + 3) sq) (hj : ∀ t, ak_Snd ι M (p, l, e, R, s, m, args, below, meth, c) t (jm t)) : ak_Snd ι M (p, l, e, R, s, m, args, below, meth, c) pc (ai_icmp 3 t sq jm κ) :=
  ah_icmp (by omega) (fun _ _ _ _ _ _ _ A B kt kf => by rw [ak_t3] at kt kf; exact lv_icmp_ge C.1.1 C.1.2.1 hd ht kt kf) hs hj
theorem ah_if_ge {off : Int} {t : Nat} (C : ak_C ι y b rt M d p l e R s m args below meth c) (ht : (pc : Int) + off = (t : Int)) (hd : decode b pc = .ok (.ifCond .ge off, 3)) (hs : ak_Snd ι M (p, l, e, R, s, m, args, below, meth, c) (pc + 3) sq) (hj : ∀ t, ak_Snd ι M (p, l, e, R, s, m, args, below, meth, c) t (jm t)) : ak_Snd ι M (p, l, e, R, s, m, args, below, meth, c) pc (ai_if0 3 t sq jm κ) :=
  ah_if0 (by omega) (fun _ _ _ _ _ _ _ A kt kf => by rw [ak_t3] at kt kf; exact lv_if_ge C.1.1 C.1.2.1 hd ht kt kf) hs hj
theorem ah_icmp_gt {off : Int} {t : Nat} (C : ak_C ι y b rt M d p l e R s m args below meth c) (ht : (pc : Int) + off = (t : Int)) (hd : decode b pc = .ok (.if_icmp .gt off, 3)) (hs : ak_Snd ι M (p, l, e, R, s, m, args, below, meth, c) (pc + 3) sq) (hj : ∀ t, ak_Snd ι M (p, l, e, R, s, m, args, below, meth, c) t (jm t)) : ak_Snd ι M (p, l, e, R, s, m, args, below, meth, c) pc (ai_icmp 4 t sq jm κ) :=
  ah_icmp (by omega) (fun _ _ _ _ _ _ _ A B kt kf => by rw [ak_t4] at kt kf; exact lv_icmp_gt C.1.1 C.1.2.1 hd ht kt kf) hs hj
theorem ah_if_gt {off : Int} {t : Nat} (C : ak_C ι y b rt M d p l e R s m args below meth c) (ht : (pc : Int) + off = (t : Int)) (hd : decode b pc = .ok (.ifCond .gt off, 3)) (hs : ak_Snd ι M (p, l, e, R, s, m, args, below, meth, c) (pc + 3) sq) (hj : ∀ t, ak_Snd ι M (p, l, e, R, s, m, args, below, meth, c) t (jm t)) : ak_Snd ι M (p, l, e, R, s, m, args, below, meth, c) pc (ai_if0 4 t sq jm κ) :=
  ah_if0 (by omega) (fun _ _ _ _ _ _ _ A kt kf => by rw [ak_t4] at kt kf; exact lv_if_gt C.1.1 C.1.2.1 hd ht kt kf) hs hj
theorem ah_icmp_le {off : Int} {t : Nat} (C : ak_C ι y b rt M d p l e R s m args below meth c) (ht : (pc : Int) + off = (t : Int)) (hd : decode b pc = .ok (.if_icmp .le off, 3)) (hs : ak_Snd ι M (p, l, e, R, s, m, args, below, meth, c) (pc + 3) sq) (hj : ∀ t, ak_Snd ι M (p, l, e, R, s, m, args, below, meth, c) t (jm t)) : ak_Snd ι M (p, l, e, R, s, m, args, below, meth, c) pc (ai_icmp 5 t sq jm κ) :=
  ah_icmp (by omega) (fun _ _ _ _ _ _ _ A B kt kf => by rw [ak_t5] at kt kf; exact lv_icmp_le C.1.1 C.1.2.1 hd ht kt kf) hs hj
theorem ah_if_le {off : Int} {t : Nat} (C : ak_C ι y b rt M d p l e R s m args below meth c) (ht : (pc : Int) + off = (t : Int)) (hd : decode b pc = .ok (.ifCond .le off, 3)) (hs : ak_Snd ι M (p, l, e, R, s, m, args, below, meth, c) (pc + 3) sq) (hj : ∀ t, ak_Snd ι M (p, l, e, R, s, m, args, below, meth, c) t (jm t)) : ak_Snd ι M (p, l, e, R, s, m, args, below, meth, c) pc (ai_if0 5 t sq jm κ) :=
  ah_if0 (by omega) (fun _ _ _ _ _ _ _ A kt kf => by rw [ak_t5] at kt kf; exact lv_if_le C.1.1 C.1.2.1 hd ht kt kf) hs hj
/-- null or not -/
theorem ah_nul {eq : Bool} {t : Nat} (hrow : ∀ (H : Heap) (locs : List Loc) (nc ns : Nat) (Q : State → Prop) (ls : Array Slot) (st : List Value) (x : Value) (isn : Bool), (x = .null ∧ isn = true ∨ (∃ q : Nat, x = .ref q) ∧ isn = false) → W p l e R s m args below meth c H locs nc ns Q (F0 m (if isn = eq then t else pc + 3) ls st) → W p l e R s m args below meth c H locs nc ns Q (F0 m pc ls (x :: st))) (hs : ak_Snd ι M (p, l, e, R, s, m, args, below, meth, c) (pc + 3) sq) (hj : ∀ t, ak_Snd ι M (p, l, e, R, s, m, args, below, meth, c) t (jm t)) : ak_Snd ι M (p, l, e, R, s, m, args, below, meth, c) pc (ai_nul eq t sq jm κ) := by
  intro loc stk w outs h Q hQ ws ls st H locs hM
  cases stk with
  | nil => exact absurd h (by simp [ai_nul])
  | cons x stk =>
    simp only [ai_nul, ak_if, ai_in_iff, Nat.beq_eq] at h
    split at h
    · rename_i hx57
      obtain ⟨X, st, rfl, hx, hst⟩ := ak_s_cons hM.2.2.2.2.2.1
      rcases ak_v_ref hx hx57.1 with ⟨rfl, h5⟩ | ⟨⟨q, rfl⟩, h67⟩
      · rw [if_pos h5] at h
        refine hrow _ _ _ _ _ _ _ _ true (Or.inl ⟨rfl, rfl⟩) ?_
        cases eq with
        | true => exact hj t _ _ _ _ h Q hQ ws ls _ H locs (hM.restk hst)
        | false => exact hs _ _ _ _ h Q hQ ws ls _ H locs (hM.restk hst)
      · rw [if_neg (by omega)] at h
        refine hrow _ _ _ _ _ _ _ _ false (Or.inr ⟨⟨q, rfl⟩, rfl⟩) ?_
        cases eq with
        | true => exact hs _ _ _ _ h Q hQ ws ls _ H locs (hM.restk hst)
        | false => exact hj t _ _ _ _ h Q hQ ws ls _ H locs (hM.restk hst)
    · exact absurd h (by simp)
theorem ah_ifnull {off : Int} {t : Nat} (C : ak_C ι y b rt M d p l e R s m args below meth c) (ht : (pc : Int) + off = (t : Int)) (hd : decode b pc = .ok (.ifnull off, 3)) (hs : ak_Snd ι M (p, l, e, R, s, m, args, below, meth, c) (pc + 3) sq) (hj : ∀ t, ak_Snd ι M (p, l, e, R, s, m, args, below, meth, c) t (jm t)) : ak_Snd ι M (p, l, e, R, s, m, args, below, meth, c) pc (ai_nul true t sq jm κ) :=
  ah_nul (fun _ _ _ _ _ _ _ x isn hx k => by
    rcases hx with ⟨rfl, rfl⟩ | ⟨⟨q, rfl⟩, rfl⟩
    · exact lv_ifnullN C.1.1 C.1.2.1 hd ht k
    · exact lv_ifnull C.1.1 C.1.2.1 hd k) hs hj
theorem ah_ifnonnull {off : Int} {t : Nat} (C : ak_C ι y b rt M d p l e R s m args below meth c) (ht : (pc : Int) + off = (t : Int)) (hd : decode b pc = .ok (.ifnonnull off, 3)) (hs : ak_Snd ι M (p, l, e, R, s, m, args, below, meth, c) (pc + 3) sq) (hj : ∀ t, ak_Snd ι M (p, l, e, R, s, m, args, below, meth, c) t (jm t)) : ak_Snd ι M (p, l, e, R, s, m, args, below, meth, c) pc (ai_nul false t sq jm κ) :=
  ah_nul (fun _ _ _ _ _ _ _ x isn hx k => by
    rcases hx with ⟨rfl, rfl⟩ | ⟨⟨q, rfl⟩, rfl⟩
    · exact lv_ifnonnullN C.1.1 C.1.2.1 hd k
    · exact lv_ifnonnull C.1.1 C.1.2.1 hd ht k) hs hj
/-- a reference as the tables' rows have it -/
theorem ak_v_rf {ads : List Nat} {a : ai_V} {v : Value} (h : ak_v ι ads a v) (h5 : 5 ≤ a.1) : ∃ r : Option Nat, v = va_rf r ∧ (a.1 = 5 → r = none) ∧ (a.1 = 6 → ∃ q, ads[a.2]? = some q ∧ r = some q) ∧ (a.1 = 7 → r = some (ι.2.2.2.1 a.2)) := by
  rcases h with ⟨h, e⟩ | ⟨h, e⟩ | ⟨h, x, e⟩ | ⟨h, e⟩ | ⟨h, x, e⟩ | ⟨h, e⟩ | ⟨h, x, e1, e⟩ | ⟨h, e⟩ <;> try omega
  · exact ⟨none, e, fun _ => rfl, fun h6 => by omega, fun h7 => by omega⟩
  · exact ⟨some x, e, fun h5 => by omega, fun _ => ⟨x, e1, rfl⟩, fun h7 => by omega⟩
  · exact ⟨some _, e, fun h5 => by omega, fun h6 => by omega, fun _ => rfl⟩
/-- two references that differ -/
theorem ak_ne {ws : va_W} (hE : ak_S ι s s.heap) (hD : va_D (ak_A ι) ws) {x z : ai_V} {rx rz : Option Nat} (hx : ai_acm x = true) (hz : ai_acm z = true) (hne : ¬ x = z) (x57 : 5 ≤ x.1 ∧ x.1 ≤ 7) (z57 : 5 ≤ z.1 ∧ z.1 ≤ 7) (x5 : x.1 = 5 → rx = none) (x6 : x.1 = 6 → ∃ q, (ws.map Prod.fst)[x.2]? = some q ∧ rx = some q) (x7 : x.1 = 7 → rx = some (ι.2.2.2.1 x.2)) (z5 : z.1 = 5 → rz = none) (z6 : z.1 = 6 → ∃ q, (ws.map Prod.fst)[z.2]? = some q ∧ rz = some q) (z7 : z.1 = 7 → rz = some (ι.2.2.2.1 z.2)) : ¬ rx = rz := by
  have acm : ∀ v : ai_V, ai_acm v = true → (v.1 = 7 → v.2 ≤ 37) ∧ (v.1 = 5 → v = (5, 0)) := by
    intro v hv
    simp only [ai_acm, ak_if, Nat.beq_eq] at hv
    split at hv
    · exact ⟨fun h => by omega, fun h => by omega⟩
    · split at hv
      · rw [Nat.ble_eq] at hv
        exact ⟨fun _ => hv, fun h => by omega⟩
      · rw [ai_eqV_iff] at hv
        exact ⟨fun h => by omega, fun _ => hv⟩
  obtain ⟨ax, nx⟩ := acm x hx
  obtain ⟨az, nz⟩ := acm z hz
  have len : ak_nm.length = 38 := rfl
  have own : ∀ k q : Nat, (ws.map Prod.fst)[k]? = some q → ι.1 ≤ q := by
    intro k q h
    rw [List.getElem?_map] at h
    cases hk : ws[k]? with
    | none => rw [hk] at h; cases h
    | some u =>
      rw [hk] at h
      cases h
      exact hD.2 k u hk
  have old : ∀ j, j ≤ 37 → ¬ ι.1 ≤ ι.2.2.2.1 j := fun j hj => by
    obtain ⟨cell, -, -, -, h⟩ := (hE.1.1 j (by rw [len]; omega)).2.1
    exact h
  rcases (show x.1 = 5 ∨ x.1 = 6 ∨ x.1 = 7 by omega) with hx5 | hx6 | hx7 <;> rcases (show z.1 = 5 ∨ z.1 = 6 ∨ z.1 = 7 by omega) with hz5 | hz6 | hz7
  · exact absurd ((nx hx5).trans (nz hz5).symm) hne
  · obtain ⟨q, -, h⟩ := z6 hz6
    rw [x5 hx5, h]; simp
  · rw [x5 hx5, z7 hz7]; simp
  · obtain ⟨q, -, h⟩ := x6 hx6
    rw [z5 hz5, h]; simp
  · obtain ⟨q, h1, h2⟩ := x6 hx6
    obtain ⟨q', h3, h4⟩ := z6 hz6
    rw [h2, h4]
    intro hc
    cases hc
    rw [List.getElem?_map] at h1 h3
    cases hk : ws[x.2]? with
    | none => rw [hk] at h1; cases h1
    | some u =>
      cases hk2 : ws[z.2]? with
      | none => rw [hk2] at h3; cases h3
      | some u2 =>
        rw [hk] at h1
        rw [hk2] at h3
        have := hD.1 x.2 z.2 u u2 hk hk2 ((Option.some.inj h1).trans (Option.some.inj h3).symm)
        exact hne (Prod.ext (hx6.trans hz6.symm) this)
  · obtain ⟨q, h1, h2⟩ := x6 hx6
    rw [h2, z7 hz7]
    intro hc
    exact old z.2 (az hz7) (by rw [← Option.some.inj hc]; exact own _ _ h1)
  · rw [x7 hx7, z5 hz5]; simp
  · obtain ⟨q, h1, h2⟩ := z6 hz6
    rw [h2, x7 hx7]
    intro hc
    exact old x.2 (ax hx7) (by rw [Option.some.inj hc]; exact own _ _ h1)
  · rw [x7 hx7, z7 hz7]
    intro hc
    have := hE.1.2 x.2 z.2 (by rw [len]; have := ax hx7; omega) (by rw [len]; have := az hz7; omega) (Option.some.inj hc)
    exact hne (Prod.ext (hx7.trans hz7.symm) this)
theorem ah_acmp {eq : Bool} {t : Nat} (C : ak_C ι y b rt M d p l e R s m args below meth c) (hrow : ∀ (H : Heap) (locs : List Loc) (nc ns : Nat) (Q : State → Prop) (ls : Array Slot) (st : List Value) (rx ry : Option Nat), (rx = ry → W p l e R s m args below meth c H locs nc ns Q (F0 m (if eq = true then t else pc + 3) ls st)) → (¬ rx = ry → W p l e R s m args below meth c H locs nc ns Q (F0 m (if eq = true then pc + 3 else t) ls st)) → W p l e R s m args below meth c H locs nc ns Q (F0 m pc ls (va_rf ry :: va_rf rx :: st))) (hs : ak_Snd ι M (p, l, e, R, s, m, args, below, meth, c) (pc + 3) sq) (hj : ∀ t, ak_Snd ι M (p, l, e, R, s, m, args, below, meth, c) t (jm t)) : ak_Snd ι M (p, l, e, R, s, m, args, below, meth, c) pc (ai_acmp eq t sq jm κ) := by
  intro loc stk w outs h Q hQ ws ls st H locs hM
  cases stk with
  | nil => exact absurd h (by simp [ai_acmp])
  | cons z stk =>
    cases stk with
    | nil => exact absurd h (by simp [ai_acmp])
    | cons x stk =>
      simp only [ai_acmp, ak_if, ak_and, ai_in_iff, ai_eqV_iff] at h
      split at h
      · rename_i hxz
        obtain ⟨Z, st, rfl, hz, hst⟩ := ak_s_cons hM.2.2.2.2.2.1
        obtain ⟨X, st, rfl, hx, hst2⟩ := ak_s_cons hst
        obtain ⟨rx, rfl, x5, x6, x7⟩ := ak_v_rf hx hxz.1.1
        obtain ⟨rz, rfl, z5, z6, z7⟩ := ak_v_rf hz hxz.2.1
        split at h
        · rename_i hxz2
          subst hxz2
          have er : rx = rz := by
            rcases (show x.1 = 5 ∨ x.1 = 6 ∨ x.1 = 7 by omega) with h5 | h6 | h7
            · rw [x5 h5, z5 h5]
            · obtain ⟨q, a1, a2⟩ := x6 h6
              obtain ⟨q', a3, a4⟩ := z6 h6
              rw [a2, a4]
              exact a1.symm.trans a3
            · rw [x7 h7, z7 h7]
          refine hrow _ _ _ _ _ _ _ rx rz (fun _ => ?_) (fun hc => absurd er hc)
          cases eq with
          | true => exact hj t _ _ _ _ h Q hQ ws ls _ H locs (hM.restk hst2)
          | false => exact hs _ _ _ _ h Q hQ ws ls _ H locs (hM.restk hst2)
        · rename_i hne
          split at h
          · rename_i hacm
            have er := ak_ne C.2.2.1.2.1 hM.2.1.1 hacm.1 hacm.2 hne hxz.1 hxz.2 x5 x6 x7 z5 z6 z7
            refine hrow _ _ _ _ _ _ _ rx rz (fun hc => absurd hc er) (fun _ => ?_)
            cases eq with
            | true => exact hs _ _ _ _ h Q hQ ws ls _ H locs (hM.restk hst2)
            | false => exact hj t _ _ _ _ h Q hQ ws ls _ H locs (hM.restk hst2)
          · exact absurd h (by simp)
      · exact absurd h (by simp)
theorem ah_acmp_eq {off : Int} {t : Nat} (C : ak_C ι y b rt M d p l e R s m args below meth c) (ht : (pc : Int) + off = (t : Int)) (hd : decode b pc = .ok (.if_acmp .eq off, 3)) (hs : ak_Snd ι M (p, l, e, R, s, m, args, below, meth, c) (pc + 3) sq) (hj : ∀ t, ak_Snd ι M (p, l, e, R, s, m, args, below, meth, c) t (jm t)) : ak_Snd ι M (p, l, e, R, s, m, args, below, meth, c) pc (ai_acmp true t sq jm κ) :=
  ah_acmp C (fun _ _ _ _ _ _ _ _ _ kt kf => lv_acmp_eq C.1.1 C.1.2.1 hd ht kt kf) hs hj
theorem ah_acmp_ne {off : Int} {t : Nat} (C : ak_C ι y b rt M d p l e R s m args below meth c) (ht : (pc : Int) + off = (t : Int)) (hd : decode b pc = .ok (.if_acmp .ne off, 3)) (hs : ak_Snd ι M (p, l, e, R, s, m, args, below, meth, c) (pc + 3) sq) (hj : ∀ t, ak_Snd ι M (p, l, e, R, s, m, args, below, meth, c) t (jm t)) : ak_Snd ι M (p, l, e, R, s, m, args, below, meth, c) pc (ai_acmp false t sq jm κ) :=
  ah_acmp C (fun _ _ _ _ _ _ _ _ _ kt kf => lv_acmp_ne C.1.1 C.1.2.1 hd ht kf kt) hs hj
theorem ai_tgt_some {pc t : Nat} {off : Int} (h : ai_tgt pc off = some t) : (pc : Int) + off = (t : Int) := by
  unfold ai_tgt at h
  split at h
  · rename_i x hx
    cases h
    exact hx
  · cases h
theorem ai_tgts_some {pc : Nat} {l : List Int} : ∀ {ts : List Nat}, ai_tgts pc l = some ts → ts.length = l.length ∧ ∀ (i t : Nat), ts[i]? = some t → ∃ o : Int, l[i]? = some o ∧ (pc : Int) + o = (t : Int) := by
  induction l with
  | nil =>
    intro ts h
    cases h
    exact ⟨rfl, fun i t h => by simp at h⟩
  | cons o l ih =>
    intro ts h
    have h1 : ai_tgts pc (o :: l) = (@Option.rec Nat (fun _ => Option (List Nat)) none (fun t => @Option.rec (List Nat) (fun _ => Option (List Nat)) none (fun ts => some (t :: ts)) (ai_tgts pc l)) (ai_tgt pc o)) := rfl
    rw [h1] at h
    cases ht : ai_tgt pc o with
    | none => rw [ht] at h; cases h
    | some t =>
      rw [ht] at h
      cases hl : ai_tgts pc l with
      | none => rw [hl] at h; cases h
      | some ts' =>
        rw [hl] at h
        cases h
        obtain ⟨a1, a2⟩ := ih hl
        refine ⟨by simp [a1], fun i u hi => ?_⟩
        cases i with
        | zero =>
          cases hi
          exact ⟨o, rfl, ai_tgt_some ht⟩
        | succ i => exact a2 i u hi
theorem ai_casd_some {k df n : Nat} {hp : ai_H} {env : ai_E} {cs : Nat × Nat} {g : Nat → ai_W → ai_P} (he : ak_e ι env) {ts : List Nat} : ∀ {v i : Nat} {outs : List ai_O}, ai_casd k df (n, hp, env, cs) g ts v = some outs → ak_b (ι.2.2.2.2.1 k) = v + 2147483648 + i → ∃ (env' : ai_E) (outs' : List ai_O), g (ts.getD i df) (n, hp, env', cs) = some outs' ∧ (∀ z ∈ outs', z ∈ outs) ∧ ak_e ι env' := by
  have hb := ak_b_lt (ι.2.2.2.2.1 k)
  induction ts with
  | nil =>
    intro v i outs h hv
    have h1 : ai_casd k df (n, hp, env, cs) g [] v = ai_nar k (Nat.add v 2147483648) 4294967295 (n, hp, env, cs) (g df) := rfl
    rw [h1] at h
    obtain ⟨e1, a1, a2⟩ := ai_nar_some he h (by show v + 2147483648 ≤ _; omega) (by omega)
    exact ⟨e1, outs, by rw [List.getD_nil]; exact a1, fun _ h => h, a2⟩
  | cons t ts ih =>
    intro v i outs h hv
    have h1 : ai_casd k df (n, hp, env, cs) g (t :: ts) v = ai_two (ai_nar k (Nat.add v 2147483648) (Nat.add v 2147483648) (n, hp, env, cs) (g t)) (ai_casd k df (n, hp, env, cs) g ts (Nat.succ v)) := rfl
    rw [h1] at h
    obtain ⟨x, y, hx, hy, rfl⟩ := ai_two_some h
    cases i with
    | zero =>
      obtain ⟨e1, a1, a2⟩ := ai_nar_some he hx (by show v + 2147483648 ≤ _; omega) (by show _ ≤ v + 2147483648; omega)
      exact ⟨e1, x, by rw [List.getD_cons_zero]; exact a1, fun z hz => List.mem_append_left _ hz, a2⟩
    | succ i =>
      obtain ⟨e1, o1, a1, a2, a3⟩ := ih hy (i := i) (by rw [hv]; omega)
      exact ⟨e1, o1, by rw [List.getD_cons_succ]; exact a1, fun z hz => List.mem_append_right _ (a2 z hz), a3⟩
theorem ah_tsw {df lo hi : Int} {offs : Array Int} {len lo' df' : Nat} {ts : List Nat} (C : ak_C ι y b rt M d p l e R s m args below meth c) (hlo : lo = (lo' : Int)) (hhi : hi = lo + offs.toList.length - 1) (hts : ai_tgts pc offs.toList = some ts) (hdf : (pc : Int) + df = (df' : Int)) (hd : decode b pc = .ok (.tableswitch df lo hi offs, len)) (hj : ∀ t, ak_Snd ι M (p, l, e, R, s, m, args, below, meth, c) t (jm t)) : ak_Snd ι M (p, l, e, R, s, m, args, below, meth, c) pc (ai_tsw df' lo' ts sq jm κ) := by
  obtain ⟨tl, tt⟩ := ai_tgts_some hts
  /- where the switch goes -/
  have row : ∀ (H : Heap) (locs : List Loc) (nc ns : Nat) (Q : State → Prop) (ls : Array Slot) (st : List Value) (X : Int32), W p l e R s m args below meth c H locs nc ns Q (F0 m (if X.toInt < lo' then df' else ts.getD (X.toInt - lo').toNat df') ls st) → W p l e R s m args below meth c H locs nc ns Q (F0 m pc ls (.int X :: st)) := by
    intro H locs nc ns Q ls st X k
    by_cases h1 : X.toInt < lo'
    · rw [if_pos h1] at k
      exact lv_tableOut C.1.1 C.1.2.1 hd (Or.inl (by omega)) hdf k
    · rw [if_neg h1] at k
      cases ht : ts[(X.toInt - lo').toNat]? with
      | none =>
        have hlen := List.getElem?_eq_none_iff.mp ht
        rw [List.getD_eq_getElem?_getD, ht] at k
        exact lv_tableOut C.1.1 C.1.2.1 hd (Or.inr (by omega)) hdf k
      | some t =>
        have hlen := (List.getElem?_eq_some_iff.mp ht).1
        rw [List.getD_eq_getElem?_getD, ht] at k
        obtain ⟨off, o1, o2⟩ := tt _ _ ht
        exact lv_tableIn C.1.1 C.1.2.1 hd (by omega) (by omega) (by rw [← Array.getElem?_toList, hlo]; exact o1) o2 k
  intro loc stk w outs h Q hQ ws ls st H locs hM
  obtain ⟨n, hp, env, cs⟩ := w
  have he : ak_e ι env := hM.2.2.2.2.2.2
  cases stk with
  | nil => exact absurd h (by simp [ai_tsw])
  | cons x' stk =>
    simp only [ai_tsw] at h
    obtain ⟨u, hu, huv, -, -⟩ := ai_res_eq ι env he x' (fun x => @Bool.rec (fun _ => ai_P) (@Bool.rec (fun _ => ai_P) none (ai_two (ai_nar x.2 0 (Nat.add lo' 2147483647) (n, hp, env, cs) (jm df' loc stk)) (ai_casd x.2 df' (n, hp, env, cs) (fun t => jm t loc stk) ts lo')) (Nat.beq x.1 1)) (@Bool.rec (fun _ => ai_P) none (@Bool.rec (fun _ => ai_P) (jm df' loc stk (n, hp, env, cs)) (ai_nth ts (jm df' loc stk (n, hp, env, cs)) (fun t => jm t loc stk (n, hp, env, cs)) (Nat.sub x.2 lo')) (Nat.ble lo' x.2)) (Nat.ble x.2 2147483647)) (Nat.beq x.1 0))
    have h := hu.symm.trans h
    obtain ⟨X, st, rfl, hx, hst⟩ := ak_s_cons hM.2.2.2.2.2.1
    have hx := huv _ _ hx
    simp only [ak_if, Nat.beq_eq, Nat.ble_eq, ai_nth_eq] at h
    split at h
    · rename_i h0
      obtain ⟨X, rfl, hX, -⟩ := ak_v_int hx (by omega)
      have hX := hX h0
      refine row _ _ _ _ _ _ _ X ?_
      split at h
      · rename_i hsm
        have eX : X.toInt = (u.2 : Int) := by rw [hX]; exact nI_toInt (by omega)
        rw [eX]
        split at h
        · rename_i hge
          rw [if_neg (by omega), List.getD_eq_getElem?_getD, show ((u.2 : Int) - lo').toNat = Nat.sub u.2 lo' by show _ = u.2 - lo'; omega]
          cases ht : ts[Nat.sub u.2 lo']? with
          | none => rw [ht] at h; exact hj df' _ _ _ _ h Q hQ ws ls _ H locs (hM.restk hst)
          | some t => rw [ht] at h; exact hj t _ _ _ _ h Q hQ ws ls _ H locs (hM.restk hst)
        · rw [if_pos (by omega)]
          exact hj df' _ _ _ _ h Q hQ ws ls _ H locs (hM.restk hst)
      · exact absurd h (by simp)
    · split at h
      · rename_i h1
        obtain ⟨X, rfl, -, hX⟩ := ak_v_int hx (by omega)
        have hX := hX h1
        have hbX := ak_b_int X
        rw [hX] at hbX
        refine row _ _ _ _ _ _ _ X ?_
        obtain ⟨o1, o2, a1, a2, rfl⟩ := ai_two_some h
        by_cases hlt : X.toInt < lo'
        · rw [if_pos hlt]
          rw [hX] at hlt
          obtain ⟨e1, b1, b2⟩ := ai_nar_some he a1 (Nat.zero_le _) (by show _ ≤ lo' + 2147483647; omega)
          exact hj df' _ _ _ _ b1 Q (fun z hz => hQ z (List.mem_append_left _ hz)) ws ls _ H locs ((hM.restk hst).reenv b2)
        · rw [if_neg hlt]
          rw [hX] at hlt
          obtain ⟨e1, o3, b1, b2, b3⟩ := ai_casd_some he a2 (i := (X.toInt - lo').toNat) (by rw [hX]; omega)
          exact hj _ _ _ _ _ b1 Q (fun z hz => hQ z (List.mem_append_right _ (b2 z hz))) ws ls _ H locs ((hM.restk hst).reenv b3)
      · exact absurd h (by simp)
end JUMP
end
section
/-! ===== cells of the small machine ===== -/
theorem ak_map_set {ws : va_W} {k a : Nat} {e0 e : va_E} (hk : ws[k]? = some (a, e0)) : (ws.set k (a, e)).map Prod.fst = ws.map Prod.fst := by
  apply List.ext_getElem?
  intro i
  rw [List.getElem?_map, List.getElem?_map]
  by_cases h : i = k
  · subst h
    rw [List.getElem?_set_self ((List.getElem?_eq_some_iff.mp hk).1), hk]
    rfl
  · rw [List.getElem?_set_ne (Ne.symm h)]
theorem ak_map_app {ws : va_W} {a : Nat} {e : va_E} : (ws ++ [(a, e)]).map Prod.fst = ws.map Prod.fst ++ [a] := by rw [List.map_append]; rfl
/-- the cell that a reference names -/
theorem ai_cel_some {ι : ak_I} {w : ai_W} {ws : va_W} {o : ai_V} {f : ai_C → ai_P} {outs : List ai_O} (hh : ak_h ι w.1 w.2.1 ws) (h : ai_cel w o f = some outs) : o.1 = 6 ∧ o.2 < w.1 ∧ ∃ (c : ai_C) (a : Nat) (e : va_E), f c = some outs ∧ w.2.1[w.1 - (o.2 + 1)]? = some c ∧ ws[o.2]? = some (a, e) ∧ ak_c ι (ws.map Prod.fst) c e ∧ ∀ x, ak_v ι (ws.map Prod.fst) o x → x = .ref a := by
  simp only [ai_cel, ak_if, Nat.beq_eq, Nat.ble_eq, ai_nth_eq] at h
  split at h
  · rename_i h6
    split at h
    · rename_i hlt
      have hlt : o.2 < w.1 := hlt
      have e1 : Nat.sub w.1 (Nat.succ o.2) = w.1 - (o.2 + 1) := rfl
      rw [e1] at h
      cases hc : w.2.1[w.1 - (o.2 + 1)]? with
      | none => rw [hc] at h; exact absurd h (by simp)
      | some c =>
        rw [hc] at h
        obtain ⟨⟨a, e⟩, q1, q2⟩ := hh.2.2 o.2 c hlt hc
        refine ⟨h6, hlt, c, a, e, h, rfl, q1, q2, fun x hx => ?_⟩
        obtain ⟨q, z1, z2⟩ := ak_v_cell hx h6
        rw [List.getElem?_map, q1] at z1
        cases z1
        exact z2
    · exact absurd h (by simp)
  · exact absurd h (by simp)
/-- one cell is another one -/
theorem ak_h_upd {ι : ak_I} {n k a : Nat} {h h' : ai_H} {ws : va_W} {c' : ai_C} {e0 e' : va_E} (hh : ak_h ι n h ws) (hk : k < n) (hw : ws[k]? = some (a, e0)) (hl : h'.length = n) (hn : h'[n - (k + 1)]? = some c') (ho : ∀ j, j ≠ n - (k + 1) → h'[j]? = h[j]?) (hc : ak_c ι (ws.map Prod.fst) c' e') : ak_h ι n h' (ws.set k (a, e')) := by
  refine ⟨hl, by rw [List.length_set]; exact hh.2.1, fun j c hj hc2 => ?_⟩
  rw [ak_map_set hw]
  by_cases e : j = k
  · subst e
    rw [hn] at hc2
    cases hc2
    exact ⟨(a, e'), List.getElem?_set_self ((List.getElem?_eq_some_iff.mp hw).1), hc⟩
  · rw [ho _ (by omega)] at hc2
    obtain ⟨q, q1, q2⟩ := hh.2.2 j c hj hc2
    exact ⟨q, by rw [List.getElem?_set_ne (Ne.symm e)]; exact q1, q2⟩
/-- a cell more -/
theorem ak_h_new {ι : ak_I} {n a : Nat} {h : ai_H} {ws : va_W} {c : ai_C} {e : va_E} (hh : ak_h ι n h ws) (hc : ak_c ι (ws.map Prod.fst ++ [a]) c e) : ak_h ι (n + 1) (c :: h) (ws ++ [(a, e)]) := by
  obtain ⟨h1, h2, h3⟩ := hh
  refine ⟨by simp [h1], by simp [h2], fun j c2 hj hc2 => ?_⟩
  rw [ak_map_app]
  by_cases e1 : j = n
  · subst e1
    rw [show j + 1 - (j + 1) = 0 by omega] at hc2
    cases hc2
    refine ⟨(a, e), ?_, hc⟩
    rw [List.getElem?_append_right (by omega), h2, Nat.sub_self]
    rfl
  · rw [show n + 1 - (j + 1) = (n - (j + 1)) + 1 by omega, List.getElem?_cons_succ] at hc2
    obtain ⟨q, q1, q2⟩ := h3 j c2 (by omega) hc2
    exact ⟨q, by rw [List.getElem?_append_left (by omega)]; exact q1, ak_c_mono (List.prefix_append _ _) q2⟩
/-- how a state goes on when one cell is written: locals, stack and bounds stay -/
theorem ak_M.write {ι : ak_I} {s : State} {nL : Nat} {loc : ai_L} {stk stk' : List ai_V} {n k a : Nat} {h h' : ai_H} {w2 : ai_E × Nat × Nat} {ws : va_W} {ls : Array Slot} {st st' : List Value} {H H1 : Heap} {locs locs1 : List Loc} {e0 e' : va_E} (hM : ak_M ι s nL loc stk (n, h, w2) ws ls st H locs) (hw : ws[k]? = some (a, e0)) (hP : va_P ι.2.1 vwCl (ws.set k (a, e')) H1) (hD : va_D (ak_A ι) (ws.set k (a, e'))) (hS : va_S (ak_A ι) s.heap H1 locs1) (hh : ak_h ι n h' (ws.set k (a, e'))) (hs : ak_s ι (ws.map Prod.fst) stk' st') : ak_M ι s nL loc stk' (n, h', w2) (ws.set k (a, e')) ls st' H1 locs1 :=
  ⟨hP, ⟨hD, by rw [ak_map_set hw]; exact hM.2.1.2⟩, hS, hh, by rw [ak_map_set hw]; exact hM.2.2.2.2.1, by rw [ak_map_set hw]; exact hs, hM.2.2.2.2.2.2⟩
/-- .. and when a cell comes -/
theorem ak_M.more {ι : ak_I} {s : State} {nL : Nat} {loc : ai_L} {stk stk' : List ai_V} {n a nc ns nc' ns' : Nat} {h : ai_H} {env : ai_E} {ws : va_W} {ls : Array Slot} {st st' : List Value} {H H1 : Heap} {locs locs1 : List Loc} {e : va_E} {c : ai_C} (hM : ak_M ι s nL loc stk (n, h, env, nc, ns) ws ls st H locs) (hP : va_P ι.2.1 vwCl (ws ++ [(a, e)]) H1) (hD : va_D (ak_A ι) (ws ++ [(a, e)])) (hS : va_S (ak_A ι) s.heap H1 locs1) (hc : ak_c ι (ws.map Prod.fst ++ [a]) c e) (hs : ak_s ι (ws.map Prod.fst) stk' st') : ak_M ι s nL loc ((6, n) :: stk') (n + 1, c :: h, env, nc', ns') (ws ++ [(a, e)]) ls (.ref a :: st') H1 locs1 := by
  have hp : ws.map Prod.fst <+: (ws ++ [(a, e)]).map Prod.fst := by rw [ak_map_app]; exact List.prefix_append _ _
  refine ⟨hP, ⟨hD, hM.2.1.2.trans hp⟩, hS, ak_h_new hM.2.2.2.1 hc, ak_l_mono hp hM.2.2.2.2.1, ⟨?_, ak_s_mono hp hs⟩, hM.2.2.2.2.2.2⟩
  refine Or.inr (Or.inr (Or.inr (Or.inr (Or.inr (Or.inr (Or.inl ⟨rfl, a, ?_, rfl⟩))))))
  rw [ak_map_app, List.getElem?_append_right (by rw [List.length_map, hM.2.2.2.1.2.1]; exact Nat.le_refl _), List.length_map, hM.2.2.2.1.2.1]
  simp
/-- an object, by its kind -/
theorem ak_c_obj {ι : ak_I} {ads : List Nat} {c : ai_C} {e : va_E} (h : ak_c ι ads c e) (h0 : c.1 = 0) : ∃ fs : List Value, e = .inr (c.2.1, fs) ∧ fs.length = ak_n c.2.1 ∧ ∀ j, j < ak_n c.2.1 → ak_v ι ads (ak_rd c j) (vp_V fs j) := by
  rcases h with h | ⟨h1, h2⟩
  · omega
  · have hz : ak_sz c = ak_n c.2.1 := by unfold ak_sz; rw [if_pos h0]
    rw [hz] at h2
    rcases h1 with ⟨-, fs, rfl, h4⟩ | ⟨h, -⟩ | ⟨h, -⟩ | ⟨h, -⟩ | ⟨h, -⟩ | ⟨h, -⟩ | ⟨h, -⟩
    · exact ⟨fs, rfl, h4, h2⟩
    all_goals omega
/-- an array of ints, bytes, booleans -/
theorem ak_c_ints {ι : ak_I} {ads : List Nat} {c : ai_C} {e : va_E} (h : ak_c ι ads c e) (h0 : 1 ≤ c.1 ∧ c.1 ≤ 3) : ∃ f : Nat → Int32, e = .inl (ι.2.2.1 c.1, c.2.1, .inl f) ∧ (c.1 = 2 → ∀ j, j < c.2.1 → fits .byte (.int (f j)) = true) ∧ ∀ j, j < c.2.1 → ak_v ι ads (ak_rd c j) (.int (f j)) := by
  rcases h with h | ⟨h1, h2⟩
  · omega
  · have hz : ak_sz c = c.2.1 := by unfold ak_sz; rw [if_neg (by omega)]
    rw [hz] at h2
    rcases h1 with ⟨h, -⟩ | ⟨h, f, rfl⟩ | ⟨h, f, rfl, hf⟩ | ⟨h, f, rfl⟩ | ⟨h, -⟩ | ⟨h, -⟩ | ⟨h, -⟩
    · omega
    · exact ⟨f, by rw [h], fun h => by omega, h2⟩
    · exact ⟨f, by rw [h], fun _ => hf, h2⟩
    · exact ⟨f, by rw [h], fun h => by omega, h2⟩
    all_goals omega
theorem ak_c_longs {ι : ak_I} {ads : List Nat} {c : ai_C} {e : va_E} (h : ak_c ι ads c e) (h0 : c.1 = 4) : ∃ f : Nat → Int64, e = .inl (ι.2.2.1 4, c.2.1, .inr (.inl f)) ∧ ∀ j, j < c.2.1 → ak_v ι ads (ak_rd c j) (.long (f j)) := by
  rcases h with h | ⟨h1, h2⟩
  · omega
  · have hz : ak_sz c = c.2.1 := by unfold ak_sz; rw [if_neg (by omega)]
    rw [hz] at h2
    rcases h1 with ⟨h, -⟩ | ⟨h, -⟩ | ⟨h, -⟩ | ⟨h, -⟩ | ⟨h, f, rfl⟩ | ⟨h, -⟩ | ⟨h, -⟩
    all_goals first | omega | exact ⟨f, rfl, h2⟩
theorem ak_c_refs {ι : ak_I} {ads : List Nat} {c : ai_C} {e : va_E} (h : ak_c ι ads c e) (h0 : c.1 = 5 ∨ c.1 = 6) : ∃ f : Nat → Option Nat, e = .inl (ι.2.2.1 c.1, c.2.1, .inr (.inr (.inr (.inr f)))) ∧ ∀ j, j < c.2.1 → ak_v ι ads (ak_rd c j) (va_rf (f j)) := by
  rcases h with h | ⟨h1, h2⟩
  · omega
  · have hz : ak_sz c = c.2.1 := by unfold ak_sz; rw [if_neg (by omega)]
    rw [hz] at h2
    rcases h1 with ⟨h, -⟩ | ⟨h, -⟩ | ⟨h, -⟩ | ⟨h, -⟩ | ⟨h, -⟩ | ⟨h, f, rfl⟩ | ⟨h, f, rfl⟩
    all_goals first | omega | exact ⟨f, by rw [h], h2⟩
/-! .. and made -/
theorem ak_obj_c {ι : ak_I} {ads : List Nat} {c : ai_C} {fs : List Value} (h0 : c.1 = 0) (hl : fs.length = ak_n c.2.1) (h : ∀ j, j < ak_n c.2.1 → ak_v ι ads (ak_rd c j) (vp_V fs j)) : ak_c ι ads c (.inr (c.2.1, fs)) :=
  Or.inr ⟨Or.inl ⟨h0, fs, rfl, hl⟩, by unfold ak_sz; rw [if_pos h0]; exact h⟩
theorem ak_ints_c {ι : ak_I} {ads : List Nat} {c : ai_C} {f : Nat → Int32} (h0 : 1 ≤ c.1 ∧ c.1 ≤ 3) (hf : c.1 = 2 → ∀ j, j < c.2.1 → fits .byte (.int (f j)) = true) (h : ∀ j, j < c.2.1 → ak_v ι ads (ak_rd c j) (.int (f j))) : ak_c ι ads c (.inl (ι.2.2.1 c.1, c.2.1, .inl f)) := by
  refine Or.inr ⟨?_, by unfold ak_sz; rw [if_neg (by omega)]; exact h⟩
  rcases (show c.1 = 1 ∨ c.1 = 2 ∨ c.1 = 3 by omega) with e | e | e
  · exact Or.inr (Or.inl ⟨e, f, by rw [e]⟩)
  · exact Or.inr (Or.inr (Or.inl ⟨e, f, by rw [e], hf e⟩))
  · exact Or.inr (Or.inr (Or.inr (Or.inl ⟨e, f, by rw [e]⟩)))
theorem ak_longs_c {ι : ak_I} {ads : List Nat} {c : ai_C} {f : Nat → Int64} (h0 : c.1 = 4) (h : ∀ j, j < c.2.1 → ak_v ι ads (ak_rd c j) (.long (f j))) : ak_c ι ads c (.inl (ι.2.2.1 4, c.2.1, .inr (.inl f))) :=
  Or.inr ⟨Or.inr (Or.inr (Or.inr (Or.inr (Or.inl ⟨h0, f, rfl⟩)))), by unfold ak_sz; rw [if_neg (by omega)]; exact h⟩
theorem ak_refs_c {ι : ak_I} {ads : List Nat} {c : ai_C} {f : Nat → Option Nat} (h0 : c.1 = 5 ∨ c.1 = 6) (h : ∀ j, j < c.2.1 → ak_v ι ads (ak_rd c j) (va_rf (f j))) : ak_c ι ads c (.inl (ι.2.2.1 c.1, c.2.1, .inr (.inr (.inr (.inr f))))) := by
  refine Or.inr ⟨?_, by unfold ak_sz; rw [if_neg (by omega)]; exact h⟩
  rcases h0 with e | e
  · exact Or.inr (Or.inr (Or.inr (Or.inr (Or.inr (Or.inl ⟨e, f, by rw [e]⟩)))))
  · exact Or.inr (Or.inr (Or.inr (Or.inr (Or.inr (Or.inr ⟨e, f, by rw [e]⟩)))))
/-- what is written into a cell: either nothing is to do, or the cell is changed there alone -/
theorem ai_wrh_some {ι : ak_I} {n k a : Nat} {h : ai_H} {w2 : ai_E × Nat × Nat} {ws : va_W} {o : ai_V} {c : ai_C} {e0 : va_E} {j : Nat} {v : ai_V} {g : ai_W → ai_P} {outs : List ai_O} (hh : ak_h ι n h ws) (ho : o.2 = k) (hk : k < n) (hc : h[n - (k + 1)]? = some c) (hw : ws[k]? = some (a, e0)) (hr : ai_wr c j v (g (n, h, w2)) (fun c => ai_chg o c (n, h, w2) g) = some outs) :
    ∃ (h' : ai_H) (c' : ai_C), g (n, h', w2) = some outs ∧ c'.1 = c.1 ∧ c'.2.1 = c.2.1 ∧ (∀ i, ak_rd c' i = if i = j then v else ak_rd c i) ∧ ∀ e', ak_c ι (ws.map Prod.fst) c' e' → ak_h ι n h' (ws.set k (a, e')) := by
  subst ho
  rcases ai_wr_eq c j v (g (n, h, w2)) (fun c => ai_chg o c (n, h, w2) g) with ⟨h1, h2⟩ | ⟨c', h1, h2, h3, h4⟩
  · rw [h1] at hr
    refine ⟨h, c, hr, rfl, rfl, fun i => ?_, fun e' he' => ak_h_upd hh hk hw hh.1 hc (fun _ _ => rfl) he'⟩
    by_cases e : i = j
    · rw [if_pos e, e, h2]
    · rw [if_neg e]
  · rw [h1] at hr
    have hg : ai_chg o c' (n, h, w2) g = ai_set c' none h (n - (o.2 + 1)) (fun h => g (n, h, w2)) := rfl
    have hlt : n - (o.2 + 1) < h.length := (List.getElem?_eq_some_iff.mp hc).1
    rw [hg, ai_set_eq, if_pos hlt] at hr
    refine ⟨_, c', hr, h2, h3, h4, fun e' he' => ak_h_upd hh hk hw (by rw [List.length_set]; exact hh.1) (List.getElem?_set_self hlt) (fun i hi => List.getElem?_set_ne (Ne.symm hi)) he'⟩
end
section
/-! ===== instructions over cells ===== -/
section CELLS
variable {ι : ak_I} {y : MethodName} {b : ByteArray} {rt : Option FieldType} {M : ai_M} {d : Nat} {p : Program} {l : Launch} {e : Env} {R : Room} {s : State} {m : MethodId} {args : Array Value} {below : List Frame} {meth : Method} {c : Code} {pc : Nat} {sq : ai_Q} {jm : Nat → ai_Q} {κ : ai_K}
theorem ak_n_of {ci : Nat} {q : vw_C} (h : vwCl[ci]? = some q) : ak_n ci = q.2.2 := by unfold ak_n; rw [h]; rfl
theorem vp_V_get {fs : List Value} {k : Nat} (h : k < fs.length) : fs[k]? = some (vp_V fs k) := by
  unfold vp_V
  rw [List.getD_eq_getElem?_getD, List.getElem?_eq_getElem h]
  rfl
theorem vp_V_set {fs : List Value} {k j : Nat} {v : Value} (h : k < fs.length) : vp_V (fs.set k v) j = if j = k then v else vp_V fs j := by
  unfold vp_V
  rw [List.getD_eq_getElem?_getD, List.getD_eq_getElem?_getD]
  by_cases e : j = k
  · subst e
    rw [List.getElem?_set_self h, if_pos rfl]
    rfl
  · rw [List.getElem?_set_ne (Ne.symm e), if_neg e]
theorem ah_get {k ci idx : Nat} {q : vw_C} (C : ak_C ι y b rt M d p l e R s m args below meth c) (hq : vwCl[ci]? = some q) (hk : k < q.2.2) (hlink : Cond.fieldLink y.cls idx (q.2.1 k).1 (q.2.1 k).2.1 (q.2.1 k).2.2.1 ∈ ak_W ∨ ∃ host, Cond.fieldLinkNest y.cls idx (q.2.1 k).1 (q.2.1 k).2.1 (q.2.1 k).2.2.1 host ∈ lw_tbl) (hd : decode b pc = .ok (.getfield idx, 3)) (hs : ak_Snd ι M (p, l, e, R, s, m, args, below, meth, c) (pc + 3) sq) : ak_Snd ι M (p, l, e, R, s, m, args, below, meth, c) pc (ai_get k ci sq jm κ) := by
  intro loc stk w outs h Q hQ ws ls st H locs hM
  cases stk with
  | nil => exact absurd h (by simp [ai_get])
  | cons o stk =>
    simp only [ai_get] at h
    obtain ⟨h6, hlt, cl, a, el, hf, hc, hw, hcc, href⟩ := ai_cel_some hM.2.2.2.1 h
    simp only [ak_if, ak_and, Nat.beq_eq, ai_rd_eq] at hf
    split at hf
    · rename_i h0
      obtain ⟨X, st, rfl, hx, hst⟩ := ak_s_cons hM.2.2.2.2.2.1
      obtain rfl := href _ hx
      obtain ⟨fs, rfl, hl, hv⟩ := ak_c_obj hcc h0.1
      rw [h0.2] at hw hl hv
      rw [ak_n_of hq] at hl hv
      have kk := hs _ _ _ _ hf Q hQ ws ls (vp_V fs k :: st) H locs (hM.restk ⟨hv k hk, hst⟩)
      obtain ⟨Cn, T, N⟩ := q
      have hcl := ak_cls _ (List.mem_of_getElem? hq)
      rcases hlink with hlk | ⟨host, hlk⟩
      · exact va_get C.1.1 C.1.2.1 C.2.1.2.1 hcl.1 C.2.1.1 C.2.2.1.1 hM.1 o.2 hw hq k hk (C.2.1.2.1 _ hlk) (fun _ h => h) (vp_V_get (by rw [hl]; exact hk)) hd kk
      · exact va_getN C.1.1 C.1.2.1 C.2.1.2.1 hcl.1 C.2.1.1 C.2.2.1.1 hM.1 o.2 hw hq k hk (va_Nw.use rfl (C.2.2.1.2.2.2.1 _ _ _ _ _ _ hlk)) (fun _ h => h) (vp_V_get (by rw [hl]; exact hk)) hd kk
    · exact absurd hf (by simp)
/-- a field's type by its number -/
def ak_ty (tc : Nat) (ty : FieldType) : Prop := (tc = 0 ∧ ty = .int) ∨ (tc = 1 ∧ ty = .boolean) ∨ (tc = 2 ∧ ((∃ C, ty = .object C) ∨ ∃ t, ty = .array t)) ∨ (tc = 3 ∧ ty = .long)
theorem ak_fit_ok {tc : Nat} {ty : FieldType} (h : ak_ty tc ty) {ads : List Nat} {v : ai_V} {x : Value} (hf : ai_fit tc v = true) (hv : ak_v ι ads v x) : narrow ty x = x ∧ fits ty x = true := by
  rcases h with ⟨rfl, rfl⟩ | ⟨rfl, rfl⟩ | ⟨rfl, ht⟩ | ⟨rfl, rfl⟩
  · have hf : ai_in 0 2 v = true := hf
    rw [ai_in_iff] at hf
    obtain ⟨z, rfl, -, -⟩ := ak_v_int hv hf.2
    exact ⟨rfl, rfl⟩
  · have e1 : ai_fit 1 v = @Bool.rec (fun _ => Bool) false (Nat.ble v.2 1) (Nat.beq v.1 0) := rfl
    rw [e1, ak_if, ak_and, Nat.beq_eq, Nat.ble_eq] at hf
    obtain ⟨z, rfl, hz, -⟩ := ak_v_int hv (by omega)
    rw [hz hf.1]
    rcases (show v.2 = 0 ∨ v.2 = 1 by omega) with e | e <;> rw [e] <;> decide +kernel
  · have hf : ai_in 5 7 v = true := hf
    rw [ai_in_iff] at hf
    rcases ak_v_ref hv hf.1 with ⟨rfl, -⟩ | ⟨⟨q, rfl⟩, -⟩ <;> rcases ht with ⟨C, rfl⟩ | ⟨t, rfl⟩ <;> exact ⟨rfl, rfl⟩
  · have hf : ai_in 3 4 v = true := hf
    rw [ai_in_iff] at hf
    obtain ⟨z, rfl, -⟩ := ak_v_long hv hf.1 hf.2
    exact ⟨rfl, rfl⟩
theorem ah_putf {k ci idx tc : Nat} {q : vw_C} {ty : FieldType} (C : ak_C ι y b rt M d p l e R s m args below meth c) (hq : vwCl[ci]? = some q) (hk : k < q.2.2) (hpd : parseFieldDescriptor (q.2.1 k).2.2.1 = some ty) (hty : ak_ty tc ty) (hlink : (Cond.fieldLink y.cls idx (q.2.1 k).1 (q.2.1 k).2.1 (q.2.1 k).2.2.1 ∈ ak_W ∧ (q.2.1 k).2.2.2 = false) ∨ (∃ host, Cond.fieldLinkNest y.cls idx (q.2.1 k).1 (q.2.1 k).2.1 (q.2.1 k).2.2.1 host ∈ lw_tbl ∧ (q.2.1 k).2.2.2 = false) ∨ (Cond.fieldLink y.cls idx (q.2.1 k).1 (q.2.1 k).2.1 (q.2.1 k).2.2.1 ∈ ak_W ∧ (q.2.1 k).2.2.2 = true ∧ y.name = "<init>" ∧ (q.2.1 k).1 = y.cls)) (hd : decode b pc = .ok (.putfield idx, 3)) (hs : ak_Snd ι M (p, l, e, R, s, m, args, below, meth, c) (pc + 3) sq) : ak_Snd ι M (p, l, e, R, s, m, args, below, meth, c) pc (ai_putf k ci tc sq jm κ) := by
  intro loc stk w outs h Q hQ ws ls st H locs hM
  obtain ⟨n, hp, w2⟩ := w
  cases stk with
  | nil => exact absurd h (by simp [ai_putf])
  | cons v stk =>
    cases stk with
    | nil => exact absurd h (by simp [ai_putf])
    | cons o stk =>
      simp only [ai_putf, ak_if] at h
      split at h
      · rename_i hfit
        obtain ⟨h6, hlt, cl, a, el, hf, hc, hw, hcc, href⟩ := ai_cel_some (w := (n, hp, w2)) hM.2.2.2.1 h
        simp only [ak_and, Nat.beq_eq] at hf
        split at hf
        · rename_i h0
          obtain ⟨V, st, rfl, hvv, hst⟩ := ak_s_cons hM.2.2.2.2.2.1
          obtain ⟨X, st, rfl, hx, hst2⟩ := ak_s_cons hst
          obtain rfl := href _ hx
          obtain ⟨fs, rfl, hl, hv⟩ := ak_c_obj hcc h0.1
          obtain ⟨hp', c', hg, e1, e2, hrd, hh'⟩ := ai_wrh_some (g := sq loc stk) hM.2.2.2.1 rfl hlt hc hw hf
          have hcl := ak_cls _ (List.mem_of_getElem? hq)
          have hn : ak_n cl.2.1 = q.2.2 := by rw [h0.2]; exact ak_n_of hq
          have hkl : k < fs.length := by rw [hl, hn]; exact hk
          have hcc' : ak_c ι (ws.map Prod.fst) c' (.inr (cl.2.1, fs.set k V)) := by
            rw [← e2]
            refine ak_obj_c (e1.trans h0.1) (by rw [List.length_set, hl, e2]) (fun j hj => ?_)
            rw [hrd, vp_V_set hkl]
            by_cases ej : j = k
            · rw [if_pos ej, if_pos ej]; exact hvv
            · rw [if_neg ej, if_neg ej]; exact hv j (by rw [← e2]; exact hj)
          have kk : ∀ (H1 : Heap) (locs1 : List Loc), va_P ι.2.1 vwCl (ws.set o.2 (a, .inr (cl.2.1, fs.set k V))) H1 → va_D (ak_A ι) (ws.set o.2 (a, .inr (cl.2.1, fs.set k V))) → va_S (ak_A ι) s.heap H1 locs1 → W p l e R s m args below meth c H1 locs1 w2.2.1 w2.2.2 Q (F0 m (pc + 3) ls st) :=
            fun H1 locs1 a1 a2 a3 => hs _ _ _ _ hg Q hQ _ ls _ H1 locs1 (hM.write hw a1 a2 a3 (hh' _ hcc') hst2)
          obtain ⟨nw, ft⟩ := ak_fit_ok hty hfit hvv
          rw [h0.2] at hw kk
          obtain ⟨Cn, T, N⟩ := q
          obtain ⟨ty0, hty0⟩ := hcl.2.1
          rcases hlink with ⟨hlk, hfi⟩ | ⟨host, hlk, hfi⟩ | ⟨hlk, hfi, hnm, hdc⟩
          · exact va_put C.1.1 C.1.2.1 C.2.1.2.1 hcl.1 ty0 hty0 hcl.2.2.1 C.2.1.1 C.2.2.1.1 hM.1 hM.2.1.1 hM.2.2.1 o.2 hw hq k hk (C.2.1.2.1 _ hlk) (fun _ h => h) hfi hpd nw ft hkl hd kk
          · exact va_putN C.1.1 C.1.2.1 C.2.1.2.1 hcl.1 ty0 hty0 hcl.2.2.1 C.2.1.1 C.2.2.1.1 hM.1 hM.2.1.1 hM.2.2.1 o.2 hw hq k hk (va_Nw.use rfl (C.2.2.1.2.2.2.1 _ _ _ _ _ _ hlk)) (fun _ h => h) hfi hpd nw ft hkl hd kk
          · exact va_putF C.1.1 C.1.2.1 C.2.1.2.1 hcl.1 ty0 hty0 hcl.2.2.1 C.2.1.1 C.2.2.1.1 hM.1 hM.2.1.1 hM.2.2.1 o.2 hw hq k hk (C.2.1.2.1 _ hlk) (fun _ h => h) hfi (C.2.1.2.2.2.trans hnm) hdc hpd nw ft hkl hd kk
        · exact absurd hf (by simp)
      · exact absurd h (by simp)
/-- a cell is made -/
theorem ai_alloc_some {sz n nc ns : Nat} {cl : ai_C} {loc : ai_L} {st : List ai_V} {hp : ai_H} {env : ai_E} {outs : List ai_O} (hκ : κ.2.2.1 = M) (h : ai_alloc sz cl sq jm κ loc st (n, hp, env, nc, ns) = some outs) : nc + 1 ≤ M.2.2.1 ∧ ns + sz ≤ M.2.2.2 ∧ sq loc ((6, n) :: st) (n + 1, cl :: hp, env, nc + 1, ns + sz) = some outs := by
  simp only [ai_alloc, ai_nt_eq, ak_if, ak_and, Nat.ble_eq, hκ] at h
  split at h
  · rename_i hh
    exact ⟨hh.1, hh.2, h⟩
  · exact absurd h (by simp)
theorem ah_new {ci idx N : Nat} {q : vw_C} (C : ak_C ι y b rt M d p l e R s m args below meth c) (hκ : κ.2.2.1 = M) (hq : vwCl[ci]? = some q) (hN : N = q.2.2) (hini : ∀ j, j < q.2.2 → ∃ ty, parseFieldDescriptor (q.2.1 j).2.2.1 = some ty ∧ ∀ ads, ak_v ι ads (ak_rd (0, ci, (5, 0), ai_ini ci) j) (defaultValue ty)) (hcl : Cond.classLink y.cls idx q.1 ∈ ak_W) (hd : decode b pc = .ok (.new idx, 3)) (hs : ak_Snd ι M (p, l, e, R, s, m, args, below, meth, c) (pc + 3) sq) : ak_Snd ι M (p, l, e, R, s, m, args, below, meth, c) pc (ai_alloc N (0, ci, (5, 0), ai_ini ci) sq jm κ) := by
  subst hN
  intro loc stk w outs h Q hQ ws ls st H locs hM
  obtain ⟨n, hp, env, nc, ns⟩ := w
  obtain ⟨r1, r2, hk⟩ := ai_alloc_some hκ h
  have hc := ak_cls _ (List.mem_of_getElem? hq)
  have hn : ak_n ci = q.2.2 := ak_n_of hq
  obtain ⟨ty0, hty0⟩ := hc.2.1
  have hA : ∀ z, s.heap.size ≤ z → ak_A ι z := fun z hz => Nat.le_trans C.2.2.1.2.2.1 hz
  have hfs : ∀ j, j < q.2.2 → defaultValue (ty0 j) = vp_V ((List.range q.2.2).map (fun j => defaultValue (ty0 j))) j := by
    intro j hj
    unfold vp_V
    rw [List.getD_eq_getElem?_getD, List.getElem?_map, List.getElem?_range hj]
    rfl
  obtain ⟨Cn, T, N⟩ := q
  refine va_new (fs := (List.range N).map (fun j => defaultValue (ty0 j))) C.1.1 C.1.2.1 C.2.1.2.1 hc.1 ty0 hty0 C.2.1.1 (C.2.1.2.1 _ hcl) (C.2.1.2.1 _ hc.2.2.2.1) (C.2.1.2.1 _ hc.2.2.2.2) C.2.2.1.1 hM.1 hM.2.1.1 hM.2.2.1 hA hq hfs (by rw [C.2.2.2.2.2.1]; exact r1) (by rw [C.2.2.2.2.2.2]; exact r2) hd (fun a H1 a1 a2 a3 => ?_)
  refine hs _ _ _ _ hk Q hQ _ ls _ H1 locs (hM.more a1 a2 a3 ?_ hM.2.2.2.2.2.1)
  refine ak_obj_c (c := (0, ci, (5, 0), ai_ini ci)) rfl (by rw [List.length_map, List.length_range]; exact hn.symm) (fun j hj => ?_)
  have hj : j < N := Nat.lt_of_lt_of_eq hj hn
  obtain ⟨ty, t1, t2⟩ := hini j hj
  rw [← hfs j hj]
  have : ty0 j = ty := Option.some.inj ((hty0 j hj).symm.trans t1)
  rw [this]
  exact t2 _
/-- a length -/
theorem ai_newa_some {kd n nc ns : Nat} {loc : ai_L} {stk : List ai_V} {hp : ai_H} {env : ai_E} {outs : List ai_O} (he : ak_e ι env) (hκ : κ.2.2.1 = M) (h : ai_newa kd sq jm κ loc stk (n, hp, env, nc, ns) = some outs) : ∃ (a : ai_V) (stk' : List ai_V) (N : Nat), stk = a :: stk' ∧ N ≤ 30000 ∧ (∀ ads x, ak_v ι ads a x → x = .int (nI N)) ∧ nc + 1 ≤ M.2.2.1 ∧ ns + N ≤ M.2.2.2 ∧ sq loc ((6, n) :: stk') (n + 1, (kd, N, ai_adf kd, []) :: hp, env, nc + 1, ns + N) = some outs := by
  cases stk with
  | nil => exact absurd h (by simp [ai_newa])
  | cons a stk =>
    simp only [ai_newa] at h
    obtain ⟨u, hu, huv, -, -⟩ := ai_res_eq ι env he a (fun x => @Prod.rec _ _ (fun _ => ai_P) (fun t m => @Bool.rec (fun _ => ai_P) none (ai_alloc m (kd, m, ai_adf kd, []) sq jm κ loc stk (n, hp, env, nc, ns)) (@Bool.rec (fun _ => Bool) false (Nat.ble m 30000) (Nat.beq t 0))) x)
    have h := hu.symm.trans h
    obtain ⟨t, N⟩ := u
    simp only [ak_if, ak_and, Nat.beq_eq, Nat.ble_eq] at h
    split at h
    · rename_i hh
      obtain ⟨r1, r2, hk⟩ := ai_alloc_some hκ h
      refine ⟨a, stk, N, rfl, hh.2, fun ads x hx => ?_, r1, r2, hk⟩
      obtain ⟨z, rfl, hz, -⟩ := ak_v_int (huv _ _ hx) (by show t ≤ 2; omega)
      rw [hz hh.1]
    · exact absurd h (by simp)
/-- the kinds of arrays of numbers -/
def ak_kd (kd : Nat) (at_ : ArrayType) : Prop := (kd = 1 ∧ at_ = .int) ∨ (kd = 2 ∧ at_ = .byte) ∨ (kd = 3 ∧ at_ = .boolean) ∨ (kd = 4 ∧ at_ = .long)
theorem ah_newa {kd : Nat} {at_ : ArrayType} (C : ak_C ι y b rt M d p l e R s m args below meth c) (hκ : κ.2.2.1 = M) (hkd : ak_kd kd at_) (harr : Cond.arrayClass (newarray.typeOf at_) ∈ ak_W) (hd : decode b pc = .ok (.newarray at_, 2)) (hs : ak_Snd ι M (p, l, e, R, s, m, args, below, meth, c) (pc + 2) sq) : ak_Snd ι M (p, l, e, R, s, m, args, below, meth, c) pc (ai_newa kd sq jm κ) := by
  intro loc stk w outs h Q hQ ws ls st H locs hM
  obtain ⟨n, hp, env, nc, ns⟩ := w
  obtain ⟨a, stk, N, rfl, hN, hx, r1, r2, hk⟩ := ai_newa_some hM.2.2.2.2.2.2 hκ h
  obtain ⟨X, st, rfl, hX, hst⟩ := ak_s_cons hM.2.2.2.2.2.1
  obtain rfl := hx _ _ hX
  have hA : ∀ z, s.heap.size ≤ z → ak_A ι z := fun z hz => Nat.le_trans C.2.2.1.2.2.1 hz
  have hn : ¬ nI N < 0 := nI_pos (by omega)
  have hcl : (nI N).toNatClampNeg = N := nI_clamp (by omega)
  have hcc : nc + 1 ≤ R.cells := by rw [C.2.2.2.2.2.1]; exact r1
  have hss : ns + N ≤ R.slots := by rw [C.2.2.2.2.2.2]; exact r2
  have same : ∀ (t0 : Nat) (ty : FieldType) (z : ClassId) (k : ClassId), (ak_T ι)[t0]? = some (z, ty) → va_K ι.2.1 vwCl (ak_T ι ++ [(k, ty)]) s → (∀ c0, ty ≠ .object c0) → k = z := by
    intro t0 ty z k h0 hK hno
    have q1 := (C.2.2.1.1.2 t0 _ h0).2
    have q2 := (hK.2 6 (k, ty) rfl).2
    cases ty <;> first | exact Option.some.inj (q2.symm.trans q1) | exact absurd rfl (hno _)
  rcases hkd with ⟨rfl, rfl⟩ | ⟨rfl, rfl⟩ | ⟨rfl, rfl⟩ | ⟨rfl, rfl⟩
  · refine va_newa (a0 := (N, .inl (fun _ => 0))) (ty := .int) C.1.1 C.1.2.1 (C.2.1.2.1 _ harr) rfl C.2.2.1.1 hM.1 hM.2.1.1 hM.2.2.1 hA (fun _ => rfl) hn hcl (by show N * 4 ≤ _; omega) hcc hss hd (fun a k H1 a0 a1 a2 a3 => ?_)
    obtain rfl := same 0 .int (ι.2.2.1 1) k rfl a0 (fun _ h => by cases h)
    exact hs _ _ _ _ hk Q hQ _ ls _ H1 locs (hM.more a1 a2 a3 (ak_ints_c (c := (1, N, ai_adf 1, [])) ⟨by simp, by simp⟩ (fun h => by simp at h) (fun j _ => Or.inl ⟨rfl, rfl⟩)) hst)
  · refine va_newa (a0 := (N, .inl (fun _ => 0))) (ty := .byte) C.1.1 C.1.2.1 (C.2.1.2.1 _ harr) rfl C.2.2.1.1 hM.1 hM.2.1.1 hM.2.2.1 hA (fun _ => rfl) hn hcl (by show N * 1 ≤ _; omega) hcc hss hd (fun a k H1 a0 a1 a2 a3 => ?_)
    obtain rfl := same 1 .byte (ι.2.2.1 2) k rfl a0 (fun _ h => by cases h)
    exact hs _ _ _ _ hk Q hQ _ ls _ H1 locs (hM.more a1 a2 a3 (ak_ints_c (c := (2, N, ai_adf 2, [])) ⟨by simp, by simp⟩ (fun _ _ _ => by decide +kernel) (fun j _ => Or.inl ⟨rfl, rfl⟩)) hst)
  · refine va_newa (a0 := (N, .inl (fun _ => 0))) (ty := .boolean) C.1.1 C.1.2.1 (C.2.1.2.1 _ harr) rfl C.2.2.1.1 hM.1 hM.2.1.1 hM.2.2.1 hA (fun _ => rfl) hn hcl (by show N * 1 ≤ _; omega) hcc hss hd (fun a k H1 a0 a1 a2 a3 => ?_)
    obtain rfl := same 2 .boolean (ι.2.2.1 3) k rfl a0 (fun _ h => by cases h)
    exact hs _ _ _ _ hk Q hQ _ ls _ H1 locs (hM.more a1 a2 a3 (ak_ints_c (c := (3, N, ai_adf 3, [])) ⟨by simp, by simp⟩ (fun h => by simp at h) (fun j _ => Or.inl ⟨rfl, rfl⟩)) hst)
  · refine va_newa (a0 := (N, .inr (.inl (fun _ => 0)))) (ty := .long) C.1.1 C.1.2.1 (C.2.1.2.1 _ harr) rfl C.2.2.1.1 hM.1 hM.2.1.1 hM.2.2.1 hA (fun _ => rfl) hn hcl (by show N * 8 ≤ _; omega) hcc hss hd (fun a k H1 a0 a1 a2 a3 => ?_)
    obtain rfl := same 3 .long (ι.2.2.1 4) k rfl a0 (fun _ h => by cases h)
    exact hs _ _ _ _ hk Q hQ _ ls _ H1 locs (hM.more a1 a2 a3 (ak_longs_c (c := (4, N, ai_adf 4, [])) rfl (fun j _ => Or.inr (Or.inr (Or.inr (Or.inl ⟨rfl, rfl⟩))))) hst)
theorem ah_anewa {kd idx : Nat} {Cn : String} (C : ak_C ι y b rt M d p l e R s m args below meth c) (hκ : κ.2.2.1 = M) (hkd : (kd = 5 ∧ Cn = "SpanCopier$Word") ∨ (kd = 6 ∧ Cn = "SpanCopier$World")) (hcl : Cond.classLink y.cls idx Cn ∈ ak_W) (hd : decode b pc = .ok (.anewarray idx, 3)) (hs : ak_Snd ι M (p, l, e, R, s, m, args, below, meth, c) (pc + 3) sq) : ak_Snd ι M (p, l, e, R, s, m, args, below, meth, c) pc (ai_newa kd sq jm κ) := by
  intro loc stk w outs h Q hQ ws ls st H locs hM
  obtain ⟨n, hp, env, nc, ns⟩ := w
  obtain ⟨a, stk, N, rfl, hN, hx, r1, r2, hk⟩ := ai_newa_some hM.2.2.2.2.2.2 hκ h
  obtain ⟨X, st, rfl, hX, hst⟩ := ak_s_cons hM.2.2.2.2.2.1
  obtain rfl := hx _ _ hX
  have hA : ∀ z, s.heap.size ≤ z → ak_A ι z := fun z hz => Nat.le_trans C.2.2.1.2.2.1 hz
  have hn : ¬ nI N < 0 := nI_pos (by omega)
  have hcl2 : (nI N).toNatClampNeg = N := nI_clamp (by omega)
  have hcc : nc + 1 ≤ R.cells := by rw [C.2.2.2.2.2.1]; exact r1
  have hss : ns + N ≤ R.slots := by rw [C.2.2.2.2.2.2]; exact r2
  have hao : va_AO Cn s := by
    rcases hkd with ⟨-, e⟩ | ⟨-, e⟩
    · rw [e]; exact C.2.2.1.2.2.2.2.2.1
    · rw [e]; exact C.2.2.1.2.2.2.2.2.2
  refine va_newq C.1.1 C.1.2.1 C.2.1.1 (C.2.1.2.1 _ hcl) hao C.2.2.1.1 hM.1 hM.2.1.1 hM.2.2.1 hA hn hcl2 (by omega) hcc hss hd (fun a k H1 a0 a1 a2 a3 => ?_)
  obtain ⟨-, -, -, -, -, q2⟩ := (a0.2 6 (k, .object Cn) rfl).2
  rcases hkd with ⟨rfl, rfl⟩ | ⟨rfl, rfl⟩
  · obtain ⟨-, -, -, -, -, q1⟩ := (C.2.2.1.1.2 4 (ι.2.2.1 5, .object "SpanCopier$Word") rfl).2
    obtain rfl : k = ι.2.2.1 5 := Option.some.inj (q2.symm.trans q1)
    exact hs _ _ _ _ hk Q hQ _ ls _ H1 locs (hM.more a1 a2 a3 (ak_refs_c (c := (5, N, ai_adf 5, [])) (Or.inl rfl) (fun j _ => Or.inr (Or.inr (Or.inr (Or.inr (Or.inr (Or.inl ⟨rfl, rfl⟩))))))) hst)
  · obtain ⟨-, -, -, -, -, q1⟩ := (C.2.2.1.1.2 5 (ι.2.2.1 6, .object "SpanCopier$World") rfl).2
    obtain rfl : k = ι.2.2.1 6 := Option.some.inj (q2.symm.trans q1)
    exact hs _ _ _ _ hk Q hQ _ ls _ H1 locs (hM.more a1 a2 a3 (ak_refs_c (c := (6, N, ai_adf 6, [])) (Or.inr rfl) (fun j _ => Or.inr (Or.inr (Or.inr (Or.inr (Or.inr (Or.inl ⟨rfl, rfl⟩))))))) hst)
end CELLS
end
section
/-! ===== arrays and constant things ===== -/
theorem ak_st_w : ∀ j, j < 38 → ak_st j = ("SpanCopier$Word", ak_nm.getD j "", "LSpanCopier$Word;") := by decide +kernel
section ARRAYS
variable {ι : ak_I} {y : MethodName} {b : ByteArray} {rt : Option FieldType} {M : ai_M} {d : Nat} {p : Program} {l : Launch} {e : Env} {R : Room} {s : State} {m : MethodId} {args : Array Value} {below : List Frame} {meth : Method} {c : Code} {pc : Nat} {sq : ai_Q} {jm : Nat → ai_Q} {κ : ai_K}
theorem ak_Zj {j : Nat} (h : ak_S ι s s.heap) (hj : j < 38 ∨ 40 ≤ j ∧ j ≤ 43) : va_Z (ak_st j).1 (ak_st j).2.1 (ak_st j).2.2 (.ref (ι.2.2.2.1 j)) (ak_A ι) s s.heap := by
  rcases hj with hj | hj
  · rw [ak_st_w j hj]
    exact (h.1.1 j hj).1
  · rcases (show j = 40 ∨ j = 41 ∨ j = 42 ∨ j = 43 by omega) with rfl | rfl | rfl | rfl
    · exact (h.2.1 40 _ rfl).1
    · exact (h.2.1 41 _ rfl).1
    · exact h.2.2.1.1
    · exact (h.2.1 43 _ rfl).1
theorem ah_gets {j idx : Nat} (C : ak_C ι y b rt M d p l e R s m args below meth c) (hj : j < 38 ∨ 40 ≤ j ∧ j ≤ 43) (hlink : Cond.fieldLink y.cls idx (ak_st j).1 (ak_st j).2.1 (ak_st j).2.2 ∈ ak_W ∨ ∃ host, Cond.fieldLinkNest y.cls idx (ak_st j).1 (ak_st j).2.1 (ak_st j).2.2 host ∈ lw_tbl) (hd : decode b pc = .ok (.getstatic idx, 3)) (hs : ak_Snd ι M (p, l, e, R, s, m, args, below, meth, c) (pc + 3) sq) : ak_Snd ι M (p, l, e, R, s, m, args, below, meth, c) pc (ai_push (7, j) sq jm κ) := by
  intro loc stk w outs h Q hQ ws ls st H locs hM
  have kk := hs loc ((7, j) :: stk) w outs h Q hQ ws ls (.ref (ι.2.2.2.1 j) :: st) H locs (hM.push (Or.inr (Or.inr (Or.inr (Or.inr (Or.inr (Or.inr (Or.inr ⟨rfl, rfl⟩))))))))
  rcases hlink with hlk | ⟨host, hlk⟩
  · exact va_gets C.1.1 C.1.2.1 (ak_Zj C.2.2.1.2.1 hj) hM.2.2.1 C.2.1.1 (C.2.1.2.1 _ hlk) (fun _ h => h) hd kk
  · exact va_getsN C.1.1 C.1.2.1 (ak_Zj C.2.2.1.2.1 hj) hM.2.2.1 C.2.1.1 (va_Nw.use rfl (C.2.2.1.2.2.2.1 _ _ _ _ _ _ hlk)) (fun _ h => h) hd kk
/-- the class of an array by its kind -/
def ak_kt (kd : Nat) : FieldType := if kd = 1 then .int else if kd = 2 then .byte else if kd = 3 then .boolean else if kd = 4 then .long else if kd = 5 then .object "SpanCopier$Word" else .object "SpanCopier$World"
theorem ak_T_at {kd : Nat} (h : 1 ≤ kd ∧ kd ≤ 6) : (ak_T ι)[kd - 1]? = some (ι.2.2.1 kd, ak_kt kd) := by
  rcases (show kd = 1 ∨ kd = 2 ∨ kd = 3 ∨ kd = 4 ∨ kd = 5 ∨ kd = 6 by omega) with rfl | rfl | rfl | rfl | rfl | rfl <;> rfl
theorem ak_c_arr {ads : List Nat} {cl : ai_C} {el : va_E} (h : ak_c ι ads cl el) (h1 : 1 ≤ cl.1) (h9 : ¬ cl.1 = 9) : 1 ≤ cl.1 ∧ cl.1 ≤ 6 ∧ ∃ x : vp_A, el = .inl (ι.2.2.1 cl.1, x) ∧ x.1 = cl.2.1 := by
  rcases h with h | ⟨h, -⟩
  · exact absurd h h9
  · rcases h with ⟨h, -⟩ | ⟨h, f, rfl⟩ | ⟨h, f, rfl, -⟩ | ⟨h, f, rfl⟩ | ⟨h, f, rfl⟩ | ⟨h, f, rfl⟩ | ⟨h, f, rfl⟩
    · omega
    all_goals exact ⟨h1, by omega, _, by rw [h], rfl⟩
theorem ah_alen (C : ak_C ι y b rt M d p l e R s m args below meth c) (hd : decode b pc = .ok (.arraylength, 1)) (hs : ak_Snd ι M (p, l, e, R, s, m, args, below, meth, c) (pc + 1) sq) : ak_Snd ι M (p, l, e, R, s, m, args, below, meth, c) pc (ai_alen sq jm κ) := by
  intro loc stk w outs h Q hQ ws ls st H locs hM
  cases stk with
  | nil => exact absurd h (by simp [ai_alen])
  | cons o stk =>
    simp only [ai_alen, ak_if, Nat.beq_eq, ai_nt_eq, ak_op] at h
    obtain ⟨X, st, rfl, hx, hst⟩ := ak_s_cons hM.2.2.2.2.2.1
    split at h
    · rename_i h7
      obtain rfl := ak_v_const hx h7
      split at h
      · rename_i h45
        obtain ⟨-, -, -, L, xs, q1, q2, q3, q4, q5, q6, q7⟩ := C.2.2.1.2.1
        rw [h45]
        refine va_slen C.1.1 C.1.2.1 q1 q3 (by show ¬ _ ≤ _; omega) hM.2.2.1 hd ?_
        exact hs _ _ _ _ h Q hQ ws ls _ H locs (hM.restk ⟨Or.inr (Or.inl ⟨rfl, by rw [q5]⟩), hst⟩)
      · split at h
        · rename_i h42
          rw [h42]
          exact va_tlen C.1.1 C.1.2.1 C.2.2.1.2.1.2.2.1.2 hM.2.2.1 (v := nI 0) rfl hd (hs _ _ _ _ h Q hQ ws ls _ H locs (hM.restk ⟨Or.inl ⟨rfl, rfl⟩, hst⟩))
        · cases hl : ai_sar o.2 with
          | none => rw [hl] at h; exact absurd h (by simp)
          | some ll =>
            rw [hl] at h
            simp only [Option.elim, ai_len_eq] at h
            exact va_tlen C.1.1 C.1.2.1 (C.2.2.1.2.1.2.1 o.2 ll hl).2 hM.2.2.1 (v := nI ll.length) rfl hd (hs _ _ _ _ h Q hQ ws ls _ H locs (hM.restk ⟨Or.inl ⟨rfl, rfl⟩, hst⟩))
    · obtain ⟨h6, hlt, cl, a, el, hf, hc, hw, hcc, href⟩ := ai_cel_some hM.2.2.2.1 h
      obtain rfl := href _ hx
      obtain ⟨kd, mm, rest⟩ := cl
      simp only [ak_and, Nat.ble_eq] at hf
      split at hf
      · rename_i hh
        obtain ⟨a1, a2, x, rfl, a3⟩ := ak_c_arr hcc hh.1.1 (by show ¬ kd = 9; omega)
        exact va_alen C.1.1 C.1.2.1 C.2.2.1.1 hM.1 o.2 (kd - 1) hw (ak_T_at ⟨a1, a2⟩) (v := nI mm) (by rw [a3]; rfl) hd (hs _ _ _ _ hf Q hQ ws ls _ H locs (hM.restk ⟨Or.inl ⟨rfl, rfl⟩, hst⟩))
      · exact absurd hf (by simp)
/-- a place of an array is read -/
theorem ah_ald {k1 k2 : Nat} (C : ak_C ι y b rt M d p l e R s m args below meth c) (hκ : κ.2.2.2 = pc) (hst7 : k1 = 1 → decode b pc = .ok (.iaload, 1)) (hrow : ∀ (H : Heap) (locs : List Loc) (nc ns : Nat) (Q : State → Prop) (ls : Array Slot) (st : List Value) (ws : va_W) (k a nj : Nat) (cl : ai_C) (el : va_E), va_P ι.2.1 vwCl ws H → ws[k]? = some (a, el) → ak_c ι (ws.map Prod.fst) cl el → k1 ≤ cl.1 → cl.1 ≤ k2 → nj < cl.2.1 → cl.2.1 ≤ 30000 → ∃ x : Value, ak_v ι (ws.map Prod.fst) (ak_rd cl nj) x ∧ (W p l e R s m args below meth c H locs nc ns Q (F0 m (pc + 1) ls (x :: st)) → W p l e R s m args below meth c H locs nc ns Q (F0 m pc ls (.int (nI nj) :: .ref a :: st)))) (hs : ak_Snd ι M (p, l, e, R, s, m, args, below, meth, c) (pc + 1) sq) (hj : ∀ t, ak_Snd ι M (p, l, e, R, s, m, args, below, meth, c) t (jm t)) : ak_Snd ι M (p, l, e, R, s, m, args, below, meth, c) pc (ai_ald k1 k2 sq jm κ) := by
  intro loc stk w outs h Q hQ ws ls st H locs hM
  obtain ⟨n, hp, env, cs⟩ := w
  have he : ak_e ι env := hM.2.2.2.2.2.2
  cases stk with
  | nil => exact absurd h (by simp [ai_ald])
  | cons j stk =>
    cases stk with
    | nil => exact absurd h (by simp [ai_ald])
    | cons o stk =>
      simp only [ai_ald] at h
      rw [hκ] at h
      rcases ai_split_some he h with h | ⟨env', outs', h1, h2, h3⟩
      · obtain ⟨u, hu, huv, -, -⟩ := ai_res_eq ι env he j (fun j => @Prod.rec _ _ (fun _ => ai_P) (fun tj nj => @Bool.rec (fun _ => ai_P) none (@Bool.rec (fun _ => ai_P) (ai_cel (n, hp, env, cs) o (fun c => @Bool.rec (fun _ => ai_P) none (ai_rd c nj (fun v => sq loc (v :: stk) (n, hp, env, cs))) (ai_at k1 k2 c nj))) (@Bool.rec (fun _ => ai_P) none (@Bool.rec (fun _ => ai_P) (@Option.rec (List Nat) (fun _ => ai_P) none (fun l => ai_nth l none (fun x => sq loc ((0, x) :: stk) (n, hp, env, cs)) nj) (ai_sar o.2)) (@Bool.rec (fun _ => ai_P) none (sq loc ((1, nj) :: stk) (n, hp, env, cs)) (@Bool.rec (fun _ => Bool) false (ai_six env) (Nat.ble nj 5))) (Nat.beq o.2 45)) (Nat.beq k1 1)) (Nat.beq o.1 7)) (Nat.beq tj 0)) j)
        have h := hu.symm.trans h
        obtain ⟨tj, nj⟩ := u
        obtain ⟨J, st, rfl, hJ, hst⟩ := ak_s_cons hM.2.2.2.2.2.1
        obtain ⟨X, st, rfl, hx, hst2⟩ := ak_s_cons hst
        simp only [ak_if, Nat.beq_eq, ak_op, ai_nth_eq, Nat.ble_eq, ak_and] at h
        split at h
        · rename_i ht0
          obtain ⟨J, rfl, hJ0, -⟩ := ak_v_int (huv _ _ hJ) (by show tj ≤ 2; omega)
          obtain rfl := hJ0 ht0
          split at h
          · rename_i h7
            obtain rfl := ak_v_const hx h7
            split at h
            · rename_i hk1
              have hd := hst7 hk1
              split at h
              · rename_i h45
                split at h
                · rename_i hh
                  obtain ⟨-, -, -, L, xs, q1, q2, q3, q4, q5, q6, q7⟩ := C.2.2.1.2.1
                  have hL : L = 6 := by
                    have h6 := hh.2
                    simp only [ai_six, ai_nth_eq] at h6
                    cases h7 : env[7]? with
                    | none => rw [h7] at h6; exact absurd h6 (by simp)
                    | some q =>
                      rw [h7] at h6
                      simp only [Option.elim, ai_eqV_iff] at h6
                      obtain ⟨b1, b2⟩ := he 7 q h7
                      rw [h6] at b1 b2
                      have e1 : ak_b (ι.2.2.2.2.1 7) = L + 2147483648 := by
                        have e2 := ak_b_int (ι.2.2.2.2.1 7)
                        have e3 : (ι.2.2.2.2.1 7).toInt = (L : Int) := by rw [q5]; exact nI_toInt (by omega)
                        omega
                      dsimp only at b1 b2
                      omega
                  subst hL
                  have hnj : nj < 6 := by omega
                  rw [h45]
                  refine va_sld C.1.1 C.1.2.1 q1 q3 (by show ¬ _ ≤ _; omega) hM.2.2.1 (vp_in_nI hnj (by omega)) hd ?_
                  refine hs _ _ _ _ h Q hQ ws ls _ H locs (hM.restk ⟨Or.inr (Or.inl ⟨rfl, ?_⟩), hst2⟩)
                  rw [nI_clamp (by omega), ← q6 nj hnj]
                · exact absurd h (by simp)
              · cases hl : ai_sar o.2 with
                | none => rw [hl] at h; exact absurd h (by simp)
                | some ll =>
                  rw [hl] at h
                  simp only [Option.elim] at h
                  cases hn : ll[nj]? with
                  | none => rw [hn] at h; exact absurd h (by simp)
                  | some z =>
                    rw [hn] at h
                    have hlt := (List.getElem?_eq_some_iff.mp hn).1
                    have hlen : ll.length ≤ 38 := by
                      unfold ai_sar at hl
                      simp only [ak_if] at hl
                      split at hl
                      · cases hl; decide
                      · split at hl
                        · cases hl; decide
                        · split at hl
                          · cases hl; decide +kernel
                          · cases hl
                    refine va_ti C.1.1 C.1.2.1 (C.2.2.1.2.1.2.1 o.2 ll hl).2 hM.2.2.1 (vp_in_nI hlt (by omega)) (v := .int (nI z)) ?_ hd (hs _ _ _ _ h Q hQ ws ls _ H locs (hM.restk ⟨Or.inl ⟨rfl, rfl⟩, hst2⟩))
                    rw [nI_clamp (by omega), List.getD_eq_getElem?_getD, hn]
                    rfl
            · exact absurd h (by simp)
          · obtain ⟨h6, hlt, cl, a, el, hf, hc, hw, hcc, href⟩ := ai_cel_some (w := (n, hp, env, cs)) hM.2.2.2.1 h
            obtain rfl := href _ hx
            simp only [ai_at, ak_if, ak_and, Nat.ble_eq, ai_rd_eq] at hf
            split at hf
            · rename_i hh
              obtain ⟨x, hxv, row⟩ := hrow H locs cs.1 cs.2 Q ls st ws o.2 a nj cl el hM.1 hw hcc hh.1.1 hh.1.2 hh.2.1 hh.2.2
              exact row (hs _ _ _ _ hf Q hQ ws ls (x :: st) H locs (hM.restk ⟨hxv, hst2⟩))
            · exact absurd hf (by simp)
        · exact absurd h (by simp)
      · exact hj pc _ _ _ _ h1 Q (fun o ho => hQ o (h2 o ho)) ws ls st H locs (hM.reenv h3)
theorem ah_iald (C : ak_C ι y b rt M d p l e R s m args below meth c) (hκ : κ.2.2.2 = pc) (hd : decode b pc = .ok (.iaload, 1)) (hs : ak_Snd ι M (p, l, e, R, s, m, args, below, meth, c) (pc + 1) sq) (hj : ∀ t, ak_Snd ι M (p, l, e, R, s, m, args, below, meth, c) t (jm t)) : ak_Snd ι M (p, l, e, R, s, m, args, below, meth, c) pc (ai_ald 1 1 sq jm κ) := by
  refine ah_ald C hκ (fun _ => hd) (fun H locs nc ns Q ls st ws k a nj cl el hP hw hcc h1 h2 hn hm => ?_) hs hj
  obtain ⟨f, rfl, -, hv⟩ := ak_c_ints hcc ⟨h1, by omega⟩
  have e1 : cl.1 = 1 := by omega
  rw [e1] at hw
  refine ⟨_, hv nj hn, fun kk => va_iald C.1.1 C.1.2.1 C.2.2.1.1 hP k 0 hw rfl (vp_in_nI hn (by omega)) hd ?_⟩
  rw [nI_clamp (by omega)]
  exact kk
theorem ah_bald (C : ak_C ι y b rt M d p l e R s m args below meth c) (hκ : κ.2.2.2 = pc) (hd : decode b pc = .ok (.baload, 1)) (hs : ak_Snd ι M (p, l, e, R, s, m, args, below, meth, c) (pc + 1) sq) (hj : ∀ t, ak_Snd ι M (p, l, e, R, s, m, args, below, meth, c) t (jm t)) : ak_Snd ι M (p, l, e, R, s, m, args, below, meth, c) pc (ai_ald 2 3 sq jm κ) := by
  refine ah_ald C hκ (fun h => by omega) (fun H locs nc ns Q ls st ws k a nj cl el hP hw hcc h1 h2 hn hm => ?_) hs hj
  obtain ⟨f, rfl, -, hv⟩ := ak_c_ints hcc ⟨by omega, h2⟩
  refine ⟨_, hv nj hn, fun kk => ?_⟩
  rw [← nI_clamp (show nj < 2 ^ 31 by omega)] at kk
  rcases (show cl.1 = 2 ∨ cl.1 = 3 by omega) with e1 | e1
  · rw [e1] at hw
    exact va_bald C.1.1 C.1.2.1 C.2.2.1.1 hP k 1 hw rfl (vp_in_nI hn (by omega)) hd kk
  · rw [e1] at hw
    exact va_zald C.1.1 C.1.2.1 C.2.2.1.1 hP k 2 hw rfl (vp_in_nI hn (by omega)) hd kk
theorem ah_lald (C : ak_C ι y b rt M d p l e R s m args below meth c) (hκ : κ.2.2.2 = pc) (hd : decode b pc = .ok (.laload, 1)) (hs : ak_Snd ι M (p, l, e, R, s, m, args, below, meth, c) (pc + 1) sq) (hj : ∀ t, ak_Snd ι M (p, l, e, R, s, m, args, below, meth, c) t (jm t)) : ak_Snd ι M (p, l, e, R, s, m, args, below, meth, c) pc (ai_ald 4 4 sq jm κ) := by
  refine ah_ald C hκ (fun h => by omega) (fun H locs nc ns Q ls st ws k a nj cl el hP hw hcc h1 h2 hn hm => ?_) hs hj
  obtain ⟨f, rfl, hv⟩ := ak_c_longs hcc (by omega)
  refine ⟨_, hv nj hn, fun kk => va_lald C.1.1 C.1.2.1 C.2.2.1.1 hP k 3 hw rfl (vp_in_nI hn (by omega)) hd ?_⟩
  rw [nI_clamp (by omega)]
  exact kk
theorem ah_aald (C : ak_C ι y b rt M d p l e R s m args below meth c) (hκ : κ.2.2.2 = pc) (hd : decode b pc = .ok (.aaload, 1)) (hs : ak_Snd ι M (p, l, e, R, s, m, args, below, meth, c) (pc + 1) sq) (hj : ∀ t, ak_Snd ι M (p, l, e, R, s, m, args, below, meth, c) t (jm t)) : ak_Snd ι M (p, l, e, R, s, m, args, below, meth, c) pc (ai_ald 5 6 sq jm κ) := by
  refine ah_ald C hκ (fun h => by omega) (fun H locs nc ns Q ls st ws k a nj cl el hP hw hcc h1 h2 hn hm => ?_) hs hj
  obtain ⟨f, rfl, hv⟩ := ak_c_refs hcc (by omega)
  refine ⟨_, hv nj hn, fun kk => ?_⟩
  rw [← nI_clamp (show nj < 2 ^ 31 by omega)] at kk
  rcases (show cl.1 = 5 ∨ cl.1 = 6 by omega) with e1 | e1
  · rw [e1] at hw
    exact va_aldq C.1.1 C.1.2.1 C.2.2.1.1 hP k 4 hw rfl (vp_in_nI hn (by omega)) hd kk
  · rw [e1] at hw
    exact va_aldq C.1.1 C.1.2.1 C.2.2.1.1 hP k 5 hw rfl (vp_in_nI hn (by omega)) hd kk
end ARRAYS
end
section
/-! ===== writing into arrays ===== -/
/-- what an array keeps -/
def ak_kp (w : ai_W) (kd : Nat) (v u : ai_V) : Prop :=
  (kd = 1 ∧ v.1 ≤ 2 ∧ u = v) ∨ (kd = 2 ∧ v.1 ≤ 2 ∧ ((u = v ∧ v.1 = 0 ∧ v.2 ≤ 127) ∨ u = (2, 0))) ∨ (kd = 3 ∧ v.1 = 0 ∧ v.2 ≤ 1 ∧ u = v) ∨ (kd = 4 ∧ 3 ≤ v.1 ∧ v.1 ≤ 4 ∧ u = v) ∨ (kd = 5 ∧ v.1 = 7 ∧ v.2 ≤ 37 ∧ u = v) ∨ (kd = 6 ∧ v.1 = 6 ∧ v.2 < w.1 ∧ u = v ∧ ∃ cl : ai_C, w.2.1[w.1 - (v.2 + 1)]? = some cl ∧ cl.1 = 0 ∧ cl.2.1 = 9)
theorem ai_keep_some {ι : ak_I} {w : ai_W} {ws : va_W} {kd : Nat} {v : ai_V} {f : ai_V → ai_P} {outs : List ai_O} (hh : ak_h ι w.1 w.2.1 ws) (h : ai_keep w kd v f = some outs) : ∃ u : ai_V, f u = some outs ∧ ak_kp w kd v u := by
  simp only [ai_keep, ak_if, Nat.beq_eq, Nat.ble_eq, ak_and, ai_in_iff] at h
  split at h
  · rename_i hk
    split at h
    · rename_i h2
      exact ⟨v, h, Or.inl ⟨hk, h2, rfl⟩⟩
    · exact absurd h (by simp)
  · split at h
    · rename_i hk
      split at h
      · rename_i h2
        split at h
        · rename_i h3
          exact ⟨v, h, Or.inr (Or.inl ⟨hk, h2, Or.inl ⟨rfl, h3.1, h3.2⟩⟩)⟩
        · exact ⟨(2, 0), h, Or.inr (Or.inl ⟨hk, h2, Or.inr rfl⟩)⟩
      · exact absurd h (by simp)
    · split at h
      · rename_i hk
        split at h
        · rename_i h2
          exact ⟨v, h, Or.inr (Or.inr (Or.inl ⟨hk, h2.1, h2.2, rfl⟩))⟩
        · exact absurd h (by simp)
      · split at h
        · rename_i hk
          split at h
          · rename_i h2
            exact ⟨v, h, Or.inr (Or.inr (Or.inr (Or.inl ⟨hk, h2.1, h2.2, rfl⟩)))⟩
          · exact absurd h (by simp)
        · split at h
          · rename_i hk
            split at h
            · rename_i h2
              exact ⟨v, h, Or.inr (Or.inr (Or.inr (Or.inr (Or.inl ⟨hk, h2.1, h2.2, rfl⟩))))⟩
            · exact absurd h (by simp)
          · split at h
            · rename_i hk
              obtain ⟨h6, hlt, cl, a, el, hf, hc, -⟩ := ai_cel_some hh h
              split at hf
              · rename_i h2
                exact ⟨v, hf, Or.inr (Or.inr (Or.inr (Or.inr (Or.inr ⟨hk, h6, hlt, rfl, cl, hc, h2.1, h2.2⟩))))⟩
              · exact absurd hf (by simp)
            · exact absurd h (by simp)
section STORES
variable {ι : ak_I} {y : MethodName} {b : ByteArray} {rt : Option FieldType} {M : ai_M} {d : Nat} {p : Program} {l : Launch} {e : Env} {R : Room} {s : State} {m : MethodId} {args : Array Value} {below : List Frame} {meth : Method} {c : Code} {pc : Nat} {sq : ai_Q} {jm : Nat → ai_Q} {κ : ai_K}
/-- a place of an array is written: the element behind it -/
theorem ah_ast {k1 k2 : Nat} (C : ak_C ι y b rt M d p l e R s m args below meth c) (hκ : κ.2.2.2 = pc) (hrow : ∀ (H : Heap) (locs : List Loc) (nc ns : Nat) (Q : State → Prop) (ls : Array Slot) (st : List Value) (ws : va_W) (w : ai_W) (k a nj : Nat) (cl : ai_C) (el : va_E) (v u : ai_V) (x : Value), va_P ι.2.1 vwCl ws H → va_D (ak_A ι) ws → va_S (ak_A ι) s.heap H locs → ak_h ι w.1 w.2.1 ws → ws[k]? = some (a, el) → ak_c ι (ws.map Prod.fst) cl el → k1 ≤ cl.1 → cl.1 ≤ k2 → nj < cl.2.1 → cl.2.1 ≤ 30000 → ak_kp w cl.1 v u → ak_v ι (ws.map Prod.fst) v x → ∃ el' : va_E, (∀ c' : ai_C, c'.1 = cl.1 → c'.2.1 = cl.2.1 → (∀ i, ak_rd c' i = if i = nj then u else ak_rd cl i) → ak_c ι (ws.map Prod.fst) c' el') ∧ ((∀ (H1 : Heap) (locs1 : List Loc), va_P ι.2.1 vwCl (ws.set k (a, el')) H1 → va_D (ak_A ι) (ws.set k (a, el')) → va_S (ak_A ι) s.heap H1 locs1 → W p l e R s m args below meth c H1 locs1 nc ns Q (F0 m (pc + 1) ls st)) → W p l e R s m args below meth c H locs nc ns Q (F0 m pc ls (x :: .int (nI nj) :: .ref a :: st)))) (hs : ak_Snd ι M (p, l, e, R, s, m, args, below, meth, c) (pc + 1) sq) (hj : ∀ t, ak_Snd ι M (p, l, e, R, s, m, args, below, meth, c) t (jm t)) : ak_Snd ι M (p, l, e, R, s, m, args, below, meth, c) pc (ai_ast k1 k2 sq jm κ) := by
  intro loc stk w outs h Q hQ ws ls st H locs hM
  obtain ⟨n, hp, env, cs⟩ := w
  have he : ak_e ι env := hM.2.2.2.2.2.2
  cases stk with
  | nil => exact absurd h (by simp [ai_ast])
  | cons v stk =>
    cases stk with
    | nil => exact absurd h (by simp [ai_ast])
    | cons j stk =>
      cases stk with
      | nil => exact absurd h (by simp [ai_ast])
      | cons o stk =>
        simp only [ai_ast] at h
        rw [hκ] at h
        rcases ai_split_some he h with h | ⟨env', outs', h1, h2, h3⟩
        · obtain ⟨u, hu, huv, -, -⟩ := ai_res_eq ι env he j (fun j => @Prod.rec _ _ (fun _ => ai_P) (fun tj nj => @Bool.rec (fun _ => ai_P) none (ai_cel (n, hp, env, cs) o (fun c => @Bool.rec (fun _ => ai_P) none (ai_res env v (fun v => ai_keep (n, hp, env, cs) c.1 v (fun u => ai_wr c nj u (sq loc stk (n, hp, env, cs)) (fun c => ai_chg o c (n, hp, env, cs) (sq loc stk))))) (ai_at k1 k2 c nj))) (Nat.beq tj 0)) j)
          have h := hu.symm.trans h
          obtain ⟨tj, nj⟩ := u
          obtain ⟨V, st, rfl, hV, hst⟩ := ak_s_cons hM.2.2.2.2.2.1
          obtain ⟨J, st, rfl, hJ, hst2⟩ := ak_s_cons hst
          obtain ⟨X, st, rfl, hx, hst3⟩ := ak_s_cons hst2
          simp only [ak_if, Nat.beq_eq] at h
          split at h
          · rename_i ht0
            obtain ⟨J, rfl, hJ0, -⟩ := ak_v_int (huv _ _ hJ) (by show tj ≤ 2; omega)
            obtain rfl := hJ0 ht0
            obtain ⟨h6, hlt, cl, a, el, hf, hc, hw, hcc, href⟩ := ai_cel_some (w := (n, hp, env, cs)) hM.2.2.2.1 h
            obtain rfl := href _ hx
            simp only [ai_at, ak_if, ak_and, Nat.ble_eq] at hf
            split at hf
            · rename_i hh
              obtain ⟨v2, hv2, hvv, -, -⟩ := ai_res_eq ι env he v (fun v => ai_keep (n, hp, env, cs) cl.1 v (fun u => ai_wr cl nj u (sq loc stk (n, hp, env, cs)) (fun c => ai_chg o c (n, hp, env, cs) (sq loc stk))))
              have hf := hv2.symm.trans hf
              obtain ⟨u, hf, hkp⟩ := ai_keep_some (w := (n, hp, env, cs)) hM.2.2.2.1 hf
              obtain ⟨hp', c', hg, e1, e2, hrd, hh'⟩ := ai_wrh_some (g := sq loc stk) hM.2.2.2.1 rfl hlt hc hw hf
              obtain ⟨el', q1, q2⟩ := hrow H locs cs.1 cs.2 Q ls st ws (n, hp, env, cs) o.2 a nj cl el v2 u V hM.1 hM.2.1.1 hM.2.2.1 hM.2.2.2.1 hw hcc hh.1.1 hh.1.2 hh.2.1 hh.2.2 hkp (hvv _ _ hV)
              exact q2 (fun H1 locs1 a1 a2 a3 => hs _ _ _ _ hg Q hQ _ ls _ H1 locs1 (hM.write hw a1 a2 a3 (hh' _ (q1 c' e1 e2 hrd)) hst3))
            · exact absurd hf (by simp)
          · exact absurd h (by simp)
        · exact hj pc _ _ _ _ h1 Q (fun o ho => hQ o (h2 o ho)) ws ls st H locs (hM.reenv h3)
theorem ak_upd (f : Nat → Int32) (k : Nat) (x : Int32) (j : Nat) : upd f k x j = if j = k then x else f j := rfl
theorem ah_iast (C : ak_C ι y b rt M d p l e R s m args below meth c) (hκ : κ.2.2.2 = pc) (hd : decode b pc = .ok (.iastore, 1)) (hs : ak_Snd ι M (p, l, e, R, s, m, args, below, meth, c) (pc + 1) sq) (hj : ∀ t, ak_Snd ι M (p, l, e, R, s, m, args, below, meth, c) t (jm t)) : ak_Snd ι M (p, l, e, R, s, m, args, below, meth, c) pc (ai_ast 1 1 sq jm κ) := by
  refine ah_ast C hκ (fun H locs nc ns Q ls st ws w k a nj cl el v u x hP hD hS hh hw hcc h1 h2 hn hm hkp hx => ?_) hs hj
  have e1 : cl.1 = 1 := by omega
  obtain ⟨f, rfl, -, hv⟩ := ak_c_ints hcc ⟨h1, by omega⟩
  rcases hkp with ⟨-, hv2, rfl⟩ | ⟨h, -⟩ | ⟨h, -⟩ | ⟨h, -⟩ | ⟨h, -⟩ | ⟨h, -⟩ <;> try omega
  obtain ⟨z, rfl, -, -⟩ := ak_v_int hx hv2
  refine ⟨.inl (ι.2.2.1 cl.1, cl.2.1, .inl (upd f nj z)), fun c' a1 a2 hrd => ?_, fun kk => ?_⟩
  · rw [← a1, ← a2]
    refine ak_ints_c ⟨by omega, by omega⟩ (fun h => by omega) (fun j hj => ?_)
    rw [hrd, ak_upd]
    by_cases ej : j = nj
    · rw [if_pos ej, if_pos ej]; exact hx
    · rw [if_neg ej, if_neg ej]; exact hv j (by rw [← a2]; exact hj)
  · rw [e1] at hw kk
    have hc := nI_clamp (show nj < 2 ^ 31 by omega)
    exact va_iast C.1.1 C.1.2.1 C.2.2.1.1 hP hD hS k 0 hw rfl (vp_in_nI hn (by omega)) hd (by rw [hc]; exact kk)
theorem ah_last (C : ak_C ι y b rt M d p l e R s m args below meth c) (hκ : κ.2.2.2 = pc) (hd : decode b pc = .ok (.lastore, 1)) (hs : ak_Snd ι M (p, l, e, R, s, m, args, below, meth, c) (pc + 1) sq) (hj : ∀ t, ak_Snd ι M (p, l, e, R, s, m, args, below, meth, c) t (jm t)) : ak_Snd ι M (p, l, e, R, s, m, args, below, meth, c) pc (ai_ast 4 4 sq jm κ) := by
  refine ah_ast C hκ (fun H locs nc ns Q ls st ws w k a nj cl el v u x hP hD hS hh hw hcc h1 h2 hn hm hkp hx => ?_) hs hj
  have e1 : cl.1 = 4 := by omega
  obtain ⟨f, rfl, hv⟩ := ak_c_longs hcc e1
  rcases hkp with ⟨h, -⟩ | ⟨h, -⟩ | ⟨h, -⟩ | ⟨-, h3, h4, rfl⟩ | ⟨h, -⟩ | ⟨h, -⟩ <;> try omega
  obtain ⟨z, rfl, -⟩ := ak_v_long hx h3 h4
  refine ⟨.inl (ι.2.2.1 4, cl.2.1, .inr (.inl (vp_updL f nj z))), fun c' a1 a2 hrd => ?_, fun kk => ?_⟩
  · rw [← a2]
    refine ak_longs_c (a1.trans e1) (fun j hj => ?_)
    rw [hrd]
    show ak_v _ _ _ (.long (if j = nj then z else f j))
    by_cases ej : j = nj
    · rw [if_pos ej, if_pos ej]; exact hx
    · rw [if_neg ej, if_neg ej]; exact hv j (by rw [← a2]; exact hj)
  · have hc := nI_clamp (show nj < 2 ^ 31 by omega)
    exact va_last C.1.1 C.1.2.1 C.2.2.1.1 hP hD hS k 3 hw rfl (vp_in_nI hn (by omega)) hd (by rw [hc]; exact kk)
theorem ak_nar_b {n : Nat} (h : n ≤ 127) : vp_nar .byte (nI n) = nI n := by
  show (nI n).toInt8.toInt32 = nI n
  apply Int32.toInt_inj.mp
  rw [Int8.toInt_toInt32, Int32.toInt_toInt8, nI_toInt (by omega), Int.bmod_def]
  split <;> omega
theorem ak_fit_nb (x : Int32) : fits .byte (.int (vp_nar .byte x)) = true := pk_fb x
theorem ah_bast (C : ak_C ι y b rt M d p l e R s m args below meth c) (hκ : κ.2.2.2 = pc) (hd : decode b pc = .ok (.bastore, 1)) (hs : ak_Snd ι M (p, l, e, R, s, m, args, below, meth, c) (pc + 1) sq) (hj : ∀ t, ak_Snd ι M (p, l, e, R, s, m, args, below, meth, c) t (jm t)) : ak_Snd ι M (p, l, e, R, s, m, args, below, meth, c) pc (ai_ast 2 3 sq jm κ) := by
  refine ah_ast C hκ (fun H locs nc ns Q ls st ws w k a nj cl el v u x hP hD hS hh hw hcc h1 h2 hn hm hkp hx => ?_) hs hj
  obtain ⟨f, rfl, hfit, hv⟩ := ak_c_ints hcc ⟨by omega, h2⟩
  have hc := nI_clamp (show nj < 2 ^ 31 by omega)
  rcases (show cl.1 = 2 ∨ cl.1 = 3 by omega) with e1 | e1
  · rcases hkp with ⟨h, -⟩ | ⟨-, hv2, hu⟩ | ⟨h, -⟩ | ⟨h, -⟩ | ⟨h, -⟩ | ⟨h, -⟩ <;> try omega
    obtain ⟨z, rfl, hz, -⟩ := ak_v_int hx hv2
    refine ⟨.inl (ι.2.2.1 cl.1, cl.2.1, .inl (upd f nj (vp_nar .byte z))), fun c' a1 a2 hrd => ?_, fun kk => ?_⟩
    · rw [← a1, ← a2]
      refine ak_ints_c ⟨by omega, by omega⟩ (fun _ j hj => ?_) (fun j hj => ?_)
      · rw [ak_upd]
        by_cases ej : j = nj
        · rw [if_pos ej]; exact ak_fit_nb z
        · rw [if_neg ej]; exact hfit e1 j (by rw [← a2]; exact hj)
      · rw [hrd, ak_upd]
        by_cases ej : j = nj
        · rw [if_pos ej, if_pos ej]
          rcases hu with ⟨rfl, u0, u1⟩ | rfl
          · refine Or.inl ⟨u0, ?_⟩
            rw [hz u0, ak_nar_b u1]
          · exact Or.inr (Or.inr (Or.inl ⟨rfl, _, rfl⟩))
        · rw [if_neg ej, if_neg ej]; exact hv j (by rw [← a2]; exact hj)
    · rw [e1] at hw kk
      exact va_bast C.1.1 C.1.2.1 C.2.2.1.1 hP hD hS k 1 hw rfl (vp_in_nI hn (by omega)) hd (by rw [hc]; exact kk)
  · rcases hkp with ⟨h, -⟩ | ⟨h, -⟩ | ⟨-, v0, v1, rfl⟩ | ⟨h, -⟩ | ⟨h, -⟩ | ⟨h, -⟩ <;> try omega
    obtain ⟨z, rfl, hz, -⟩ := ak_v_int hx (by omega)
    have hnar : vp_nar .boolean z = z := by
      rw [hz v0]
      rcases (show u.2 = 0 ∨ u.2 = 1 by omega) with e2 | e2 <;> rw [e2] <;> decide +kernel
    refine ⟨.inl (ι.2.2.1 cl.1, cl.2.1, .inl (upd f nj (vp_nar .boolean z))), fun c' a1 a2 hrd => ?_, fun kk => ?_⟩
    · rw [← a1, ← a2, hnar]
      refine ak_ints_c ⟨by omega, by omega⟩ (fun h => by omega) (fun j hj => ?_)
      rw [hrd, ak_upd]
      by_cases ej : j = nj
      · rw [if_pos ej, if_pos ej]; exact hx
      · rw [if_neg ej, if_neg ej]; exact hv j (by rw [← a2]; exact hj)
    · rw [e1] at hw kk
      exact va_zast C.1.1 C.1.2.1 C.2.2.1.1 hP hD hS k 2 hw rfl (vp_in_nI hn (by omega)) hd (by rw [hc]; exact kk)
theorem ah_aast (C : ak_C ι y b rt M d p l e R s m args below meth c) (hκ : κ.2.2.2 = pc) (hd : decode b pc = .ok (.aastore, 1)) (hs : ak_Snd ι M (p, l, e, R, s, m, args, below, meth, c) (pc + 1) sq) (hj : ∀ t, ak_Snd ι M (p, l, e, R, s, m, args, below, meth, c) t (jm t)) : ak_Snd ι M (p, l, e, R, s, m, args, below, meth, c) pc (ai_ast 5 6 sq jm κ) := by
  refine ah_ast C hκ (fun H locs nc ns Q ls st ws w k a nj cl el v u x hP hD hS hh hw hcc h1 h2 hn hm hkp hx => ?_) hs hj
  obtain ⟨f, rfl, hv⟩ := ak_c_refs hcc (by omega)
  have hc := nI_clamp (show nj < 2 ^ 31 by omega)
  have upd2 : ∀ q : Nat, ak_v ι (ws.map Prod.fst) u (.ref q) → ∀ c' : ai_C, c'.1 = cl.1 → c'.2.1 = cl.2.1 → (∀ i, ak_rd c' i = if i = nj then u else ak_rd cl i) → ak_c ι (ws.map Prod.fst) c' (.inl (ι.2.2.1 cl.1, cl.2.1, .inr (.inr (.inr (.inr (va_up f nj (some q))))))) := by
    intro q hq c' a1 a2 hrd
    rw [← a1, ← a2]
    refine ak_refs_c (by omega) (fun j hj => ?_)
    rw [hrd]
    show ak_v _ _ _ (va_rf (if j = nj then some q else f j))
    by_cases ej : j = nj
    · rw [if_pos ej, if_pos ej]; exact hq
    · rw [if_neg ej, if_neg ej]; exact hv j (by rw [← a2]; exact hj)
  rcases hkp with ⟨h, -⟩ | ⟨h, -⟩ | ⟨h, -⟩ | ⟨h, -⟩ | ⟨e1, h7, h37, rfl⟩ | ⟨e1, h6, hlt, rfl, c9, hc9, h0, h9⟩ <;> try omega
  · obtain rfl := ak_v_const hx h7
    refine ⟨_, upd2 _ hx, fun kk => ?_⟩
    rw [e1] at hw kk
    have hr : va_Any "SpanCopier$Word" s H (ι.2.2.2.1 u.2) := by
      obtain ⟨cell, z1, z2, z3⟩ := va_recvE C.2.2.1.2.1.1 (show u.2 < ak_nm.length by show u.2 < 38; omega) hS
      obtain ⟨kC, hkC, -⟩ := Vm.findClass_spec z3
      exact ⟨cell, z1, z2, ⟨kC, hkC⟩, fun comp hcomp => by cases z3.symm.trans hcomp; exact va_asg _ _⟩
    exact va_astqM C.1.1 C.1.2.1 C.2.2.1.1 hP hD hS k 4 hw rfl hr (vp_in_nI hn (by omega)) hd (by rw [hc]; exact kk)
  · obtain ⟨q, z1, rfl⟩ := ak_v_cell hx h6
    refine ⟨_, upd2 _ hx, fun kk => ?_⟩
    rw [e1] at hw kk
    obtain ⟨⟨q', e'⟩, w1, w2⟩ := hh.2.2 u.2 c9 hlt hc9
    obtain ⟨fs, rfl, hl, -⟩ := ak_c_obj w2 h0
    rw [List.getElem?_map, w1] at z1
    cases z1
    rw [h9] at w1
    exact va_astq C.1.1 C.1.2.1 C.2.2.1.1 hP hD hS k 5 u.2 9 (r := vwCl[9]) hw rfl w1 rfl (vp_in_nI hn (by omega)) hd (by rw [hc]; exact kk)
end STORES
end
section
/-! ===== stretches of arrays ===== -/
def ak_mov (sp dp n : Nat) : List (Nat × ai_V) → List (Nat × ai_V)
  | [] => []
  | q :: l => if sp ≤ q.1 ∧ q.1 < sp + n then (q.1 - sp + dp, q.2) :: ak_mov sp dp n l else ak_mov sp dp n l
def ak_out (dp n : Nat) : List (Nat × ai_V) → List (Nat × ai_V)
  | [] => []
  | q :: l => if dp ≤ q.1 ∧ q.1 < dp + n then ak_out dp n l else q :: ak_out dp n l
theorem ai_mov_eq {α : Type} (sp dp n : Nat) (l : List (Nat × ai_V)) (f : List (Nat × ai_V) → α) : ai_mov sp dp n l f = f (ak_mov sp dp n l) := by
  induction l generalizing f with
  | nil => rfl
  | cons q l ih =>
    obtain ⟨k, v⟩ := q
    have h : ai_mov sp dp n ((k, v) :: l) f = (@Bool.rec (fun _ => α) (ai_mov sp dp n l f) (ai_nt (Nat.add (Nat.sub k sp) dp) (fun j => ai_mov sp dp n l (fun r => f ((j, v) :: r)))) (@Bool.rec (fun _ => Bool) false (Nat.ble (Nat.succ k) (Nat.add sp n)) (Nat.ble sp k))) := rfl
    rw [h]
    simp only [ak_if, ak_and, Nat.ble_eq, ai_nt_eq, ih, ak_mov]
    by_cases h1 : sp ≤ k ∧ k < sp + n
    · rw [if_pos (show sp ≤ k ∧ k.succ ≤ sp.add n from h1), if_pos h1]; rfl
    · rw [if_neg (show ¬ (sp ≤ k ∧ k.succ ≤ sp.add n) from h1), if_neg h1]
theorem ai_out_eq {α : Type} (dp n : Nat) (l : List (Nat × ai_V)) (f : List (Nat × ai_V) → α) : ai_out dp n l f = f (ak_out dp n l) := by
  induction l generalizing f with
  | nil => rfl
  | cons q l ih =>
    obtain ⟨k, v⟩ := q
    have h : ai_out dp n ((k, v) :: l) f = (@Bool.rec (fun _ => α) (ai_out dp n l (fun r => f ((k, v) :: r))) (ai_out dp n l f) (@Bool.rec (fun _ => Bool) false (Nat.ble (Nat.succ k) (Nat.add dp n)) (Nat.ble dp k))) := rfl
    rw [h]
    simp only [ak_if, ak_and, Nat.ble_eq, ih, ak_out]
    by_cases h1 : dp ≤ k ∧ k < dp + n
    · rw [if_pos (show dp ≤ k ∧ k.succ ≤ dp.add n from h1), if_pos h1]
    · rw [if_neg (show ¬ (dp ≤ k ∧ k.succ ≤ dp.add n) from h1), if_neg h1]
theorem ai_cat2_eq {α : Type} (k l : List (Nat × ai_V)) (f : List (Nat × ai_V) → α) : ai_cat2 k l f = f (l ++ k) := by
  induction l generalizing f with
  | nil => rfl
  | cons q l ih =>
    have h : ai_cat2 k (q :: l) f = ai_cat2 k l (fun r => f (q :: r)) := rfl
    rw [h, ih]
    rfl
theorem ak_look_app (i : Nat) (a b : List (Nat × ai_V)) : ak_look i (a ++ b) = (ak_look i a).elim (ak_look i b) some := by
  induction a with
  | nil => rfl
  | cons q a ih =>
    simp only [List.cons_append, ak_look]
    by_cases h : q.1 = i
    · rw [if_pos h, if_pos h]; rfl
    · rw [if_neg h, if_neg h]; exact ih
theorem ak_look_out (i dp n : Nat) (l : List (Nat × ai_V)) : ak_look i (ak_out dp n l) = if dp ≤ i ∧ i < dp + n then none else ak_look i l := by
  induction l with
  | nil => simp [ak_out, ak_look]
  | cons q l ih =>
    simp only [ak_out]
    by_cases h1 : dp ≤ q.1 ∧ q.1 < dp + n
    · rw [if_pos h1, ih]
      by_cases h2 : dp ≤ i ∧ i < dp + n
      · rw [if_pos h2, if_pos h2]
      · rw [if_neg h2, if_neg h2, ak_look, if_neg (fun e : q.1 = i => h2 (e ▸ h1))]
    · rw [if_neg h1]
      simp only [ak_look]
      by_cases h3 : q.1 = i
      · rw [if_pos h3, if_pos h3, if_neg (fun e : dp ≤ i ∧ i < dp + n => h1 (h3 ▸ e))]
      · rw [if_neg h3, if_neg h3]; exact ih
theorem ak_look_mov (i sp dp n : Nat) (l : List (Nat × ai_V)) : ak_look i (ak_mov sp dp n l) = if dp ≤ i ∧ i < dp + n then ak_look (sp + (i - dp)) l else none := by
  induction l with
  | nil => simp [ak_mov, ak_look]
  | cons q l ih =>
    simp only [ak_mov]
    by_cases h1 : sp ≤ q.1 ∧ q.1 < sp + n
    · rw [if_pos h1]
      simp only [ak_look]
      by_cases h2 : q.1 - sp + dp = i
      · rw [if_pos h2, if_pos (by omega), if_pos (by omega)]
      · rw [if_neg h2, ih]
        by_cases h3 : dp ≤ i ∧ i < dp + n
        · rw [if_pos h3, if_pos h3, if_neg (by omega)]
        · rw [if_neg h3, if_neg h3]
    · rw [if_neg h1, ih]
      by_cases h3 : dp ≤ i ∧ i < dp + n
      · rw [if_pos h3, if_pos h3, ak_look, if_neg (by omega)]
      · rw [if_neg h3, if_neg h3]
theorem ai_cpy_eq {α : Type} (s d : ai_C) (sp dp n : Nat) (f : ai_C → α) (hdf : s.2.2.1 = d.2.2.1) : ∃ c' : ai_C, ai_cpy s d sp dp n f = f c' ∧ c'.1 = d.1 ∧ c'.2.1 = d.2.1 ∧ ∀ i, ak_rd c' i = if dp ≤ i ∧ i < dp + n then ak_rd s (sp + (i - dp)) else ak_rd d i := by
  obtain ⟨kd, m, df, ov⟩ := d
  refine ⟨(kd, m, df, ak_out dp n ov ++ ak_mov sp dp n s.2.2.2), ?_, rfl, rfl, fun i => ?_⟩
  · have h : ai_cpy s (kd, m, df, ov) sp dp n f = ai_out dp n ov (fun a => ai_mov sp dp n s.2.2.2 (fun b => ai_cat2 b a (fun r => f (kd, m, df, r)))) := rfl
    rw [h, ai_out_eq, ai_mov_eq, ai_cat2_eq]
  · simp only [ak_rd, ak_look_app, ak_look_out, ak_look_mov]
    by_cases h : dp ≤ i ∧ i < dp + n
    · rw [if_pos h, if_pos h, if_pos h, hdf]; rfl
    · rw [if_neg h, if_neg h, if_neg h]
      cases ak_look i ov <;> rfl
theorem ak_num_look (l : List Nat) : ∀ (k i : Nat), ak_look (k + i) (ai_num l k) = (l[i]?).map (fun x => (0, x)) := by
  induction l with
  | nil => intro k i; rfl
  | cons x l ih =>
    intro k i
    have h : ai_num (x :: l) k = (k, (0, x)) :: ai_num l (Nat.succ k) := rfl
    rw [h]
    simp only [ak_look]
    cases i with
    | zero => rw [if_pos (Nat.add_zero k).symm]; rfl
    | succ i =>
      rw [if_neg (by omega), show k + (i + 1) = Nat.succ k + i by show k + (i + 1) = k + 1 + i; omega, ih]
      rfl
/-- the depth of a stack -/
theorem ak_s_sum {ι : ak_I} {ads : List Nat} : ∀ {stk : List ai_V} {st : List Value}, ak_s ι ads stk st → (st.map fun v => v.category).sum = ai_sum stk
  | [], [], _ => rfl
  | a :: stk, v :: st, h => by
    have e : ai_sum (a :: stk) = ai_cat a + ai_sum stk := rfl
    rw [List.map_cons, List.sum_cons, e, ak_v_cat h.1, ak_s_sum h.2]
  | [], _ :: _, h => h.elim
  | _ :: _, [], h => h.elim
section COPY
variable {ι : ak_I} {y : MethodName} {b : ByteArray} {rt : Option FieldType} {M : ai_M} {d : Nat} {p : Program} {l : Launch} {e : Env} {R : Room} {s : State} {m : MethodId} {args : Array Value} {below : List Frame} {meth : Method} {c : Code} {pc : Nat} {sq : ai_Q} {jm : Nat → ai_Q} {κ : ai_K}
/-- out of a constant array of ints -/
theorem ak_copyT {H : Heap} {locs : List Loc} {cells slots : Nat} {Q : State → Prop} {ls : Array Slot} {rest : List Value} {ws : va_W} {idx t N q1 a n1 : Nat} {f g : Nat → Int32} {k1 : ClassId} (C : ak_C ι y b rt M d p l e R s m args below meth c) (hlen : ls.size = M.1) (hlink : Cond.methodLink y.cls idx arraycopyName ∈ ak_W) (hnat : Cond.native arraycopyName ∈ ak_W) (hstat : Cond.static arraycopyName ∈ ak_W) (hini : Cond.initialized "java/lang/System" ∈ ak_W) (hP : va_P ι.2.1 vwCl ws H) (hD : va_D (ak_A ι) ws) (hS : va_S (ak_A ι) s.heap H locs) (hT : va_T .int t N (fun i => .int (f i)) (ak_A ι) s s.heap) (ha : ws[q1]? = some (a, .inl (k1, n1, .inl g))) (ht1 : (ak_T ι)[0]? = some (k1, .int)) {sp dp n : Nat} (hsp : sp < 2 ^ 31) (hdp : dp < 2 ^ 31) (hn : n < 2 ^ 31) (h4 : sp + n ≤ N) (h5 : dp + n ≤ n1) (hr : (rest.map fun v => v.category).sum + (nativeFrameWords "java/lang/System" "arraycopy" 5 + 11) ≤ R.locals) (hd : decode b pc = .ok (.invokestatic idx, 3))
    (kk : ∀ (H1 : Heap) (locs1 : List Loc), va_P ι.2.1 vwCl (ws.set q1 (a, .inl (k1, n1, .inl (va_cpy f g sp dp n)))) H1 → va_D (ak_A ι) (ws.set q1 (a, .inl (k1, n1, .inl (va_cpy f g sp dp n)))) → va_S (ak_A ι) s.heap H1 locs1 → W p l e R s m args below meth c H1 locs1 cells slots Q (F0 m (pc + 3) ls rest)) : W p l e R s m args below meth c H locs cells slots Q (F0 m pc ls (.int (nI n) :: .int (nI dp) :: .ref a :: .int (nI sp) :: .ref t :: rest)) := by
  intro T hTT X
  obtain ⟨scr, s1, ⟨s2, k0, hk0, cm0, hkk0⟩, s3, s4, -, s5, s6⟩ := hT
  have c0 : H[t]? = some scr := (hS.2.1 t (Array.getElem?_eq_some_iff.mp s1).1 s6).trans s1
  have c1 : H[a]? = some (vp_cell k1 (n1, .inl g)) := hP q1 _ ha
  obtain ⟨-, kc, hkc, cm1, hkk1⟩ := (C.2.2.1.1.2 0 _ ht1).1 n1 (fun j => .int (g j))
  have ti : ∀ z : Nat, z < 2 ^ 31 → (nI z).toInt = (z : Int) := fun z hz => nI_toInt hz
  have tc : ∀ z : Nat, z < 2 ^ 31 → (nI z).toNatClampNeg = z := fun z hz => nI_clamp hz
  obtain ⟨vm', X', step⟩ := X.arraycopy C.1.1 C.2.1.1 (C.2.1.2.1 _ hlink) (C.2.1.2.1 _ hnat) (C.2.1.2.1 _ hstat) (C.2.1.2.1 _ hini) (src := t) (dst := a) (cs := scr) (cd := vp_cell k1 (n1, .inl g)) (srcPos := nI sp) (destPos := nI dp) (n := nI n) (hTT ▸ c0) (hTT ▸ c1) s2 (fun _ h => by cases h) s3 (fun h => by cases h) hk0 hkc hkk0 hkk1 (by simp [refKind]) (nI_pos hsp) (nI_pos hdp) (nI_pos hn)
    (by rw [ti sp hsp, ti n hn]; omega)
    (by rw [ti dp hdp, ti n hn]; show ¬ _ > ((arrV k1 n1 (fun j => .int (g j))).slots.size : Int); rw [arrV_size]; omega)
    (fun _ _ i hi => by
      rw [tc n hn] at hi
      have : scr.slots.getD ((nI sp).toNatClampNeg + i) .null = .int (f (sp + i)) := by rw [tc sp hsp, Array.getD_eq_getD_getElem?, s5 _ (by omega)]; rfl
      rw [this]
      exact ⟨rfl, trivial⟩)
    (g := F0 m pc ls (.int (nI n) :: .int (nI dp) :: .ref a :: .int (nI sp) :: .ref t :: rest)) rfl (hlen.trans C.1.2.2.2.symm) (rest := rest) rfl (by rw [C.1.2.1]; exact hd) (by have := C.2.2.2.1; omega) (by show 2 * 0 + _ + _ ≤ _; omega)
  have ec : copied scr (vp_cell k1 (n1, .inl g)) (nI sp) (nI dp) (nI n) = vp_cell k1 (n1, .inl (va_cpy f g sp dp n)) := by
    have := va_copiedX (fun z => .int z) scr k1 (n1 := n1) (dp := dp) f g s5 h4
    show Cell.storeRun _ (nI dp).toNatClampNeg (scr.stretch (nI sp).toNatClampNeg (nI n).toNatClampNeg) = _
    rw [tc sp hsp, tc dp hdp, tc n hn]
    exact this
  rw [ec] at X' step
  have al : a < H.size := (Array.getElem?_eq_some_iff.mp c1).1
  have hA : ι.1 ≤ a := hD.2 q1 _ ha
  have hh : ((T.setVm vm').setCell a (vp_cell k1 (n1, .inl (va_cpy f g sp dp n)))).heap = H.setIfInBounds a (vp_cell k1 (n1, .inl (va_cpy f g sp dp n))) := by rw [← hTT]; rfl
  have hne : ∀ q : Nat, q ≠ a → (H.setIfInBounds a (vp_cell k1 (n1, .inl (va_cpy f g sp dp n))))[q]? = H[q]? := fun q hq => Array.getElem?_setIfInBounds_ne (Ne.symm hq)
  have hat : (H.setIfInBounds a (vp_cell k1 (n1, .inl (va_cpy f g sp dp n))))[a]? = some (vp_cell k1 (n1, .inl (va_cpy f g sp dp n))) := by simp [al]
  obtain ⟨t2, a1, b1⟩ := kk _ _ (hP.set hD ha (e := .inl (k1, n1, .inl (va_cpy f g sp dp n))) hat hne) (hD.set ha) ⟨by rw [Array.size_setIfInBounds]; exact hS.1, fun q hq hn => by rw [hne q (fun e => hn (e ▸ hA))]; exact hS.2.1 q hq hn, fun q hq => by
    rcases List.mem_append.mp hq with hq | hq
    · exact hS.2.2 q hq
    · obtain ⟨z, -, rfl⟩ := List.mem_map.mp hq
      exact hA⟩ _ hh X'
  exact ⟨t2, step t2 a1, b1⟩
theorem ak_va_cpy {α : Type} (f g : Nat → α) (sp dp n i : Nat) : va_cpy f g sp dp n i = if dp ≤ i ∧ i < dp + n then f (sp + (i - dp)) else g i := rfl
/-- a stretch is copied -/
theorem ah_copy {idx : Nat} (C : ak_C ι y b rt M d p l e R s m args below meth c) (hlink : Cond.methodLink y.cls idx arraycopyName ∈ ak_W) (hnat : Cond.native arraycopyName ∈ ak_W) (hstat : Cond.static arraycopyName ∈ ak_W) (hini : Cond.initialized "java/lang/System" ∈ ak_W) (hnf : nativeFrameWords "java/lang/System" "arraycopy" 5 ≤ 40) (hd : decode b pc = .ok (.invokestatic idx, 3)) (hs : ak_Snd ι M (p, l, e, R, s, m, args, below, meth, c) (pc + 3) sq) : ak_Snd ι M (p, l, e, R, s, m, args, below, meth, c) pc (ai_cp sq jm κ) := by
  intro loc stk w outs h Q hQ ws ls st H locs hM
  obtain ⟨n, hp, env, cs⟩ := w
  have he : ak_e ι env := hM.2.2.2.2.2.2
  simp only [ai_cp, ak_if, Nat.ble_eq] at h
  split at h
  · rename_i hsum
    have hss := ak_s_sum hM.2.2.2.2.2.1
    match stk, h, hsum, hM, hss with
    | [], h, _, _, _ => exact absurd h (by simp [ai_copy])
    | [_], h, _, _, _ => exact absurd h (by simp [ai_copy])
    | [_, _], h, _, _, _ => exact absurd h (by simp [ai_copy])
    | [_, _, _], h, _, _, _ => exact absurd h (by simp [ai_copy])
    | [_, _, _, _], h, _, _, _ => exact absurd h (by simp [ai_copy])
    | vn :: vdp :: vd :: vsp :: vs :: stk, h, hsum, hM, hss =>
      simp only [ai_copy] at h
      obtain ⟨u1, e1, q1, -, -⟩ := ai_res_eq ι env he vn (fun n' => ai_res env vdp (fun dp => ai_res env vsp (fun sp => @Bool.rec (fun _ => ai_P) none (ai_src (n, hp, env, cs) vs (fun ks => ai_cel (n, hp, env, cs) vd (fun kd => @Bool.rec (fun _ => ai_P) none (ai_cpy ks kd sp.2 dp.2 n'.2 (fun c => ai_chg vd c (n, hp, env, cs) (sq loc stk))) (@Bool.rec (fun _ => Bool) false (@Bool.rec (fun _ => Bool) false (@Bool.rec (fun _ => Bool) false (@Bool.rec (fun _ => Bool) false (Nat.ble kd.2.1 30000) (Nat.ble ks.2.1 30000)) (@Bool.rec (fun _ => Bool) false (Nat.ble (Nat.add dp.2 n'.2) kd.2.1) (Nat.ble (Nat.add sp.2 n'.2) ks.2.1))) (ai_eqV ks.2.2.1 kd.2.2.1)) (@Bool.rec (fun _ => Bool) false (@Bool.rec (fun _ => Bool) false (Nat.ble ks.1 2) (Nat.ble 1 ks.1)) (Nat.beq ks.1 kd.1)))))) (@Bool.rec (fun _ => Bool) false (@Bool.rec (fun _ => Bool) false (Nat.beq sp.1 0) (Nat.beq dp.1 0)) (Nat.beq n'.1 0)))))
      have h := e1.symm.trans h
      obtain ⟨u2, e2, q2, -, -⟩ := ai_res_eq ι env he vdp (fun dp => ai_res env vsp (fun sp => @Bool.rec (fun _ => ai_P) none (ai_src (n, hp, env, cs) vs (fun ks => ai_cel (n, hp, env, cs) vd (fun kd => @Bool.rec (fun _ => ai_P) none (ai_cpy ks kd sp.2 dp.2 u1.2 (fun c => ai_chg vd c (n, hp, env, cs) (sq loc stk))) (@Bool.rec (fun _ => Bool) false (@Bool.rec (fun _ => Bool) false (@Bool.rec (fun _ => Bool) false (@Bool.rec (fun _ => Bool) false (Nat.ble kd.2.1 30000) (Nat.ble ks.2.1 30000)) (@Bool.rec (fun _ => Bool) false (Nat.ble (Nat.add dp.2 u1.2) kd.2.1) (Nat.ble (Nat.add sp.2 u1.2) ks.2.1))) (ai_eqV ks.2.2.1 kd.2.2.1)) (@Bool.rec (fun _ => Bool) false (@Bool.rec (fun _ => Bool) false (Nat.ble ks.1 2) (Nat.ble 1 ks.1)) (Nat.beq ks.1 kd.1)))))) (@Bool.rec (fun _ => Bool) false (@Bool.rec (fun _ => Bool) false (Nat.beq sp.1 0) (Nat.beq dp.1 0)) (Nat.beq u1.1 0))))
      have h := e2.symm.trans h
      obtain ⟨u3, e3, q3, -, -⟩ := ai_res_eq ι env he vsp (fun sp => @Bool.rec (fun _ => ai_P) none (ai_src (n, hp, env, cs) vs (fun ks => ai_cel (n, hp, env, cs) vd (fun kd => @Bool.rec (fun _ => ai_P) none (ai_cpy ks kd sp.2 u2.2 u1.2 (fun c => ai_chg vd c (n, hp, env, cs) (sq loc stk))) (@Bool.rec (fun _ => Bool) false (@Bool.rec (fun _ => Bool) false (@Bool.rec (fun _ => Bool) false (@Bool.rec (fun _ => Bool) false (Nat.ble kd.2.1 30000) (Nat.ble ks.2.1 30000)) (@Bool.rec (fun _ => Bool) false (Nat.ble (Nat.add u2.2 u1.2) kd.2.1) (Nat.ble (Nat.add sp.2 u1.2) ks.2.1))) (ai_eqV ks.2.2.1 kd.2.2.1)) (@Bool.rec (fun _ => Bool) false (@Bool.rec (fun _ => Bool) false (Nat.ble ks.1 2) (Nat.ble 1 ks.1)) (Nat.beq ks.1 kd.1)))))) (@Bool.rec (fun _ => Bool) false (@Bool.rec (fun _ => Bool) false (Nat.beq sp.1 0) (Nat.beq u2.1 0)) (Nat.beq u1.1 0)))
      have h := e3.symm.trans h
      simp only [ak_if, ak_and, Nat.beq_eq, Nat.ble_eq, ai_eqV_iff] at h
      split at h
      · rename_i h000
        obtain ⟨Xn, st, rfl, hxn, hst⟩ := ak_s_cons hM.2.2.2.2.2.1
        obtain ⟨Xdp, st, rfl, hxdp, hst1⟩ := ak_s_cons hst
        obtain ⟨Xd, st, rfl, hxd, hst2⟩ := ak_s_cons hst1
        obtain ⟨Xsp, st, rfl, hxsp, hst3⟩ := ak_s_cons hst2
        obtain ⟨Xs, st, rfl, hxs, hst4⟩ := ak_s_cons hst3
        obtain ⟨_, rfl, z1, -⟩ := ak_v_int (q1 _ _ hxn) (by omega)
        obtain ⟨_, rfl, z2, -⟩ := ak_v_int (q2 _ _ hxdp) (by omega)
        obtain ⟨_, rfl, z3, -⟩ := ak_v_int (q3 _ _ hxsp) (by omega)
        obtain rfl := z1 h000.1
        obtain rfl := z2 h000.2.1
        obtain rfl := z3 h000.2.2
        have hrest : (st.map fun v => v.category).sum + (nativeFrameWords "java/lang/System" "arraycopy" 5 + 11) ≤ R.locals := by
          have r1 := ak_s_sum hst4
          have r2 : ai_sum (vn :: vdp :: vd :: vsp :: vs :: stk) = ai_cat vn + (ai_cat vdp + (ai_cat vd + (ai_cat vsp + (ai_cat vs + ai_sum stk)))) := rfl
          have r3 := C.2.2.2.2.1
          rw [r2] at hsum
          rw [r1]
          omega
        have hlsz : ls.size = M.1 := by obtain ⟨-, lv, hl, -⟩ := hM.2.2.2.2.1; exact hl.1
        have hfr : 1 ≤ R.frames := by have := C.2.2.2.1; omega
        /- behind the copy -/
        have fin : ∀ (ks kd : ai_C) (a : Nat) (f g : Nat → Int32), ks.2.2.1 = kd.2.2.1 → ks.1 = kd.1 → (1 ≤ kd.1 ∧ kd.1 ≤ 2) → u3.2 + u1.2 ≤ ks.2.1 → u2.2 + u1.2 ≤ kd.2.1 → vd.2 < n → hp[n - (vd.2 + 1)]? = some kd → ws[vd.2]? = some (a, .inl (ι.2.2.1 kd.1, kd.2.1, .inl g)) → (∀ j, j < ks.2.1 → ak_v ι (ws.map Prod.fst) (ak_rd ks j) (.int (f j))) → (∀ j, j < kd.2.1 → ak_v ι (ws.map Prod.fst) (ak_rd kd j) (.int (g j))) → (kd.1 = 2 → ∀ j, j < ks.2.1 → fits .byte (.int (f j)) = true) → (kd.1 = 2 → ∀ j, j < kd.2.1 → fits .byte (.int (g j)) = true) → ai_cpy ks kd u3.2 u2.2 u1.2 (fun c => ai_chg vd c (n, hp, env, cs) (sq loc stk)) = some outs → ∀ (H1 : Heap) (locs1 : List Loc), va_P ι.2.1 vwCl (ws.set vd.2 (a, .inl (ι.2.2.1 kd.1, kd.2.1, .inl (va_cpy f g u3.2 u2.2 u1.2)))) H1 → va_D (ak_A ι) (ws.set vd.2 (a, .inl (ι.2.2.1 kd.1, kd.2.1, .inl (va_cpy f g u3.2 u2.2 u1.2)))) → va_S (ak_A ι) s.heap H1 locs1 → W p l e R s m args below meth c H1 locs1 cs.1 cs.2 Q (F0 m (pc + 3) ls st) := by
          intro ks kd a f g d1 d2 d3 d4 d5 d6 d7 d8 d9 d10 d11 d12 d13 H1 locs1 a1 a2 a3
          obtain ⟨c', w1, w2, w3, w4⟩ := ai_cpy_eq ks kd u3.2 u2.2 u1.2 (fun c => ai_chg vd c (n, hp, env, cs) (sq loc stk)) d1
          rw [w1] at d13
          have hlt : n - (vd.2 + 1) < hp.length := (List.getElem?_eq_some_iff.mp d7).1
          have hg : ai_chg vd c' (n, hp, env, cs) (sq loc stk) = ai_set c' none hp (n - (vd.2 + 1)) (fun h => sq loc stk (n, h, env, cs)) := rfl
          rw [hg, ai_set_eq, if_pos hlt] at d13
          refine hs _ _ _ _ d13 Q hQ _ ls _ H1 locs1 (hM.write d8 a1 a2 a3 (ak_h_upd hM.2.2.2.1 d6 d8 (by rw [List.length_set]; exact hM.2.2.2.1.1) (List.getElem?_set_self hlt) (fun i hi => List.getElem?_set_ne (Ne.symm hi)) ?_) hst4)
          rw [← w2, ← w3]
          refine ak_ints_c (by rw [w2]; omega) (fun h2 j hj => ?_) (fun j hj => ?_)
          · rw [ak_va_cpy]
            rw [w3] at hj
            rw [w2] at h2
            by_cases hc : u2.2 ≤ j ∧ j < u2.2 + u1.2
            · rw [if_pos hc]; exact d11 h2 _ (by omega)
            · rw [if_neg hc]; exact d12 h2 j hj
          · rw [w4, ak_va_cpy]
            rw [w3] at hj
            by_cases hc : u2.2 ≤ j ∧ j < u2.2 + u1.2
            · rw [if_pos hc, if_pos hc]; exact d9 _ (by omega)
            · rw [if_neg hc, if_neg hc]; exact d10 j hj
        simp only [ai_src, ak_if, Nat.beq_eq, ak_op] at h
        split at h
        · rename_i h7
          obtain rfl := ak_v_const hxs h7
          cases hsar : ai_sar vs.2 with
          | none => rw [hsar] at h; exact absurd h (by simp)
          | some ll =>
            rw [hsar] at h
            simp only [Option.elim, ai_len_eq] at h
            obtain ⟨h6, hlt, kd, a, el, hf, hc, hw, hcc, href⟩ := ai_cel_some (w := (n, hp, env, cs)) hM.2.2.2.1 h
            obtain rfl := href _ hxd
            split at hf
            · rename_i hh
              obtain ⟨⟨g1, g2⟩, g3, ⟨g4, g5⟩, g6⟩ := hh
              have gk : kd.1 = 1 := g1.symm
              obtain ⟨g, rfl, hfit, hv⟩ := ak_c_ints hcc (by omega)
              have g4 : u3.2 + u1.2 ≤ ll.length := g4
              have g5 : u2.2 + u1.2 ≤ kd.2.1 := g5
              have fin2 := fin (1, ll.length, (0, 0), ai_num ll 0) kd a (fun i => nI (ll.getD i 0)) g g3 g1 (by omega) g4 g5 hlt hc hw (fun j hj => by
                have hj : j < ll.length := hj
                have e1 : ak_rd (1, ll.length, (0, 0), ai_num ll 0) j = (0, ll.getD j 0) := by
                  have := ak_num_look ll 0 j
                  rw [Nat.zero_add] at this
                  show (ak_look j (ai_num ll 0)).getD (0, 0) = _
                  rw [this, List.getD_eq_getElem?_getD, List.getElem?_eq_getElem hj]
                  rfl
                rw [e1]
                exact Or.inl ⟨rfl, rfl⟩) hv (fun h2 => by omega) (fun h2 => by omega) hf
              rw [gk] at hw fin2
              exact ak_copyT (f := fun i => nI (ll.getD i 0)) C hlsz hlink hnat hstat hini hM.1 hM.2.1.1 hM.2.2.1 (C.2.2.1.2.1.2.1 _ _ hsar).2 hw rfl (by omega) (by omega) (by omega) g4 g5 hrest hd fin2
            · exact absurd hf (by simp)
        · obtain ⟨k6, klt, ks, ka, kel, kf, kc, kw, kcc, kref⟩ := ai_cel_some (w := (n, hp, env, cs)) hM.2.2.2.1 h
          obtain rfl := kref _ hxs
          obtain ⟨h6, hlt, kd, a, el, hf, hc, hw, hcc, href⟩ := ai_cel_some (w := (n, hp, env, cs)) hM.2.2.2.1 kf
          obtain rfl := href _ hxd
          split at hf
          · rename_i hh
            obtain ⟨⟨g1, g2⟩, g3, ⟨g4, g5⟩, g6⟩ := hh
            obtain ⟨g, rfl, hfit, hv⟩ := ak_c_ints hcc (by omega)
            obtain ⟨f, rfl, kfit, kv⟩ := ak_c_ints kcc (by omega)
            have g4 : u3.2 + u1.2 ≤ ks.2.1 := g4
            have g5 : u2.2 + u1.2 ≤ kd.2.1 := g5
            have fin2 := fin ks kd a f g g3 g1 (by omega) g4 g5 hlt hc hw kv hv (fun h2 => kfit (by omega)) hfit hf
            have c1 := nI_clamp (show u1.2 < 2 ^ 31 by omega)
            have c2 := nI_clamp (show u2.2 < 2 ^ 31 by omega)
            have c3 := nI_clamp (show u3.2 < 2 ^ 31 by omega)
            rw [← c1, ← c2, ← c3] at fin2
            refine va_copyi (ty := ak_kt kd.1) C.1.1 C.1.2.1 (C.1.2.2.2.trans hlsz.symm) C.2.1.1 (C.2.1.2.1 _ hlink) (C.2.1.2.1 _ hnat) (C.2.1.2.1 _ hstat) (C.2.1.2.1 _ hini) C.2.2.1.1 hM.1 hM.2.1.1 hM.2.2.1 vs.2 vd.2 (ks.1 - 1) (kd.1 - 1) kw hw (by rw [g1]; exact ak_T_at (by omega)) (ak_T_at (by omega)) ?_ (nI_pos (by omega)) (nI_pos (by omega)) (nI_pos (by omega)) (by rw [c3, c1]; exact g4) (by rw [c2, c1]; exact g5) ?_ hfr hrest hd fin2
            · rcases (show kd.1 = 1 ∨ kd.1 = 2 by omega) with e | e <;> rw [e] <;> rfl
            · intro i hi
              rw [c1] at hi
              rw [c3]
              rcases (show kd.1 = 1 ∨ kd.1 = 2 by omega) with e | e
              · rw [e]; rfl
              · rw [e]; exact kfit (by omega) _ (by omega)
          · exact absurd hf (by simp)
      · exact absurd h (by simp)
  · exact absurd h (by simp)
/-- the constructor of the topmost class -/
theorem ah_obj {idx : Nat} (C : ak_C ι y b rt M d p l e R s m args below meth c) (hlink : Cond.methodLink y.cls idx Lib.objectInit ∈ ak_W) (hin : Cond.instanceMethod Lib.objectInit ∈ ak_W) (hcode : Cond.code Lib.objectInit ⟨#[0xb1]⟩ 1 none ∈ ak_W) (hd : decode b pc = .ok (.invokespecial idx, 3)) (hs : ak_Snd ι M (p, l, e, R, s, m, args, below, meth, c) (pc + 3) sq) : ak_Snd ι M (p, l, e, R, s, m, args, below, meth, c) pc (ai_obj sq jm κ) := by
  intro loc stk w outs h Q hQ ws ls st H locs hM
  cases stk with
  | nil => exact absurd h (by simp [ai_obj])
  | cons v stk =>
    simp only [ai_obj, ak_if, ak_and, Nat.beq_eq, Nat.ble_eq] at h
    split at h
    · rename_i hh
      obtain ⟨X, st, rfl, hx, hst⟩ := ak_s_cons hM.2.2.2.2.2.1
      obtain ⟨q, -, rfl⟩ := ak_v_cell hx hh.1
      obtain ⟨-, lv, hl, -⟩ := hM.2.2.2.2.1
      have hfr : 1 ≤ R.frames := by have := C.2.2.2.1; omega
      have hlo : 2 * 0 + (st.map fun v => v.category).sum + 12 ≤ R.locals := by
        have r1 := ak_s_sum hst
        have r3 := C.2.2.2.2.1
        omega
      exact W.objInit C.1.1 C.1.2.1 C.2.1.1 (C.2.1.2.1 _ hlink) (C.2.1.2.1 _ hin) (C.2.1.2.1 _ hcode) rfl (hl.1.trans C.1.2.2.2.symm) rfl hd hfr hlo (hs _ _ _ _ h Q hQ ws ls _ H locs (hM.restk hst))
    · exact absurd h (by simp)
end COPY
end
section
/-! ===== calls ===== -/
theorem ai_args_some {k : Nat} {f : List ai_V → List ai_V → ai_P} {outs : List ai_O} : ∀ {acc stk : List ai_V}, ai_args k acc stk f = some outs → ∃ as st : List ai_V, stk = as ++ st ∧ as.length = k ∧ f (as.reverse ++ acc) st = some outs := by
  induction k with
  | zero => intro acc stk h; exact ⟨[], stk, rfl, rfl, h⟩
  | succ k ih =>
    intro acc stk h
    cases stk with
    | nil => cases h
    | cons v stk =>
      have h1 : ai_args (k + 1) acc (v :: stk) f = ai_args k (v :: acc) stk f := rfl
      rw [h1] at h
      obtain ⟨as, st, rfl, hl, hf⟩ := ih h
      exact ⟨v :: as, st, rfl, by simp [hl], by simpa using hf⟩
theorem ai_ent_some {f : ai_L → ai_P} {outs : List ai_O} : ∀ {nL : Nat} {a : List ai_V}, ai_ent nL a f = some outs → ∃ loc : ai_L, f loc = some outs ∧ loc.length = nL ∧ a.length ≤ nL ∧ (∀ v ∈ a, ai_in 3 4 v = false) ∧ ∀ (i : Nat) (v : ai_V), loc[i]? = some v → v.1 ≤ 7 → a[i]? = some v := by
  intro nL
  induction nL generalizing f with
  | zero =>
    intro a h
    cases a with
    | nil => exact ⟨[], h, rfl, Nat.le_refl _, fun v hv => absurd hv List.not_mem_nil, fun i v hi => by simp at hi⟩
    | cons v a => cases h
  | succ nL ih =>
    intro a h
    cases a with
    | nil =>
      have h1 : ai_ent (nL + 1) [] f = ai_ent nL [] (fun r => f ((9, 0) :: r)) := rfl
      rw [h1] at h
      obtain ⟨loc, e1, e2, e3, e4, e5⟩ := ih h
      refine ⟨(9, 0) :: loc, e1, by simp [e2], Nat.zero_le _, fun v hv => absurd hv List.not_mem_nil, fun i v hi h7 => ?_⟩
      cases i with
      | zero => cases hi; simp at h7
      | succ i => have := e5 i v hi h7; simp at this
    | cons v a =>
      have h1 : ai_ent (nL + 1) (v :: a) f = @Bool.rec (fun _ => ai_P) (ai_ent nL a (fun r => f (v :: r))) none (ai_in 3 4 v) := rfl
      rw [h1, ak_if] at h
      split at h
      · cases h
      · rename_i h34
        obtain ⟨loc, e1, e2, e3, e4, e5⟩ := ih h
        refine ⟨v :: loc, e1, by simp [e2], by simp [e3], fun u hu => ?_, fun i u hi h7 => ?_⟩
        · rcases List.mem_cons.mp hu with rfl | hu
          · exact Bool.eq_false_iff.mpr h34
          · exact e4 u hu
        · cases i with
          | zero => exact hi
          | succ i => exact e5 i u hi h7
theorem ai_eqO_eq {u v : ai_O} (h : ai_eqO u v = true) : u = v := by
  obtain ⟨a, n, hp, env⟩ := u
  obtain ⟨a', n', hp', env'⟩ := v
  simp only [ai_eqO, ak_if, ak_and, Nat.beq_eq, decide_eq_true_eq] at h
  obtain ⟨rfl, rfl, rfl, rfl⟩ := h
  rfl
theorem ai_has_mem {u : ai_O} : ∀ {l : List ai_O}, ai_has u l = true → u ∈ l := by
  intro l
  induction l with
  | nil => intro h; cases h
  | cons v l ih =>
    intro h
    have h1 : ai_has u (v :: l) = @Bool.rec (fun _ => Bool) (ai_has u l) true (ai_eqO u v) := rfl
    rw [h1, ak_if] at h
    split at h
    · rename_i he
      rw [ai_eqO_eq he]
      exact List.mem_cons_self
    · exact List.mem_cons_of_mem _ (ih h)
theorem ai_uni_mem : ∀ {l : List ai_O} {o : ai_O}, o ∈ l → o ∈ ai_uni l := by
  intro l
  induction l with
  | nil => intro o h; exact h
  | cons u l ih =>
    intro o h
    cases l with
    | nil => exact h
    | cons v l =>
      have h1 : ai_uni (u :: v :: l) = @Bool.rec (fun _ => List ai_O) (u :: ai_uni (v :: l)) (ai_uni (v :: l)) (ai_has u (v :: l)) := rfl
      rw [h1, ak_if]
      split
      · rename_i hh
        rcases List.mem_cons.mp h with rfl | h
        · exact ih (ai_has_mem hh)
        · exact ih h
      · rcases List.mem_cons.mp h with rfl | h
        · exact List.mem_cons_self
        · exact List.mem_cons_of_mem _ (ih h)
/-! what a callee is told and tells -/
def ak_o (ι : ak_I) (ads : List Nat) (o : Option ai_V) (v : Option Value) : Prop := (o = none ∧ v = none) ∨ ∃ (a : ai_V) (x : Value), o = some a ∧ v = some x ∧ ak_v ι ads a x
def ak_Q (ι : ak_I) (ws : va_W) (outs : List ai_O) : Array Value → State → Outcome → State → Prop := fun _ st oc t =>
  (∃ o ∈ outs, ∃ (v : Option Value) (u : va_W), oc = .returned v ∧ ak_o ι (u.map Prod.fst) o.1 v ∧ ak_h ι o.2.1 o.2.2.1 u ∧ ak_e ι o.2.2.2 ∧ ws.map Prod.fst <+: u.map Prod.fst ∧ va_P ι.2.1 vwCl u t.heap ∧ va_D (ak_A ι) u) ∧ va_F (ak_A ι) st t
def ak_Pc (ι : ak_I) (ws : va_W) (avs : List Value) : Array Value → State → Prop := va_Pc avs (fun U => ι.1 ≤ U.heap.size ∧ va_P ι.2.1 vwCl ws U.heap ∧ va_D (ak_A ι) ws ∧ va_K ι.2.1 vwCl (ak_T ι) U ∧ ak_S ι U U.heap ∧ ak_Nw U)
theorem ak_S.moved {ι : ak_I} {u U : State} {H : Heap} (hvm : u.vm.Alike U.vm) (h : ak_S ι u H) : ak_S ι U H := by
  obtain ⟨h1, h2, h3, L, xs, h4, h5⟩ := h
  exact ⟨h1.moved hvm, fun j l hl => ⟨(h2 j l hl).1.moved hvm, (h2 j l hl).2.moved hvm⟩, ⟨h3.1.moved hvm, h3.2.moved hvm⟩, L, xs, h4.moved hvm, h5⟩
theorem ak_S.kept {ι : ak_I} {U : State} {H H1 : Heap} (h : ak_S ι U H) (hsz : H.size ≤ H1.size) (hq : ∀ q : Nat, q < H.size → ¬ ak_A ι q → H1[q]? = H[q]?) : ak_S ι U H1 := by
  obtain ⟨h1, h2, h3, L, xs, h4, h5, h6, h7⟩ := h
  exact ⟨h1.kept hq, fun j l hl => ⟨(h2 j l hl).1.kept hq, (h2 j l hl).2.kept hq⟩, ⟨h3.1.kept hq, h3.2.kept hq⟩, L, xs, h4.kept (hq _ h6 (by show ¬ _ ≤ _; omega)), h5, by omega, h7⟩
theorem ak_Nw.moved {s U : State} (hW : s.WarmedH U.vm) (h : ak_Nw s) : ak_Nw U :=
  ⟨fun a i b n d k hm => va_Nw.warmF hW (h.1 a i b n d k hm), fun a i x k hm => va_Nw.warmM hW (h.2.1 a i x k hm), va_AO.moved hW.alike h.2.2.1, va_AO.moved hW.alike h.2.2.2⟩
theorem ak_blind (ι : ak_I) (ws : va_W) (avs : List Value) : FrameBlind (ak_Pc ι ws avs) := by
  intro a U g mk ⟨h1, h2, h3, h4, h5, h6, h7⟩
  have al : U.vm.Alike (U.calling g mk a).vm := Vm.Alike.refl U.vm
  exact ⟨h1, h2, h3, h4, va_K.moved al h5, ak_S.moved al h6, fun a i b n d k hm => va_Nw.same rfl rfl (h7.1 a i b n d k hm), fun a i x k hm => va_Nw.same rfl rfl (h7.2.1 a i x k hm), va_AO.moved al h7.2.2.1, va_AO.moved al h7.2.2.2⟩
/-- at a call the callee's start holds -/
theorem ak_pre {ι : ak_I} {s : State} {ws : va_W} {H : Heap} {locs : List Loc} (hK : va_K ι.2.1 vwCl (ak_T ι) s) (hE : ak_S ι s s.heap) (hb : ι.1 ≤ s.heap.size) (hN : ak_Nw s) (hP : va_P ι.2.1 vwCl ws H) (hD : va_D (ak_A ι) ws) (hS : va_S (ak_A ι) s.heap H locs) (avs : List Value) (U : State) (hU : U.heap = H) (hW : s.WarmedH U.vm) : ak_Pc ι ws avs avs.toArray U := by
  refine ⟨rfl, ?_, ?_, hD, va_K.moved hW.alike hK, ?_, hN.moved hW⟩
  · rw [hU]; exact Nat.le_trans hb hS.1
  · rw [hU]; exact hP
  · rw [hU]; exact (hE.moved hW.alike).kept hS.1 hS.2.1
section CALLS
variable {ι : ak_I} {y : MethodName} {b : ByteArray} {rt : Option FieldType} {M : ai_M} {d : Nat} {p : Program} {l : Launch} {e : Env} {R : Room} {s : State} {m : MethodId} {args : Array Value} {below : List Frame} {meth : Method} {c : Code} {pc : Nat} {sq : ai_Q} {jm : Nat → ai_Q} {κ : ai_K}
/-- behind a call -/
theorem ak_go {H : Heap} {locs : List Loc} {cells slots mc ms : Nat} {Q : State → Prop} {ls : Array Slot} {st0 rest : List Value} {ws : va_W} {outs : List ai_O} {a : Array Value} (hr : va_Run p l e R s m args below meth c H locs cells slots mc ms (F0 m pc ls st0) rest (ak_Q ι ws outs a) (ak_A ι)) (hS : va_S (ak_A ι) s.heap H locs)
    (kk : ∀ (o : ai_O) (v : Option Value) (u : va_W) (H1 : Heap) (locs1 : List Loc), o ∈ outs → ak_o ι (u.map Prod.fst) o.1 v → ak_h ι o.2.1 o.2.2.1 u → ak_e ι o.2.2.2 → ws.map Prod.fst <+: u.map Prod.fst → va_P ι.2.1 vwCl u H1 → va_D (ak_A ι) u → va_S (ak_A ι) s.heap H1 locs1 → W p l e R s m args below meth c H1 locs1 (cells + mc) (slots + ms) Q (F0 m (pc + 3) ls (v.toList ++ rest))) : W p l e R s m args below meth c H locs cells slots Q (F0 m pc ls st0) := by
  intro T hT X
  obtain ⟨v, st₀, t, T', L, h0, X', hL, e1, -, ⟨⟨o, ho, v', u, hv, q1, q2, q3, q4, q5, q6⟩, hz, hk⟩, st⟩ := hr T hT X
  cases hv
  rw [h0] at hz hk
  obtain ⟨t2, a1, b1⟩ := kk o v u T'.heap (locs ++ L) ho q1 q2 q3 q4 (by rw [e1]; exact q5) q6
    ⟨by rw [e1]; exact Nat.le_trans hS.1 hz, fun q z1 z2 => by rw [e1, hk q (Nat.lt_of_lt_of_le z1 hS.1) z2]; exact hS.2.1 q z1 z2, fun q hq => by
      rcases List.mem_append.mp hq with hq | hq
      · exact hS.2.2 q hq
      · exact hL q hq⟩ T' rfl X'
  exact ⟨t2, st t2 a1, b1⟩
/-- the words of a method, and its room -/
def ak_Wd (y : MethodName) (b : ByteArray) (nL : Nat) (rt : Option FieldType) : List Cond := .code y b nL rt :: ak_W
def ak_rm (d b1 b2 : Nat) : Room := { frames := d + 1, cells := b1, slots := b2, locals := 64 * (d + 1) }
theorem ak_good {y : MethodName} {b : ByteArray} {nL : Nat} {rt : Option FieldType} (h : Cond.code y b nL rt ∈ ak_W) : GoodIn ak_W (ak_Wd y b nL rt) := by
  have g : ∀ w ∈ ak_W, w ∈ ak_W ∧ ((w.onTables && w.keeps) = true ∨ ∃ ty, w = .arrayClass ty) := fun w hw => ⟨hw, good_of_word (List.mem_filter.mp hw).2⟩
  intro w hw
  rcases List.mem_cons.mp hw with rfl | hw
  · exact g _ h
  · exact g w hw
/-- how a method is called: mode 0 to 6 -/
def ak_md (mode : Nat) (own : String) (idx : Nat) (y : MethodName) (ci : Nat) : Prop :=
  (mode = 0 ∧ Cond.methodLink own idx y ∈ ak_W ∧ Cond.instanceMethod y ∈ ak_W ∧ Cond.selects y.cls y y ∈ ak_W ∧ ∃ q, vwCl[ci]? = some q ∧ q.1 = y.cls) ∨
  (mode = 1 ∧ (∃ host, Cond.methodLinkNest own idx y host ∈ lw_tbl) ∧ Cond.instanceMethod y ∈ ak_W ∧ Cond.selects y.cls y y ∈ ak_W ∧ ∃ q, vwCl[ci]? = some q ∧ q.1 = y.cls) ∨
  (mode = 2 ∧ Cond.methodLink own idx y ∈ ak_W ∧ Cond.instanceMethod y ∈ ak_W ∧ y.name = "<init>") ∨
  (mode = 3 ∧ (∃ host, Cond.methodLinkNest own idx y host ∈ lw_tbl) ∧ Cond.instanceMethod y ∈ ak_W ∧ y.name = "<init>") ∨
  ((mode = 4 ∨ mode = 5) ∧ Cond.methodLink own idx y ∈ ak_W ∧ Cond.static y ∈ ak_W) ∨
  (mode = 6 ∧ (∃ host, Cond.methodLinkNest own idx y host ∈ lw_tbl) ∧ Cond.static y ∈ ak_W)
/-- what the tables say of a method that is called -/
def ak_ym (y : MethodName) (b : ByteArray) (nL : Nat) (rt : Option FieldType) : Prop := Cond.code y b nL rt ∈ ak_W ∧ Cond.initialized y.cls ∈ ak_W ∧ y.cls ≠ "java/lang/invoke/MethodHandle" ∧ y.cls ≠ "java/lang/invoke/VarHandle" ∧ nL ≤ 45 ∧ plainFor y = true ∧ (y.name = "<init>" → rt = none)
theorem ah_run {mode idx ci k d' : Nat} {y' : MethodName} {b' : ByteArray} {rt' : Option FieldType} {M' : ai_M} {ws : va_W} {n : Nat} {hp : ai_H} {as : List ai_V} {avs rest : List Value} {H : Heap} {locs : List Loc} {cells slots : Nat} {ls : Array Slot} {outs : List ai_O} {w2 : ai_E × Nat × Nat} (C : ak_C ι y b rt M (d' + 1) p l e R s m args below meth c) (hy : ak_ym y' b' M'.1 rt') (hmd : ak_md mode y.cls idx y' ci) (hk : (parseMethodDescriptor y'.desc).map (fun d => d.parameters.length) = some (if mode ≤ 3 then k - 1 else k)) (hdec : (mode ≤ 1 ∧ decode b pc = .ok (.invokevirtual idx, 3)) ∨ (2 ≤ mode ∧ mode ≤ 3 ∧ decode b pc = .ok (.invokespecial idx, 3)) ∨ (4 ≤ mode ∧ decode b pc = .ok (.invokestatic idx, 3))) (hP : va_P ι.2.1 vwCl ws H) (hD : va_D (ak_A ι) ws) (hS : va_S (ak_A ι) s.heap H locs) (hh : ak_h ι n hp ws) (hlen : as.length = k) (hs : ak_s ι (ws.map Prod.fst) as.reverse avs) (hrcv : ai_rcv mode ci (n, hp, w2) as.reverse (some outs) = some outs) (hls : ls.size = M.1) (hsum : (rest.map fun v => v.category).sum ≤ 8) (hc : cells + M'.2.2.1 ≤ M.2.2.1) (hsl : slots + M'.2.2.2 ≤ M.2.2.2) (hM : Met l y' (ak_Wd y' b' M'.1 rt') (ak_rm d' M'.2.2.1 M'.2.2.2) (ak_Pc ι ws avs) (ak_Q ι ws outs) M'.2.2.1 M'.2.2.2 (ak_A ι)) : va_Run p l e R s m args below meth c H locs cells slots M'.2.2.1 M'.2.2.2 (F0 m pc ls (avs.reverse ++ rest)) rest (ak_Q ι ws outs avs.toArray) (ak_A ι) := by
  have pre := ak_pre C.2.2.1.1 C.2.2.1.2.1 C.2.2.1.2.2.1 C.2.2.1.2.2.2 hP hD hS avs
  have alen : avs.length = k := by
    have : ∀ {l : List ai_V} {k : List Value}, ak_s ι (ws.map Prod.fst) l k → k.length = l.length := by
      intro l
      induction l with
      | nil => intro k h; rw [ak_s_nil h]; rfl
      | cons a l ih => intro k h; obtain ⟨x, k, rfl, -, h⟩ := ak_s_cons h; simp [ih h]
    rw [this hs, List.length_reverse, hlen]
  have hR : (ak_rm d' M'.2.2.1 M'.2.2.2).frames + 1 ≤ R.frames ∧ 8 + (M'.1 + 11) + (ak_rm d' M'.2.2.1 M'.2.2.2).locals ≤ R.locals := by
    have r1 := C.2.2.2.1
    have r2 := C.2.2.2.2.1
    have r3 := hy.2.2.2.2.1
    exact ⟨r1, by show 8 + (M'.1 + 11) + 64 * (d' + 1) ≤ R.locals; omega⟩
  have hfix : CallFix p m c b M.1 s args ak_W y.cls := ⟨C.1.1, C.1.2.1, C.1.2.2.2, C.2.1.1, C.2.1.2.1⟩
  have hf : cells + M'.2.2.1 ≤ R.cells ∧ slots + M'.2.2.2 ≤ R.slots := ⟨by rw [C.2.2.2.2.2.1]; exact hc, by rw [C.2.2.2.2.2.2]; exact hsl⟩
  have hW : 2 * (F0 m pc ls (avs.reverse ++ rest)).monitorRoom + (rest.map fun v => v.category).sum ≤ 8 := lv_room hsum
  have hn1 : ∀ j : Nat, (parseMethodDescriptor y'.desc).map (fun d => d.parameters.length) = some j → (y'.cls ≠ "java/lang/invoke/MethodHandle" ∧ y'.cls ≠ "java/lang/invoke/VarHandle" ∧ (parseMethodDescriptor y'.desc).map (fun d => d.parameters.length) = some j) := fun j h => ⟨hy.2.2.1, hy.2.2.2.1, h⟩
  have hini := C.2.1.2.1 _ hy.2.1
  /- a receiver -/
  have recv : mode ≤ 3 → ∃ (v : ai_V) (q : Nat) (As : List Value), avs = .ref q :: As ∧ As.length = k - 1 ∧ (mode ≤ 1 → ∃ (v2 : Nat) (fs : List Value), ws[v2]? = some (q, .inr (ci, fs))) := by
    intro hm
    cases ha : as.reverse with
    | nil =>
      rw [ha] at hrcv
      simp only [ai_rcv, ak_if, Nat.ble_eq] at hrcv
      split at hrcv
      · cases hrcv
      · try rw [if_pos hm] at hrcv
        cases hrcv
    | cons v a' =>
      rw [ha] at hrcv hs
      obtain ⟨X, As, rfl, hx, -⟩ := ak_s_cons hs
      simp only [ai_rcv, ak_if, Nat.ble_eq, Nat.beq_eq, ak_and] at hrcv
      split at hrcv
      · rename_i hm1
        obtain ⟨h6, hlt, cl, a, el, hf, -, hw, hcc, href⟩ := ai_cel_some (w := (n, hp, w2)) hh hrcv
        split at hf
        · rename_i h0
          obtain rfl := href _ hx
          obtain ⟨fs, rfl, -, -⟩ := ak_c_obj hcc h0.1
          rw [h0.2] at hw
          exact ⟨v, a, As, rfl, by simp at alen; omega, fun _ => ⟨v.2, fs, hw⟩⟩
        · cases hf
      · rename_i hm1
        try rw [if_pos hm] at hrcv
        split at hrcv
        · rename_i h6
          obtain ⟨q, -, rfl⟩ := ak_v_cell hx h6
          exact ⟨v, q, As, rfl, by simp at alen; omega, fun h => absurd h hm1⟩
        · cases hrcv
  rcases hmd with ⟨rfl, a1, a2, a3, q, a4, a5⟩ | ⟨rfl, ⟨host, a1⟩, a2, a3, q, a4, a5⟩ | ⟨rfl, a1, a2, a3⟩ | ⟨rfl, ⟨host, a1⟩, a2, a3⟩ | ⟨hm, a1, a2⟩ | ⟨rfl, ⟨host, a1⟩, a2⟩
  · obtain ⟨v, qa, As, rfl, hAs, hob⟩ := recv (by omega)
    obtain ⟨v2, fs, hw⟩ := hob (by omega)
    have hdg : decode b pc = .ok (.invokevirtual idx, 3) := by rcases hdec with ⟨-, h⟩ | ⟨h, -⟩ | ⟨h, -⟩ <;> first | exact h | omega
    exact va_runV (As := As) (n := k - 1) (C := y'.cls) (index := idx) hfix hM ⟨callB_of (k - 1) C.2.1.2.1 (ak_good hy.1) rfl rfl rfl hini (C.2.1.2.1 _ a1) (hn1 _ (by simpa using hk)) hR, C.2.1.2.1 _ a2, C.2.1.2.1 _ a3⟩ ⟨ak_blind ι ws _, by rw [← a5]; exact va_recv C.2.2.1.1 hP a4 hw, pre⟩ rfl hAs hls (by simp) hW hdg hf
  · obtain ⟨v, qa, As, rfl, hAs, hob⟩ := recv (by omega)
    obtain ⟨v2, fs, hw⟩ := hob (by omega)
    have hdg : decode b pc = .ok (.invokevirtual idx, 3) := by rcases hdec with ⟨-, h⟩ | ⟨h, -⟩ | ⟨h, -⟩ <;> first | exact h | omega
    exact va_runVN (As := As) (n := k - 1) (C := y'.cls) (index := idx) (host := host) hfix hM ⟨va_cnB (k - 1) C.2.1.2.1 (ak_good hy.1) rfl rfl rfl (C.2.2.1.2.2.2.2.1 _ _ _ _ a1) hini (hn1 _ (by simpa using hk)) hR, C.2.1.2.1 _ a2, C.2.1.2.1 _ a3⟩ ⟨ak_blind ι ws _, by rw [← a5]; exact va_recv C.2.2.1.1 hP a4 hw, pre⟩ rfl hAs hls (by simp) hW hdg hf
  · obtain ⟨v, qa, As, rfl, hAs, -⟩ := recv (by omega)
    obtain rfl := hy.2.2.2.2.2.2 a3
    have hdg : decode b pc = .ok (.invokespecial idx, 3) := by rcases hdec with ⟨h, -⟩ | ⟨-, -, h⟩ | ⟨h, -⟩ <;> first | exact h | omega
    exact va_runI (As := As) (n := k - 1) (index := idx) hfix hM ⟨callB_of (k - 1) C.2.1.2.1 (ak_good hy.1) rfl rfl rfl hini (C.2.1.2.1 _ a1) (hn1 _ (by simpa using hk)) hR, a3, C.2.1.2.1 _ a2⟩ ⟨ak_blind ι ws _, pre⟩ rfl hAs hls (by simp) hW hdg hf
  · obtain ⟨v, qa, As, rfl, hAs, -⟩ := recv (by omega)
    obtain rfl := hy.2.2.2.2.2.2 a3
    have hdg : decode b pc = .ok (.invokespecial idx, 3) := by rcases hdec with ⟨h, -⟩ | ⟨-, -, h⟩ | ⟨h, -⟩ <;> first | exact h | omega
    exact va_runIN (As := As) (n := k - 1) (index := idx) (host := host) hfix hM ⟨va_cnB (k - 1) C.2.1.2.1 (ak_good hy.1) rfl rfl rfl (C.2.2.1.2.2.2.2.1 _ _ _ _ a1) hini (hn1 _ (by simpa using hk)) hR, a3, C.2.1.2.1 _ a2⟩ ⟨ak_blind ι ws _, pre⟩ rfl hAs hls (by simp) hW hdg hf
  · have hdg : decode b pc = .ok (.invokestatic idx, 3) := by rcases hdec with ⟨h, -⟩ | ⟨-, h, -⟩ | ⟨-, h⟩ <;> first | exact h | omega
    exact va_runS (As := avs) (n := k) (index := idx) hfix hM ⟨callB_of k C.2.1.2.1 (ak_good hy.1) rfl rfl rfl hini (C.2.1.2.1 _ a1) (hn1 _ (by rw [hk, if_neg (by omega)])) hR, C.2.1.2.1 _ a2⟩ ⟨ak_blind ι ws _, pre⟩ rfl alen hls rfl hW hdg hf
  · have hdg : decode b pc = .ok (.invokestatic idx, 3) := by rcases hdec with ⟨h, -⟩ | ⟨-, h, -⟩ | ⟨-, h⟩ <;> first | exact h | omega
    exact va_runSN (As := avs) (n := k) (index := idx) (host := host) hfix hM ⟨va_cnB k C.2.1.2.1 (ak_good hy.1) rfl rfl rfl (C.2.2.1.2.2.2.2.1 _ _ _ _ a1) hini (hn1 _ (by rw [hk, if_neg (by omega)])) hR, C.2.1.2.1 _ a2, trivial⟩ ⟨ak_blind ι ws _, pre⟩ rfl alen hls rfl hW hdg hf
end CALLS
end
section
/-! ===== an instruction of the tables ===== -/
/-- an instruction's length -/
def ak_ln : Instr → Nat
  | .bipush _ => 2
  | .sipush _ => 3
  | .ldc _ => 2
  | .ldc_w _ => 3
  | .iload _ => 2
  | .aload _ => 2
  | .istore _ => 2
  | .astore _ => 2
  | .iinc _ _ => 3
  | .goto _ => 3
  | .if_icmp _ _ => 3
  | .ifCond _ _ => 3
  | .if_acmp _ _ => 3
  | .ifnull _ => 3
  | .ifnonnull _ => 3
  | .getfield _ => 3
  | .putfield _ => 3
  | .getstatic _ => 3
  | .new _ => 3
  | .newarray _ => 2
  | .anewarray _ => 3
  | .invokevirtual _ => 3
  | .invokespecial _ => 3
  | .invokestatic _ => 3
  | _ => 1
/-- a call by its mode -/
def ak_cv (y : MethodName) (op idx mid k mode ci : Nat) : Prop :=
  (mode ≤ 6 ∧ (∃ q M', ak_mt[mid]? = some q ∧ ai_tab[mid]? = some M' ∧ ak_ym q.1 q.2.1 M'.1 q.2.2.1 ∧ ak_md mode y.cls idx q.1 ci ∧ (parseMethodDescriptor q.1.desc).map (fun d => d.parameters.length) = some (if mode ≤ 3 then k - 1 else k)) ∧ ((mode ≤ 1 ∧ op = 0) ∨ (2 ≤ mode ∧ mode ≤ 3 ∧ op = 1) ∨ (4 ≤ mode ∧ op = 2))) ∨
  (mode = 7 ∧ op = 1 ∧ Cond.methodLink y.cls idx Lib.objectInit ∈ ak_W) ∨ (mode = 8 ∧ op = 2 ∧ Cond.methodLink y.cls idx arraycopyName ∈ ak_W) ∨ (mode = 9 ∧ op = 0 ∧ Cond.methodLink y.cls idx ⟨"SpanCopier$Word", "ordinal", "()I"⟩ ∈ ak_W)
def ak_lk (y : MethodName) (rt : Option FieldType) (ins : Instr) (r1 r2 r3 r5 : Nat) : Prop := match ins with
  | .ldc i => Cond.constant y.cls i (nI r1) ∈ ak_W
  | .ldc_w i => Cond.constant y.cls i (nI r1) ∈ ak_W
  | .getfield i => ∃ q, vwCl[r2]? = some q ∧ r1 < q.2.2 ∧ (Cond.fieldLink y.cls i (q.2.1 r1).1 (q.2.1 r1).2.1 (q.2.1 r1).2.2.1 ∈ ak_W ∨ ∃ host, Cond.fieldLinkNest y.cls i (q.2.1 r1).1 (q.2.1 r1).2.1 (q.2.1 r1).2.2.1 host ∈ lw_tbl)
  | .putfield i => ∃ q ty, vwCl[r2]? = some q ∧ r1 < q.2.2 ∧ parseFieldDescriptor (q.2.1 r1).2.2.1 = some ty ∧ ak_ty r5 ty ∧ ((Cond.fieldLink y.cls i (q.2.1 r1).1 (q.2.1 r1).2.1 (q.2.1 r1).2.2.1 ∈ ak_W ∧ (q.2.1 r1).2.2.2 = false) ∨ (∃ host, Cond.fieldLinkNest y.cls i (q.2.1 r1).1 (q.2.1 r1).2.1 (q.2.1 r1).2.2.1 host ∈ lw_tbl ∧ (q.2.1 r1).2.2.2 = false) ∨ (Cond.fieldLink y.cls i (q.2.1 r1).1 (q.2.1 r1).2.1 (q.2.1 r1).2.2.1 ∈ ak_W ∧ (q.2.1 r1).2.2.2 = true ∧ y.name = "<init>" ∧ (q.2.1 r1).1 = y.cls))
  | .getstatic i => (r1 < 38 ∨ 40 ≤ r1 ∧ r1 ≤ 43) ∧ (Cond.fieldLink y.cls i (ak_st r1).1 (ak_st r1).2.1 (ak_st r1).2.2 ∈ ak_W ∨ ∃ host, Cond.fieldLinkNest y.cls i (ak_st r1).1 (ak_st r1).2.1 (ak_st r1).2.2 host ∈ lw_tbl)
  | .new i => ∃ q, vwCl[r1]? = some q ∧ r2 = q.2.2 ∧ Cond.classLink y.cls i q.1 ∈ ak_W
  | .newarray t => ak_kd r1 t ∧ Cond.arrayClass (newarray.typeOf t) ∈ ak_W
  | .anewarray i => ∃ Cn, ((r1 = 5 ∧ Cn = "SpanCopier$Word") ∨ (r1 = 6 ∧ Cn = "SpanCopier$World")) ∧ Cond.classLink y.cls i Cn ∈ ak_W
  | .invokevirtual i => ak_cv y 0 i r1 r2 r3 r5
  | .invokespecial i => ak_cv y 1 i r1 r2 r3 r5
  | .invokestatic i => ak_cv y 2 i r1 r2 r3 r5
  | .ireturn => ∃ ty, rt = some ty ∧ ((r1 = 1 ∧ ty = .boolean) ∨ (¬ r1 = 1 ∧ ty = .int))
  | .areturn => ∃ ty, rt = some ty ∧ ((∃ n, ty = .object n) ∨ ∃ t, ty = .array t)
  | .return_ => rt = none
  | _ => True
/-- an instruction of a method -/
def ak_okE (y : MethodName) (b : ByteArray) (rt : Option FieldType) (e : ai_N) : Prop := decode b e.1 = .ok (e.2.1, e.2.2.1) ∧ ((∀ a b c d, e.2.1 ≠ .tableswitch a b c d) → e.2.2.1 = ak_ln e.2.1) ∧ ak_lk y rt e.2.1 e.2.2.2.1 e.2.2.2.2.1 e.2.2.2.2.2.1 e.2.2.2.2.2.2.2
/-- words that stand for all -/
def ak_glob : Prop := Cond.native arraycopyName ∈ ak_W ∧ Cond.static arraycopyName ∈ ak_W ∧ Cond.initialized "java/lang/System" ∈ ak_W ∧ Cond.instanceMethod Lib.objectInit ∈ ak_W ∧ Cond.code Lib.objectInit ⟨#[0xb1]⟩ 1 none ∈ ak_W ∧ nativeFrameWords "java/lang/System" "arraycopy" 5 ≤ 40 ∧ (∀ ci q, vwCl[ci]? = some q → ∀ j, j < q.2.2 → ∃ ty, parseFieldDescriptor (q.2.1 j).2.2.1 = some ty ∧ ∀ (ι : ak_I) (ads : List Nat), ak_v ι ads (ak_rd (0, ci, (5, 0), ai_ini ci) j) (defaultValue ty))
theorem ai_to_some {pc : Nat} {off : Int} {f : Nat → ai_D} {hd : ai_D} (h : ai_to pc off f = some hd) : ∃ t : Nat, (pc : Int) + off = (t : Int) ∧ hd = f t := by
  simp only [ai_to, ak_op] at h
  cases ht : ai_tgt pc off with
  | none => rw [ht] at h; cases h
  | some t => rw [ht] at h; cases h; exact ⟨t, ai_tgt_some ht, rfl⟩
section STEP
variable {ι : ak_I} {y : MethodName} {b : ByteArray} {rt : Option FieldType} {M : ai_M} {d : Nat} {p : Program} {l : Launch} {e : Env} {R : Room} {s : State} {m : MethodId} {args : Array Value} {below : List Frame} {meth : Method} {c : Code} {pc : Nat} {sq : ai_Q} {jm : Nat → ai_Q} {κ : ai_K}
/-! the ends -/
theorem ai_ret2_some {v : Option ai_V} {n nc ns : Nat} {hp : ai_H} {env : ai_E} {outs : List ai_O} (hκ : κ.2.2.1 = M) (h : ai_ret2 v κ (n, hp, env, nc, ns) = some outs) : nc ≤ M.2.2.1 ∧ ns ≤ M.2.2.2 ∧ outs = [(v, n, hp, env)] := by
  simp only [ai_ret2, ak_if, ak_and, Nat.ble_eq, hκ] at h
  split at h
  · rename_i hh
    exact ⟨hh.1, hh.2, (Option.some.inj h).symm⟩
  · cases h
theorem ah_retv (C : ak_C ι y b rt M d p l e R s m args below meth c) (hκ : κ.2.2.1 = M) (hrt : rt = none) (hd : decode b pc = .ok (.return_, 1)) : ak_Snd ι M (p, l, e, R, s, m, args, below, meth, c) pc (ai_retv sq jm κ) := by
  intro loc stk w outs h Q hQ ws ls st H locs hM
  obtain ⟨n, hp, env, nc, ns⟩ := w
  cases stk with
  | cons v stk => exact absurd h (by simp [ai_retv])
  | nil =>
    simp only [ai_retv] at h
    obtain ⟨r1, r2, rfl⟩ := ai_ret2_some hκ h
    obtain rfl := ak_s_nil hM.2.2.2.2.2.1
    exact hQ _ List.mem_cons_self ws ls H locs pc nc ns none r1 r2 hM.1 hM.2.1.1 hM.2.1.2 hM.2.2.1 hM.2.2.2.1 hM.2.2.2.2.2.2 (Or.inl ⟨rfl, rfl, C.1.2.2.1.trans hrt, by show decode c.code pc = _; rw [C.1.2.1]; exact hd⟩)
theorem ah_reti (C : ak_C ι y b rt M d p l e R s m args below meth c) (hκ : κ.2.2.1 = M) (hrt : rt = some .int) (hd : decode b pc = .ok (.ireturn, 1)) : ak_Snd ι M (p, l, e, R, s, m, args, below, meth, c) pc (ai_ret 0 2 sq jm κ) := by
  intro loc stk w outs h Q hQ ws ls st H locs hM
  obtain ⟨n, hp, env, nc, ns⟩ := w
  cases stk with
  | nil => exact absurd h (by simp [ai_ret])
  | cons v stk =>
    cases stk with
    | cons v2 stk => exact absurd h (by simp [ai_ret])
    | nil =>
      simp only [ai_ret, ak_if, ai_in_iff] at h
      split at h
      · rename_i h2
        obtain ⟨u, hu, huv, -, -⟩ := ai_res_eq ι env hM.2.2.2.2.2.2 v (fun v => ai_ret2 (some v) κ (n, hp, env, nc, ns))
        have h := hu.symm.trans h
        obtain ⟨r1, r2, rfl⟩ := ai_ret2_some hκ h
        obtain ⟨X, st, rfl, hx, hst⟩ := ak_s_cons hM.2.2.2.2.2.1
        obtain rfl := ak_s_nil hst
        obtain ⟨X, rfl, -, -⟩ := ak_v_int hx h2.2
        exact hQ _ List.mem_cons_self ws ls H locs pc nc ns (some (.int X)) r1 r2 hM.1 hM.2.1.1 hM.2.1.2 hM.2.2.1 hM.2.2.2.1 hM.2.2.2.2.2.2 (Or.inr (Or.inl ⟨u, X, rfl, rfl, huv _ _ hx, ⟨.int, C.1.2.2.1.trans hrt, rfl⟩, by show decode c.code pc = _; rw [C.1.2.1]; exact hd⟩))
      · cases h
theorem ah_retz (C : ak_C ι y b rt M d p l e R s m args below meth c) (hκ : κ.2.2.1 = M) (hrt : rt = some .boolean) (hd : decode b pc = .ok (.ireturn, 1)) : ak_Snd ι M (p, l, e, R, s, m, args, below, meth, c) pc (ai_retz sq jm κ) := by
  intro loc stk w outs h Q hQ ws ls st H locs hM
  obtain ⟨n, hp, env, nc, ns⟩ := w
  cases stk with
  | nil => exact absurd h (by simp [ai_retz])
  | cons v stk =>
    cases stk with
    | cons v2 stk => exact absurd h (by simp [ai_retz])
    | nil =>
      simp only [ai_retz] at h
      obtain ⟨u, hu, huv, -, -⟩ := ai_res_eq ι env hM.2.2.2.2.2.2 v (fun v => @Bool.rec (fun _ => ai_P) none (ai_ret2 (some v) κ (n, hp, env, nc, ns)) (@Bool.rec (fun _ => Bool) false (Nat.ble v.2 1) (Nat.beq v.1 0)))
      have h := hu.symm.trans h
      simp only [ak_if, ak_and, Nat.beq_eq, Nat.ble_eq] at h
      split at h
      · rename_i h01
        obtain ⟨r1, r2, rfl⟩ := ai_ret2_some hκ h
        obtain ⟨X, st, rfl, hx, hst⟩ := ak_s_cons hM.2.2.2.2.2.1
        obtain rfl := ak_s_nil hst
        obtain ⟨X, rfl, hX, -⟩ := ak_v_int (huv _ _ hx) (by omega)
        have hX := hX h01.1
        have hnar : narrow .boolean (.int X) = .int X := by
          rw [hX]
          rcases (show u.2 = 0 ∨ u.2 = 1 by omega) with e | e <;> rw [e] <;> decide +kernel
        exact hQ _ List.mem_cons_self ws ls H locs pc nc ns (some (.int X)) r1 r2 hM.1 hM.2.1.1 hM.2.1.2 hM.2.2.1 hM.2.2.2.1 hM.2.2.2.2.2.2 (Or.inr (Or.inl ⟨u, X, rfl, rfl, huv _ _ hx, ⟨.boolean, C.1.2.2.1.trans hrt, hnar⟩, by show decode c.code pc = _; rw [C.1.2.1]; exact hd⟩))
      · cases h
theorem ah_reta {ty : FieldType} (C : ak_C ι y b rt M d p l e R s m args below meth c) (hκ : κ.2.2.1 = M) (hrt : rt = some ty) (hty : (∃ n, ty = .object n) ∨ ∃ t, ty = .array t) (hd : decode b pc = .ok (.areturn, 1)) : ak_Snd ι M (p, l, e, R, s, m, args, below, meth, c) pc (ai_ret 5 7 sq jm κ) := by
  intro loc stk w outs h Q hQ ws ls st H locs hM
  obtain ⟨n, hp, env, nc, ns⟩ := w
  cases stk with
  | nil => exact absurd h (by simp [ai_ret])
  | cons v stk =>
    cases stk with
    | cons v2 stk => exact absurd h (by simp [ai_ret])
    | nil =>
      simp only [ai_ret, ak_if, ai_in_iff] at h
      split at h
      · rename_i h2
        obtain ⟨u, hu, huv, -, -⟩ := ai_res_eq ι env hM.2.2.2.2.2.2 v (fun v => ai_ret2 (some v) κ (n, hp, env, nc, ns))
        have h := hu.symm.trans h
        obtain ⟨r1, r2, rfl⟩ := ai_ret2_some hκ h
        obtain ⟨X, st, rfl, hx, hst⟩ := ak_s_cons hM.2.2.2.2.2.1
        obtain rfl := ak_s_nil hst
        have hX : X = .null ∨ ∃ q, X = .ref q := by
          rcases ak_v_ref hx h2.1 with ⟨rfl, -⟩ | ⟨h, -⟩
          · exact Or.inl rfl
          · exact Or.inr h
        exact hQ _ List.mem_cons_self ws ls H locs pc nc ns (some X) r1 r2 hM.1 hM.2.1.1 hM.2.1.2 hM.2.2.1 hM.2.2.2.1 hM.2.2.2.2.2.2 (Or.inr (Or.inr (Or.inl ⟨u, X, rfl, rfl, hX, huv _ _ hx, ⟨ty, C.1.2.2.1.trans hrt, hty⟩, by show decode c.code pc = _; rw [C.1.2.1]; exact hd⟩)))
      · cases h
end STEP
end
section
/-! ===== methods ===== -/
/-- a run that is sound -/
def ak_X (ih : ai_X) : Prop := ∀ (d mid : Nat) (M : ai_M) (q : MethodName × ByteArray × Option FieldType × Nat), ai_tab[mid]? = some M → ak_mt[mid]? = some q → ∀ (ι : ak_I) (p : Program) (l : Launch) (e : Env) (R : Room) (s : State) (m : MethodId) (args : Array Value) (below : List Frame) (meth : Method) (c : Code), ak_C ι q.1 q.2.1 q.2.2.1 M d p l e R s m args below meth c → ∀ (pc : Nat) (rest : List ai_N), (∀ e ∈ rest, e ∈ M.2.1) → ak_Snd ι M (p, l, e, R, s, m, args, below, meth, c) pc (ih d M pc rest)
theorem lg_sl_one : ∀ {vs : List Value}, (∀ v ∈ vs, v.category = 1) → (lg_sl vs).length = vs.length ∧ ∀ (j i : Nat) (v : Value), vs[i]? = some v → (j + i, v) ∈ lv_args j vs := by
  intro vs
  induction vs with
  | nil => intro _; exact ⟨rfl, fun j i v h => by simp at h⟩
  | cons a vs ih =>
    intro h
    have ha : a.category = 1 := h a List.mem_cons_self
    obtain ⟨h1, h2⟩ := ih (fun v hv => h v (List.mem_cons_of_mem _ hv))
    refine ⟨?_, fun j i v hi => ?_⟩
    · have e : lg_sl (a :: vs) = [.val a] ++ lg_sl vs := by simp [lg_sl, ha]
      rw [e, List.length_append, h1]
      simp
      omega
    · have e : lv_args j (a :: vs) = (j, a) :: lv_args (j + 1) vs := by simp [lv_args, ha]
      rw [e]
      cases i with
      | zero => cases hi; exact List.mem_cons_self
      | succ i =>
        have := h2 (j + 1) i v hi
        rw [show j + 1 + i = j + (i + 1) by omega] at this
        exact List.mem_cons_of_mem _ this
theorem ak_s_at {ι : ak_I} {ads : List Nat} : ∀ {a : List ai_V} {vs : List Value}, ak_s ι ads a vs → a.length = vs.length ∧ ∀ (i : Nat) (u : ai_V), a[i]? = some u → ∃ v, vs[i]? = some v ∧ ak_v ι ads u v := by
  intro a
  induction a with
  | nil => intro vs h; rw [ak_s_nil h]; exact ⟨rfl, fun i u hu => by simp at hu⟩
  | cons u a ih =>
    intro vs h
    obtain ⟨v, vs, rfl, hv, h⟩ := ak_s_cons h
    obtain ⟨h1, h2⟩ := ih h
    refine ⟨by simp [h1], fun i w hw => ?_⟩
    cases i with
    | zero => cases hw; exact ⟨v, rfl, hv⟩
    | succ i => exact h2 i w hw
theorem ak_s_cat {ι : ak_I} {ads : List Nat} : ∀ {a : List ai_V} {vs : List Value}, ak_s ι ads a vs → (∀ v ∈ a, ai_in 3 4 v = false) → ∀ v ∈ vs, v.category = 1 := by
  intro a
  induction a with
  | nil => intro vs h _; rw [ak_s_nil h]; exact fun v hv => absurd hv List.not_mem_nil
  | cons u a ih =>
    intro vs h h34 w hw
    obtain ⟨v, vs, rfl, hv, h⟩ := ak_s_cons h
    rcases List.mem_cons.mp hw with rfl | hw
    · rw [ak_v_cat hv]
      have : ai_cat u = if ai_in 3 4 u = true then 2 else 1 := ak_if _ _ _
      rw [this, h34 u List.mem_cons_self]
      rfl
    · exact ih h (fun v hv => h34 v (List.mem_cons_of_mem _ hv)) w hw
/-- a method's contract out of its run -/
theorem ak_ofW {l : Launch} {y : MethodName} {ws ws' : List Cond} {rm : Room} {Pc : Array Value → State → Prop} {Qc : Array Value → State → Outcome → State → Prop} {mc ms : Nat} {free : Addr → Prop} {cc : ByteArray} {maxL : Nat} {ret : Option FieldType} (hy : plainFor y = true) (hw : ws = Cond.code y cc maxL ret :: ws') (body : ∀ p e s m args below meth c s₁, BodyLoose p l y (headSpec ws rm) cc maxL ret e s m args below meth c s₁ → c.maxLocals = maxL → Pc args s → W p l e (headSpec ws rm).room s m args below meth c s.heap [] 0 0 (MQ below Qc args s mc ms free) (entryFrame m args maxL)) : Met l y ws rm Pc Qc mc ms free := by
  refine Jvm.Free.MetFree.of_bodySF (code := cc) (maxLocals := maxL) (ret := ret) hy ?_ ?_
  · intro args s m h hn
    obtain ⟨meth, c, h1, h2, h3, h4, h5, h6, -, -⟩ := Cond.code_spec hn (atoms_spec (ws := ws) h _ (by rw [hw]; exact List.mem_cons_self))
    exact ⟨meth, c, h1, h2, h3, h4, h5, h6⟩
  · intro p e s m args below meth c s₁ B hml hP _
    have hh0 : s₁.heap = s.heap := by rw [B.state]; rfl
    obtain ⟨t, a1, o, b1, b2, b3⟩ := body p e s m args below meth c s₁ B hml hP s₁ hh0 (Stand.of_body B)
    exact ⟨t, o, a1, b1, b2, ⟨b3.1, b3.2⟩⟩
theorem ai_no8_ok {l : List ai_O} (h : ai_no8 l = true) : ∀ o ∈ l, ∀ k : Nat, o.1 ≠ some (8, k) := by
  induction l with
  | nil => intro o ho; cases ho
  | cons a tl ih =>
    have h1 : (@Option.rec ai_V (fun _ => Bool) (ai_no8 tl) (fun v => @Bool.rec (fun _ => Bool) (ai_no8 tl) false (Nat.beq v.1 8)) a.1) = true := h
    intro o ho k hk
    rcases List.mem_cons.mp ho with rfl | ho
    · rw [hk] at h1
      cases h1
    · cases ha : a.1 with
      | none => rw [ha] at h1; exact ih h1 o ho k hk
      | some v =>
        rw [ha] at h1
        simp only [ak_if, Nat.beq_eq] at h1
        split at h1
        · cases h1
        · exact ih h1 o ho k hk
/-- an end within a method's contract -/
theorem ak_end_of {ι : ak_I} {q : MethodName × ByteArray × Option FieldType × Nat} {M : ai_M} {d : Nat} {p : Program} {l : Launch} {e : Env} {R : Room} {s : State} {m : MethodId} {below : List Frame} {meth : Method} {c : Code} {ws : va_W} {avs : List Value} {os : List ai_O} {o : ai_O} (ho : o ∈ os) (h8 : ∀ k : Nat, o.1 ≠ some (8, k)) (C : ak_C (ι.1, ι.2.1, ι.2.2.1, ι.2.2.2.1, ι.2.2.2.2.1, ws.map Prod.fst) q.1 q.2.1 q.2.2.1 M d p l e R s m avs.toArray below meth c) : ak_End (ι.1, ι.2.1, ι.2.2.1, ι.2.2.2.1, ι.2.2.2.2.1, ws.map Prod.fst) M (p, l, e, R, s, m, avs.toArray, below, meth, c) (MQ below (ak_Q ι ws os) avs.toArray s M.2.2.1 M.2.2.2 (ak_A ι)) o := by
  intro ws' ls' H' locs' pc' nc ns v r1 r2 hP' hD' hpre hS' hh' he' hcase
  have post : ∀ (v : Option Value), ak_o ι (ws'.map Prod.fst) o.1 v → ∀ t : State, t.heap = H' → ak_Q ι ws os avs.toArray s (.returned v) t := fun v hv t ht => ⟨⟨o, ho, v, ws', rfl, hv, hh', he', hpre, by rw [ht]; exact hP', hD'⟩, hS'.F ht⟩
  rcases hcase with ⟨h1, rfl, h3, h4⟩ | ⟨u, x, h1, rfl, h3, ⟨ty, h4, h5⟩, h6⟩ | ⟨u, x, h1, rfl, h2, h3, ⟨ty, h4, h5⟩, h6⟩ | ⟨k, h1, -, -⟩
  · refine W.widen r1 r2 ?_
    exact W.vret C.1.1 rfl h3 (fun t ht _ => post none (Or.inl ⟨h1, rfl⟩) t ht) hS'.2.2 h4 C.2.1.2.2.1
  · refine W.widen r1 r2 ?_
    exact W.zret C.1.1 rfl h4 h5 (fun t ht _ => post _ (Or.inr ⟨u, _, h1, rfl, h3⟩) t ht) hS'.2.2 h6 C.2.1.2.2.1
  · refine W.widen r1 r2 ?_
    exact W.aret C.1.1 rfl h4 h5 h2 (fun t ht _ => post _ (Or.inr ⟨u, _, h1, rfl, h3⟩) t ht) hS'.2.2 h6 C.2.1.2.2.1
  · exact absurd h1 (h8 k)
/-- a method's contract out of its run -/
theorem ak_met_of {ih : ai_X} (hX : ak_X ih) {d mid : Nat} {M : ai_M} {q : MethodName × ByteArray × Option FieldType × Nat} (hT : ai_tab[mid]? = some M) (hq : ak_mt[mid]? = some q) (hy : ak_ym q.1 q.2.1 M.1 q.2.2.1) {a : List ai_V} {k : Nat} {hp : ai_H} {env : ai_E} {os : List ai_O} {loc : ai_L} (hl1 : loc.length = M.1) (hl2 : a.length ≤ M.1) (hl3 : ∀ v ∈ a, ai_in 3 4 v = false) (hl4 : ∀ (i : Nat) (v : ai_V), loc[i]? = some v → v.1 ≤ 7 → a[i]? = some v) (hrun : ih d M 0 M.2.1 loc [] (k, hp, env, 0, 0) = some os) (h8 : ∀ o ∈ os, ∀ k : Nat, o.1 ≠ some (8, k)) (l : Launch) (ι : ak_I) (ws : va_W) (avs : List Value) (hh : ak_h ι k hp ws) (hs : ak_s ι (ws.map Prod.fst) a avs) (he : ak_e ι env) : Met l q.1 (ak_Wd q.1 q.2.1 M.1 q.2.2.1) (ak_rm d M.2.2.1 M.2.2.2) (ak_Pc ι ws avs) (ak_Q ι ws os) M.2.2.1 M.2.2.2 (ak_A ι) := by
  refine ak_ofW (cc := q.2.1) (maxL := M.1) (ret := q.2.2.1) hy.2.2.2.2.2.1 rfl ?_
  intro p e s m args below meth c s₁ B hml hv
  obtain ⟨rfl, hb, hP, hD, hK, hE, hN⟩ := hv
  have hts := atoms_spec (ws := ak_Wd q.1 q.2.1 M.1 q.2.2.1) B.pre
  have C : ak_C (ι.1, ι.2.1, ι.2.2.1, ι.2.2.2.1, ι.2.2.2.2.1, ws.map Prod.fst) q.1 q.2.1 q.2.2.1 M d p l e (headSpec (ak_Wd q.1 q.2.1 M.1 q.2.2.1) (ak_rm d M.2.2.1 M.2.2.2)).room s m avs.toArray below meth c :=
    ⟨⟨B.exec, B.bytes, B.returns, hml⟩, ⟨findClass_of_methodNamed B.named, fun w hw => hts w (List.mem_cons_of_mem _ hw), B.notSynchronized, (name_of_methodNamed B.named B.method).1⟩, ⟨hK, hE, hb, hN⟩, Nat.le_refl _, Nat.le_refl _, rfl, rfl⟩
  have hcat := ak_s_cat hs hl3
  obtain ⟨g1, g2⟩ := lg_sl_one hcat
  obtain ⟨g3, g4⟩ := ak_s_at hs
  have hl := lv_entry avs (n := M.1) (by rw [g1, ← g3]; exact hl2)
  rw [lg_entry_eq]
  generalize (lg_sl avs ++ List.replicate (M.1 - (lg_sl avs).length) Slot.unset).toArray = ls at hl ⊢
  refine hX d mid M q hT hq _ p l e _ s m _ below meth c C 0 M.2.1 (fun _ h => h) loc [] (k, hp, env, 0, 0) os hrun _ ?_ ws ls [] s.heap [] ⟨hP, ⟨hD, List.prefix_rfl⟩, va_S.rf, hh, ⟨Nat.le_of_eq hl1, lv_args 0 avs, hl, fun i u hu h7 => ?_⟩, trivial, he⟩
  · intro o ho
    exact ak_end_of ho (h8 o ho) C
  · obtain ⟨v, v1, v2⟩ := g4 i u (hl4 i u hu h7)
    have := g2 0 i v v1
    rw [Nat.zero_add] at this
    exact ⟨v, this, v2, hcat v (List.mem_of_getElem? v1)⟩
section RUN
variable {ι : ak_I} {y : MethodName} {b : ByteArray} {rt : Option FieldType} {M : ai_M} {d : Nat} {p : Program} {l : Launch} {e : Env} {R : Room} {s : State} {m : MethodId} {args : Array Value} {below : List Frame} {meth : Method} {c : Code} {pc : Nat} {sq : ai_Q} {jm : Nat → ai_Q}
/-- the receiver's check asks nothing of what follows -/
theorem ai_rcv_some {mode ci : Nat} {w : ai_W} {a : List ai_V} {f : ai_P} {outs : List ai_O} (h : ai_rcv mode ci w a f = some outs) : f = some outs ∧ ai_rcv mode ci w a (some outs) = some outs := by
  have key : f = some outs := by
    simp only [ai_rcv, ak_if, Nat.ble_eq] at h
    split at h
    · cases a with
      | nil => cases h
      | cons v a =>
        simp only [ai_cel, ak_if, ai_nth_eq] at h
        split at h
        · split at h
          · revert h
            generalize w.2.1[Nat.sub w.1 (Nat.succ v.2)]? = z
            intro h
            cases z with
            | none => cases h
            | some z =>
              simp only [Option.elim, ak_and] at h
              split at h
              · exact h
              · cases h
          · cases h
        · cases h
    · split at h
      · cases a with
        | nil => cases h
        | cons v a =>
          simp only at h
          split at h
          · exact h
          · cases h
      · exact h
  exact ⟨key, by have h' := h; rw [key] at h'; exact h'⟩
theorem ah_call {ih : ai_X} (hX : ak_X ih) {mode mid k ci idx : Nat} {q : MethodName × ByteArray × Option FieldType × Nat} {M' : ai_M} (C : ak_C ι y b rt M d p l e R s m args below meth c) (hT : ai_tab[mid]? = some M') (hq : ak_mt[mid]? = some q) (hy : ak_ym q.1 q.2.1 M'.1 q.2.2.1) (hmd : ak_md mode y.cls idx q.1 ci) (hk : (parseMethodDescriptor q.1.desc).map (fun d => d.parameters.length) = some (if mode ≤ 3 then k - 1 else k)) (hdec : (mode ≤ 1 ∧ decode b pc = .ok (.invokevirtual idx, 3)) ∨ (2 ≤ mode ∧ mode ≤ 3 ∧ decode b pc = .ok (.invokespecial idx, 3)) ∨ (4 ≤ mode ∧ decode b pc = .ok (.invokestatic idx, 3))) (hs : ak_Snd ι M (p, l, e, R, s, m, args, below, meth, c) (pc + 3) sq) : ak_Snd ι M (p, l, e, R, s, m, args, below, meth, c) pc (ai_call mode mid k ci sq jm (ih, d, M, pc)) := by
  intro loc stk w outs h Q hQ ws ls st H locs hM
  obtain ⟨n, hp, env, nc, ns⟩ := w
  simp only [ai_call] at h
  obtain ⟨as, stk', rfl, hlen, h⟩ := ai_args_some h
  rw [List.append_nil] at h
  obtain ⟨h, hrcv⟩ := ai_rcv_some h
  simp only [ai_nth_eq, hT, Option.elim, ai_nt_eq, ai_call2, ak_if, ak_and, Nat.ble_eq] at h
  split at h
  · rename_i hh
    cases d with
    | zero => cases h
    | succ d' =>
      obtain ⟨loc', h, l1, l2, l3, l4⟩ := ai_ent_some h
      cases hr : ih d' M' 0 M'.2.1 loc' [] (n, hp, env, 0, 0) with
      | none => rw [hr] at h; cases h
      | some os =>
        rw [hr] at h
        simp only [ak_if] at h
        by_cases h8 : ai_no8 os = true
        case neg => rw [if_neg h8] at h; cases h
        rw [if_pos h8] at h
        have h8 := ai_no8_ok h8
        /- the arguments on the machine's stack -/
        have split2 : ∀ {as : List ai_V} {st : List Value}, ak_s ι (ws.map Prod.fst) (as ++ stk') st → ∃ xs rest : List Value, st = xs ++ rest ∧ ak_s ι (ws.map Prod.fst) as xs ∧ ak_s ι (ws.map Prod.fst) stk' rest := by
          intro as
          induction as with
          | nil => intro st h; exact ⟨[], st, rfl, trivial, h⟩
          | cons a as ih2 =>
            intro st h
            obtain ⟨x, st, rfl, hx, h⟩ := ak_s_cons h
            obtain ⟨xs, rest, rfl, h1, h2⟩ := ih2 h
            exact ⟨x :: xs, rest, rfl, ⟨hx, h1⟩, h2⟩
        obtain ⟨xs, rest, rfl, s1, s2⟩ := split2 hM.2.2.2.2.2.1
        have rev : ∀ {as bs : List ai_V} {xs zs : List Value}, ak_s ι (ws.map Prod.fst) as xs → ak_s ι (ws.map Prod.fst) bs zs → ak_s ι (ws.map Prod.fst) (as.reverse ++ bs) (xs.reverse ++ zs) := by
          intro as
          induction as with
          | nil => intro bs xs zs h1 h2; rw [ak_s_nil h1]; exact h2
          | cons a as ih2 =>
            intro bs xs zs h1 h2
            obtain ⟨x, xs, rfl, hx, h1⟩ := ak_s_cons h1
            have := ih2 (bs := a :: bs) (zs := x :: zs) h1 ⟨hx, h2⟩
            simpa using this
        have s3 : ak_s ι (ws.map Prod.fst) as.reverse xs.reverse := by
          have := rev s1 (show ak_s ι (ws.map Prod.fst) [] [] from trivial)
          simpa using this
        have hMet := ak_met_of hX hT hq hy l1 l2 l3 l4 hr h8 l ι ws xs.reverse hM.2.2.2.1 s3 hM.2.2.2.2.2.2
        have hls : ls.size = M.1 := by obtain ⟨-, lv, hl, -⟩ := hM.2.2.2.2.1; exact hl.1
        have hrc2 : ai_rcv mode ci (n, hp, env, nc, ns) as.reverse (some os) = some os := by
          have aux : ∀ (f : ai_P) (o1 o2 : List ai_O), ai_rcv mode ci (n, hp, env, nc, ns) as.reverse (some o1) = some o1 → ai_rcv mode ci (n, hp, env, nc, ns) as.reverse (some o2) = some o2 := by
            intro f o1 o2 h1
            simp only [ai_rcv, ak_if, Nat.ble_eq] at h1 ⊢
            split at h1
            · rename_i hm
              rw [if_pos hm]
              cases hz : as.reverse with
              | nil => rw [hz] at h1; cases h1
              | cons v a' =>
                rw [hz] at h1
                simp only [ai_cel, ak_if, ai_nth_eq] at h1 ⊢
                split at h1
                · rename_i c1
                  rw [if_pos c1]
                  split at h1
                  · rename_i c2
                    rw [if_pos c2]
                    revert h1
                    generalize hp[Nat.sub n (Nat.succ v.2)]? = z
                    intro h1
                    cases z with
                    | none => cases h1
                    | some z =>
                      simp only [Option.elim, ak_and] at h1 ⊢
                      split at h1
                      · rename_i c3; rw [if_pos c3]
                      · cases h1
                  · cases h1
                · cases h1
            · rename_i hm
              rw [if_neg hm]
              split at h1
              · rename_i hm3
                rw [if_pos hm3]
                cases hz : as.reverse with
                | nil => rw [hz] at h1; cases h1
                | cons v a' =>
                  rw [hz] at h1
                  simp only at h1 ⊢
                  split at h1
                  · rename_i c3; rw [if_pos c3]
                  · cases h1
              · rename_i hm3
                rw [if_neg hm3]
          exact aux none outs os hrcv
        have hrun := ah_run (pc := pc) (cells := nc) (slots := ns) (ls := ls) (rest := rest) C hy hmd hk hdec hM.1 hM.2.1.1 hM.2.2.1 hM.2.2.2.1 hlen s3 hrc2 hls (by rw [ak_s_sum s2]; exact hh.1) hh.2.1 hh.2.2 hMet
        rw [List.reverse_reverse] at hrun
        refine ak_go hrun hM.2.2.1 (fun o v u H1 locs1 ho q1 q2 q3 q4 q5 q6 q7 => ?_)
        obtain ⟨x, hx, hm⟩ := ai_all_some (f := ai_back (Nat.add nc M'.2.2.1) (Nat.add ns M'.2.2.2) stk' (sq loc)) h o (ai_uni_mem ho)
        obtain ⟨ov, on, oh, oe⟩ := o
        have base : ∀ (stk2 : List ai_V) (st2 : List Value), ak_s ι (u.map Prod.fst) stk2 st2 → ak_M ι s M.1 loc stk2 (on, oh, oe, nc + M'.2.2.1, ns + M'.2.2.2) u ls st2 H1 locs1 := fun stk2 st2 h2 => ⟨q5, ⟨q6, hM.2.1.2.trans q4⟩, q7, q2, ak_l_mono q4 hM.2.2.2.2.1, h2, q3⟩
        rcases q1 with ⟨e1, rfl⟩ | ⟨a, z, e1, rfl, e3⟩
        · have e1 : ov = none := e1
          subst e1
          exact hs _ _ _ _ hx Q (fun z hz => hQ z (hm z hz)) u ls _ H1 locs1 (base stk' rest (ak_s_mono q4 s2))
        · have e1 : ov = some a := e1
          subst e1
          exact hs _ _ _ _ hx Q (fun z hz => hQ z (hm z hz)) u ls _ H1 locs1 (base (a :: stk') (z :: rest) ⟨e3, ak_s_mono q4 s2⟩)
  · cases h
end RUN
end
section
/-! ===== every instruction of the tables, and the run ===== -/
abbrev ak_yO : MethodName := ⟨"java/lang/Enum", "ordinal", "()I"⟩
abbrev ak_bO : ByteArray := prog_18_method_2_code
theorem ak_dO0 : decode ak_bO 0 = .ok (.aload_n 0, 1) := by decide +kernel
theorem ak_dO1 : decode ak_bO 1 = .ok (.getfield 7, 3) := by decide +kernel
theorem ak_dO4 : decode ak_bO 4 = .ok (.ireturn, 1) := by decide +kernel
/-- the words of ordinal() -/
def ak_ordw : Prop := Cond.code ak_yO ak_bO 1 (some .int) ∈ ak_W ∧ Cond.fieldLink "java/lang/Enum" 7 "java/lang/Enum" "ordinal" "I" ∈ ak_W ∧ Cond.sameMethod "SpanCopier$Word" "java/lang/Enum" "ordinal" "()I" ∈ ak_W ∧ Cond.selects "SpanCopier$Word" ⟨"SpanCopier$Word", "ordinal", "()I"⟩ ak_yO ∈ ak_W ∧ Cond.instanceMethod ak_yO ∈ ak_W ∧ Cond.initialized "java/lang/Enum" ∈ ak_W
theorem ak_metO (hw : ak_ordw) (l : Launch) (ι : ak_I) (ws : va_W) (d j : Nat) (hj : j < 38) {k : Nat} {hp : ai_H} {env : ai_E} (hh : ak_h ι k hp ws) (he : ak_e ι env) : Met l ak_yO (ak_Wd ak_yO ak_bO 1 (some .int)) (ak_rm d 0 0) (ak_Pc ι ws [.ref (ι.2.2.2.1 j)]) (ak_Q ι ws [(some (0, j), k, hp, env)]) 0 0 (ak_A ι) := by
  refine Met.ofW (cc := ak_bO) (maxL := 1) (ret := some .int) (by decide +kernel) rfl ?_
  intro p e s m args below meth c s₁ B hml hv
  obtain ⟨rfl, hb, hP, hD, hK, hE, hN⟩ := hv
  have hts := atoms_spec (ws := ak_Wd ak_yO ak_bO 1 (some .int)) B.pre
  have hown : s.vm.findClass "java/lang/Enum" = some m.cls := findClass_of_methodNamed B.named
  have hlocks := B.notSynchronized
  have hl := lv_entry [.ref (ι.2.2.2.1 j)] (n := 1) (Nat.le_of_ble_eq_true rfl)
  rw [lg_entry_eq]
  generalize (lg_sl [.ref (ι.2.2.2.1 j)] ++ List.replicate (1 - (lg_sl [.ref (ι.2.2.2.1 j)]).length) Slot.unset).toArray = ls at hl ⊢
  have hl : lv_has ls 1 [(0, .ref (ι.2.2.2.1 j))] := hl
  have hS : va_S (ak_A ι) s.heap s.heap [] := va_S.rf
  refine lv_aload_n B.exec B.bytes ak_dO0 rfl (lv_at hl 0 rfl) ?_
  refine va_getE B.exec B.bytes hE.1 (show j < ak_nm.length from hj) hS hown (q := ("java/lang/Enum", "ordinal", "I", (List.range 38).map nI)) (List.mem_singleton.mpr rfl) (hts _ (List.mem_cons_of_mem _ hw.2.1)) (fun _ h => h) ak_dO1 ?_
  have ev : ((List.range 38).map nI).getD j 0 = nI j := by rw [List.getD_eq_getElem?_getD, List.getElem?_map, List.getElem?_range hj]; rfl
  dsimp only
  rw [ev]
  refine W.iret B.exec B.bytes B.returns (fun t ht _ => ?_) (fun q hq => absurd hq List.not_mem_nil) ak_dO4
  exact ⟨⟨_, List.mem_singleton.mpr rfl, some (.int (nI j)), ws, rfl, Or.inr ⟨(0, j), _, rfl, rfl, Or.inl ⟨rfl, rfl⟩⟩, hh, he, List.prefix_rfl, by rw [ht]; exact hP, hD⟩, hS.F ht⟩
section ALL
variable {ι : ak_I} {y : MethodName} {b : ByteArray} {rt : Option FieldType} {M : ai_M} {d : Nat} {p : Program} {l : Launch} {e : Env} {R : Room} {s : State} {m : MethodId} {args : Array Value} {below : List Frame} {meth : Method} {c : Code} {pc : Nat} {sq : ai_Q} {jm : Nat → ai_Q}
theorem ah_ord {κ : ai_K} {idx : Nat} (hw : ak_ordw) (C : ak_C ι y b rt M d p l e R s m args below meth c) (hκ : κ.2.2.1 = M) (hκd : κ.2.1 = d) (hlink : Cond.methodLink y.cls idx ⟨"SpanCopier$Word", "ordinal", "()I"⟩ ∈ ak_W) (hd : decode b pc = .ok (.invokevirtual idx, 3)) (hs : ak_Snd ι M (p, l, e, R, s, m, args, below, meth, c) (pc + 3) sq) : ak_Snd ι M (p, l, e, R, s, m, args, below, meth, c) pc (ai_ord sq jm κ) := by
  intro loc stk w outs h Q hQ ws ls st H locs hM
  obtain ⟨n, hp, env, nc, ns⟩ := w
  cases stk with
  | nil => exact absurd h (by simp [ai_ord])
  | cons v stk =>
    obtain ⟨t, j⟩ := v
    simp only [ai_ord, ak_if, ak_and, Nat.beq_eq, Nat.ble_eq, hκ, hκd] at h
    split at h
    · rename_i hh0
      obtain ⟨hh, hd1, hc1, hc2⟩ := hh0
      obtain ⟨d, rfl⟩ : ∃ d', d = d' + 1 := ⟨d - 1, by omega⟩
      obtain ⟨X, st, rfl, hx, hst⟩ := ak_s_cons hM.2.2.2.2.2.1
      obtain rfl := ak_v_const hx hh.1.1
      have hj : j < 38 := by have := hh.1.2; omega
      have hMet := ak_metO hw l ι ws d j hj hM.2.2.2.1 hM.2.2.2.2.2.2
      have pre := ak_pre C.2.2.1.1 C.2.2.1.2.1 C.2.2.1.2.2.1 C.2.2.1.2.2.2 hM.1 hM.2.1.1 hM.2.2.1 [.ref (ι.2.2.2.1 j)]
      have hls : ls.size = M.1 := by obtain ⟨-, lv, hl, -⟩ := hM.2.2.2.2.1; exact hl.1
      have hR : (ak_rm d 0 0).frames + 1 ≤ R.frames ∧ 8 + (1 + 11) + (ak_rm d 0 0).locals ≤ R.locals := by
        have r1 := C.2.2.2.1
        have r2 := C.2.2.2.2.1
        exact ⟨r1, by show 8 + (1 + 11) + 64 * (d + 1) ≤ R.locals; omega⟩
      have hG : GoodIn ak_W (va_wsU y.cls idx "SpanCopier$Word" "java/lang/Enum" ⟨"SpanCopier$Word", "ordinal", "()I"⟩ ak_yO (ak_Wd ak_yO ak_bO 1 (some .int))) := by
        intro w hw2
        rcases List.mem_append.mp hw2 with h1 | h1
        · have : w ∈ ak_W := by
            simp only [List.mem_cons, List.not_mem_nil, or_false] at h1
            rcases h1 with rfl | rfl | rfl | rfl | rfl
            · exact hlink
            · exact hw.2.2.1
            · exact hw.2.2.2.1
            · exact hw.2.2.2.2.1
            · exact hw.2.2.2.2.2
          exact ⟨this, good_of_word (List.mem_filter.mp this).2⟩
        · exact ak_good hw.1 w h1
      have hcu := va_cwU (R := R) (rm := ak_rm d 0 0) (mc := 0) (ms := 0) 0 C.2.1.2.1 hG rfl rfl rfl rfl ⟨by decide +kernel, by decide +kernel, by decide +kernel⟩ hR
      have hcc : nc + 0 ≤ R.cells ∧ ns + 0 ≤ R.slots := by rw [C.2.2.2.2.2.1, C.2.2.2.2.2.2]; exact ⟨hc1, hc2⟩
      have hrun := va_runU (As := []) (n := 0) (rest := st) (H := H) (locs := locs) (cells := nc) (slots := ns) (g := F0 m pc ls (.ref (ι.2.2.2.1 j) :: st)) (below := below) (meth := meth) (c := c) (e := e) ⟨C.1.1, C.1.2.1, C.1.2.2.2, C.2.1.1, C.2.1.2.1⟩ hMet hcu ⟨ak_blind ι ws _, va_recvE C.2.2.1.2.1.1 (show j < ak_nm.length from hj) hM.2.2.1, pre⟩ rfl rfl hls rfl (lv_room (by rw [ak_s_sum hst]; exact hh.2)) hd hcc
      refine ak_go hrun hM.2.2.1 (fun o v u H1 locs1 ho q1 q2 q3 q4 q5 q6 q7 => ?_)
      obtain rfl := List.mem_singleton.mp ho
      rcases q1 with ⟨e1, -⟩ | ⟨a, z, e1, rfl, e3⟩
      · cases e1
      · cases e1
        exact hs _ _ _ _ h Q hQ u ls _ H1 locs1 ⟨q5, ⟨q6, hM.2.1.2.trans q4⟩, q7, q2, ak_l_mono q4 hM.2.2.2.2.1, ⟨e3, ak_s_mono q4 hst⟩, q3⟩
    · cases h
/-- an instruction is sound -/
theorem ah_one {ih : ai_X} (hX : ak_X ih) (hg : ak_glob) (ho : ak_ordw) (C : ak_C ι y b rt M d p l e R s m args below meth c) {en : ai_N} {hd : ai_D} (hok : ak_okE y b rt en) (hh : ai_h en = some hd) (hs : ak_Snd ι M (p, l, e, R, s, m, args, below, meth, c) (en.1 + en.2.2.1) sq) (hj : ∀ t, ak_Snd ι M (p, l, e, R, s, m, args, below, meth, c) t (jm t)) : ak_Snd ι M (p, l, e, R, s, m, args, below, meth, c) en.1 (hd sq jm (ih, d, M, en.1)) := by
  obtain ⟨pc, ins, len, r1, r2, r3, r4, r5⟩ := en
  obtain ⟨hdec, hlen, hlk⟩ := hok
  dsimp only at hdec hlen hlk hs ⊢
  unfold ai_h at hh
  cases ins with
  | iconst n => obtain rfl := hlen (fun _ _ _ _ h => by cases h); cases hh; exact ah_iconst C hdec hs
  | bipush n =>
    obtain rfl := hlen (fun _ _ _ _ h => by cases h)
    simp only [ak_if, Bool.and_eq_true, decide_eq_true_eq] at hh
    split at hh
    · rename_i hn; cases hh; exact ah_bipush C hn hdec hs
    · cases hh
  | sipush n =>
    obtain rfl := hlen (fun _ _ _ _ h => by cases h)
    simp only [ak_if, Bool.and_eq_true, decide_eq_true_eq] at hh
    split at hh
    · rename_i hn; cases hh; exact ah_sipush C hn hdec hs
    · cases hh
  | ldc i => obtain rfl := hlen (fun _ _ _ _ h => by cases h); cases hh; exact ah_ldc C hlk hdec hs
  | ldc_w i => obtain rfl := hlen (fun _ _ _ _ h => by cases h); cases hh; exact ah_ldcw C hlk hdec hs
  | lconst n => obtain rfl := hlen (fun _ _ _ _ h => by cases h); cases hh; exact ah_lconst C hdec hs
  | aconst_null => obtain rfl := hlen (fun _ _ _ _ h => by cases h); cases hh; exact ah_null C hdec hs
  | iload i => obtain rfl := hlen (fun _ _ _ _ h => by cases h); cases hh; exact ah_iload C hdec hs
  | iload_n i => obtain rfl := hlen (fun _ _ _ _ h => by cases h); cases hh; exact ah_iload_n C hdec hs
  | aload i => obtain rfl := hlen (fun _ _ _ _ h => by cases h); cases hh; exact ah_aload C hdec hs
  | aload_n i => obtain rfl := hlen (fun _ _ _ _ h => by cases h); cases hh; exact ah_aload_n C hdec hs
  | istore i => obtain rfl := hlen (fun _ _ _ _ h => by cases h); cases hh; exact ah_istore C hdec hs
  | istore_n i => obtain rfl := hlen (fun _ _ _ _ h => by cases h); cases hh; exact ah_istore_n C hdec hs
  | astore i => obtain rfl := hlen (fun _ _ _ _ h => by cases h); cases hh; exact ah_astore C hdec hs
  | astore_n i => obtain rfl := hlen (fun _ _ _ _ h => by cases h); cases hh; exact ah_astore_n C hdec hs
  | iinc i n => obtain rfl := hlen (fun _ _ _ _ h => by cases h); cases hh; exact ah_iinc C hdec hs
  | iadd => obtain rfl := hlen (fun _ _ _ _ h => by cases h); cases hh; exact ah_iadd C rfl hdec hs hj
  | isub => obtain rfl := hlen (fun _ _ _ _ h => by cases h); cases hh; exact ah_isub C rfl hdec hs hj
  | imul => obtain rfl := hlen (fun _ _ _ _ h => by cases h); cases hh; exact ah_imul C rfl hdec hs hj
  | iand => obtain rfl := hlen (fun _ _ _ _ h => by cases h); cases hh; exact ah_iand C rfl hdec hs hj
  | iushr => obtain rfl := hlen (fun _ _ _ _ h => by cases h); cases hh; exact ah_iushr C rfl hdec hs hj
  | ishr => obtain rfl := hlen (fun _ _ _ _ h => by cases h); cases hh; exact ah_ishr C rfl hdec hs hj
  | irem => obtain rfl := hlen (fun _ _ _ _ h => by cases h); cases hh; exact ah_irem C rfl hdec hs hj
  | i2b => obtain rfl := hlen (fun _ _ _ _ h => by cases h); cases hh; exact ah_i2b C hdec hs
  | i2l => obtain rfl := hlen (fun _ _ _ _ h => by cases h); cases hh; exact ah_i2l C hdec hs
  | lcmp => obtain rfl := hlen (fun _ _ _ _ h => by cases h); cases hh; exact ah_lcmp C hdec hs
  | dup => obtain rfl := hlen (fun _ _ _ _ h => by cases h); cases hh; exact ah_dup C hdec hs
  | dup2 => obtain rfl := hlen (fun _ _ _ _ h => by cases h); cases hh; exact ah_dup2 C hdec hs
  | pop => obtain rfl := hlen (fun _ _ _ _ h => by cases h); cases hh; exact ah_pop C hdec hs
  | goto off =>
    obtain rfl := hlen (fun _ _ _ _ h => by cases h)
    obtain ⟨t, ht, rfl⟩ := ai_to_some hh
    exact ah_goto C ht hdec hj
  | if_icmp cnd off =>
    obtain rfl := hlen (fun _ _ _ _ h => by cases h)
    cases cnd <;> obtain ⟨t, ht, rfl⟩ := ai_to_some hh
    · exact ah_icmp_eq C ht hdec hs hj
    · exact ah_icmp_ne C ht hdec hs hj
    · exact ah_icmp_lt C ht hdec hs hj
    · exact ah_icmp_ge C ht hdec hs hj
    · exact ah_icmp_gt C ht hdec hs hj
    · exact ah_icmp_le C ht hdec hs hj
  | ifCond cnd off =>
    obtain rfl := hlen (fun _ _ _ _ h => by cases h)
    cases cnd <;> obtain ⟨t, ht, rfl⟩ := ai_to_some hh
    · exact ah_if_eq C ht hdec hs hj
    · exact ah_if_ne C ht hdec hs hj
    · exact ah_if_lt C ht hdec hs hj
    · exact ah_if_ge C ht hdec hs hj
    · exact ah_if_gt C ht hdec hs hj
    · exact ah_if_le C ht hdec hs hj
  | if_acmp cnd off =>
    obtain rfl := hlen (fun _ _ _ _ h => by cases h)
    cases cnd <;> obtain ⟨t, ht, rfl⟩ := ai_to_some hh
    · exact ah_acmp_eq C ht hdec hs hj
    · exact ah_acmp_ne C ht hdec hs hj
  | ifnull off =>
    obtain rfl := hlen (fun _ _ _ _ h => by cases h)
    obtain ⟨t, ht, rfl⟩ := ai_to_some hh
    exact ah_ifnull C ht hdec hs hj
  | ifnonnull off =>
    obtain rfl := hlen (fun _ _ _ _ h => by cases h)
    obtain ⟨t, ht, rfl⟩ := ai_to_some hh
    exact ah_ifnonnull C ht hdec hs hj
  | tableswitch df lo hi offs =>
    simp only [ak_op, ak_if, decide_eq_true_eq] at hh
    cases hlo : ai_tgt 0 lo with
    | none => rw [hlo] at hh; cases hh
    | some lo' =>
      rw [hlo] at hh
      simp only [Option.elim] at hh
      split at hh
      · rename_i hhi
        cases hts : ai_tgts pc offs.toList with
        | none => rw [hts] at hh; cases hh
        | some ts =>
          rw [hts] at hh
          simp only at hh
          obtain ⟨t, ht, rfl⟩ := ai_to_some hh
          have := ai_tgt_some hlo
          exact ah_tsw C (by omega) hhi hts ht hdec hj
      · cases hh
  | getfield i =>
    obtain rfl := hlen (fun _ _ _ _ h => by cases h)
    cases hh
    obtain ⟨q, q1, q2, q3⟩ := hlk
    exact ah_get C q1 q2 q3 hdec hs
  | putfield i =>
    obtain rfl := hlen (fun _ _ _ _ h => by cases h)
    cases hh
    obtain ⟨q, ty, q1, q2, q3, q4, q5⟩ := hlk
    exact ah_putf C q1 q2 q3 q4 q5 hdec hs
  | getstatic i =>
    obtain rfl := hlen (fun _ _ _ _ h => by cases h)
    cases hh
    exact ah_gets C hlk.1 hlk.2 hdec hs
  | new i =>
    obtain rfl := hlen (fun _ _ _ _ h => by cases h)
    cases hh
    obtain ⟨q, q1, q2, q3⟩ := hlk
    exact ah_new C rfl q1 q2 (fun j hj => by obtain ⟨ty, t1, t2⟩ := hg.2.2.2.2.2.2 _ _ q1 j hj; exact ⟨ty, t1, t2 ι⟩) q3 hdec hs
  | newarray t =>
    obtain rfl := hlen (fun _ _ _ _ h => by cases h)
    cases hh
    exact ah_newa C rfl hlk.1 hlk.2 hdec hs
  | anewarray i =>
    obtain rfl := hlen (fun _ _ _ _ h => by cases h)
    cases hh
    obtain ⟨Cn, q1, q2⟩ := hlk
    exact ah_anewa C rfl q1 q2 hdec hs
  | arraylength => obtain rfl := hlen (fun _ _ _ _ h => by cases h); cases hh; exact ah_alen C hdec hs
  | iaload => obtain rfl := hlen (fun _ _ _ _ h => by cases h); cases hh; exact ah_iald C rfl hdec hs hj
  | baload => obtain rfl := hlen (fun _ _ _ _ h => by cases h); cases hh; exact ah_bald C rfl hdec hs hj
  | laload => obtain rfl := hlen (fun _ _ _ _ h => by cases h); cases hh; exact ah_lald C rfl hdec hs hj
  | aaload => obtain rfl := hlen (fun _ _ _ _ h => by cases h); cases hh; exact ah_aald C rfl hdec hs hj
  | iastore => obtain rfl := hlen (fun _ _ _ _ h => by cases h); cases hh; exact ah_iast C rfl hdec hs hj
  | bastore => obtain rfl := hlen (fun _ _ _ _ h => by cases h); cases hh; exact ah_bast C rfl hdec hs hj
  | lastore => obtain rfl := hlen (fun _ _ _ _ h => by cases h); cases hh; exact ah_last C rfl hdec hs hj
  | aastore => obtain rfl := hlen (fun _ _ _ _ h => by cases h); cases hh; exact ah_aast C rfl hdec hs hj
  | invokevirtual i =>
    obtain rfl := hlen (fun _ _ _ _ h => by cases h)
    cases hh
    rcases hlk with ⟨h6, ⟨q, M', t1, t2, t3, t4, t5⟩, t6⟩ | ⟨rfl, h, -⟩ | ⟨rfl, h, -⟩ | ⟨rfl, -, h9⟩
    · have e1 : ai_inv r3 r1 r2 r5 = ai_call r3 r1 r2 r5 := by simp only [ai_inv, ak_if, Nat.ble_eq]; rw [if_pos h6]
      rw [e1]
      refine ah_call hX C t2 t1 t3 t4 t5 ?_ hs
      rcases t6 with ⟨a, -⟩ | ⟨-, -, h⟩ | ⟨-, h⟩ <;> first | exact Or.inl ⟨a, hdec⟩ | omega
    · omega
    · omega
    · exact ah_ord (jm := jm) ho C rfl rfl h9 hdec hs
  | invokespecial i =>
    obtain rfl := hlen (fun _ _ _ _ h => by cases h)
    cases hh
    rcases hlk with ⟨h6, ⟨q, M', t1, t2, t3, t4, t5⟩, t6⟩ | ⟨rfl, -, h7⟩ | ⟨rfl, h, -⟩ | ⟨rfl, h, -⟩
    · have e1 : ai_inv r3 r1 r2 r5 = ai_call r3 r1 r2 r5 := by simp only [ai_inv, ak_if, Nat.ble_eq]; rw [if_pos h6]
      rw [e1]
      refine ah_call hX C t2 t1 t3 t4 t5 ?_ hs
      rcases t6 with ⟨-, h⟩ | ⟨a1, a2, -⟩ | ⟨-, h⟩ <;> first | exact Or.inr (Or.inl ⟨a1, a2, hdec⟩) | omega
    · exact ah_obj (jm := jm) (κ := (ih, d, M, pc)) C h7 hg.2.2.2.1 hg.2.2.2.2.1 hdec hs
    · omega
    · omega
  | invokestatic i =>
    obtain rfl := hlen (fun _ _ _ _ h => by cases h)
    cases hh
    rcases hlk with ⟨h6, ⟨q, M', t1, t2, t3, t4, t5⟩, t6⟩ | ⟨rfl, h, -⟩ | ⟨rfl, -, h8⟩ | ⟨rfl, h, -⟩
    · have e1 : ai_inv r3 r1 r2 r5 = ai_call r3 r1 r2 r5 := by simp only [ai_inv, ak_if, Nat.ble_eq]; rw [if_pos h6]
      rw [e1]
      refine ah_call hX C t2 t1 t3 t4 t5 ?_ hs
      rcases t6 with ⟨-, h⟩ | ⟨-, -, h⟩ | ⟨a, -⟩ <;> first | exact Or.inr (Or.inr ⟨a, hdec⟩) | omega
    · omega
    · exact ah_copy (jm := jm) (κ := (ih, d, M, pc)) C h8 hg.1 hg.2.1 hg.2.2.1 hg.2.2.2.2.2.1 hdec hs
    · omega
  | ireturn =>
    obtain rfl := hlen (fun _ _ _ _ h => by cases h)
    obtain ⟨ty, q1, q2⟩ := hlk
    simp only [ak_if, Nat.beq_eq] at hh
    split at hh
    · rename_i h1
      cases hh
      rcases q2 with ⟨-, rfl⟩ | ⟨h, -⟩
      · exact ah_retz C rfl q1 hdec
      · exact absurd h1 h
    · rename_i h1
      cases hh
      rcases q2 with ⟨h, -⟩ | ⟨-, rfl⟩
      · exact absurd h h1
      · exact ah_reti C rfl q1 hdec
  | areturn =>
    obtain rfl := hlen (fun _ _ _ _ h => by cases h)
    cases hh
    obtain ⟨ty, q1, q2⟩ := hlk
    exact ah_reta C rfl q1 q2 hdec
  | return_ => obtain rfl := hlen (fun _ _ _ _ h => by cases h); cases hh; exact ah_retv C rfl hlk hdec
  | _ => exact absurd hh (by simp)
/-- what is checked of the tables -/
def ak_tabok : Prop := ∀ (mid : Nat) (M : ai_M) (q : MethodName × ByteArray × Option FieldType × Nat), ai_tab[mid]? = some M → ak_mt[mid]? = some q → ∀ e ∈ M.2.1, ak_okE q.1 q.2.1 q.2.2.1 e
theorem ak_run_ok (hg : ak_glob) (ho : ak_ordw) (ht : ak_tabok) : ∀ n : Nat, ak_X (ai_run n) := by
  intro n
  induction n with
  | zero => intro d mid M q hT hq ι p l e R s m args below meth c C pc rest hr loc stk w outs h; cases h
  | succ n ih =>
    intro d mid M q hT hq ι p l e R s m args below meth c C pc rest hr loc stk w outs h Q hQ ws ls st H locs hM
    have h1 : ai_run (n + 1) = ai_body (ai_run n) := rfl
    rw [h1] at h
    cases rest with
    | nil => cases h
    | cons en tl =>
      simp only [ai_body, ak_if, Nat.beq_eq] at h
      split at h
      · rename_i hpc
        subst hpc
        simp only [ai_one, ak_op] at h
        cases hh : ai_h en with
        | none => rw [hh] at h; cases h
        | some hd =>
          rw [hh] at h
          exact ah_one (sq := ai_run n d M (Nat.add en.1 en.2.2.1) tl) (jm := ai_jm (ai_run n) d M) ih hg ho C (ht mid M q hT hq en (hr en List.mem_cons_self)) hh (ih d mid M q hT hq ι p l e R s m args below meth c C _ tl (fun e he => hr e (List.mem_cons_of_mem _ he))) (fun t => ih d mid M q hT hq ι p l e R s m args below meth c C t _ (fun e he => ai_seek_mem t M.2.1 e he)) loc stk w outs h Q hQ ws ls st H locs hM
      · cases h
end ALL
end
section
/-! ===== the tables are checked by program ===== -/
/-- a word by the number of its row and its place -/
def ak_tw (n : Nat) : Option Cond := match n / 1000 with
  | 1 => tables_1_1[n % 1000]?
  | 2 => tables_1_2[n % 1000]?
  | 3 => tables_1_3[n % 1000]?
  | 4 => tables_1_4[n % 1000]?
  | 5 => tables_1_5[n % 1000]?
  | 6 => tables_1_6[n % 1000]?
  | 7 => tables_1_7[n % 1000]?
  | 8 => tables_1_8[n % 1000]?
  | 9 => tables_1_9[n % 1000]?
  | _ => none
theorem ak_tw_mem {n : Nat} {w : Cond} (h : ak_tw n = some w) : w ∈ lw_tbl := by
  refine List.mem_append_right _ ?_
  unfold ak_tw at h
  show w ∈ tables_1_1 ++ (tables_1_2 ++ (tables_1_3 ++ (tables_1_4 ++ (tables_1_5 ++ (tables_1_6 ++ (tables_1_7 ++ (tables_1_8 ++ tables_1_9)))))))
  simp only [List.mem_append]
  split at h
  · exact Or.inl (List.mem_of_getElem? h)
  · exact Or.inr (Or.inl (List.mem_of_getElem? h))
  · exact Or.inr (Or.inr (Or.inl (List.mem_of_getElem? h)))
  · exact Or.inr (Or.inr (Or.inr (Or.inl (List.mem_of_getElem? h))))
  · exact Or.inr (Or.inr (Or.inr (Or.inr (Or.inl (List.mem_of_getElem? h)))))
  · exact Or.inr (Or.inr (Or.inr (Or.inr (Or.inr (Or.inl (List.mem_of_getElem? h))))))
  · exact Or.inr (Or.inr (Or.inr (Or.inr (Or.inr (Or.inr (Or.inl (List.mem_of_getElem? h)))))))
  · exact Or.inr (Or.inr (Or.inr (Or.inr (Or.inr (Or.inr (Or.inr (Or.inl (List.mem_of_getElem? h))))))))
  · exact Or.inr (Or.inr (Or.inr (Or.inr (Or.inr (Or.inr (Or.inr (Or.inr (List.mem_of_getElem? h))))))))
  · cases h
def ak_isn (n : Nat) (w : Cond) : Bool := decide (ak_tw n = some w)
def ak_isw (n : Nat) (w : Cond) : Bool := ak_isn n w && goodWord w
theorem ak_isn_mem {n : Nat} {w : Cond} (h : ak_isn n w = true) : w ∈ lw_tbl := ak_tw_mem (of_decide_eq_true h)
theorem ak_isw_mem {n : Nat} {w : Cond} (h : ak_isw n w = true) : w ∈ ak_W := by
  unfold ak_isw at h
  rw [Bool.and_eq_true] at h
  exact ak_W_of (ak_isn_mem h.1) h.2
/-- the number of a field's type -/
def ak_tyc (d : String) (tc : Nat) : Bool := match parseFieldDescriptor d with
  | some .int => tc == 0
  | some .boolean => tc == 1
  | some (.object _) => tc == 2
  | some (.array _) => tc == 2
  | some .long => tc == 3
  | _ => false
theorem ak_tyc_ok {d : String} {tc : Nat} (h : ak_tyc d tc = true) : ∃ ty, parseFieldDescriptor d = some ty ∧ ak_ty tc ty := by
  unfold ak_tyc at h
  split at h
  · rename_i h1; exact ⟨_, h1, Or.inl ⟨by simpa using h, rfl⟩⟩
  · rename_i h1; exact ⟨_, h1, Or.inr (Or.inl ⟨by simpa using h, rfl⟩)⟩
  · rename_i h1; exact ⟨_, h1, Or.inr (Or.inr (Or.inl ⟨by simpa using h, Or.inl ⟨_, rfl⟩⟩))⟩
  · rename_i h1; exact ⟨_, h1, Or.inr (Or.inr (Or.inl ⟨by simpa using h, Or.inr ⟨_, rfl⟩⟩))⟩
  · rename_i h1; exact ⟨_, h1, Or.inr (Or.inr (Or.inr ⟨by simpa using h, rfl⟩))⟩
  · cases h
/-- what the tables say of a method: kind 0 of an object, 1 a constructor, 2 of a class -/
def ak_mp (q : MethodName × ByteArray × Option FieldType × Nat) (M : ai_M) : Prop := ak_ym q.1 q.2.1 M.1 q.2.2.1 ∧ (q.2.2.2 = 0 → Cond.instanceMethod q.1 ∈ ak_W ∧ Cond.selects q.1.cls q.1 q.1 ∈ ak_W) ∧ (q.2.2.2 = 1 → Cond.instanceMethod q.1 ∈ ak_W ∧ q.1.name = "<init>") ∧ (q.2.2.2 = 2 → Cond.static q.1 ∈ ak_W)
def ak_ckc (own : String) (op idx mid k mode r4 ci : Nat) : Bool :=
  if mode = 7 then decide (op = 1) && ak_isw r4 (.methodLink own idx Lib.objectInit) else if mode = 8 then decide (op = 2) && ak_isw r4 (.methodLink own idx arraycopyName) else if mode = 9 then decide (op = 0) && ak_isw r4 (.methodLink own idx ⟨"SpanCopier$Word", "ordinal", "()I"⟩) else
  match ak_mt[mid]? with
  | none => false
  | some q => decide (mid < 179) && decide ((parseMethodDescriptor q.1.desc).map (fun d => d.parameters.length) = some (if mode ≤ 3 then k - 1 else k)) &&
    (if mode = 0 then decide (op = 0) && decide (q.2.2.2 = 0) && ak_isw r4 (.methodLink own idx q.1) && decide ((vwCl[ci]?).map (fun z => z.1) = some q.1.cls)
    else if mode = 1 then decide (op = 0) && decide (q.2.2.2 = 0) && ak_isn r4 (.methodLinkNest own idx q.1 "SpanCopier") && decide ((vwCl[ci]?).map (fun z => z.1) = some q.1.cls)
    else if mode = 2 then decide (op = 1) && decide (q.2.2.2 = 1) && ak_isw r4 (.methodLink own idx q.1)
    else if mode = 3 then decide (op = 1) && decide (q.2.2.2 = 1) && ak_isn r4 (.methodLinkNest own idx q.1 "SpanCopier")
    else if mode = 4 ∨ mode = 5 then decide (op = 2) && decide (q.2.2.2 = 2) && ak_isw r4 (.methodLink own idx q.1)
    else if mode = 6 then decide (op = 2) && decide (q.2.2.2 = 2) && ak_isn r4 (.methodLinkNest own idx q.1 "SpanCopier")
    else false)
def ak_ckl (y : MethodName) (rt : Option FieldType) (ins : Instr) (r1 r2 r3 r4 r5 : Nat) : Bool := match ins with
  | .ldc i => ak_isw r4 (.constant y.cls i (nI r1))
  | .ldc_w i => ak_isw r4 (.constant y.cls i (nI r1))
  | .getfield i => match vwCl[r2]? with
    | none => false
    | some q => decide (r1 < q.2.2) && (if r3 = 1 then ak_isn r4 (.fieldLinkNest y.cls i (q.2.1 r1).1 (q.2.1 r1).2.1 (q.2.1 r1).2.2.1 "SpanCopier") else ak_isw r4 (.fieldLink y.cls i (q.2.1 r1).1 (q.2.1 r1).2.1 (q.2.1 r1).2.2.1))
  | .putfield i => match vwCl[r2]? with
    | none => false
    | some q => decide (r1 < q.2.2) && ak_tyc (q.2.1 r1).2.2.1 r5 && (if r3 = 1 then ak_isn r4 (.fieldLinkNest y.cls i (q.2.1 r1).1 (q.2.1 r1).2.1 (q.2.1 r1).2.2.1 "SpanCopier") && !(q.2.1 r1).2.2.2 else ak_isw r4 (.fieldLink y.cls i (q.2.1 r1).1 (q.2.1 r1).2.1 (q.2.1 r1).2.2.1) && (if r3 = 0 then !(q.2.1 r1).2.2.2 else (q.2.1 r1).2.2.2 && decide (y.name = "<init>") && decide ((q.2.1 r1).1 = y.cls)))
  | .getstatic i => decide (r1 < 38 ∨ 40 ≤ r1 ∧ r1 ≤ 43) && (if r3 = 1 then ak_isn r4 (.fieldLinkNest y.cls i (ak_st r1).1 (ak_st r1).2.1 (ak_st r1).2.2 "SpanCopier") else ak_isw r4 (.fieldLink y.cls i (ak_st r1).1 (ak_st r1).2.1 (ak_st r1).2.2))
  | .new i => match vwCl[r1]? with
    | none => false
    | some q => decide (r2 = q.2.2) && ak_isw r4 (.classLink y.cls i q.1)
  | .newarray t => match t with
    | .int => decide (r1 = 1)
    | .byte => decide (r1 = 2)
    | .boolean => decide (r1 = 3)
    | .long => decide (r1 = 4)
    | _ => false
  | .anewarray i => if r1 = 5 then ak_isw r4 (.classLink y.cls i "SpanCopier$Word") else if r1 = 6 then ak_isw r4 (.classLink y.cls i "SpanCopier$World") else false
  | .invokevirtual i => ak_ckc y.cls 0 i r1 r2 r3 r4 r5
  | .invokespecial i => ak_ckc y.cls 1 i r1 r2 r3 r4 r5
  | .invokestatic i => ak_ckc y.cls 2 i r1 r2 r3 r4 r5
  | .ireturn => decide (rt = some (if r1 = 1 then .boolean else .int))
  | .areturn => match rt with
    | some (.object _) => true
    | some (.array _) => true
    | _ => false
  | .return_ => decide (rt = none)
  | _ => true
def ak_sw : Instr → Bool
  | .tableswitch _ _ _ _ => true
  | _ => false
def ak_ck (y : MethodName) (b : ByteArray) (rt : Option FieldType) (e : ai_N) : Bool := decide (decode b e.1 = .ok (e.2.1, e.2.2.1)) && (ak_sw e.2.1 || decide (e.2.2.1 = ak_ln e.2.1)) && ak_ckl y rt e.2.1 e.2.2.2.1 e.2.2.2.2.1 e.2.2.2.2.2.1 e.2.2.2.2.2.2.1 e.2.2.2.2.2.2.2
/-- the array classes -/
def ak_arrs : Prop := Cond.arrayClass .int ∈ ak_W ∧ Cond.arrayClass .byte ∈ ak_W ∧ Cond.arrayClass .boolean ∈ ak_W ∧ Cond.arrayClass .long ∈ ak_W
theorem ak_ckc_ok {y : MethodName} {op idx mid k mode r4 ci : Nat} (hm : ∀ (mid : Nat) (q : MethodName × ByteArray × Option FieldType × Nat) (M : ai_M), mid < 179 → ak_mt[mid]? = some q → ai_tab[mid]? = some M → ak_mp q M) (hT : ∀ (mid : Nat) (q : MethodName × ByteArray × Option FieldType × Nat), ak_mt[mid]? = some q → ∃ M, ai_tab[mid]? = some M) (h : ak_ckc y.cls op idx mid k mode r4 ci = true) : ak_cv y op idx mid k mode ci := by
  unfold ak_ckc at h
  split at h
  · rename_i h7
    rw [Bool.and_eq_true, decide_eq_true_eq] at h
    exact Or.inr (Or.inl ⟨h7, h.1, ak_isw_mem h.2⟩)
  · split at h
    · rename_i h8
      rw [Bool.and_eq_true, decide_eq_true_eq] at h
      exact Or.inr (Or.inr (Or.inl ⟨h8, h.1, ak_isw_mem h.2⟩))
    · split at h
      · rename_i h9
        rw [Bool.and_eq_true, decide_eq_true_eq] at h
        exact Or.inr (Or.inr (Or.inr ⟨h9, h.1, ak_isw_mem h.2⟩))
      · split at h
        · cases h
        · rename_i q hq
          obtain ⟨M', hM'⟩ := hT mid q hq
          rw [Bool.and_eq_true, Bool.and_eq_true, decide_eq_true_eq, decide_eq_true_eq] at h
          obtain ⟨⟨hlt, hk⟩, h⟩ := h
          obtain ⟨m1, m2, m3, m4⟩ := hm mid q M' hlt hq hM'
          have cls : ∀ z, decide ((vwCl[ci]?).map (fun z => z.1) = some z) = true → ∃ q, vwCl[ci]? = some q ∧ q.1 = z := by
            intro z hz
            have hz := of_decide_eq_true hz
            cases hv : vwCl[ci]? with
            | none => rw [hv] at hz; cases hz
            | some q => rw [hv] at hz; exact ⟨q, rfl, Option.some.inj hz⟩
          left
          split at h
          · rename_i h0
            simp only [Bool.and_eq_true, decide_eq_true_eq] at h
            obtain ⟨⟨⟨a1, a2⟩, a3⟩, a4⟩ := h
            refine ⟨by omega, ⟨q, M', hq, hM', m1, Or.inl ⟨h0, ak_isw_mem a3, (m2 a2).1, (m2 a2).2, cls _ (by rw [decide_eq_true_eq]; exact a4)⟩, hk⟩, Or.inl ⟨by omega, a1⟩⟩
          · split at h
            · rename_i h0
              simp only [Bool.and_eq_true, decide_eq_true_eq] at h
              obtain ⟨⟨⟨a1, a2⟩, a3⟩, a4⟩ := h
              refine ⟨by omega, ⟨q, M', hq, hM', m1, Or.inr (Or.inl ⟨h0, ⟨_, ak_isn_mem a3⟩, (m2 a2).1, (m2 a2).2, cls _ (by rw [decide_eq_true_eq]; exact a4)⟩), hk⟩, Or.inl ⟨by omega, a1⟩⟩
            · split at h
              · rename_i h0
                simp only [Bool.and_eq_true, decide_eq_true_eq] at h
                obtain ⟨⟨a1, a2⟩, a3⟩ := h
                refine ⟨by omega, ⟨q, M', hq, hM', m1, Or.inr (Or.inr (Or.inl ⟨h0, ak_isw_mem a3, (m3 a2).1, (m3 a2).2⟩)), hk⟩, Or.inr (Or.inl ⟨by omega, by omega, a1⟩)⟩
              · split at h
                · rename_i h0
                  simp only [Bool.and_eq_true, decide_eq_true_eq] at h
                  obtain ⟨⟨a1, a2⟩, a3⟩ := h
                  refine ⟨by omega, ⟨q, M', hq, hM', m1, Or.inr (Or.inr (Or.inr (Or.inl ⟨h0, ⟨_, ak_isn_mem a3⟩, (m3 a2).1, (m3 a2).2⟩))), hk⟩, Or.inr (Or.inl ⟨by omega, by omega, a1⟩)⟩
                · split at h
                  · rename_i h0
                    simp only [Bool.and_eq_true, decide_eq_true_eq] at h
                    obtain ⟨⟨a1, a2⟩, a3⟩ := h
                    refine ⟨by omega, ⟨q, M', hq, hM', m1, Or.inr (Or.inr (Or.inr (Or.inr (Or.inl ⟨h0, ak_isw_mem a3, m4 a2⟩)))), hk⟩, Or.inr (Or.inr ⟨by omega, a1⟩)⟩
                  · split at h
                    · rename_i h0
                      simp only [Bool.and_eq_true, decide_eq_true_eq] at h
                      obtain ⟨⟨a1, a2⟩, a3⟩ := h
                      refine ⟨by omega, ⟨q, M', hq, hM', m1, Or.inr (Or.inr (Or.inr (Or.inr (Or.inr ⟨h0, ⟨_, ak_isn_mem a3⟩, m4 a2⟩)))), hk⟩, Or.inr (Or.inr ⟨by omega, a1⟩)⟩
                    · cases h
theorem ak_ck_ok {y : MethodName} {b : ByteArray} {rt : Option FieldType} {e : ai_N} (ha : ak_arrs) (hm : ∀ (mid : Nat) (q : MethodName × ByteArray × Option FieldType × Nat) (M : ai_M), mid < 179 → ak_mt[mid]? = some q → ai_tab[mid]? = some M → ak_mp q M) (hT : ∀ (mid : Nat) (q : MethodName × ByteArray × Option FieldType × Nat), ak_mt[mid]? = some q → ∃ M, ai_tab[mid]? = some M) (h : ak_ck y b rt e = true) : ak_okE y b rt e := by
  obtain ⟨pc, ins, len, r1, r2, r3, r4, r5⟩ := e
  simp only [ak_ck, Bool.and_eq_true, Bool.or_eq_true, decide_eq_true_eq] at h
  obtain ⟨⟨h1, h2⟩, h3⟩ := h
  refine ⟨h1, fun hn => ?_, ?_⟩
  · rcases h2 with h2 | h2
    · dsimp only at h2 hn
      cases ins <;> first | exact absurd rfl (hn _ _ _ _) | cases h2
    · exact h2
  · clear h1 h2
    dsimp only
    unfold ak_ckl at h3
    unfold ak_lk
    split at h3
    · exact ak_isw_mem h3
    · exact ak_isw_mem h3
    · split at h3
      · cases h3
      · rename_i q hq
        rw [Bool.and_eq_true, decide_eq_true_eq] at h3
        refine ⟨q, hq, h3.1, ?_⟩
        split at h3
        · exact Or.inr ⟨_, ak_isn_mem h3.2⟩
        · exact Or.inl (ak_isw_mem h3.2)
    · split at h3
      · cases h3
      · rename_i q hq
        rw [Bool.and_eq_true, Bool.and_eq_true, decide_eq_true_eq] at h3
        obtain ⟨⟨a1, a2⟩, a3⟩ := h3
        obtain ⟨ty, t1, t2⟩ := ak_tyc_ok a2
        refine ⟨q, ty, hq, a1, t1, t2, ?_⟩
        split at a3
        · rw [Bool.and_eq_true, Bool.not_eq_true'] at a3
          exact Or.inr (Or.inl ⟨_, ak_isn_mem a3.1, a3.2⟩)
        · rw [Bool.and_eq_true] at a3
          obtain ⟨b1, b2⟩ := a3
          split at b2
          · rw [Bool.not_eq_true'] at b2
            exact Or.inl ⟨ak_isw_mem b1, b2⟩
          · rw [Bool.and_eq_true, Bool.and_eq_true, decide_eq_true_eq, decide_eq_true_eq] at b2
            exact Or.inr (Or.inr ⟨ak_isw_mem b1, b2.1.1, b2.1.2, b2.2⟩)
    · rw [Bool.and_eq_true, decide_eq_true_eq] at h3
      refine ⟨h3.1, ?_⟩
      obtain ⟨-, h3⟩ := h3
      split at h3
      · exact Or.inr ⟨_, ak_isn_mem h3⟩
      · exact Or.inl (ak_isw_mem h3)
    · split at h3
      · cases h3
      · rename_i q hq
        rw [Bool.and_eq_true, decide_eq_true_eq] at h3
        exact ⟨q, hq, h3.1, ak_isw_mem h3.2⟩
    · split at h3
      · exact ⟨Or.inl ⟨of_decide_eq_true h3, rfl⟩, ha.1⟩
      · exact ⟨Or.inr (Or.inl ⟨of_decide_eq_true h3, rfl⟩), ha.2.1⟩
      · exact ⟨Or.inr (Or.inr (Or.inl ⟨of_decide_eq_true h3, rfl⟩)), ha.2.2.1⟩
      · exact ⟨Or.inr (Or.inr (Or.inr ⟨of_decide_eq_true h3, rfl⟩)), ha.2.2.2⟩
      · cases h3
    · split at h3
      · rename_i h5; exact ⟨_, Or.inl ⟨h5, rfl⟩, ak_isw_mem h3⟩
      · split at h3
        · rename_i h6; exact ⟨_, Or.inr ⟨h6, rfl⟩, ak_isw_mem h3⟩
        · cases h3
    · exact ak_ckc_ok hm hT h3
    · exact ak_ckc_ok hm hT h3
    · exact ak_ckc_ok hm hT h3
    · refine ⟨_, of_decide_eq_true h3, ?_⟩
      by_cases h1 : r1 = 1
      · exact Or.inl ⟨h1, by rw [if_pos h1]⟩
      · exact Or.inr ⟨h1, by rw [if_neg h1]⟩
    · split at h3
      · exact ⟨_, rfl, Or.inl ⟨_, rfl⟩⟩
      · exact ⟨_, rfl, Or.inr ⟨_, rfl⟩⟩
      · cases h3
    · exact of_decide_eq_true h3
    · split <;> first | trivial | (exfalso; solve_by_elim)
theorem ak_sel {j n : Nat} {y : MethodName} (h : lw_privs[j]? = some (y, n)) : Cond.selects y.cls y y ∈ lw_tbl := List.mem_append_left _ (List.mem_map.mpr ⟨(y, n), List.mem_of_getElem? h, rfl⟩)
theorem ak_parts {α : Type} {P : α → Prop} {l : List α} (k : Nat) {n : Nat} (h1 : ∀ e ∈ (l.drop k).take n, P e) (h2 : ∀ e ∈ l.drop (k + n), P e) : ∀ e ∈ l.drop k, P e := by
  intro e he
  rw [← List.take_append_drop n (l.drop k), List.drop_drop] at he
  rcases List.mem_append.mp he with h | h
  · exact h1 e h
  · exact h2 e h
end
section
theorem ak_mp0 : ak_mp (⟨"SpanCopier", "<init>", "()V"⟩, prog_1_method_1_code, (Option.none : Option Jvm.ClassFile.FieldType), 1) (1, ai_k0, 56, 4762) := ⟨⟨ak_W_of (ak_tw_mem (n := 1027) (by decide +kernel)) rfl, ak_W_of (ak_tw_mem (n := 1001) (by decide +kernel)) rfl, by decide +kernel, by decide +kernel, by decide, by decide +kernel, by decide +kernel⟩, (fun h => absurd h (by decide)), fun _ => ⟨ak_W_of (ak_tw_mem (n := 1026) (by decide +kernel)) rfl, rfl⟩, (fun h => absurd h (by decide))⟩
theorem ak_mp1 : ak_mp (⟨"SpanCopier", "book", "(I)I"⟩, prog_1_method_36_code, (Option.some Jvm.ClassFile.FieldType.int), 0) (5, ai_k1, 46, 3670) := ⟨⟨ak_W_of (ak_tw_mem (n := 5051) (by decide +kernel)) rfl, ak_W_of (ak_tw_mem (n := 1001) (by decide +kernel)) rfl, by decide +kernel, by decide +kernel, by decide, by decide +kernel, by decide +kernel⟩, fun _ => ⟨ak_W_of (ak_tw_mem (n := 5049) (by decide +kernel)) rfl, ak_W_of (ak_tw_mem (n := 5050) (by decide +kernel)) rfl⟩, (fun h => absurd h (by decide)), (fun h => absurd h (by decide))⟩
theorem ak_mp2 : ak_mp (⟨"SpanCopier", "closeText", "()V"⟩, prog_1_method_5_code, (Option.none : Option Jvm.ClassFile.FieldType), 0) (1, ai_k2, 0, 0) := ⟨⟨ak_W_of (ak_tw_mem (n := 3069) (by decide +kernel)) rfl, ak_W_of (ak_tw_mem (n := 1001) (by decide +kernel)) rfl, by decide +kernel, by decide +kernel, by decide, by decide +kernel, by decide +kernel⟩, fun _ => ⟨ak_W_of (ak_tw_mem (n := 3068) (by decide +kernel)) rfl, ak_W_of (ak_sel (j := 17) (n := _) (by rfl)) rfl⟩, (fun h => absurd h (by decide)), (fun h => absurd h (by decide))⟩
theorem ak_mp3 : ak_mp (⟨"SpanCopier", "count", "(I)I"⟩, prog_1_method_43_code, (Option.some Jvm.ClassFile.FieldType.int), 0) (2, ai_k3, 0, 0) := ⟨⟨ak_W_of (ak_tw_mem (n := 5203) (by decide +kernel)) rfl, ak_W_of (ak_tw_mem (n := 1001) (by decide +kernel)) rfl, by decide +kernel, by decide +kernel, by decide, by decide +kernel, by decide +kernel⟩, fun _ => ⟨ak_W_of (ak_tw_mem (n := 5201) (by decide +kernel)) rfl, ak_W_of (ak_tw_mem (n := 5202) (by decide +kernel)) rfl⟩, (fun h => absurd h (by decide)), (fun h => absurd h (by decide))⟩
theorem ak_mp4 : ak_mp (⟨"SpanCopier", "crash", "()I"⟩, prog_1_method_18_code, (Option.some Jvm.ClassFile.FieldType.int), 0) (1, ai_k4, 0, 0) := ⟨⟨ak_W_of (ak_tw_mem (n := 4150) (by decide +kernel)) rfl, ak_W_of (ak_tw_mem (n := 1001) (by decide +kernel)) rfl, by decide +kernel, by decide +kernel, by decide, by decide +kernel, by decide +kernel⟩, fun _ => ⟨ak_W_of (ak_tw_mem (n := 4148) (by decide +kernel)) rfl, ak_W_of (ak_tw_mem (n := 4149) (by decide +kernel)) rfl⟩, (fun h => absurd h (by decide)), (fun h => absurd h (by decide))⟩
theorem ak_mp5 : ak_mp (⟨"SpanCopier", "drawn", "(II)I"⟩, prog_1_method_33_code, (Option.some Jvm.ClassFile.FieldType.int), 0) (4, ai_k5, 23, 1835) := ⟨⟨ak_W_of (ak_tw_mem (n := 5017) (by decide +kernel)) rfl, ak_W_of (ak_tw_mem (n := 1001) (by decide +kernel)) rfl, by decide +kernel, by decide +kernel, by decide, by decide +kernel, by decide +kernel⟩, fun _ => ⟨ak_W_of (ak_tw_mem (n := 5015) (by decide +kernel)) rfl, ak_W_of (ak_tw_mem (n := 5016) (by decide +kernel)) rfl⟩, (fun h => absurd h (by decide)), (fun h => absurd h (by decide))⟩
theorem ak_mp6 : ak_mp (⟨"SpanCopier", "end", "(I)Z"⟩, prog_1_method_3_code, (Option.some Jvm.ClassFile.FieldType.boolean), 0) (2, ai_k6, 0, 0) := ⟨⟨ak_W_of (ak_tw_mem (n := 2188) (by decide +kernel)) rfl, ak_W_of (ak_tw_mem (n := 1001) (by decide +kernel)) rfl, by decide +kernel, by decide +kernel, by decide, by decide +kernel, by decide +kernel⟩, fun _ => ⟨ak_W_of (ak_tw_mem (n := 2186) (by decide +kernel)) rfl, ak_W_of (ak_tw_mem (n := 2187) (by decide +kernel)) rfl⟩, (fun h => absurd h (by decide)), (fun h => absurd h (by decide))⟩
theorem ak_mp7 : ak_mp (⟨"SpanCopier", "fault", "()I"⟩, prog_1_method_6_code, (Option.some Jvm.ClassFile.FieldType.int), 0) (1, ai_k7, 0, 0) := ⟨⟨ak_W_of (ak_tw_mem (n := 3108) (by decide +kernel)) rfl, ak_W_of (ak_tw_mem (n := 1001) (by decide +kernel)) rfl, by decide +kernel, by decide +kernel, by decide, by decide +kernel, by decide +kernel⟩, fun _ => ⟨ak_W_of (ak_tw_mem (n := 3106) (by decide +kernel)) rfl, ak_W_of (ak_tw_mem (n := 3107) (by decide +kernel)) rfl⟩, (fun h => absurd h (by decide)), (fun h => absurd h (by decide))⟩
theorem ak_mp8 : ak_mp (⟨"SpanCopier", "feed", "(IIIII)I"⟩, prog_1_method_2_code, (Option.some Jvm.ClassFile.FieldType.int), 0) (6, ai_k8, 0, 0) := ⟨⟨ak_W_of (ak_tw_mem (n := 2180) (by decide +kernel)) rfl, ak_W_of (ak_tw_mem (n := 1001) (by decide +kernel)) rfl, by decide +kernel, by decide +kernel, by decide, by decide +kernel, by decide +kernel⟩, fun _ => ⟨ak_W_of (ak_tw_mem (n := 2178) (by decide +kernel)) rfl, ak_W_of (ak_tw_mem (n := 2179) (by decide +kernel)) rfl⟩, (fun h => absurd h (by decide)), (fun h => absurd h (by decide))⟩
theorem ak_mp9 : ak_mp (⟨"SpanCopier", "file", "()I"⟩, prog_1_method_7_code, (Option.some Jvm.ClassFile.FieldType.int), 0) (2, ai_k9, 0, 0) := ⟨⟨ak_W_of (ak_tw_mem (n := 3112) (by decide +kernel)) rfl, ak_W_of (ak_tw_mem (n := 1001) (by decide +kernel)) rfl, by decide +kernel, by decide +kernel, by decide, by decide +kernel, by decide +kernel⟩, fun _ => ⟨ak_W_of (ak_tw_mem (n := 3110) (by decide +kernel)) rfl, ak_W_of (ak_tw_mem (n := 3111) (by decide +kernel)) rfl⟩, (fun h => absurd h (by decide)), (fun h => absurd h (by decide))⟩
theorem ak_mp10 : ak_mp (⟨"SpanCopier", "gap", "(II)I"⟩, prog_1_method_23_code, (Option.some Jvm.ClassFile.FieldType.int), 0) (3, ai_k10, 0, 0) := ⟨⟨ak_W_of (ak_tw_mem (n := 4187) (by decide +kernel)) rfl, ak_W_of (ak_tw_mem (n := 1001) (by decide +kernel)) rfl, by decide +kernel, by decide +kernel, by decide, by decide +kernel, by decide +kernel⟩, fun _ => ⟨ak_W_of (ak_tw_mem (n := 4185) (by decide +kernel)) rfl, ak_W_of (ak_tw_mem (n := 4186) (by decide +kernel)) rfl⟩, (fun h => absurd h (by decide)), (fun h => absurd h (by decide))⟩
theorem ak_mp11 : ak_mp (⟨"SpanCopier", "image", "(I)Z"⟩, prog_1_method_41_code, (Option.some Jvm.ClassFile.FieldType.boolean), 0) (3, ai_k11, 23, 1835) := ⟨⟨ak_W_of (ak_tw_mem (n := 5195) (by decide +kernel)) rfl, ak_W_of (ak_tw_mem (n := 1001) (by decide +kernel)) rfl, by decide +kernel, by decide +kernel, by decide, by decide +kernel, by decide +kernel⟩, fun _ => ⟨ak_W_of (ak_tw_mem (n := 5193) (by decide +kernel)) rfl, ak_W_of (ak_tw_mem (n := 5194) (by decide +kernel)) rfl⟩, (fun h => absurd h (by decide)), (fun h => absurd h (by decide))⟩
theorem ak_mp12 : ak_mp (⟨"SpanCopier", "journal", "(I)I"⟩, prog_1_method_28_code, (Option.some Jvm.ClassFile.FieldType.int), 0) (2, ai_k12, 0, 0) := ⟨⟨ak_W_of (ak_tw_mem (n := 4212) (by decide +kernel)) rfl, ak_W_of (ak_tw_mem (n := 1001) (by decide +kernel)) rfl, by decide +kernel, by decide +kernel, by decide, by decide +kernel, by decide +kernel⟩, fun _ => ⟨ak_W_of (ak_tw_mem (n := 4210) (by decide +kernel)) rfl, ak_W_of (ak_tw_mem (n := 4211) (by decide +kernel)) rfl⟩, (fun h => absurd h (by decide)), (fun h => absurd h (by decide))⟩
theorem ak_mp13 : ak_mp (⟨"SpanCopier", "keepLooked", "()V"⟩, prog_1_method_9_code, (Option.none : Option Jvm.ClassFile.FieldType), 0) (3, ai_k13, 23, 1835) := ⟨⟨ak_W_of (ak_tw_mem (n := 3165) (by decide +kernel)) rfl, ak_W_of (ak_tw_mem (n := 1001) (by decide +kernel)) rfl, by decide +kernel, by decide +kernel, by decide, by decide +kernel, by decide +kernel⟩, fun _ => ⟨ak_W_of (ak_tw_mem (n := 3164) (by decide +kernel)) rfl, ak_W_of (ak_sel (j := 33) (n := _) (by rfl)) rfl⟩, (fun h => absurd h (by decide)), (fun h => absurd h (by decide))⟩
theorem ak_mp14 : ak_mp (⟨"SpanCopier", "keptIfAbove", "(I)I"⟩, prog_1_method_11_code, (Option.some Jvm.ClassFile.FieldType.int), 0) (2, ai_k14, 23, 1835) := ⟨⟨ak_W_of (ak_tw_mem (n := 4102) (by decide +kernel)) rfl, ak_W_of (ak_tw_mem (n := 1001) (by decide +kernel)) rfl, by decide +kernel, by decide +kernel, by decide, by decide +kernel, by decide +kernel⟩, fun _ => ⟨ak_W_of (ak_tw_mem (n := 4101) (by decide +kernel)) rfl, ak_W_of (ak_sel (j := 70) (n := _) (by rfl)) rfl⟩, (fun h => absurd h (by decide)), (fun h => absurd h (by decide))⟩
theorem ak_mp15 : ak_mp (⟨"SpanCopier", "keptIfDone", "(I)I"⟩, prog_1_method_13_code, (Option.some Jvm.ClassFile.FieldType.int), 0) (2, ai_k15, 0, 0) := ⟨⟨ak_W_of (ak_tw_mem (n := 4111) (by decide +kernel)) rfl, ak_W_of (ak_tw_mem (n := 1001) (by decide +kernel)) rfl, by decide +kernel, by decide +kernel, by decide, by decide +kernel, by decide +kernel⟩, fun _ => ⟨ak_W_of (ak_tw_mem (n := 4110) (by decide +kernel)) rfl, ak_W_of (ak_sel (j := 71) (n := _) (by rfl)) rfl⟩, (fun h => absurd h (by decide)), (fun h => absurd h (by decide))⟩
theorem ak_mp16 : ak_mp (⟨"SpanCopier", "late", "(II)I"⟩, prog_1_method_15_code, (Option.some Jvm.ClassFile.FieldType.int), 0) (3, ai_k16, 0, 0) := ⟨⟨ak_W_of (ak_tw_mem (n := 4123) (by decide +kernel)) rfl, ak_W_of (ak_tw_mem (n := 1001) (by decide +kernel)) rfl, by decide +kernel, by decide +kernel, by decide, by decide +kernel, by decide +kernel⟩, fun _ => ⟨ak_W_of (ak_tw_mem (n := 4121) (by decide +kernel)) rfl, ak_W_of (ak_tw_mem (n := 4122) (by decide +kernel)) rfl⟩, (fun h => absurd h (by decide)), (fun h => absurd h (by decide))⟩
theorem ak_mp17 : ak_mp (⟨"SpanCopier", "lookBefore", "()V"⟩, prog_1_method_8_code, (Option.none : Option Jvm.ClassFile.FieldType), 0) (1, ai_k17, 0, 0) := ⟨⟨ak_W_of (ak_tw_mem (n := 3116) (by decide +kernel)) rfl, ak_W_of (ak_tw_mem (n := 1001) (by decide +kernel)) rfl, by decide +kernel, by decide +kernel, by decide, by decide +kernel, by decide +kernel⟩, fun _ => ⟨ak_W_of (ak_tw_mem (n := 3115) (by decide +kernel)) rfl, ak_W_of (ak_sel (j := 25) (n := _) (by rfl)) rfl⟩, (fun h => absurd h (by decide)), (fun h => absurd h (by decide))⟩
theorem ak_mp18 : ak_mp (⟨"SpanCopier", "lose", "(I)I"⟩, prog_1_method_12_code, (Option.some Jvm.ClassFile.FieldType.int), 0) (2, ai_k18, 0, 0) := ⟨⟨ak_W_of (ak_tw_mem (n := 4106) (by decide +kernel)) rfl, ak_W_of (ak_tw_mem (n := 1001) (by decide +kernel)) rfl, by decide +kernel, by decide +kernel, by decide, by decide +kernel, by decide +kernel⟩, fun _ => ⟨ak_W_of (ak_tw_mem (n := 4104) (by decide +kernel)) rfl, ak_W_of (ak_tw_mem (n := 4105) (by decide +kernel)) rfl⟩, (fun h => absurd h (by decide)), (fun h => absurd h (by decide))⟩
theorem ak_mp19 : ak_mp (⟨"SpanCopier", "need", "()I"⟩, prog_1_method_29_code, (Option.some Jvm.ClassFile.FieldType.int), 0) (1, ai_k19, 0, 0) := ⟨⟨ak_W_of (ak_tw_mem (n := 4220) (by decide +kernel)) rfl, ak_W_of (ak_tw_mem (n := 1001) (by decide +kernel)) rfl, by decide +kernel, by decide +kernel, by decide, by decide +kernel, by decide +kernel⟩, fun _ => ⟨ak_W_of (ak_tw_mem (n := 4218) (by decide +kernel)) rfl, ak_W_of (ak_tw_mem (n := 4219) (by decide +kernel)) rfl⟩, (fun h => absurd h (by decide)), (fun h => absurd h (by decide))⟩
theorem ak_mp20 : ak_mp (⟨"SpanCopier", "now", "(I)I"⟩, prog_1_method_20_code, (Option.some Jvm.ClassFile.FieldType.int), 0) (2, ai_k20, 0, 0) := ⟨⟨ak_W_of (ak_tw_mem (n := 4166) (by decide +kernel)) rfl, ak_W_of (ak_tw_mem (n := 1001) (by decide +kernel)) rfl, by decide +kernel, by decide +kernel, by decide, by decide +kernel, by decide +kernel⟩, fun _ => ⟨ak_W_of (ak_tw_mem (n := 4164) (by decide +kernel)) rfl, ak_W_of (ak_tw_mem (n := 4165) (by decide +kernel)) rfl⟩, (fun h => absurd h (by decide)), (fun h => absurd h (by decide))⟩
theorem ak_mp21 : ak_mp (⟨"SpanCopier", "odds", "(II)I"⟩, prog_1_method_34_code, (Option.some Jvm.ClassFile.FieldType.int), 0) (5, ai_k21, 0, 0) := ⟨⟨ak_W_of (ak_tw_mem (n := 5035) (by decide +kernel)) rfl, ak_W_of (ak_tw_mem (n := 1001) (by decide +kernel)) rfl, by decide +kernel, by decide +kernel, by decide, by decide +kernel, by decide +kernel⟩, fun _ => ⟨ak_W_of (ak_tw_mem (n := 5033) (by decide +kernel)) rfl, ak_W_of (ak_tw_mem (n := 5034) (by decide +kernel)) rfl⟩, (fun h => absurd h (by decide)), (fun h => absurd h (by decide))⟩
theorem ak_mp22 : ak_mp (⟨"SpanCopier", "order", "()I"⟩, prog_1_method_4_code, (Option.some Jvm.ClassFile.FieldType.int), 0) (3, ai_k22, 6, 45) := ⟨⟨ak_W_of (ak_tw_mem (n := 2192) (by decide +kernel)) rfl, ak_W_of (ak_tw_mem (n := 1001) (by decide +kernel)) rfl, by decide +kernel, by decide +kernel, by decide, by decide +kernel, by decide +kernel⟩, fun _ => ⟨ak_W_of (ak_tw_mem (n := 2190) (by decide +kernel)) rfl, ak_W_of (ak_tw_mem (n := 2191) (by decide +kernel)) rfl⟩, (fun h => absurd h (by decide)), (fun h => absurd h (by decide))⟩
theorem ak_mp23 : ak_mp (⟨"SpanCopier", "over", "()I"⟩, prog_1_method_30_code, (Option.some Jvm.ClassFile.FieldType.int), 0) (3, ai_k23, 0, 0) := ⟨⟨ak_W_of (ak_tw_mem (n := 4229) (by decide +kernel)) rfl, ak_W_of (ak_tw_mem (n := 1001) (by decide +kernel)) rfl, by decide +kernel, by decide +kernel, by decide, by decide +kernel, by decide +kernel⟩, fun _ => ⟨ak_W_of (ak_tw_mem (n := 4227) (by decide +kernel)) rfl, ak_W_of (ak_tw_mem (n := 4228) (by decide +kernel)) rfl⟩, (fun h => absurd h (by decide)), (fun h => absurd h (by decide))⟩
theorem ak_mp24 : ak_mp (⟨"SpanCopier", "overAs", "(I)I"⟩, prog_1_method_32_code, (Option.some Jvm.ClassFile.FieldType.int), 0) (2, ai_k24, 0, 0) := ⟨⟨ak_W_of (ak_tw_mem (n := 5013) (by decide +kernel)) rfl, ak_W_of (ak_tw_mem (n := 1001) (by decide +kernel)) rfl, by decide +kernel, by decide +kernel, by decide, by decide +kernel, by decide +kernel⟩, fun _ => ⟨ak_W_of (ak_tw_mem (n := 5011) (by decide +kernel)) rfl, ak_W_of (ak_tw_mem (n := 5012) (by decide +kernel)) rfl⟩, (fun h => absurd h (by decide)), (fun h => absurd h (by decide))⟩
theorem ak_mp25 : ak_mp (⟨"SpanCopier", "prompt", "()I"⟩, prog_1_method_17_code, (Option.some Jvm.ClassFile.FieldType.int), 0) (1, ai_k25, 0, 0) := ⟨⟨ak_W_of (ak_tw_mem (n := 4140) (by decide +kernel)) rfl, ak_W_of (ak_tw_mem (n := 1001) (by decide +kernel)) rfl, by decide +kernel, by decide +kernel, by decide, by decide +kernel, by decide +kernel⟩, fun _ => ⟨ak_W_of (ak_tw_mem (n := 4138) (by decide +kernel)) rfl, ak_W_of (ak_tw_mem (n := 4139) (by decide +kernel)) rfl⟩, (fun h => absurd h (by decide)), (fun h => absurd h (by decide))⟩
theorem ak_mp26 : ak_mp (⟨"SpanCopier", "resend", "(II)I"⟩, prog_1_method_24_code, (Option.some Jvm.ClassFile.FieldType.int), 0) (3, ai_k26, 0, 0) := ⟨⟨ak_W_of (ak_tw_mem (n := 4196) (by decide +kernel)) rfl, ak_W_of (ak_tw_mem (n := 1001) (by decide +kernel)) rfl, by decide +kernel, by decide +kernel, by decide, by decide +kernel, by decide +kernel⟩, fun _ => ⟨ak_W_of (ak_tw_mem (n := 4194) (by decide +kernel)) rfl, ak_W_of (ak_tw_mem (n := 4195) (by decide +kernel)) rfl⟩, (fun h => absurd h (by decide)), (fun h => absurd h (by decide))⟩
theorem ak_mp27 : ak_mp (⟨"SpanCopier", "restore", "(I)Z"⟩, prog_1_method_42_code, (Option.some Jvm.ClassFile.FieldType.boolean), 0) (3, ai_k27, 0, 0) := ⟨⟨ak_W_of (ak_tw_mem (n := 5199) (by decide +kernel)) rfl, ak_W_of (ak_tw_mem (n := 1001) (by decide +kernel)) rfl, by decide +kernel, by decide +kernel, by decide, by decide +kernel, by decide +kernel⟩, fun _ => ⟨ak_W_of (ak_tw_mem (n := 5197) (by decide +kernel)) rfl, ak_W_of (ak_tw_mem (n := 5198) (by decide +kernel)) rfl⟩, (fun h => absurd h (by decide)), (fun h => absurd h (by decide))⟩
theorem ak_mp28 : ak_mp (⟨"SpanCopier", "said", "(I)I"⟩, prog_1_method_40_code, (Option.some Jvm.ClassFile.FieldType.int), 0) (5, ai_k28, 0, 0) := ⟨⟨ak_W_of (ak_tw_mem (n := 5177) (by decide +kernel)) rfl, ak_W_of (ak_tw_mem (n := 1001) (by decide +kernel)) rfl, by decide +kernel, by decide +kernel, by decide, by decide +kernel, by decide +kernel⟩, fun _ => ⟨ak_W_of (ak_tw_mem (n := 5175) (by decide +kernel)) rfl, ak_W_of (ak_tw_mem (n := 5176) (by decide +kernel)) rfl⟩, (fun h => absurd h (by decide)), (fun h => absurd h (by decide))⟩
theorem ak_mp29 : ak_mp (⟨"SpanCopier", "sentence", "()I"⟩, prog_1_method_39_code, (Option.some Jvm.ClassFile.FieldType.int), 0) (2, ai_k29, 4, 125) := ⟨⟨ak_W_of (ak_tw_mem (n := 5105) (by decide +kernel)) rfl, ak_W_of (ak_tw_mem (n := 1001) (by decide +kernel)) rfl, by decide +kernel, by decide +kernel, by decide, by decide +kernel, by decide +kernel⟩, fun _ => ⟨ak_W_of (ak_tw_mem (n := 5103) (by decide +kernel)) rfl, ak_W_of (ak_tw_mem (n := 5104) (by decide +kernel)) rfl⟩, (fun h => absurd h (by decide)), (fun h => absurd h (by decide))⟩
theorem ak_mp30 : ak_mp (⟨"SpanCopier", "span", "(III)I"⟩, prog_1_method_22_code, (Option.some Jvm.ClassFile.FieldType.int), 0) (6, ai_k30, 0, 0) := ⟨⟨ak_W_of (ak_tw_mem (n := 4179) (by decide +kernel)) rfl, ak_W_of (ak_tw_mem (n := 1001) (by decide +kernel)) rfl, by decide +kernel, by decide +kernel, by decide, by decide +kernel, by decide +kernel⟩, fun _ => ⟨ak_W_of (ak_tw_mem (n := 4177) (by decide +kernel)) rfl, ak_W_of (ak_tw_mem (n := 4178) (by decide +kernel)) rfl⟩, (fun h => absurd h (by decide)), (fun h => absurd h (by decide))⟩
theorem ak_mp31 : ak_mp (⟨"SpanCopier", "spoil", "(I)I"⟩, prog_1_method_16_code, (Option.some Jvm.ClassFile.FieldType.int), 0) (2, ai_k31, 0, 0) := ⟨⟨ak_W_of (ak_tw_mem (n := 4131) (by decide +kernel)) rfl, ak_W_of (ak_tw_mem (n := 1001) (by decide +kernel)) rfl, by decide +kernel, by decide +kernel, by decide, by decide +kernel, by decide +kernel⟩, fun _ => ⟨ak_W_of (ak_tw_mem (n := 4129) (by decide +kernel)) rfl, ak_W_of (ak_tw_mem (n := 4130) (by decide +kernel)) rfl⟩, (fun h => absurd h (by decide)), (fun h => absurd h (by decide))⟩
theorem ak_mp32 : ak_mp (⟨"SpanCopier", "store", "()I"⟩, prog_1_method_27_code, (Option.some Jvm.ClassFile.FieldType.int), 0) (1, ai_k32, 0, 0) := ⟨⟨ak_W_of (ak_tw_mem (n := 4208) (by decide +kernel)) rfl, ak_W_of (ak_tw_mem (n := 1001) (by decide +kernel)) rfl, by decide +kernel, by decide +kernel, by decide, by decide +kernel, by decide +kernel⟩, fun _ => ⟨ak_W_of (ak_tw_mem (n := 4206) (by decide +kernel)) rfl, ak_W_of (ak_tw_mem (n := 4207) (by decide +kernel)) rfl⟩, (fun h => absurd h (by decide)), (fun h => absurd h (by decide))⟩
theorem ak_mp33 : ak_mp (⟨"SpanCopier", "sum", "(I)I"⟩, prog_1_method_26_code, (Option.some Jvm.ClassFile.FieldType.int), 0) (2, ai_k33, 1, 6) := ⟨⟨ak_W_of (ak_tw_mem (n := 6044) (by decide +kernel)) rfl, ak_W_of (ak_tw_mem (n := 1001) (by decide +kernel)) rfl, by decide +kernel, by decide +kernel, by decide, by decide +kernel, by decide +kernel⟩, fun _ => ⟨ak_W_of (ak_tw_mem (n := 6042) (by decide +kernel)) rfl, ak_W_of (ak_tw_mem (n := 6043) (by decide +kernel)) rfl⟩, (fun h => absurd h (by decide)), (fun h => absurd h (by decide))⟩
theorem ak_mp34 : ak_mp (⟨"SpanCopier", "taken", "(I)I"⟩, prog_1_method_25_code, (Option.some Jvm.ClassFile.FieldType.int), 0) (2, ai_k34, 0, 0) := ⟨⟨ak_W_of (ak_tw_mem (n := 4200) (by decide +kernel)) rfl, ak_W_of (ak_tw_mem (n := 1001) (by decide +kernel)) rfl, by decide +kernel, by decide +kernel, by decide, by decide +kernel, by decide +kernel⟩, fun _ => ⟨ak_W_of (ak_tw_mem (n := 4198) (by decide +kernel)) rfl, ak_W_of (ak_tw_mem (n := 4199) (by decide +kernel)) rfl⟩, (fun h => absurd h (by decide)), (fun h => absurd h (by decide))⟩
theorem ak_mp35 : ak_mp (⟨"SpanCopier", "tellJudged", "(IILSpanCopier$World;)V"⟩, prog_1_method_37_code, (Option.none : Option Jvm.ClassFile.FieldType), 0) (4, ai_k35, 0, 0) := ⟨⟨ak_W_of (ak_tw_mem (n := 5097) (by decide +kernel)) rfl, ak_W_of (ak_tw_mem (n := 1001) (by decide +kernel)) rfl, by decide +kernel, by decide +kernel, by decide, by decide +kernel, by decide +kernel⟩, fun _ => ⟨ak_W_of (ak_tw_mem (n := 5096) (by decide +kernel)) rfl, ak_W_of (ak_sel (j := 97) (n := _) (by rfl)) rfl⟩, (fun h => absurd h (by decide)), (fun h => absurd h (by decide))⟩
theorem ak_mp36 : ak_mp (⟨"SpanCopier", "ticks", "(I)I"⟩, prog_1_method_10_code, (Option.some Jvm.ClassFile.FieldType.int), 0) (2, ai_k36, 23, 1835) := ⟨⟨ak_W_of (ak_tw_mem (n := 3169) (by decide +kernel)) rfl, ak_W_of (ak_tw_mem (n := 1001) (by decide +kernel)) rfl, by decide +kernel, by decide +kernel, by decide, by decide +kernel, by decide +kernel⟩, fun _ => ⟨ak_W_of (ak_tw_mem (n := 3167) (by decide +kernel)) rfl, ak_W_of (ak_tw_mem (n := 3168) (by decide +kernel)) rfl⟩, (fun h => absurd h (by decide)), (fun h => absurd h (by decide))⟩
theorem ak_mp37 : ak_mp (⟨"SpanCopier", "told", "(I)I"⟩, prog_1_method_38_code, (Option.some Jvm.ClassFile.FieldType.int), 0) (2, ai_k37, 0, 0) := ⟨⟨ak_W_of (ak_tw_mem (n := 5101) (by decide +kernel)) rfl, ak_W_of (ak_tw_mem (n := 1001) (by decide +kernel)) rfl, by decide +kernel, by decide +kernel, by decide, by decide +kernel, by decide +kernel⟩, fun _ => ⟨ak_W_of (ak_tw_mem (n := 5099) (by decide +kernel)) rfl, ak_W_of (ak_tw_mem (n := 5100) (by decide +kernel)) rfl⟩, (fun h => absurd h (by decide)), (fun h => absurd h (by decide))⟩
theorem ak_mp38 : ak_mp (⟨"SpanCopier", "trialWorld", "()LSpanCopier$World;"⟩, prog_1_method_31_code, (Option.some (Jvm.ClassFile.FieldType.object "SpanCopier$World")), 0) (1, ai_k38, 23, 1835) := ⟨⟨ak_W_of (ak_tw_mem (n := 4233) (by decide +kernel)) rfl, ak_W_of (ak_tw_mem (n := 1001) (by decide +kernel)) rfl, by decide +kernel, by decide +kernel, by decide, by decide +kernel, by decide +kernel⟩, fun _ => ⟨ak_W_of (ak_tw_mem (n := 4232) (by decide +kernel)) rfl, ak_W_of (ak_sel (j := 84) (n := _) (by rfl)) rfl⟩, (fun h => absurd h (by decide)), (fun h => absurd h (by decide))⟩
theorem ak_mp39 : ak_mp (⟨"SpanCopier", "twice", "(I)I"⟩, prog_1_method_14_code, (Option.some Jvm.ClassFile.FieldType.int), 0) (2, ai_k39, 0, 0) := ⟨⟨ak_W_of (ak_tw_mem (n := 4115) (by decide +kernel)) rfl, ak_W_of (ak_tw_mem (n := 1001) (by decide +kernel)) rfl, by decide +kernel, by decide +kernel, by decide, by decide +kernel, by decide +kernel⟩, fun _ => ⟨ak_W_of (ak_tw_mem (n := 4113) (by decide +kernel)) rfl, ak_W_of (ak_tw_mem (n := 4114) (by decide +kernel)) rfl⟩, (fun h => absurd h (by decide)), (fun h => absurd h (by decide))⟩
theorem ak_mp40 : ak_mp (⟨"SpanCopier", "undo", "()I"⟩, prog_1_method_19_code, (Option.some Jvm.ClassFile.FieldType.int), 0) (2, ai_k40, 0, 0) := ⟨⟨ak_W_of (ak_tw_mem (n := 4162) (by decide +kernel)) rfl, ak_W_of (ak_tw_mem (n := 1001) (by decide +kernel)) rfl, by decide +kernel, by decide +kernel, by decide, by decide +kernel, by decide +kernel⟩, fun _ => ⟨ak_W_of (ak_tw_mem (n := 4160) (by decide +kernel)) rfl, ak_W_of (ak_tw_mem (n := 4161) (by decide +kernel)) rfl⟩, (fun h => absurd h (by decide)), (fun h => absurd h (by decide))⟩
theorem ak_mp41 : ak_mp (⟨"SpanCopier", "unit", "(II)I"⟩, prog_1_method_21_code, (Option.some Jvm.ClassFile.FieldType.int), 0) (4, ai_k41, 1, 6) := ⟨⟨ak_W_of (ak_tw_mem (n := 5215) (by decide +kernel)) rfl, ak_W_of (ak_tw_mem (n := 1001) (by decide +kernel)) rfl, by decide +kernel, by decide +kernel, by decide, by decide +kernel, by decide +kernel⟩, fun _ => ⟨ak_W_of (ak_tw_mem (n := 5213) (by decide +kernel)) rfl, ak_W_of (ak_tw_mem (n := 5214) (by decide +kernel)) rfl⟩, (fun h => absurd h (by decide)), (fun h => absurd h (by decide))⟩
theorem ak_mp42 : ak_mp (⟨"SpanCopier$Book", "<init>", "()V"⟩, prog_3_method_1_code, (Option.none : Option Jvm.ClassFile.FieldType), 1) (2, ai_k42, 3, 120) := ⟨⟨ak_W_of (ak_tw_mem (n := 1093) (by decide +kernel)) rfl, ak_W_of (ak_tw_mem (n := 1005) (by decide +kernel)) rfl, by decide +kernel, by decide +kernel, by decide, by decide +kernel, by decide +kernel⟩, (fun h => absurd h (by decide)), fun _ => ⟨ak_W_of (ak_tw_mem (n := 1092) (by decide +kernel)) rfl, rfl⟩, (fun h => absurd h (by decide))⟩
theorem ak_mp43 : ak_mp (⟨"SpanCopier$Book", "readLines", "(LSpanCopier$Tape;)Z"⟩, prog_3_method_2_code, (Option.some Jvm.ClassFile.FieldType.boolean), 0) (3, ai_k43, 0, 0) := ⟨⟨ak_W_of (ak_tw_mem (n := 5055) (by decide +kernel)) rfl, ak_W_of (ak_tw_mem (n := 1005) (by decide +kernel)) rfl, by decide +kernel, by decide +kernel, by decide, by decide +kernel, by decide +kernel⟩, fun _ => ⟨ak_W_of (ak_tw_mem (n := 5054) (by decide +kernel)) rfl, ak_W_of (ak_sel (j := 94) (n := _) (by rfl)) rfl⟩, (fun h => absurd h (by decide)), (fun h => absurd h (by decide))⟩
theorem ak_mp44 : ak_mp (⟨"SpanCopier$Link", "<init>", "()V"⟩, prog_4_method_1_code, (Option.none : Option Jvm.ClassFile.FieldType), 1) (1, ai_k44, 2, 533) := ⟨⟨ak_W_of (ak_tw_mem (n := 1126) (by decide +kernel)) rfl, ak_W_of (ak_tw_mem (n := 1007) (by decide +kernel)) rfl, by decide +kernel, by decide +kernel, by decide, by decide +kernel, by decide +kernel⟩, (fun h => absurd h (by decide)), fun _ => ⟨ak_W_of (ak_tw_mem (n := 1125) (by decide +kernel)) rfl, rfl⟩, (fun h => absurd h (by decide))⟩
theorem ak_mp45 : ak_mp (⟨"SpanCopier$Link", "clear", "()V"⟩, prog_4_method_2_code, (Option.none : Option Jvm.ClassFile.FieldType), 0) (1, ai_k45, 0, 0) := ⟨⟨ak_W_of (ak_tw_mem (n := 3081) (by decide +kernel)) rfl, ak_W_of (ak_tw_mem (n := 1007) (by decide +kernel)) rfl, by decide +kernel, by decide +kernel, by decide, by decide +kernel, by decide +kernel⟩, fun _ => ⟨ak_W_of (ak_tw_mem (n := 3080) (by decide +kernel)) rfl, ak_W_of (ak_sel (j := 20) (n := _) (by rfl)) rfl⟩, (fun h => absurd h (by decide)), (fun h => absurd h (by decide))⟩
theorem ak_mp46 : ak_mp (⟨"SpanCopier$Link", "copyFrom", "(LSpanCopier$Link;)V"⟩, prog_4_method_3_code, (Option.none : Option Jvm.ClassFile.FieldType), 0) (2, ai_k46, 0, 0) := ⟨⟨ak_W_of (ak_tw_mem (n := 3124) (by decide +kernel)) rfl, ak_W_of (ak_tw_mem (n := 1007) (by decide +kernel)) rfl, by decide +kernel, by decide +kernel, by decide, by decide +kernel, by decide +kernel⟩, fun _ => ⟨ak_W_of (ak_tw_mem (n := 3123) (by decide +kernel)) rfl, ak_W_of (ak_sel (j := 27) (n := _) (by rfl)) rfl⟩, (fun h => absurd h (by decide)), (fun h => absurd h (by decide))⟩
theorem ak_mp47 : ak_mp (⟨"SpanCopier$Link", "delay", "(II)I"⟩, prog_4_method_14_code, (Option.some Jvm.ClassFile.FieldType.int), 0) (3, ai_k47, 0, 0) := ⟨⟨ak_W_of (ak_tw_mem (n := 4127) (by decide +kernel)) rfl, ak_W_of (ak_tw_mem (n := 1007) (by decide +kernel)) rfl, by decide +kernel, by decide +kernel, by decide, by decide +kernel, by decide +kernel⟩, fun _ => ⟨ak_W_of (ak_tw_mem (n := 4126) (by decide +kernel)) rfl, ak_W_of (ak_sel (j := 73) (n := _) (by rfl)) rfl⟩, (fun h => absurd h (by decide)), (fun h => absurd h (by decide))⟩
theorem ak_mp48 : ak_mp (⟨"SpanCopier$Link", "flip", "(I)I"⟩, prog_4_method_15_code, (Option.some Jvm.ClassFile.FieldType.int), 0) (2, ai_k48, 0, 0) := ⟨⟨ak_W_of (ak_tw_mem (n := 4135) (by decide +kernel)) rfl, ak_W_of (ak_tw_mem (n := 1007) (by decide +kernel)) rfl, by decide +kernel, by decide +kernel, by decide, by decide +kernel, by decide +kernel⟩, fun _ => ⟨ak_W_of (ak_tw_mem (n := 4134) (by decide +kernel)) rfl, ak_W_of (ak_sel (j := 74) (n := _) (by rfl)) rfl⟩, (fun h => absurd h (by decide)), (fun h => absurd h (by decide))⟩
theorem ak_mp49 : ak_mp (⟨"SpanCopier$Link", "has", "(I)Z"⟩, prog_4_method_7_code, (Option.some Jvm.ClassFile.FieldType.boolean), 0) (2, ai_k49, 0, 0) := ⟨⟨ak_W_of (ak_tw_mem (n := 3185) (by decide +kernel)) rfl, ak_W_of (ak_tw_mem (n := 1007) (by decide +kernel)) rfl, by decide +kernel, by decide +kernel, by decide, by decide +kernel, by decide +kernel⟩, fun _ => ⟨ak_W_of (ak_tw_mem (n := 3184) (by decide +kernel)) rfl, ak_W_of (ak_sel (j := 37) (n := _) (by rfl)) rfl⟩, (fun h => absurd h (by decide)), (fun h => absurd h (by decide))⟩
theorem ak_mp50 : ak_mp (⟨"SpanCopier$Link", "remove", "(I)I"⟩, prog_4_method_12_code, (Option.some Jvm.ClassFile.FieldType.int), 0) (3, ai_k50, 0, 0) := ⟨⟨ak_W_of (ak_tw_mem (n := 3193) (by decide +kernel)) rfl, ak_W_of (ak_tw_mem (n := 1007) (by decide +kernel)) rfl, by decide +kernel, by decide +kernel, by decide, by decide +kernel, by decide +kernel⟩, fun _ => ⟨ak_W_of (ak_tw_mem (n := 3192) (by decide +kernel)) rfl, ak_W_of (ak_sel (j := 39) (n := _) (by rfl)) rfl⟩, (fun h => absurd h (by decide)), (fun h => absurd h (by decide))⟩
theorem ak_mp51 : ak_mp (⟨"SpanCopier$Link", "repeat", "(I)I"⟩, prog_4_method_13_code, (Option.some Jvm.ClassFile.FieldType.int), 0) (2, ai_k51, 0, 0) := ⟨⟨ak_W_of (ak_tw_mem (n := 4119) (by decide +kernel)) rfl, ak_W_of (ak_tw_mem (n := 1007) (by decide +kernel)) rfl, by decide +kernel, by decide +kernel, by decide, by decide +kernel, by decide +kernel⟩, fun _ => ⟨ak_W_of (ak_tw_mem (n := 4118) (by decide +kernel)) rfl, ak_W_of (ak_sel (j := 72) (n := _) (by rfl)) rfl⟩, (fun h => absurd h (by decide)), (fun h => absurd h (by decide))⟩
theorem ak_mp52 : ak_mp (⟨"SpanCopier$Order", "<init>", "()V"⟩, prog_5_method_1_code, (Option.none : Option Jvm.ClassFile.FieldType), 1) (2, ai_k52, 5, 34) := ⟨⟨ak_W_of (ak_tw_mem (n := 2027) (by decide +kernel)) rfl, ak_W_of (ak_tw_mem (n := 1012) (by decide +kernel)) rfl, by decide +kernel, by decide +kernel, by decide, by decide +kernel, by decide +kernel⟩, (fun h => absurd h (by decide)), fun _ => ⟨ak_W_of (ak_tw_mem (n := 2026) (by decide +kernel)) rfl, rfl⟩, (fun h => absurd h (by decide))⟩
theorem ak_mp53 : ak_mp (⟨"SpanCopier$Order", "readLines", "(LSpanCopier$Tape;)I"⟩, prog_5_method_3_code, (Option.some Jvm.ClassFile.FieldType.int), 0) (3, ai_k53, 0, 0) := ⟨⟨ak_W_of (ak_tw_mem (n := 3001) (by decide +kernel)) rfl, ak_W_of (ak_tw_mem (n := 1012) (by decide +kernel)) rfl, by decide +kernel, by decide +kernel, by decide, by decide +kernel, by decide +kernel⟩, fun _ => ⟨ak_W_of (ak_tw_mem (n := 3000) (by decide +kernel)) rfl, ak_W_of (ak_sel (j := 5) (n := _) (by rfl)) rfl⟩, (fun h => absurd h (by decide)), (fun h => absurd h (by decide))⟩
theorem ak_mp54 : ak_mp (⟨"SpanCopier$Order", "setting", "(I)I"⟩, prog_5_method_2_code, (Option.some Jvm.ClassFile.FieldType.int), 0) (2, ai_k54, 0, 0) := ⟨⟨ak_W_of (ak_tw_mem (n := 5207) (by decide +kernel)) rfl, ak_W_of (ak_tw_mem (n := 1012) (by decide +kernel)) rfl, by decide +kernel, by decide +kernel, by decide, by decide +kernel, by decide +kernel⟩, fun _ => ⟨ak_W_of (ak_tw_mem (n := 5206) (by decide +kernel)) rfl, ak_W_of (ak_sel (j := 107) (n := _) (by rfl)) rfl⟩, (fun h => absurd h (by decide)), (fun h => absurd h (by decide))⟩
theorem ak_mp55 : ak_mp (⟨"SpanCopier$Places", "<init>", "()V"⟩, prog_6_method_1_code, (Option.none : Option Jvm.ClassFile.FieldType), 1) (1, ai_k55, 1, 240) := ⟨⟨ak_W_of (ak_tw_mem (n := 1161) (by decide +kernel)) rfl, ak_W_of (ak_tw_mem (n := 1009) (by decide +kernel)) rfl, by decide +kernel, by decide +kernel, by decide, by decide +kernel, by decide +kernel⟩, (fun h => absurd h (by decide)), fun _ => ⟨ak_W_of (ak_tw_mem (n := 1160) (by decide +kernel)) rfl, rfl⟩, (fun h => absurd h (by decide))⟩
theorem ak_mp56 : ak_mp (⟨"SpanCopier$Places", "clear", "()V"⟩, prog_6_method_3_code, (Option.none : Option Jvm.ClassFile.FieldType), 0) (1, ai_k56, 0, 0) := ⟨⟨ak_W_of (ak_tw_mem (n := 3089) (by decide +kernel)) rfl, ak_W_of (ak_tw_mem (n := 1009) (by decide +kernel)) rfl, by decide +kernel, by decide +kernel, by decide, by decide +kernel, by decide +kernel⟩, fun _ => ⟨ak_W_of (ak_tw_mem (n := 3088) (by decide +kernel)) rfl, ak_W_of (ak_sel (j := 22) (n := _) (by rfl)) rfl⟩, (fun h => absurd h (by decide)), (fun h => absurd h (by decide))⟩
theorem ak_mp57 : ak_mp (⟨"SpanCopier$Places", "copyFrom", "(LSpanCopier$Places;)V"⟩, prog_6_method_2_code, (Option.none : Option Jvm.ClassFile.FieldType), 0) (2, ai_k57, 0, 0) := ⟨⟨ak_W_of (ak_tw_mem (n := 3133) (by decide +kernel)) rfl, ak_W_of (ak_tw_mem (n := 1009) (by decide +kernel)) rfl, by decide +kernel, by decide +kernel, by decide, by decide +kernel, by decide +kernel⟩, fun _ => ⟨ak_W_of (ak_tw_mem (n := 3132) (by decide +kernel)) rfl, ak_W_of (ak_sel (j := 29) (n := _) (by rfl)) rfl⟩, (fun h => absurd h (by decide)), (fun h => absurd h (by decide))⟩
theorem ak_mp58 : ak_mp (⟨"SpanCopier$Places", "countSpans", "()I"⟩, prog_6_method_10_code, (Option.some Jvm.ClassFile.FieldType.int), 0) (3, ai_k58, 0, 0) := ⟨⟨ak_W_of (ak_tw_mem (n := 4170) (by decide +kernel)) rfl, ak_W_of (ak_tw_mem (n := 1009) (by decide +kernel)) rfl, by decide +kernel, by decide +kernel, by decide, by decide +kernel, by decide +kernel⟩, fun _ => ⟨ak_W_of (ak_tw_mem (n := 4169) (by decide +kernel)) rfl, ak_W_of (ak_sel (j := 78) (n := _) (by rfl)) rfl⟩, (fun h => absurd h (by decide)), (fun h => absurd h (by decide))⟩
theorem ak_mp59 : ak_mp (⟨"SpanCopier$Places", "edge", "(II)I"⟩, prog_6_method_11_code, (Option.some Jvm.ClassFile.FieldType.int), 0) (5, ai_k59, 0, 0) := ⟨⟨ak_W_of (ak_tw_mem (n := 4191) (by decide +kernel)) rfl, ak_W_of (ak_tw_mem (n := 1009) (by decide +kernel)) rfl, by decide +kernel, by decide +kernel, by decide, by decide +kernel, by decide +kernel⟩, fun _ => ⟨ak_W_of (ak_tw_mem (n := 4190) (by decide +kernel)) rfl, ak_W_of (ak_sel (j := 80) (n := _) (by rfl)) rfl⟩, (fun h => absurd h (by decide)), (fun h => absurd h (by decide))⟩
theorem ak_mp60 : ak_mp (⟨"SpanCopier$Places", "has", "(I)Z"⟩, prog_6_method_4_code, (Option.some Jvm.ClassFile.FieldType.boolean), 0) (2, ai_k60, 0, 0) := ⟨⟨ak_W_of (ak_tw_mem (n := 4074) (by decide +kernel)) rfl, ak_W_of (ak_tw_mem (n := 1009) (by decide +kernel)) rfl, by decide +kernel, by decide +kernel, by decide, by decide +kernel, by decide +kernel⟩, fun _ => ⟨ak_W_of (ak_tw_mem (n := 4073) (by decide +kernel)) rfl, ak_W_of (ak_sel (j := 64) (n := _) (by rfl)) rfl⟩, (fun h => absurd h (by decide)), (fun h => absurd h (by decide))⟩
theorem ak_mp61 : ak_mp (⟨"SpanCopier$Places", "startsSpan", "(I)Z"⟩, prog_6_method_9_code, (Option.some Jvm.ClassFile.FieldType.boolean), 0) (2, ai_k61, 0, 0) := ⟨⟨ak_W_of (ak_tw_mem (n := 4174) (by decide +kernel)) rfl, ak_W_of (ak_tw_mem (n := 1009) (by decide +kernel)) rfl, by decide +kernel, by decide +kernel, by decide, by decide +kernel, by decide +kernel⟩, fun _ => ⟨ak_W_of (ak_tw_mem (n := 4173) (by decide +kernel)) rfl, ak_W_of (ak_sel (j := 79) (n := _) (by rfl)) rfl⟩, (fun h => absurd h (by decide)), (fun h => absurd h (by decide))⟩
theorem ak_mp62 : ak_mp (⟨"SpanCopier$Sender", "<init>", "()V"⟩, prog_7_method_1_code, (Option.none : Option Jvm.ClassFile.FieldType), 1) (1, ai_k62, 2, 242) := ⟨⟨ak_W_of (ak_tw_mem (n := 1155) (by decide +kernel)) rfl, ak_W_of (ak_tw_mem (n := 1008) (by decide +kernel)) rfl, by decide +kernel, by decide +kernel, by decide, by decide +kernel, by decide +kernel⟩, (fun h => absurd h (by decide)), fun _ => ⟨ak_W_of (ak_tw_mem (n := 1154) (by decide +kernel)) rfl, rfl⟩, (fun h => absurd h (by decide))⟩
theorem ak_mp63 : ak_mp (⟨"SpanCopier$Sender", "act", "(LSpanCopier$World;)V"⟩, prog_7_method_9_code, (Option.none : Option Jvm.ClassFile.FieldType), 0) (3, ai_k63, 0, 0) := ⟨⟨ak_W_of (ak_tw_mem (n := 4035) (by decide +kernel)) rfl, ak_W_of (ak_tw_mem (n := 1008) (by decide +kernel)) rfl, by decide +kernel, by decide +kernel, by decide, by decide +kernel, by decide +kernel⟩, fun _ => ⟨ak_W_of (ak_tw_mem (n := 4034) (by decide +kernel)) rfl, ak_W_of (ak_sel (j := 55) (n := _) (by rfl)) rfl⟩, (fun h => absurd h (by decide)), (fun h => absurd h (by decide))⟩
theorem ak_mp64 : ak_mp (⟨"SpanCopier$Sender", "clear", "()V"⟩, prog_7_method_2_code, (Option.none : Option Jvm.ClassFile.FieldType), 0) (1, ai_k64, 0, 0) := ⟨⟨ak_W_of (ak_tw_mem (n := 3085) (by decide +kernel)) rfl, ak_W_of (ak_tw_mem (n := 1008) (by decide +kernel)) rfl, by decide +kernel, by decide +kernel, by decide, by decide +kernel, by decide +kernel⟩, fun _ => ⟨ak_W_of (ak_tw_mem (n := 3084) (by decide +kernel)) rfl, ak_W_of (ak_sel (j := 21) (n := _) (by rfl)) rfl⟩, (fun h => absurd h (by decide)), (fun h => absurd h (by decide))⟩
theorem ak_mp65 : ak_mp (⟨"SpanCopier$Sender", "copyFrom", "(LSpanCopier$Sender;)V"⟩, prog_7_method_3_code, (Option.none : Option Jvm.ClassFile.FieldType), 0) (2, ai_k65, 0, 0) := ⟨⟨ak_W_of (ak_tw_mem (n := 3129) (by decide +kernel)) rfl, ak_W_of (ak_tw_mem (n := 1008) (by decide +kernel)) rfl, by decide +kernel, by decide +kernel, by decide, by decide +kernel, by decide +kernel⟩, fun _ => ⟨ak_W_of (ak_tw_mem (n := 3128) (by decide +kernel)) rfl, ak_W_of (ak_sel (j := 28) (n := _) (by rfl)) rfl⟩, (fun h => absurd h (by decide)), (fun h => absurd h (by decide))⟩
theorem ak_mp66 : ak_mp (⟨"SpanCopier$Sender", "isActive", "()Z"⟩, prog_7_method_4_code, (Option.some Jvm.ClassFile.FieldType.boolean), 0) (1, ai_k66, 0, 0) := ⟨⟨ak_W_of (ak_tw_mem (n := 4018) (by decide +kernel)) rfl, ak_W_of (ak_tw_mem (n := 1008) (by decide +kernel)) rfl, by decide +kernel, by decide +kernel, by decide, by decide +kernel, by decide +kernel⟩, fun _ => ⟨ak_W_of (ak_tw_mem (n := 4017) (by decide +kernel)) rfl, ak_W_of (ak_sel (j := 53) (n := _) (by rfl)) rfl⟩, (fun h => absurd h (by decide)), (fun h => absurd h (by decide))⟩
theorem ak_mp67 : ak_mp (⟨"SpanCopier$Sentence", "<init>", "()V"⟩, prog_8_method_1_code, (Option.none : Option Jvm.ClassFile.FieldType), 1) (2, ai_k67, 3, 120) := ⟨⟨ak_W_of (ak_tw_mem (n := 5110) (by decide +kernel)) rfl, ak_W_of (ak_tw_mem (n := 1022) (by decide +kernel)) rfl, by decide +kernel, by decide +kernel, by decide, by decide +kernel, by decide +kernel⟩, (fun h => absurd h (by decide)), fun _ => ⟨ak_W_of (ak_tw_mem (n := 5109) (by decide +kernel)) rfl, rfl⟩, (fun h => absurd h (by decide))⟩
theorem ak_mp68 : ak_mp (⟨"SpanCopier$Sentence", "isMeasure", "(LSpanCopier$Word;)Z"⟩, prog_8_method_6_code, (Option.some Jvm.ClassFile.FieldType.boolean), 2) (1, ai_k68, 0, 0) := ⟨⟨ak_W_of (ak_tw_mem (n := 5152) (by decide +kernel)) rfl, ak_W_of (ak_tw_mem (n := 1022) (by decide +kernel)) rfl, by decide +kernel, by decide +kernel, by decide, by decide +kernel, by decide +kernel⟩, (fun h => absurd h (by decide)), (fun h => absurd h (by decide)), fun _ => ak_W_of (ak_tw_mem (n := 5151) (by decide +kernel)) rfl⟩
theorem ak_mp69 : ak_mp (⟨"SpanCopier$Sentence", "isSaid", "(LSpanCopier$Word;)Z"⟩, prog_8_method_5_code, (Option.some Jvm.ClassFile.FieldType.boolean), 2) (1, ai_k69, 0, 0) := ⟨⟨ak_W_of (ak_tw_mem (n := 5147) (by decide +kernel)) rfl, ak_W_of (ak_tw_mem (n := 1022) (by decide +kernel)) rfl, by decide +kernel, by decide +kernel, by decide, by decide +kernel, by decide +kernel⟩, (fun h => absurd h (by decide)), (fun h => absurd h (by decide)), fun _ => ak_W_of (ak_tw_mem (n := 5146) (by decide +kernel)) rfl⟩
theorem ak_mp70 : ak_mp (⟨"SpanCopier$Sentence", "readAll", "(LSpanCopier$Tape;I)Z"⟩, prog_8_method_3_code, (Option.some Jvm.ClassFile.FieldType.boolean), 0) (4, ai_k70, 0, 0) := ⟨⟨ak_W_of (ak_tw_mem (n := 5138) (by decide +kernel)) rfl, ak_W_of (ak_tw_mem (n := 1022) (by decide +kernel)) rfl, by decide +kernel, by decide +kernel, by decide, by decide +kernel, by decide +kernel⟩, fun _ => ⟨ak_W_of (ak_tw_mem (n := 5137) (by decide +kernel)) rfl, ak_W_of (ak_sel (j := 99) (n := _) (by rfl)) rfl⟩, (fun h => absurd h (by decide)), (fun h => absurd h (by decide))⟩
theorem ak_mp71 : ak_mp (⟨"SpanCopier$Sentence", "readCond", "(LSpanCopier$Tape;I)Z"⟩, prog_8_method_2_code, (Option.some Jvm.ClassFile.FieldType.boolean), 0) (4, ai_k71, 0, 0) := ⟨⟨ak_W_of (ak_tw_mem (n := 5134) (by decide +kernel)) rfl, ak_W_of (ak_tw_mem (n := 1022) (by decide +kernel)) rfl, by decide +kernel, by decide +kernel, by decide, by decide +kernel, by decide +kernel⟩, fun _ => ⟨ak_W_of (ak_tw_mem (n := 5133) (by decide +kernel)) rfl, ak_W_of (ak_sel (j := 98) (n := _) (by rfl)) rfl⟩, (fun h => absurd h (by decide)), (fun h => absurd h (by decide))⟩
theorem ak_mp72 : ak_mp (⟨"SpanCopier$Sentence", "readOne", "(LSpanCopier$Tape;I)Z"⟩, prog_8_method_4_code, (Option.some Jvm.ClassFile.FieldType.boolean), 0) (5, ai_k72, 0, 0) := ⟨⟨ak_W_of (ak_tw_mem (n := 5142) (by decide +kernel)) rfl, ak_W_of (ak_tw_mem (n := 1022) (by decide +kernel)) rfl, by decide +kernel, by decide +kernel, by decide, by decide +kernel, by decide +kernel⟩, fun _ => ⟨ak_W_of (ak_tw_mem (n := 5141) (by decide +kernel)) rfl, ak_W_of (ak_sel (j := 100) (n := _) (by rfl)) rfl⟩, (fun h => absurd h (by decide)), (fun h => absurd h (by decide))⟩
theorem ak_mp73 : ak_mp (⟨"SpanCopier$Shelf", "<init>", "()V"⟩, prog_9_method_1_code, (Option.none : Option Jvm.ClassFile.FieldType), 1) (1, ai_k73, 1, 6) := ⟨⟨ak_W_of (ak_tw_mem (n := 2004) (by decide +kernel)) rfl, ak_W_of (ak_tw_mem (n := 1011) (by decide +kernel)) rfl, by decide +kernel, by decide +kernel, by decide, by decide +kernel, by decide +kernel⟩, (fun h => absurd h (by decide)), fun _ => ⟨ak_W_of (ak_tw_mem (n := 2003) (by decide +kernel)) rfl, rfl⟩, (fun h => absurd h (by decide))⟩
theorem ak_mp74 : ak_mp (⟨"SpanCopier$Shelf", "clear", "(I)V"⟩, prog_9_method_2_code, (Option.none : Option Jvm.ClassFile.FieldType), 0) (2, ai_k74, 0, 0) := ⟨⟨ak_W_of (ak_tw_mem (n := 3101) (by decide +kernel)) rfl, ak_W_of (ak_tw_mem (n := 1011) (by decide +kernel)) rfl, by decide +kernel, by decide +kernel, by decide, by decide +kernel, by decide +kernel⟩, fun _ => ⟨ak_W_of (ak_tw_mem (n := 3100) (by decide +kernel)) rfl, ak_W_of (ak_sel (j := 24) (n := _) (by rfl)) rfl⟩, (fun h => absurd h (by decide)), (fun h => absurd h (by decide))⟩
theorem ak_mp75 : ak_mp (⟨"SpanCopier$Shelf", "copyFrom", "(LSpanCopier$Shelf;)V"⟩, prog_9_method_3_code, (Option.none : Option Jvm.ClassFile.FieldType), 0) (2, ai_k75, 0, 0) := ⟨⟨ak_W_of (ak_tw_mem (n := 3144) (by decide +kernel)) rfl, ak_W_of (ak_tw_mem (n := 1011) (by decide +kernel)) rfl, by decide +kernel, by decide +kernel, by decide, by decide +kernel, by decide +kernel⟩, fun _ => ⟨ak_W_of (ak_tw_mem (n := 3143) (by decide +kernel)) rfl, ak_W_of (ak_sel (j := 31) (n := _) (by rfl)) rfl⟩, (fun h => absurd h (by decide)), (fun h => absurd h (by decide))⟩
theorem ak_mp76 : ak_mp (⟨"SpanCopier$Shelf", "entry", "(I)I"⟩, prog_9_method_4_code, (Option.some Jvm.ClassFile.FieldType.int), 0) (2, ai_k76, 0, 0) := ⟨⟨ak_W_of (ak_tw_mem (n := 4216) (by decide +kernel)) rfl, ak_W_of (ak_tw_mem (n := 1011) (by decide +kernel)) rfl, by decide +kernel, by decide +kernel, by decide, by decide +kernel, by decide +kernel⟩, fun _ => ⟨ak_W_of (ak_tw_mem (n := 4215) (by decide +kernel)) rfl, ak_W_of (ak_sel (j := 82) (n := _) (by rfl)) rfl⟩, (fun h => absurd h (by decide)), (fun h => absurd h (by decide))⟩
theorem ak_mp77 : ak_mp (⟨"SpanCopier$Taker", "<init>", "()V"⟩, prog_10_method_1_code, (Option.none : Option Jvm.ClassFile.FieldType), 1) (1, ai_k77, 3, 482) := ⟨⟨ak_W_of (ak_tw_mem (n := 1200) (by decide +kernel)) rfl, ak_W_of (ak_tw_mem (n := 1010) (by decide +kernel)) rfl, by decide +kernel, by decide +kernel, by decide, by decide +kernel, by decide +kernel⟩, (fun h => absurd h (by decide)), fun _ => ⟨ak_W_of (ak_tw_mem (n := 1199) (by decide +kernel)) rfl, rfl⟩, (fun h => absurd h (by decide))⟩
theorem ak_mp78 : ak_mp (⟨"SpanCopier$Taker", "act", "(LSpanCopier$World;)V"⟩, prog_10_method_14_code, (Option.none : Option Jvm.ClassFile.FieldType), 0) (2, ai_k78, 0, 0) := ⟨⟨ak_W_of (ak_tw_mem (n := 4058) (by decide +kernel)) rfl, ak_W_of (ak_tw_mem (n := 1010) (by decide +kernel)) rfl, by decide +kernel, by decide +kernel, by decide, by decide +kernel, by decide +kernel⟩, fun _ => ⟨ak_W_of (ak_tw_mem (n := 4057) (by decide +kernel)) rfl, ak_W_of (ak_sel (j := 60) (n := _) (by rfl)) rfl⟩, (fun h => absurd h (by decide)), (fun h => absurd h (by decide))⟩
theorem ak_mp79 : ak_mp (⟨"SpanCopier$Taker", "byteAt", "(I)I"⟩, prog_10_method_6_code, (Option.some Jvm.ClassFile.FieldType.int), 0) (2, ai_k79, 0, 0) := ⟨⟨ak_W_of (ak_tw_mem (n := 4204) (by decide +kernel)) rfl, ak_W_of (ak_tw_mem (n := 1010) (by decide +kernel)) rfl, by decide +kernel, by decide +kernel, by decide, by decide +kernel, by decide +kernel⟩, fun _ => ⟨ak_W_of (ak_tw_mem (n := 4203) (by decide +kernel)) rfl, ak_W_of (ak_sel (j := 81) (n := _) (by rfl)) rfl⟩, (fun h => absurd h (by decide)), (fun h => absurd h (by decide))⟩
theorem ak_mp80 : ak_mp (⟨"SpanCopier$Taker", "clear", "()V"⟩, prog_10_method_2_code, (Option.none : Option Jvm.ClassFile.FieldType), 0) (1, ai_k80, 0, 0) := ⟨⟨ak_W_of (ak_tw_mem (n := 3096) (by decide +kernel)) rfl, ak_W_of (ak_tw_mem (n := 1010) (by decide +kernel)) rfl, by decide +kernel, by decide +kernel, by decide, by decide +kernel, by decide +kernel⟩, fun _ => ⟨ak_W_of (ak_tw_mem (n := 3095) (by decide +kernel)) rfl, ak_W_of (ak_sel (j := 23) (n := _) (by rfl)) rfl⟩, (fun h => absurd h (by decide)), (fun h => absurd h (by decide))⟩
theorem ak_mp81 : ak_mp (⟨"SpanCopier$Taker", "copyFrom", "(LSpanCopier$Taker;)V"⟩, prog_10_method_3_code, (Option.none : Option Jvm.ClassFile.FieldType), 0) (2, ai_k81, 0, 0) := ⟨⟨ak_W_of (ak_tw_mem (n := 3138) (by decide +kernel)) rfl, ak_W_of (ak_tw_mem (n := 1010) (by decide +kernel)) rfl, by decide +kernel, by decide +kernel, by decide, by decide +kernel, by decide +kernel⟩, fun _ => ⟨ak_W_of (ak_tw_mem (n := 3137) (by decide +kernel)) rfl, ak_W_of (ak_sel (j := 30) (n := _) (by rfl)) rfl⟩, (fun h => absurd h (by decide)), (fun h => absurd h (by decide))⟩
theorem ak_mp82 : ak_mp (⟨"SpanCopier$Taker", "hasByte", "(I)Z"⟩, prog_10_method_5_code, (Option.some Jvm.ClassFile.FieldType.boolean), 0) (2, ai_k82, 0, 0) := ⟨⟨ak_W_of (ak_tw_mem (n := 4070) (by decide +kernel)) rfl, ak_W_of (ak_tw_mem (n := 1010) (by decide +kernel)) rfl, by decide +kernel, by decide +kernel, by decide, by decide +kernel, by decide +kernel⟩, fun _ => ⟨ak_W_of (ak_tw_mem (n := 4069) (by decide +kernel)) rfl, ak_W_of (ak_sel (j := 63) (n := _) (by rfl)) rfl⟩, (fun h => absurd h (by decide)), (fun h => absurd h (by decide))⟩
theorem ak_mp83 : ak_mp (⟨"SpanCopier$Taker", "sumOfBytes", "()I"⟩, prog_10_method_7_code, (Option.some Jvm.ClassFile.FieldType.int), 0) (3, ai_k83, 0, 0) := ⟨⟨ak_W_of (ak_tw_mem (n := 4066) (by decide +kernel)) rfl, ak_W_of (ak_tw_mem (n := 1010) (by decide +kernel)) rfl, by decide +kernel, by decide +kernel, by decide, by decide +kernel, by decide +kernel⟩, fun _ => ⟨ak_W_of (ak_tw_mem (n := 4065) (by decide +kernel)) rfl, ak_W_of (ak_sel (j := 62) (n := _) (by rfl)) rfl⟩, (fun h => absurd h (by decide)), (fun h => absurd h (by decide))⟩
theorem ak_mp84 : ak_mp (⟨"SpanCopier$Tape", "<init>", "()V"⟩, prog_11_method_1_code, (Option.none : Option Jvm.ClassFile.FieldType), 1) (1, ai_k84, 1, 940) := ⟨⟨ak_W_of (ak_tw_mem (n := 1035) (by decide +kernel)) rfl, ak_W_of (ak_tw_mem (n := 1002) (by decide +kernel)) rfl, by decide +kernel, by decide +kernel, by decide, by decide +kernel, by decide +kernel⟩, (fun h => absurd h (by decide)), fun _ => ⟨ak_W_of (ak_tw_mem (n := 1034) (by decide +kernel)) rfl, rfl⟩, (fun h => absurd h (by decide))⟩
theorem ak_mp85 : ak_mp (⟨"SpanCopier$Tape", "fail", "(I)Z"⟩, prog_11_method_4_code, (Option.some Jvm.ClassFile.FieldType.boolean), 0) (2, ai_k85, 0, 0) := ⟨⟨ak_W_of (ak_tw_mem (n := 3025) (by decide +kernel)) rfl, ak_W_of (ak_tw_mem (n := 1002) (by decide +kernel)) rfl, by decide +kernel, by decide +kernel, by decide, by decide +kernel, by decide +kernel⟩, fun _ => ⟨ak_W_of (ak_tw_mem (n := 3024) (by decide +kernel)) rfl, ak_W_of (ak_sel (j := 9) (n := _) (by rfl)) rfl⟩, (fun h => absurd h (by decide)), (fun h => absurd h (by decide))⟩
theorem ak_mp86 : ak_mp (⟨"SpanCopier$Tape", "open", "(I)V"⟩, prog_11_method_3_code, (Option.none : Option Jvm.ClassFile.FieldType), 0) (2, ai_k86, 0, 0) := ⟨⟨ak_W_of (ak_tw_mem (n := 2196) (by decide +kernel)) rfl, ak_W_of (ak_tw_mem (n := 1002) (by decide +kernel)) rfl, by decide +kernel, by decide +kernel, by decide, by decide +kernel, by decide +kernel⟩, fun _ => ⟨ak_W_of (ak_tw_mem (n := 2195) (by decide +kernel)) rfl, ak_W_of (ak_sel (j := 1) (n := _) (by rfl)) rfl⟩, (fun h => absurd h (by decide)), (fun h => absurd h (by decide))⟩
theorem ak_mp87 : ak_mp (⟨"SpanCopier$Tape", "put", "(I)V"⟩, prog_11_method_2_code, (Option.none : Option Jvm.ClassFile.FieldType), 0) (3, ai_k87, 0, 0) := ⟨⟨ak_W_of (ak_tw_mem (n := 2184) (by decide +kernel)) rfl, ak_W_of (ak_tw_mem (n := 1002) (by decide +kernel)) rfl, by decide +kernel, by decide +kernel, by decide, by decide +kernel, by decide +kernel⟩, fun _ => ⟨ak_W_of (ak_tw_mem (n := 2183) (by decide +kernel)) rfl, ak_W_of (ak_sel (j := 0) (n := _) (by rfl)) rfl⟩, (fun h => absurd h (by decide)), (fun h => absurd h (by decide))⟩
theorem ak_mp88 : ak_mp (⟨"SpanCopier$Tape", "step", "()V"⟩, prog_11_method_6_code, (Option.none : Option Jvm.ClassFile.FieldType), 0) (2, ai_k88, 0, 0) := ⟨⟨ak_W_of (ak_tw_mem (n := 2203) (by decide +kernel)) rfl, ak_W_of (ak_tw_mem (n := 1002) (by decide +kernel)) rfl, by decide +kernel, by decide +kernel, by decide, by decide +kernel, by decide +kernel⟩, fun _ => ⟨ak_W_of (ak_tw_mem (n := 2202) (by decide +kernel)) rfl, ak_W_of (ak_sel (j := 2) (n := _) (by rfl)) rfl⟩, (fun h => absurd h (by decide)), (fun h => absurd h (by decide))⟩
theorem ak_mp89 : ak_mp (⟨"SpanCopier$World", "<init>", "()V"⟩, prog_13_method_1_code, (Option.none : Option Jvm.ClassFile.FieldType), 1) (1, ai_k89, 22, 1824) := ⟨⟨ak_W_of (ak_tw_mem (n := 1120) (by decide +kernel)) rfl, ak_W_of (ak_tw_mem (n := 1006) (by decide +kernel)) rfl, by decide +kernel, by decide +kernel, by decide, by decide +kernel, by decide +kernel⟩, (fun h => absurd h (by decide)), fun _ => ⟨ak_W_of (ak_tw_mem (n := 1119) (by decide +kernel)) rfl, rfl⟩, (fun h => absurd h (by decide))⟩
theorem ak_mp90 : ak_mp (⟨"SpanCopier$World", "begin", "(LSpanCopier$Order;)V"⟩, prog_13_method_3_code, (Option.none : Option Jvm.ClassFile.FieldType), 0) (2, ai_k90, 0, 0) := ⟨⟨ak_W_of (ak_tw_mem (n := 3073) (by decide +kernel)) rfl, ak_W_of (ak_tw_mem (n := 1006) (by decide +kernel)) rfl, by decide +kernel, by decide +kernel, by decide, by decide +kernel, by decide +kernel⟩, fun _ => ⟨ak_W_of (ak_tw_mem (n := 3072) (by decide +kernel)) rfl, ak_W_of (ak_sel (j := 18) (n := _) (by rfl)) rfl⟩, (fun h => absurd h (by decide)), (fun h => absurd h (by decide))⟩
theorem ak_mp91 : ak_mp (⟨"SpanCopier$World", "copyFrom", "(LSpanCopier$World;)V"⟩, prog_13_method_2_code, (Option.none : Option Jvm.ClassFile.FieldType), 0) (2, ai_k91, 0, 0) := ⟨⟨ak_W_of (ak_tw_mem (n := 3120) (by decide +kernel)) rfl, ak_W_of (ak_tw_mem (n := 1006) (by decide +kernel)) rfl, by decide +kernel, by decide +kernel, by decide, by decide +kernel, by decide +kernel⟩, fun _ => ⟨ak_W_of (ak_tw_mem (n := 3119) (by decide +kernel)) rfl, ak_W_of (ak_sel (j := 26) (n := _) (by rfl)) rfl⟩, (fun h => absurd h (by decide)), (fun h => absurd h (by decide))⟩
theorem ak_mp92 : ak_mp (⟨"SpanCopier$World", "crashTaker", "()I"⟩, prog_13_method_11_code, (Option.some Jvm.ClassFile.FieldType.int), 0) (1, ai_k92, 0, 0) := ⟨⟨ak_W_of (ak_tw_mem (n := 4154) (by decide +kernel)) rfl, ak_W_of (ak_tw_mem (n := 1006) (by decide +kernel)) rfl, by decide +kernel, by decide +kernel, by decide, by decide +kernel, by decide +kernel⟩, fun _ => ⟨ak_W_of (ak_tw_mem (n := 4153) (by decide +kernel)) rfl, ak_W_of (ak_sel (j := 76) (n := _) (by rfl)) rfl⟩, (fun h => absurd h (by decide)), (fun h => absurd h (by decide))⟩
theorem ak_mp93 : ak_mp (⟨"SpanCopier$World", "draw", "(I)I"⟩, prog_13_method_9_code, (Option.some Jvm.ClassFile.FieldType.int), 0) (2, ai_k93, 0, 0) := ⟨⟨ak_W_of (ak_tw_mem (n := 5025) (by decide +kernel)) rfl, ak_W_of (ak_tw_mem (n := 1006) (by decide +kernel)) rfl, by decide +kernel, by decide +kernel, by decide, by decide +kernel, by decide +kernel⟩, fun _ => ⟨ak_W_of (ak_tw_mem (n := 5024) (by decide +kernel)) rfl, ak_W_of (ak_sel (j := 90) (n := _) (by rfl)) rfl⟩, (fun h => absurd h (by decide)), (fun h => absurd h (by decide))⟩
theorem ak_mp94 : ak_mp (⟨"SpanCopier$World", "drawWhatHappens", "()V"⟩, prog_13_method_8_code, (Option.none : Option Jvm.ClassFile.FieldType), 0) (3, ai_k94, 0, 0) := ⟨⟨ak_W_of (ak_tw_mem (n := 5021) (by decide +kernel)) rfl, ak_W_of (ak_tw_mem (n := 1006) (by decide +kernel)) rfl, by decide +kernel, by decide +kernel, by decide, by decide +kernel, by decide +kernel⟩, fun _ => ⟨ak_W_of (ak_tw_mem (n := 5020) (by decide +kernel)) rfl, ak_W_of (ak_sel (j := 89) (n := _) (by rfl)) rfl⟩, (fun h => absurd h (by decide)), (fun h => absurd h (by decide))⟩
theorem ak_mp95 : ak_mp (⟨"SpanCopier$World", "passTick", "()V"⟩, prog_13_method_7_code, (Option.none : Option Jvm.ClassFile.FieldType), 0) (3, ai_k95, 0, 0) := ⟨⟨ak_W_of (ak_tw_mem (n := 3177) (by decide +kernel)) rfl, ak_W_of (ak_tw_mem (n := 1006) (by decide +kernel)) rfl, by decide +kernel, by decide +kernel, by decide, by decide +kernel, by decide +kernel⟩, fun _ => ⟨ak_W_of (ak_tw_mem (n := 3176) (by decide +kernel)) rfl, ak_W_of (ak_sel (j := 35) (n := _) (by rfl)) rfl⟩, (fun h => absurd h (by decide)), (fun h => absurd h (by decide))⟩
theorem ak_mp96 : ak_mp (⟨"SpanCopier$World", "passTicks", "(I)I"⟩, prog_13_method_6_code, (Option.some Jvm.ClassFile.FieldType.int), 0) (3, ai_k96, 0, 0) := ⟨⟨ak_W_of (ak_tw_mem (n := 3173) (by decide +kernel)) rfl, ak_W_of (ak_tw_mem (n := 1006) (by decide +kernel)) rfl, by decide +kernel, by decide +kernel, by decide, by decide +kernel, by decide +kernel⟩, fun _ => ⟨ak_W_of (ak_tw_mem (n := 3172) (by decide +kernel)) rfl, ak_W_of (ak_sel (j := 34) (n := _) (by rfl)) rfl⟩, (fun h => absurd h (by decide)), (fun h => absurd h (by decide))⟩
theorem ak_mp97 : ak_mp (⟨"SpanCopier$World", "restart", "([B)V"⟩, prog_13_method_5_code, (Option.none : Option Jvm.ClassFile.FieldType), 0) (3, ai_k97, 0, 0) := ⟨⟨ak_W_of (ak_tw_mem (n := 3077) (by decide +kernel)) rfl, ak_W_of (ak_tw_mem (n := 1006) (by decide +kernel)) rfl, by decide +kernel, by decide +kernel, by decide, by decide +kernel, by decide +kernel⟩, fun _ => ⟨ak_W_of (ak_tw_mem (n := 3076) (by decide +kernel)) rfl, ak_W_of (ak_sel (j := 19) (n := _) (by rfl)) rfl⟩, (fun h => absurd h (by decide)), (fun h => absurd h (by decide))⟩
theorem ak_mp98 : ak_mp (⟨"SpanCopier$World", "sendPrompt", "()I"⟩, prog_13_method_10_code, (Option.some Jvm.ClassFile.FieldType.int), 0) (1, ai_k98, 0, 0) := ⟨⟨ak_W_of (ak_tw_mem (n := 4144) (by decide +kernel)) rfl, ak_W_of (ak_tw_mem (n := 1006) (by decide +kernel)) rfl, by decide +kernel, by decide +kernel, by decide, by decide +kernel, by decide +kernel⟩, fun _ => ⟨ak_W_of (ak_tw_mem (n := 4143) (by decide +kernel)) rfl, ak_W_of (ak_sel (j := 75) (n := _) (by rfl)) rfl⟩, (fun h => absurd h (by decide)), (fun h => absurd h (by decide))⟩
theorem ak_mp99 : ak_mp (⟨"SpanCopierModel", "<init>", "()V"⟩, prog_15_method_26_code, (Option.none : Option Jvm.ClassFile.FieldType), 1) (2, ai_k99, 17, 41180) := ⟨⟨ak_W_of (ak_tw_mem (n := 6066) (by decide +kernel)) rfl, ak_W_of (ak_tw_mem (n := 1015) (by decide +kernel)) rfl, by decide +kernel, by decide +kernel, by decide, by decide +kernel, by decide +kernel⟩, (fun h => absurd h (by decide)), fun _ => ⟨ak_W_of (ak_tw_mem (n := 6065) (by decide +kernel)) rfl, rfl⟩, (fun h => absurd h (by decide))⟩
theorem ak_mp100 : ak_mp (⟨"SpanCopierModel", "act", "(IIIZ)I"⟩, prog_15_method_87_code, (Option.some Jvm.ClassFile.FieldType.int), 0) (6, ai_k100, 0, 0) := ⟨⟨ak_W_of (ak_tw_mem (n := 7239) (by decide +kernel)) rfl, ak_W_of (ak_tw_mem (n := 1015) (by decide +kernel)) rfl, by decide +kernel, by decide +kernel, by decide, by decide +kernel, by decide +kernel⟩, fun _ => ⟨ak_W_of (ak_tw_mem (n := 7238) (by decide +kernel)) rfl, ak_W_of (ak_sel (j := 169) (n := _) (by rfl)) rfl⟩, (fun h => absurd h (by decide)), (fun h => absurd h (by decide))⟩
theorem ak_mp101 : ak_mp (⟨"SpanCopierModel", "allCome", "()V"⟩, prog_15_method_65_code, (Option.none : Option Jvm.ClassFile.FieldType), 0) (3, ai_k101, 0, 0) := ⟨⟨ak_W_of (ak_tw_mem (n := 7104) (by decide +kernel)) rfl, ak_W_of (ak_tw_mem (n := 1015) (by decide +kernel)) rfl, by decide +kernel, by decide +kernel, by decide, by decide +kernel, by decide +kernel⟩, fun _ => ⟨ak_W_of (ak_tw_mem (n := 7103) (by decide +kernel)) rfl, ak_W_of (ak_sel (j := 137) (n := _) (by rfl)) rfl⟩, (fun h => absurd h (by decide)), (fun h => absurd h (by decide))⟩
theorem ak_mp102 : ak_mp (⟨"SpanCopierModel", "bad", "(I)Z"⟩, prog_15_method_22_code, (Option.some Jvm.ClassFile.FieldType.boolean), 0) (2, ai_k102, 0, 0) := ⟨⟨ak_W_of (ak_tw_mem (n := 7008) (by decide +kernel)) rfl, ak_W_of (ak_tw_mem (n := 1015) (by decide +kernel)) rfl, by decide +kernel, by decide +kernel, by decide, by decide +kernel, by decide +kernel⟩, fun _ => ⟨ak_W_of (ak_tw_mem (n := 7007) (by decide +kernel)) rfl, ak_W_of (ak_sel (j := 120) (n := _) (by rfl)) rfl⟩, (fun h => absurd h (by decide)), (fun h => absurd h (by decide))⟩
theorem ak_mp103 : ak_mp (⟨"SpanCopierModel", "begin", "(I)V"⟩, prog_15_method_25_code, (Option.none : Option Jvm.ClassFile.FieldType), 0) (2, ai_k103, 0, 0) := ⟨⟨ak_W_of (ak_tw_mem (n := 6206) (by decide +kernel)) rfl, ak_W_of (ak_tw_mem (n := 1015) (by decide +kernel)) rfl, by decide +kernel, by decide +kernel, by decide, by decide +kernel, by decide +kernel⟩, fun _ => ⟨ak_W_of (ak_tw_mem (n := 6205) (by decide +kernel)) rfl, ak_W_of (ak_sel (j := 113) (n := _) (by rfl)) rfl⟩, (fun h => absurd h (by decide)), (fun h => absurd h (by decide))⟩
theorem ak_mp104 : ak_mp (⟨"SpanCopierModel", "book", "(I)I"⟩, prog_15_method_119_code, (Option.some Jvm.ClassFile.FieldType.int), 0) (4, ai_k104, 0, 0) := ⟨⟨ak_W_of (ak_tw_mem (n := 8131) (by decide +kernel)) rfl, ak_W_of (ak_tw_mem (n := 1015) (by decide +kernel)) rfl, by decide +kernel, by decide +kernel, by decide, by decide +kernel, by decide +kernel⟩, fun _ => ⟨ak_W_of (ak_tw_mem (n := 8129) (by decide +kernel)) rfl, ak_W_of (ak_tw_mem (n := 8130) (by decide +kernel)) rfl⟩, (fun h => absurd h (by decide)), (fun h => absurd h (by decide))⟩
theorem ak_mp105 : ak_mp (⟨"SpanCopierModel", "come", "(I)V"⟩, prog_15_method_3_code, (Option.none : Option Jvm.ClassFile.FieldType), 0) (3, ai_k105, 0, 0) := ⟨⟨ak_W_of (ak_tw_mem (n := 6058) (by decide +kernel)) rfl, ak_W_of (ak_tw_mem (n := 1015) (by decide +kernel)) rfl, by decide +kernel, by decide +kernel, by decide, by decide +kernel, by decide +kernel⟩, fun _ => ⟨ak_W_of (ak_tw_mem (n := 6056) (by decide +kernel)) rfl, ak_W_of (ak_sel (j := 109) (n := _) (by rfl)) rfl⟩, (fun h => absurd h (by decide)), (fun h => absurd h (by decide))⟩
theorem ak_mp106 : ak_mp (⟨"SpanCopierModel", "comeBack", "([II)V"⟩, prog_15_method_79_code, (Option.none : Option Jvm.ClassFile.FieldType), 0) (4, ai_k106, 0, 0) := ⟨⟨ak_W_of (ak_tw_mem (n := 7073) (by decide +kernel)) rfl, ak_W_of (ak_tw_mem (n := 1015) (by decide +kernel)) rfl, by decide +kernel, by decide +kernel, by decide, by decide +kernel, by decide +kernel⟩, fun _ => ⟨ak_W_of (ak_tw_mem (n := 7072) (by decide +kernel)) rfl, ak_W_of (ak_sel (j := 132) (n := _) (by rfl)) rfl⟩, (fun h => absurd h (by decide)), (fun h => absurd h (by decide))⟩
theorem ak_mp107 : ak_mp (⟨"SpanCopierModel", "count", "(I)I"⟩, prog_15_method_135_code, (Option.some Jvm.ClassFile.FieldType.int), 0) (2, ai_k107, 0, 0) := ⟨⟨ak_W_of (ak_tw_mem (n := 8207) (by decide +kernel)) rfl, ak_W_of (ak_tw_mem (n := 1015) (by decide +kernel)) rfl, by decide +kernel, by decide +kernel, by decide, by decide +kernel, by decide +kernel⟩, fun _ => ⟨ak_W_of (ak_tw_mem (n := 8205) (by decide +kernel)) rfl, ak_W_of (ak_tw_mem (n := 8206) (by decide +kernel)) rfl⟩, (fun h => absurd h (by decide)), (fun h => absurd h (by decide))⟩
theorem ak_mp108 : ak_mp (⟨"SpanCopierModel", "crash", "()I"⟩, prog_15_method_93_code, (Option.some Jvm.ClassFile.FieldType.int), 0) (1, ai_k108, 0, 0) := ⟨⟨ak_W_of (ak_tw_mem (n := 8031) (by decide +kernel)) rfl, ak_W_of (ak_tw_mem (n := 1015) (by decide +kernel)) rfl, by decide +kernel, by decide +kernel, by decide, by decide +kernel, by decide +kernel⟩, fun _ => ⟨ak_W_of (ak_tw_mem (n := 8029) (by decide +kernel)) rfl, ak_W_of (ak_tw_mem (n := 8030) (by decide +kernel)) rfl⟩, (fun h => absurd h (by decide)), (fun h => absurd h (by decide))⟩
theorem ak_mp109 : ak_mp (⟨"SpanCopierModel", "doIf", "(III)V"⟩, prog_15_method_110_code, (Option.none : Option Jvm.ClassFile.FieldType), 0) (4, ai_k109, 0, 0) := ⟨⟨ak_W_of (ak_tw_mem (n := 8123) (by decide +kernel)) rfl, ak_W_of (ak_tw_mem (n := 1015) (by decide +kernel)) rfl, by decide +kernel, by decide +kernel, by decide, by decide +kernel, by decide +kernel⟩, fun _ => ⟨ak_W_of (ak_tw_mem (n := 8122) (by decide +kernel)) rfl, ak_W_of (ak_sel (j := 181) (n := _) (by rfl)) rfl⟩, (fun h => absurd h (by decide)), (fun h => absurd h (by decide))⟩
theorem ak_mp110 : ak_mp (⟨"SpanCopierModel", "draw", "(I)I"⟩, prog_15_method_109_code, (Option.some Jvm.ClassFile.FieldType.int), 0) (2, ai_k110, 0, 0) := ⟨⟨ak_W_of (ak_tw_mem (n := 8114) (by decide +kernel)) rfl, ak_W_of (ak_tw_mem (n := 1015) (by decide +kernel)) rfl, by decide +kernel, by decide +kernel, by decide, by decide +kernel, by decide +kernel⟩, fun _ => ⟨ak_W_of (ak_tw_mem (n := 8113) (by decide +kernel)) rfl, ak_W_of (ak_sel (j := 179) (n := _) (by rfl)) rfl⟩, (fun h => absurd h (by decide)), (fun h => absurd h (by decide))⟩
theorem ak_mp111 : ak_mp (⟨"SpanCopierModel", "drawTicks", "(II)I"⟩, prog_15_method_113_code, (Option.some Jvm.ClassFile.FieldType.int), 0) (5, ai_k111, 0, 0) := ⟨⟨ak_W_of (ak_tw_mem (n := 8106) (by decide +kernel)) rfl, ak_W_of (ak_tw_mem (n := 1015) (by decide +kernel)) rfl, by decide +kernel, by decide +kernel, by decide, by decide +kernel, by decide +kernel⟩, fun _ => ⟨ak_W_of (ak_tw_mem (n := 8105) (by decide +kernel)) rfl, ak_W_of (ak_sel (j := 177) (n := _) (by rfl)) rfl⟩, (fun h => absurd h (by decide)), (fun h => absurd h (by decide))⟩
theorem ak_mp112 : ak_mp (⟨"SpanCopierModel", "drawn", "(II)I"⟩, prog_15_method_114_code, (Option.some Jvm.ClassFile.FieldType.int), 0) (3, ai_k112, 0, 0) := ⟨⟨ak_W_of (ak_tw_mem (n := 8102) (by decide +kernel)) rfl, ak_W_of (ak_tw_mem (n := 1015) (by decide +kernel)) rfl, by decide +kernel, by decide +kernel, by decide, by decide +kernel, by decide +kernel⟩, fun _ => ⟨ak_W_of (ak_tw_mem (n := 8100) (by decide +kernel)) rfl, ak_W_of (ak_tw_mem (n := 8101) (by decide +kernel)) rfl⟩, (fun h => absurd h (by decide)), (fun h => absurd h (by decide))⟩
theorem ak_mp113 : ak_mp (⟨"SpanCopierModel", "drawsFirst", "()V"⟩, prog_15_method_112_code, (Option.none : Option Jvm.ClassFile.FieldType), 0) (2, ai_k113, 0, 0) := ⟨⟨ak_W_of (ak_tw_mem (n := 8110) (by decide +kernel)) rfl, ak_W_of (ak_tw_mem (n := 1015) (by decide +kernel)) rfl, by decide +kernel, by decide +kernel, by decide, by decide +kernel, by decide +kernel⟩, fun _ => ⟨ak_W_of (ak_tw_mem (n := 8109) (by decide +kernel)) rfl, ak_W_of (ak_sel (j := 178) (n := _) (by rfl)) rfl⟩, (fun h => absurd h (by decide)), (fun h => absurd h (by decide))⟩
theorem ak_mp114 : ak_mp (⟨"SpanCopierModel", "drawsUnit", "(I)V"⟩, prog_15_method_111_code, (Option.none : Option Jvm.ClassFile.FieldType), 0) (3, ai_k114, 0, 0) := ⟨⟨ak_W_of (ak_tw_mem (n := 8119) (by decide +kernel)) rfl, ak_W_of (ak_tw_mem (n := 1015) (by decide +kernel)) rfl, by decide +kernel, by decide +kernel, by decide, by decide +kernel, by decide +kernel⟩, fun _ => ⟨ak_W_of (ak_tw_mem (n := 8118) (by decide +kernel)) rfl, ak_W_of (ak_sel (j := 180) (n := _) (by rfl)) rfl⟩, (fun h => absurd h (by decide)), (fun h => absurd h (by decide))⟩
theorem ak_mp115 : ak_mp (⟨"SpanCopierModel", "end", "(I)Z"⟩, prog_15_method_5_code, (Option.some Jvm.ClassFile.FieldType.boolean), 0) (2, ai_k115, 0, 0) := ⟨⟨ak_W_of (ak_tw_mem (n := 6062) (by decide +kernel)) rfl, ak_W_of (ak_tw_mem (n := 1015) (by decide +kernel)) rfl, by decide +kernel, by decide +kernel, by decide, by decide +kernel, by decide +kernel⟩, fun _ => ⟨ak_W_of (ak_tw_mem (n := 6060) (by decide +kernel)) rfl, ak_W_of (ak_tw_mem (n := 6061) (by decide +kernel)) rfl⟩, (fun h => absurd h (by decide)), (fun h => absurd h (by decide))⟩
theorem ak_mp116 : ak_mp (⟨"SpanCopierModel", "fault", "()I"⟩, prog_15_method_41_code, (Option.some Jvm.ClassFile.FieldType.int), 0) (1, ai_k116, 0, 0) := ⟨⟨ak_W_of (ak_tw_mem (n := 7065) (by decide +kernel)) rfl, ak_W_of (ak_tw_mem (n := 1015) (by decide +kernel)) rfl, by decide +kernel, by decide +kernel, by decide, by decide +kernel, by decide +kernel⟩, fun _ => ⟨ak_W_of (ak_tw_mem (n := 7063) (by decide +kernel)) rfl, ak_W_of (ak_tw_mem (n := 7064) (by decide +kernel)) rfl⟩, (fun h => absurd h (by decide)), (fun h => absurd h (by decide))⟩
theorem ak_mp117 : ak_mp (⟨"SpanCopierModel", "feed", "(IIIII)I"⟩, prog_15_method_4_code, (Option.some Jvm.ClassFile.FieldType.int), 0) (6, ai_k117, 0, 0) := ⟨⟨ak_W_of (ak_tw_mem (n := 6053) (by decide +kernel)) rfl, ak_W_of (ak_tw_mem (n := 1015) (by decide +kernel)) rfl, by decide +kernel, by decide +kernel, by decide, by decide +kernel, by decide +kernel⟩, fun _ => ⟨ak_W_of (ak_tw_mem (n := 6051) (by decide +kernel)) rfl, ak_W_of (ak_tw_mem (n := 6052) (by decide +kernel)) rfl⟩, (fun h => absurd h (by decide)), (fun h => absurd h (by decide))⟩
theorem ak_mp118 : ak_mp (⟨"SpanCopierModel", "file", "()I"⟩, prog_15_method_82_code, (Option.some Jvm.ClassFile.FieldType.int), 0) (3, ai_k118, 0, 0) := ⟨⟨ak_W_of (ak_tw_mem (n := 7077) (by decide +kernel)) rfl, ak_W_of (ak_tw_mem (n := 1015) (by decide +kernel)) rfl, by decide +kernel, by decide +kernel, by decide, by decide +kernel, by decide +kernel⟩, fun _ => ⟨ak_W_of (ak_tw_mem (n := 7075) (by decide +kernel)) rfl, ak_W_of (ak_tw_mem (n := 7076) (by decide +kernel)) rfl⟩, (fun h => absurd h (by decide)), (fun h => absurd h (by decide))⟩
theorem ak_mp119 : ak_mp (⟨"SpanCopierModel", "fileSum", "()I"⟩, prog_15_method_43_code, (Option.some Jvm.ClassFile.FieldType.int), 0) (3, ai_k119, 0, 0) := ⟨⟨ak_W_of (ak_tw_mem (n := 7192) (by decide +kernel)) rfl, ak_W_of (ak_tw_mem (n := 1015) (by decide +kernel)) rfl, by decide +kernel, by decide +kernel, by decide, by decide +kernel, by decide +kernel⟩, fun _ => ⟨ak_W_of (ak_tw_mem (n := 7191) (by decide +kernel)) rfl, ak_W_of (ak_sel (j := 159) (n := _) (by rfl)) rfl⟩, (fun h => absurd h (by decide)), (fun h => absurd h (by decide))⟩
theorem ak_mp120 : ak_mp (⟨"SpanCopierModel", "gap", "(II)I"⟩, prog_15_method_99_code, (Option.some Jvm.ClassFile.FieldType.int), 0) (3, ai_k120, 0, 0) := ⟨⟨ak_W_of (ak_tw_mem (n := 8062) (by decide +kernel)) rfl, ak_W_of (ak_tw_mem (n := 1015) (by decide +kernel)) rfl, by decide +kernel, by decide +kernel, by decide, by decide +kernel, by decide +kernel⟩, fun _ => ⟨ak_W_of (ak_tw_mem (n := 8060) (by decide +kernel)) rfl, ak_W_of (ak_tw_mem (n := 8061) (by decide +kernel)) rfl⟩, (fun h => absurd h (by decide)), (fun h => absurd h (by decide))⟩
theorem ak_mp121 : ak_mp (⟨"SpanCopierModel", "go", "()V"⟩, prog_15_method_16_code, (Option.none : Option Jvm.ClassFile.FieldType), 0) (5, ai_k121, 0, 0) := ⟨⟨ak_W_of (ak_tw_mem (n := 6214) (by decide +kernel)) rfl, ak_W_of (ak_tw_mem (n := 1015) (by decide +kernel)) rfl, by decide +kernel, by decide +kernel, by decide, by decide +kernel, by decide +kernel⟩, fun _ => ⟨ak_W_of (ak_tw_mem (n := 6213) (by decide +kernel)) rfl, ak_W_of (ak_sel (j := 115) (n := _) (by rfl)) rfl⟩, (fun h => absurd h (by decide)), (fun h => absurd h (by decide))⟩
theorem ak_mp122 : ak_mp (⟨"SpanCopierModel", "image", "(I)Z"⟩, prog_15_method_133_code, (Option.some Jvm.ClassFile.FieldType.boolean), 0) (3, ai_k122, 0, 0) := ⟨⟨ak_W_of (ak_tw_mem (n := 8199) (by decide +kernel)) rfl, ak_W_of (ak_tw_mem (n := 1015) (by decide +kernel)) rfl, by decide +kernel, by decide +kernel, by decide, by decide +kernel, by decide +kernel⟩, fun _ => ⟨ak_W_of (ak_tw_mem (n := 8197) (by decide +kernel)) rfl, ak_W_of (ak_tw_mem (n := 8198) (by decide +kernel)) rfl⟩, (fun h => absurd h (by decide)), (fun h => absurd h (by decide))⟩
theorem ak_mp123 : ak_mp (⟨"SpanCopierModel", "isBusy", "()Z"⟩, prog_15_method_61_code, (Option.some Jvm.ClassFile.FieldType.boolean), 0) (1, ai_k123, 0, 0) := ⟨⟨ak_W_of (ak_tw_mem (n := 7164) (by decide +kernel)) rfl, ak_W_of (ak_tw_mem (n := 1015) (by decide +kernel)) rfl, by decide +kernel, by decide +kernel, by decide, by decide +kernel, by decide +kernel⟩, fun _ => ⟨ak_W_of (ak_tw_mem (n := 7163) (by decide +kernel)) rfl, ak_W_of (ak_sel (j := 152) (n := _) (by rfl)) rfl⟩, (fun h => absurd h (by decide)), (fun h => absurd h (by decide))⟩
theorem ak_mp124 : ak_mp (⟨"SpanCopierModel", "isGap", "(I)Z"⟩, prog_15_method_45_code, (Option.some Jvm.ClassFile.FieldType.boolean), 0) (2, ai_k124, 0, 0) := ⟨⟨ak_W_of (ak_tw_mem (n := 7124) (by decide +kernel)) rfl, ak_W_of (ak_tw_mem (n := 1015) (by decide +kernel)) rfl, by decide +kernel, by decide +kernel, by decide, by decide +kernel, by decide +kernel⟩, fun _ => ⟨ak_W_of (ak_tw_mem (n := 7123) (by decide +kernel)) rfl, ak_W_of (ak_sel (j := 142) (n := _) (by rfl)) rfl⟩, (fun h => absurd h (by decide)), (fun h => absurd h (by decide))⟩
theorem ak_mp125 : ak_mp (⟨"SpanCopierModel", "isIn", "(III)Z"⟩, prog_15_method_7_code, (Option.some Jvm.ClassFile.FieldType.boolean), 2) (3, ai_k125, 0, 0) := ⟨⟨ak_W_of (ak_tw_mem (n := 7015) (by decide +kernel)) rfl, ak_W_of (ak_tw_mem (n := 1015) (by decide +kernel)) rfl, by decide +kernel, by decide +kernel, by decide, by decide +kernel, by decide +kernel⟩, (fun h => absurd h (by decide)), (fun h => absurd h (by decide)), fun _ => ak_W_of (ak_tw_mem (n := 7014) (by decide +kernel)) rfl⟩
theorem ak_mp126 : ak_mp (⟨"SpanCopierModel", "isMarked", "(II)Z"⟩, prog_15_method_46_code, (Option.some Jvm.ClassFile.FieldType.boolean), 0) (3, ai_k126, 0, 0) := ⟨⟨ak_W_of (ak_tw_mem (n := 7148) (by decide +kernel)) rfl, ak_W_of (ak_tw_mem (n := 1015) (by decide +kernel)) rfl, by decide +kernel, by decide +kernel, by decide, by decide +kernel, by decide +kernel⟩, fun _ => ⟨ak_W_of (ak_tw_mem (n := 7147) (by decide +kernel)) rfl, ak_W_of (ak_sel (j := 148) (n := _) (by rfl)) rfl⟩, (fun h => absurd h (by decide)), (fun h => absurd h (by decide))⟩
theorem ak_mp127 : ak_mp (⟨"SpanCopierModel", "isSign", "(I)Z"⟩, prog_15_method_20_code, (Option.some Jvm.ClassFile.FieldType.boolean), 0) (2, ai_k127, 0, 0) := ⟨⟨ak_W_of (ak_tw_mem (n := 7061) (by decide +kernel)) rfl, ak_W_of (ak_tw_mem (n := 1015) (by decide +kernel)) rfl, by decide +kernel, by decide +kernel, by decide, by decide +kernel, by decide +kernel⟩, fun _ => ⟨ak_W_of (ak_tw_mem (n := 7060) (by decide +kernel)) rfl, ak_W_of (ak_sel (j := 131) (n := _) (by rfl)) rfl⟩, (fun h => absurd h (by decide)), (fun h => absurd h (by decide))⟩
theorem ak_mp128 : ak_mp (⟨"SpanCopierModel", "isUnit", "(I)Z"⟩, prog_15_method_51_code, (Option.some Jvm.ClassFile.FieldType.boolean), 0) (2, ai_k128, 0, 0) := ⟨⟨ak_W_of (ak_tw_mem (n := 7235) (by decide +kernel)) rfl, ak_W_of (ak_tw_mem (n := 1015) (by decide +kernel)) rfl, by decide +kernel, by decide +kernel, by decide, by decide +kernel, by decide +kernel⟩, fun _ => ⟨ak_W_of (ak_tw_mem (n := 7234) (by decide +kernel)) rfl, ak_W_of (ak_sel (j := 168) (n := _) (by rfl)) rfl⟩, (fun h => absurd h (by decide)), (fun h => absurd h (by decide))⟩
theorem ak_mp129 : ak_mp (⟨"SpanCopierModel", "isWord", "(I)Z"⟩, prog_15_method_19_code, (Option.some Jvm.ClassFile.FieldType.boolean), 0) (2, ai_k129, 0, 0) := ⟨⟨ak_W_of (ak_tw_mem (n := 6234) (by decide +kernel)) rfl, ak_W_of (ak_tw_mem (n := 1015) (by decide +kernel)) rfl, by decide +kernel, by decide +kernel, by decide, by decide +kernel, by decide +kernel⟩, fun _ => ⟨ak_W_of (ak_tw_mem (n := 6233) (by decide +kernel)) rfl, ak_W_of (ak_sel (j := 118) (n := _) (by rfl)) rfl⟩, (fun h => absurd h (by decide)), (fun h => absurd h (by decide))⟩
theorem ak_mp130 : ak_mp (⟨"SpanCopierModel", "journal", "(I)I"⟩, prog_15_method_104_code, (Option.some Jvm.ClassFile.FieldType.int), 0) (2, ai_k130, 0, 0) := ⟨⟨ak_W_of (ak_tw_mem (n := 8082) (by decide +kernel)) rfl, ak_W_of (ak_tw_mem (n := 1015) (by decide +kernel)) rfl, by decide +kernel, by decide +kernel, by decide, by decide +kernel, by decide +kernel⟩, fun _ => ⟨ak_W_of (ak_tw_mem (n := 8080) (by decide +kernel)) rfl, ak_W_of (ak_tw_mem (n := 8081) (by decide +kernel)) rfl⟩, (fun h => absurd h (by decide)), (fun h => absurd h (by decide))⟩
theorem ak_mp131 : ak_mp (⟨"SpanCopierModel", "late", "(II)I"⟩, prog_15_method_90_code, (Option.some Jvm.ClassFile.FieldType.int), 0) (3, ai_k131, 0, 0) := ⟨⟨ak_W_of (ak_tw_mem (n := 8019) (by decide +kernel)) rfl, ak_W_of (ak_tw_mem (n := 1015) (by decide +kernel)) rfl, by decide +kernel, by decide +kernel, by decide, by decide +kernel, by decide +kernel⟩, fun _ => ⟨ak_W_of (ak_tw_mem (n := 8017) (by decide +kernel)) rfl, ak_W_of (ak_tw_mem (n := 8018) (by decide +kernel)) rfl⟩, (fun h => absurd h (by decide)), (fun h => absurd h (by decide))⟩
theorem ak_mp132 : ak_mp (⟨"SpanCopierModel", "least", "(II)I"⟩, prog_15_method_10_code, (Option.some Jvm.ClassFile.FieldType.int), 2) (2, ai_k132, 0, 0) := ⟨⟨ak_W_of (ak_tw_mem (n := 7096) (by decide +kernel)) rfl, ak_W_of (ak_tw_mem (n := 1015) (by decide +kernel)) rfl, by decide +kernel, by decide +kernel, by decide, by decide +kernel, by decide +kernel⟩, (fun h => absurd h (by decide)), (fun h => absurd h (by decide)), fun _ => ak_W_of (ak_tw_mem (n := 7095) (by decide +kernel)) rfl⟩
theorem ak_mp133 : ak_mp (⟨"SpanCopierModel", "lose", "(I)I"⟩, prog_15_method_88_code, (Option.some Jvm.ClassFile.FieldType.int), 0) (2, ai_k133, 0, 0) := ⟨⟨ak_W_of (ak_tw_mem (n := 7231) (by decide +kernel)) rfl, ak_W_of (ak_tw_mem (n := 1015) (by decide +kernel)) rfl, by decide +kernel, by decide +kernel, by decide, by decide +kernel, by decide +kernel⟩, fun _ => ⟨ak_W_of (ak_tw_mem (n := 7229) (by decide +kernel)) rfl, ak_W_of (ak_tw_mem (n := 7230) (by decide +kernel)) rfl⟩, (fun h => absurd h (by decide)), (fun h => absurd h (by decide))⟩
theorem ak_mp134 : ak_mp (⟨"SpanCopierModel", "need", "()I"⟩, prog_15_method_105_code, (Option.some Jvm.ClassFile.FieldType.int), 0) (3, ai_k134, 0, 0) := ⟨⟨ak_W_of (ak_tw_mem (n := 8086) (by decide +kernel)) rfl, ak_W_of (ak_tw_mem (n := 1015) (by decide +kernel)) rfl, by decide +kernel, by decide +kernel, by decide, by decide +kernel, by decide +kernel⟩, fun _ => ⟨ak_W_of (ak_tw_mem (n := 8084) (by decide +kernel)) rfl, ak_W_of (ak_tw_mem (n := 8085) (by decide +kernel)) rfl⟩, (fun h => absurd h (by decide)), (fun h => absurd h (by decide))⟩
theorem ak_mp135 : ak_mp (⟨"SpanCopierModel", "nextMark", "(IIZ)I"⟩, prog_15_method_47_code, (Option.some Jvm.ClassFile.FieldType.int), 0) (5, ai_k135, 0, 0) := ⟨⟨ak_W_of (ak_tw_mem (n := 7144) (by decide +kernel)) rfl, ak_W_of (ak_tw_mem (n := 1015) (by decide +kernel)) rfl, by decide +kernel, by decide +kernel, by decide, by decide +kernel, by decide +kernel⟩, fun _ => ⟨ak_W_of (ak_tw_mem (n := 7143) (by decide +kernel)) rfl, ak_W_of (ak_sel (j := 147) (n := _) (by rfl)) rfl⟩, (fun h => absurd h (by decide)), (fun h => absurd h (by decide))⟩
theorem ak_mp136 : ak_mp (⟨"SpanCopierModel", "now", "(I)I"⟩, prog_15_method_94_code, (Option.some Jvm.ClassFile.FieldType.int), 0) (2, ai_k136, 0, 0) := ⟨⟨ak_W_of (ak_tw_mem (n := 8035) (by decide +kernel)) rfl, ak_W_of (ak_tw_mem (n := 1015) (by decide +kernel)) rfl, by decide +kernel, by decide +kernel, by decide, by decide +kernel, by decide +kernel⟩, fun _ => ⟨ak_W_of (ak_tw_mem (n := 8033) (by decide +kernel)) rfl, ak_W_of (ak_tw_mem (n := 8034) (by decide +kernel)) rfl⟩, (fun h => absurd h (by decide)), (fun h => absurd h (by decide))⟩
theorem ak_mp137 : ak_mp (⟨"SpanCopierModel", "odds", "(II)I"⟩, prog_15_method_115_code, (Option.some Jvm.ClassFile.FieldType.int), 0) (5, ai_k137, 0, 0) := ⟨⟨ak_W_of (ak_tw_mem (n := 8127) (by decide +kernel)) rfl, ak_W_of (ak_tw_mem (n := 1015) (by decide +kernel)) rfl, by decide +kernel, by decide +kernel, by decide, by decide +kernel, by decide +kernel⟩, fun _ => ⟨ak_W_of (ak_tw_mem (n := 8125) (by decide +kernel)) rfl, ak_W_of (ak_tw_mem (n := 8126) (by decide +kernel)) rfl⟩, (fun h => absurd h (by decide)), (fun h => absurd h (by decide))⟩
theorem ak_mp138 : ak_mp (⟨"SpanCopierModel", "oneTick", "()V"⟩, prog_15_method_76_code, (Option.none : Option Jvm.ClassFile.FieldType), 0) (1, ai_k138, 0, 0) := ⟨⟨ak_W_of (ak_tw_mem (n := 7100) (by decide +kernel)) rfl, ak_W_of (ak_tw_mem (n := 1015) (by decide +kernel)) rfl, by decide +kernel, by decide +kernel, by decide, by decide +kernel, by decide +kernel⟩, fun _ => ⟨ak_W_of (ak_tw_mem (n := 7099) (by decide +kernel)) rfl, ak_W_of (ak_sel (j := 136) (n := _) (by rfl)) rfl⟩, (fun h => absurd h (by decide)), (fun h => absurd h (by decide))⟩
theorem ak_mp139 : ak_mp (⟨"SpanCopierModel", "order", "()I"⟩, prog_15_method_40_code, (Option.some Jvm.ClassFile.FieldType.int), 0) (3, ai_k139, 0, 0) := ⟨⟨ak_W_of (ak_tw_mem (n := 6202) (by decide +kernel)) rfl, ak_W_of (ak_tw_mem (n := 1015) (by decide +kernel)) rfl, by decide +kernel, by decide +kernel, by decide, by decide +kernel, by decide +kernel⟩, fun _ => ⟨ak_W_of (ak_tw_mem (n := 6200) (by decide +kernel)) rfl, ak_W_of (ak_tw_mem (n := 6201) (by decide +kernel)) rfl⟩, (fun h => absurd h (by decide)), (fun h => absurd h (by decide))⟩
theorem ak_mp140 : ak_mp (⟨"SpanCopierModel", "over", "()I"⟩, prog_15_method_107_code, (Option.some Jvm.ClassFile.FieldType.int), 0) (3, ai_k140, 0, 0) := ⟨⟨ak_W_of (ak_tw_mem (n := 8090) (by decide +kernel)) rfl, ak_W_of (ak_tw_mem (n := 1015) (by decide +kernel)) rfl, by decide +kernel, by decide +kernel, by decide, by decide +kernel, by decide +kernel⟩, fun _ => ⟨ak_W_of (ak_tw_mem (n := 8088) (by decide +kernel)) rfl, ak_W_of (ak_tw_mem (n := 8089) (by decide +kernel)) rfl⟩, (fun h => absurd h (by decide)), (fun h => absurd h (by decide))⟩
theorem ak_mp141 : ak_mp (⟨"SpanCopierModel", "overAs", "(I)I"⟩, prog_15_method_108_code, (Option.some Jvm.ClassFile.FieldType.int), 0) (2, ai_k141, 0, 0) := ⟨⟨ak_W_of (ak_tw_mem (n := 8098) (by decide +kernel)) rfl, ak_W_of (ak_tw_mem (n := 1015) (by decide +kernel)) rfl, by decide +kernel, by decide +kernel, by decide, by decide +kernel, by decide +kernel⟩, fun _ => ⟨ak_W_of (ak_tw_mem (n := 8096) (by decide +kernel)) rfl, ak_W_of (ak_tw_mem (n := 8097) (by decide +kernel)) rfl⟩, (fun h => absurd h (by decide)), (fun h => absurd h (by decide))⟩
theorem ak_mp142 : ak_mp (⟨"SpanCopierModel", "passTicks", "(I)I"⟩, prog_15_method_77_code, (Option.some Jvm.ClassFile.FieldType.int), 0) (4, ai_k142, 0, 0) := ⟨⟨ak_W_of (ak_tw_mem (n := 7093) (by decide +kernel)) rfl, ak_W_of (ak_tw_mem (n := 1015) (by decide +kernel)) rfl, by decide +kernel, by decide +kernel, by decide, by decide +kernel, by decide +kernel⟩, fun _ => ⟨ak_W_of (ak_tw_mem (n := 7092) (by decide +kernel)) rfl, ak_W_of (ak_sel (j := 135) (n := _) (by rfl)) rfl⟩, (fun h => absurd h (by decide)), (fun h => absurd h (by decide))⟩
theorem ak_mp143 : ak_mp (⟨"SpanCopierModel", "prompt", "()I"⟩, prog_15_method_92_code, (Option.some Jvm.ClassFile.FieldType.int), 0) (1, ai_k143, 0, 0) := ⟨⟨ak_W_of (ak_tw_mem (n := 8027) (by decide +kernel)) rfl, ak_W_of (ak_tw_mem (n := 1015) (by decide +kernel)) rfl, by decide +kernel, by decide +kernel, by decide, by decide +kernel, by decide +kernel⟩, fun _ => ⟨ak_W_of (ak_tw_mem (n := 8025) (by decide +kernel)) rfl, ak_W_of (ak_tw_mem (n := 8026) (by decide +kernel)) rfl⟩, (fun h => absurd h (by decide)), (fun h => absurd h (by decide))⟩
theorem ak_mp144 : ak_mp (⟨"SpanCopierModel", "readAnd", "()Z"⟩, prog_15_method_124_code, (Option.some Jvm.ClassFile.FieldType.boolean), 0) (2, ai_k144, 0, 0) := ⟨⟨ak_W_of (ak_tw_mem (n := 8163) (by decide +kernel)) rfl, ak_W_of (ak_tw_mem (n := 1015) (by decide +kernel)) rfl, by decide +kernel, by decide +kernel, by decide, by decide +kernel, by decide +kernel⟩, fun _ => ⟨ak_W_of (ak_tw_mem (n := 8162) (by decide +kernel)) rfl, ak_W_of (ak_sel (j := 187) (n := _) (by rfl)) rfl⟩, (fun h => absurd h (by decide)), (fun h => absurd h (by decide))⟩
theorem ak_mp145 : ak_mp (⟨"SpanCopierModel", "readOr", "()Z"⟩, prog_15_method_123_code, (Option.some Jvm.ClassFile.FieldType.boolean), 0) (2, ai_k145, 0, 0) := ⟨⟨ak_W_of (ak_tw_mem (n := 8159) (by decide +kernel)) rfl, ak_W_of (ak_tw_mem (n := 1015) (by decide +kernel)) rfl, by decide +kernel, by decide +kernel, by decide, by decide +kernel, by decide +kernel⟩, fun _ => ⟨ak_W_of (ak_tw_mem (n := 8158) (by decide +kernel)) rfl, ak_W_of (ak_sel (j := 186) (n := _) (by rfl)) rfl⟩, (fun h => absurd h (by decide)), (fun h => absurd h (by decide))⟩
theorem ak_mp146 : ak_mp (⟨"SpanCopierModel", "readSaid", "()Z"⟩, prog_15_method_125_code, (Option.some Jvm.ClassFile.FieldType.boolean), 0) (4, ai_k146, 0, 0) := ⟨⟨ak_W_of (ak_tw_mem (n := 8167) (by decide +kernel)) rfl, ak_W_of (ak_tw_mem (n := 1015) (by decide +kernel)) rfl, by decide +kernel, by decide +kernel, by decide, by decide +kernel, by decide +kernel⟩, fun _ => ⟨ak_W_of (ak_tw_mem (n := 8166) (by decide +kernel)) rfl, ak_W_of (ak_sel (j := 188) (n := _) (by rfl)) rfl⟩, (fun h => absurd h (by decide)), (fun h => absurd h (by decide))⟩
theorem ak_mp147 : ak_mp (⟨"SpanCopierModel", "refuse", "()I"⟩, prog_15_method_2_code, (Option.some Jvm.ClassFile.FieldType.int), 0) (1, ai_k147, 0, 0) := ⟨⟨ak_W_of (ak_tw_mem (n := 8043) (by decide +kernel)) rfl, ak_W_of (ak_tw_mem (n := 1015) (by decide +kernel)) rfl, by decide +kernel, by decide +kernel, by decide, by decide +kernel, by decide +kernel⟩, fun _ => ⟨ak_W_of (ak_tw_mem (n := 8042) (by decide +kernel)) rfl, ak_W_of (ak_sel (j := 173) (n := _) (by rfl)) rfl⟩, (fun h => absurd h (by decide)), (fun h => absurd h (by decide))⟩
theorem ak_mp148 : ak_mp (⟨"SpanCopierModel", "resend", "(II)I"⟩, prog_15_method_100_code, (Option.some Jvm.ClassFile.FieldType.int), 0) (3, ai_k148, 0, 0) := ⟨⟨ak_W_of (ak_tw_mem (n := 8066) (by decide +kernel)) rfl, ak_W_of (ak_tw_mem (n := 1015) (by decide +kernel)) rfl, by decide +kernel, by decide +kernel, by decide, by decide +kernel, by decide +kernel⟩, fun _ => ⟨ak_W_of (ak_tw_mem (n := 8064) (by decide +kernel)) rfl, ak_W_of (ak_tw_mem (n := 8065) (by decide +kernel)) rfl⟩, (fun h => absurd h (by decide)), (fun h => absurd h (by decide))⟩
theorem ak_mp149 : ak_mp (⟨"SpanCopierModel", "restore", "(I)Z"⟩, prog_15_method_134_code, (Option.some Jvm.ClassFile.FieldType.boolean), 0) (3, ai_k149, 0, 0) := ⟨⟨ak_W_of (ak_tw_mem (n := 8203) (by decide +kernel)) rfl, ak_W_of (ak_tw_mem (n := 1015) (by decide +kernel)) rfl, by decide +kernel, by decide +kernel, by decide, by decide +kernel, by decide +kernel⟩, fun _ => ⟨ak_W_of (ak_tw_mem (n := 8201) (by decide +kernel)) rfl, ak_W_of (ak_tw_mem (n := 8202) (by decide +kernel)) rfl⟩, (fun h => absurd h (by decide)), (fun h => absurd h (by decide))⟩
theorem ak_mp150 : ak_mp (⟨"SpanCopierModel", "said", "(I)I"⟩, prog_15_method_132_code, (Option.some Jvm.ClassFile.FieldType.int), 0) (4, ai_k150, 0, 0) := ⟨⟨ak_W_of (ak_tw_mem (n := 8191) (by decide +kernel)) rfl, ak_W_of (ak_tw_mem (n := 1015) (by decide +kernel)) rfl, by decide +kernel, by decide +kernel, by decide, by decide +kernel, by decide +kernel⟩, fun _ => ⟨ak_W_of (ak_tw_mem (n := 8189) (by decide +kernel)) rfl, ak_W_of (ak_tw_mem (n := 8190) (by decide +kernel)) rfl⟩, (fun h => absurd h (by decide)), (fun h => absurd h (by decide))⟩
theorem ak_mp151 : ak_mp (⟨"SpanCopierModel", "save", "([II)V"⟩, prog_15_method_78_code, (Option.none : Option Jvm.ClassFile.FieldType), 0) (4, ai_k151, 0, 0) := ⟨⟨ak_W_of (ak_tw_mem (n := 7085) (by decide +kernel)) rfl, ak_W_of (ak_tw_mem (n := 1015) (by decide +kernel)) rfl, by decide +kernel, by decide +kernel, by decide, by decide +kernel, by decide +kernel⟩, fun _ => ⟨ak_W_of (ak_tw_mem (n := 7084) (by decide +kernel)) rfl, ak_W_of (ak_sel (j := 134) (n := _) (by rfl)) rfl⟩, (fun h => absurd h (by decide)), (fun h => absurd h (by decide))⟩
theorem ak_mp152 : ak_mp (⟨"SpanCopierModel", "saveTaker", "()V"⟩, prog_15_method_29_code, (Option.none : Option Jvm.ClassFile.FieldType), 0) (2, ai_k152, 0, 0) := ⟨⟨ak_W_of (ak_tw_mem (n := 6079) (by decide +kernel)) rfl, ak_W_of (ak_tw_mem (n := 1015) (by decide +kernel)) rfl, by decide +kernel, by decide +kernel, by decide, by decide +kernel, by decide +kernel⟩, fun _ => ⟨ak_W_of (ak_tw_mem (n := 6078) (by decide +kernel)) rfl, ak_W_of (ak_sel (j := 112) (n := _) (by rfl)) rfl⟩, (fun h => absurd h (by decide)), (fun h => absurd h (by decide))⟩
theorem ak_mp153 : ak_mp (⟨"SpanCopierModel", "senderGoes", "()V"⟩, prog_15_method_68_code, (Option.none : Option Jvm.ClassFile.FieldType), 0) (2, ai_k153, 0, 0) := ⟨⟨ak_W_of (ak_tw_mem (n := 7172) (by decide +kernel)) rfl, ak_W_of (ak_tw_mem (n := 1015) (by decide +kernel)) rfl, by decide +kernel, by decide +kernel, by decide, by decide +kernel, by decide +kernel⟩, fun _ => ⟨ak_W_of (ak_tw_mem (n := 7171) (by decide +kernel)) rfl, ak_W_of (ak_sel (j := 154) (n := _) (by rfl)) rfl⟩, (fun h => absurd h (by decide)), (fun h => absurd h (by decide))⟩
theorem ak_mp154 : ak_mp (⟨"SpanCopierModel", "sentence", "()I"⟩, prog_15_method_130_code, (Option.some Jvm.ClassFile.FieldType.int), 0) (2, ai_k154, 0, 0) := ⟨⟨ak_W_of (ak_tw_mem (n := 8155) (by decide +kernel)) rfl, ak_W_of (ak_tw_mem (n := 1015) (by decide +kernel)) rfl, by decide +kernel, by decide +kernel, by decide, by decide +kernel, by decide +kernel⟩, fun _ => ⟨ak_W_of (ak_tw_mem (n := 8153) (by decide +kernel)) rfl, ak_W_of (ak_tw_mem (n := 8154) (by decide +kernel)) rfl⟩, (fun h => absurd h (by decide)), (fun h => absurd h (by decide))⟩
theorem ak_mp155 : ak_mp (⟨"SpanCopierModel", "snap", "()V"⟩, prog_15_method_80_code, (Option.none : Option Jvm.ClassFile.FieldType), 0) (2, ai_k155, 0, 0) := ⟨⟨ak_W_of (ak_tw_mem (n := 7081) (by decide +kernel)) rfl, ak_W_of (ak_tw_mem (n := 1015) (by decide +kernel)) rfl, by decide +kernel, by decide +kernel, by decide, by decide +kernel, by decide +kernel⟩, fun _ => ⟨ak_W_of (ak_tw_mem (n := 7080) (by decide +kernel)) rfl, ak_W_of (ak_sel (j := 133) (n := _) (by rfl)) rfl⟩, (fun h => absurd h (by decide)), (fun h => absurd h (by decide))⟩
theorem ak_mp156 : ak_mp (⟨"SpanCopierModel", "span", "(III)I"⟩, prog_15_method_98_code, (Option.some Jvm.ClassFile.FieldType.int), 0) (4, ai_k156, 0, 0) := ⟨⟨ak_W_of (ak_tw_mem (n := 8058) (by decide +kernel)) rfl, ak_W_of (ak_tw_mem (n := 1015) (by decide +kernel)) rfl, by decide +kernel, by decide +kernel, by decide, by decide +kernel, by decide +kernel⟩, fun _ => ⟨ak_W_of (ak_tw_mem (n := 8056) (by decide +kernel)) rfl, ak_W_of (ak_tw_mem (n := 8057) (by decide +kernel)) rfl⟩, (fun h => absurd h (by decide)), (fun h => absurd h (by decide))⟩
theorem ak_mp157 : ak_mp (⟨"SpanCopierModel", "spanEnd", "(III)I"⟩, prog_15_method_49_code, (Option.some Jvm.ClassFile.FieldType.int), 0) (6, ai_k157, 0, 0) := ⟨⟨ak_W_of (ak_tw_mem (n := 7156) (by decide +kernel)) rfl, ak_W_of (ak_tw_mem (n := 1015) (by decide +kernel)) rfl, by decide +kernel, by decide +kernel, by decide, by decide +kernel, by decide +kernel⟩, fun _ => ⟨ak_W_of (ak_tw_mem (n := 7155) (by decide +kernel)) rfl, ak_W_of (ak_sel (j := 150) (n := _) (by rfl)) rfl⟩, (fun h => absurd h (by decide)), (fun h => absurd h (by decide))⟩
theorem ak_mp158 : ak_mp (⟨"SpanCopierModel", "spansOf", "(I)I"⟩, prog_15_method_48_code, (Option.some Jvm.ClassFile.FieldType.int), 0) (4, ai_k158, 0, 0) := ⟨⟨ak_W_of (ak_tw_mem (n := 7140) (by decide +kernel)) rfl, ak_W_of (ak_tw_mem (n := 1015) (by decide +kernel)) rfl, by decide +kernel, by decide +kernel, by decide, by decide +kernel, by decide +kernel⟩, fun _ => ⟨ak_W_of (ak_tw_mem (n := 7139) (by decide +kernel)) rfl, ak_W_of (ak_sel (j := 146) (n := _) (by rfl)) rfl⟩, (fun h => absurd h (by decide)), (fun h => absurd h (by decide))⟩
theorem ak_mp159 : ak_mp (⟨"SpanCopierModel", "spoil", "(I)I"⟩, prog_15_method_91_code, (Option.some Jvm.ClassFile.FieldType.int), 0) (2, ai_k159, 0, 0) := ⟨⟨ak_W_of (ak_tw_mem (n := 8023) (by decide +kernel)) rfl, ak_W_of (ak_tw_mem (n := 1015) (by decide +kernel)) rfl, by decide +kernel, by decide +kernel, by decide, by decide +kernel, by decide +kernel⟩, fun _ => ⟨ak_W_of (ak_tw_mem (n := 8021) (by decide +kernel)) rfl, ak_W_of (ak_tw_mem (n := 8022) (by decide +kernel)) rfl⟩, (fun h => absurd h (by decide)), (fun h => absurd h (by decide))⟩
theorem ak_mp160 : ak_mp (⟨"SpanCopierModel", "startRead", "()V"⟩, prog_15_method_27_code, (Option.none : Option Jvm.ClassFile.FieldType), 0) (2, ai_k160, 0, 0) := ⟨⟨ak_W_of (ak_tw_mem (n := 6071) (by decide +kernel)) rfl, ak_W_of (ak_tw_mem (n := 1015) (by decide +kernel)) rfl, by decide +kernel, by decide +kernel, by decide, by decide +kernel, by decide +kernel⟩, fun _ => ⟨ak_W_of (ak_tw_mem (n := 6070) (by decide +kernel)) rfl, ak_W_of (ak_sel (j := 110) (n := _) (by rfl)) rfl⟩, (fun h => absurd h (by decide)), (fun h => absurd h (by decide))⟩
theorem ak_mp161 : ak_mp (⟨"SpanCopierModel", "startSo", "()V"⟩, prog_15_method_28_code, (Option.none : Option Jvm.ClassFile.FieldType), 0) (2, ai_k161, 0, 0) := ⟨⟨ak_W_of (ak_tw_mem (n := 6075) (by decide +kernel)) rfl, ak_W_of (ak_tw_mem (n := 1015) (by decide +kernel)) rfl, by decide +kernel, by decide +kernel, by decide, by decide +kernel, by decide +kernel⟩, fun _ => ⟨ak_W_of (ak_tw_mem (n := 6074) (by decide +kernel)) rfl, ak_W_of (ak_sel (j := 111) (n := _) (by rfl)) rfl⟩, (fun h => absurd h (by decide)), (fun h => absurd h (by decide))⟩
theorem ak_mp162 : ak_mp (⟨"SpanCopierModel", "stay", "(Z)V"⟩, prog_15_method_120_code, (Option.none : Option Jvm.ClassFile.FieldType), 0) (2, ai_k162, 0, 0) := ⟨⟨ak_W_of (ak_tw_mem (n := 8147) (by decide +kernel)) rfl, ak_W_of (ak_tw_mem (n := 1015) (by decide +kernel)) rfl, by decide +kernel, by decide +kernel, by decide, by decide +kernel, by decide +kernel⟩, fun _ => ⟨ak_W_of (ak_tw_mem (n := 8146) (by decide +kernel)) rfl, ak_W_of (ak_sel (j := 185) (n := _) (by rfl)) rfl⟩, (fun h => absurd h (by decide)), (fun h => absurd h (by decide))⟩
theorem ak_mp163 : ak_mp (⟨"SpanCopierModel", "store", "()I"⟩, prog_15_method_103_code, (Option.some Jvm.ClassFile.FieldType.int), 0) (1, ai_k163, 0, 0) := ⟨⟨ak_W_of (ak_tw_mem (n := 8078) (by decide +kernel)) rfl, ak_W_of (ak_tw_mem (n := 1015) (by decide +kernel)) rfl, by decide +kernel, by decide +kernel, by decide, by decide +kernel, by decide +kernel⟩, fun _ => ⟨ak_W_of (ak_tw_mem (n := 8076) (by decide +kernel)) rfl, ak_W_of (ak_tw_mem (n := 8077) (by decide +kernel)) rfl⟩, (fun h => absurd h (by decide)), (fun h => absurd h (by decide))⟩
theorem ak_mp164 : ak_mp (⟨"SpanCopierModel", "sum", "(I)I"⟩, prog_15_method_102_code, (Option.some Jvm.ClassFile.FieldType.int), 0) (2, ai_k164, 0, 0) := ⟨⟨ak_W_of (ak_tw_mem (n := 8074) (by decide +kernel)) rfl, ak_W_of (ak_tw_mem (n := 1015) (by decide +kernel)) rfl, by decide +kernel, by decide +kernel, by decide, by decide +kernel, by decide +kernel⟩, fun _ => ⟨ak_W_of (ak_tw_mem (n := 8072) (by decide +kernel)) rfl, ak_W_of (ak_tw_mem (n := 8073) (by decide +kernel)) rfl⟩, (fun h => absurd h (by decide)), (fun h => absurd h (by decide))⟩
theorem ak_mp165 : ak_mp (⟨"SpanCopierModel", "take", "()I"⟩, prog_15_method_6_code, (Option.some Jvm.ClassFile.FieldType.int), 0) (2, ai_k165, 0, 0) := ⟨⟨ak_W_of (ak_tw_mem (n := 6210) (by decide +kernel)) rfl, ak_W_of (ak_tw_mem (n := 1015) (by decide +kernel)) rfl, by decide +kernel, by decide +kernel, by decide, by decide +kernel, by decide +kernel⟩, fun _ => ⟨ak_W_of (ak_tw_mem (n := 6209) (by decide +kernel)) rfl, ak_W_of (ak_sel (j := 114) (n := _) (by rfl)) rfl⟩, (fun h => absurd h (by decide)), (fun h => absurd h (by decide))⟩
theorem ak_mp166 : ak_mp (⟨"SpanCopierModel", "taken", "(I)I"⟩, prog_15_method_101_code, (Option.some Jvm.ClassFile.FieldType.int), 0) (2, ai_k166, 0, 0) := ⟨⟨ak_W_of (ak_tw_mem (n := 8070) (by decide +kernel)) rfl, ak_W_of (ak_tw_mem (n := 1015) (by decide +kernel)) rfl, by decide +kernel, by decide +kernel, by decide, by decide +kernel, by decide +kernel⟩, fun _ => ⟨ak_W_of (ak_tw_mem (n := 8068) (by decide +kernel)) rfl, ak_W_of (ak_tw_mem (n := 8069) (by decide +kernel)) rfl⟩, (fun h => absurd h (by decide)), (fun h => absurd h (by decide))⟩
theorem ak_mp167 : ak_mp (⟨"SpanCopierModel", "takenSum", "()I"⟩, prog_15_method_44_code, (Option.some Jvm.ClassFile.FieldType.int), 0) (3, ai_k167, 0, 0) := ⟨⟨ak_W_of (ak_tw_mem (n := 7207) (by decide +kernel)) rfl, ak_W_of (ak_tw_mem (n := 1015) (by decide +kernel)) rfl, by decide +kernel, by decide +kernel, by decide, by decide +kernel, by decide +kernel⟩, fun _ => ⟨ak_W_of (ak_tw_mem (n := 7206) (by decide +kernel)) rfl, ak_W_of (ak_sel (j := 162) (n := _) (by rfl)) rfl⟩, (fun h => absurd h (by decide)), (fun h => absurd h (by decide))⟩
theorem ak_mp168 : ak_mp (⟨"SpanCopierModel", "takerGoes", "()V"⟩, prog_15_method_75_code, (Option.none : Option Jvm.ClassFile.FieldType), 0) (1, ai_k168, 0, 0) := ⟨⟨ak_W_of (ak_tw_mem (n := 7199) (by decide +kernel)) rfl, ak_W_of (ak_tw_mem (n := 1015) (by decide +kernel)) rfl, by decide +kernel, by decide +kernel, by decide, by decide +kernel, by decide +kernel⟩, fun _ => ⟨ak_W_of (ak_tw_mem (n := 7198) (by decide +kernel)) rfl, ak_W_of (ak_sel (j := 160) (n := _) (by rfl)) rfl⟩, (fun h => absurd h (by decide)), (fun h => absurd h (by decide))⟩
theorem ak_mp169 : ak_mp (⟨"SpanCopierModel", "thrown", "()I"⟩, prog_15_method_1_code, (Option.some Jvm.ClassFile.FieldType.int), 0) (1, ai_k169, 0, 0) := ⟨⟨ak_W_of (ak_tw_mem (n := 6049) (by decide +kernel)) rfl, ak_W_of (ak_tw_mem (n := 1015) (by decide +kernel)) rfl, by decide +kernel, by decide +kernel, by decide, by decide +kernel, by decide +kernel⟩, fun _ => ⟨ak_W_of (ak_tw_mem (n := 6047) (by decide +kernel)) rfl, ak_W_of (ak_tw_mem (n := 6048) (by decide +kernel)) rfl⟩, (fun h => absurd h (by decide)), (fun h => absurd h (by decide))⟩
theorem ak_mp170 : ak_mp (⟨"SpanCopierModel", "ticks", "(I)I"⟩, prog_15_method_83_code, (Option.some Jvm.ClassFile.FieldType.int), 0) (2, ai_k170, 0, 0) := ⟨⟨ak_W_of (ak_tw_mem (n := 7089) (by decide +kernel)) rfl, ak_W_of (ak_tw_mem (n := 1015) (by decide +kernel)) rfl, by decide +kernel, by decide +kernel, by decide, by decide +kernel, by decide +kernel⟩, fun _ => ⟨ak_W_of (ak_tw_mem (n := 7087) (by decide +kernel)) rfl, ak_W_of (ak_tw_mem (n := 7088) (by decide +kernel)) rfl⟩, (fun h => absurd h (by decide)), (fun h => absurd h (by decide))⟩
theorem ak_mp171 : ak_mp (⟨"SpanCopierModel", "told", "(I)I"⟩, prog_15_method_121_code, (Option.some Jvm.ClassFile.FieldType.int), 0) (2, ai_k171, 0, 0) := ⟨⟨ak_W_of (ak_tw_mem (n := 8151) (by decide +kernel)) rfl, ak_W_of (ak_tw_mem (n := 1015) (by decide +kernel)) rfl, by decide +kernel, by decide +kernel, by decide, by decide +kernel, by decide +kernel⟩, fun _ => ⟨ak_W_of (ak_tw_mem (n := 8149) (by decide +kernel)) rfl, ak_W_of (ak_tw_mem (n := 8150) (by decide +kernel)) rfl⟩, (fun h => absurd h (by decide)), (fun h => absurd h (by decide))⟩
theorem ak_mp172 : ak_mp (⟨"SpanCopierModel", "twice", "(I)I"⟩, prog_15_method_89_code, (Option.some Jvm.ClassFile.FieldType.int), 0) (2, ai_k172, 0, 0) := ⟨⟨ak_W_of (ak_tw_mem (n := 8015) (by decide +kernel)) rfl, ak_W_of (ak_tw_mem (n := 1015) (by decide +kernel)) rfl, by decide +kernel, by decide +kernel, by decide, by decide +kernel, by decide +kernel⟩, fun _ => ⟨ak_W_of (ak_tw_mem (n := 8013) (by decide +kernel)) rfl, ak_W_of (ak_tw_mem (n := 8014) (by decide +kernel)) rfl⟩, (fun h => absurd h (by decide)), (fun h => absurd h (by decide))⟩
theorem ak_mp173 : ak_mp (⟨"SpanCopierModel", "undo", "()I"⟩, prog_15_method_81_code, (Option.some Jvm.ClassFile.FieldType.int), 0) (1, ai_k173, 0, 0) := ⟨⟨ak_W_of (ak_tw_mem (n := 7069) (by decide +kernel)) rfl, ak_W_of (ak_tw_mem (n := 1015) (by decide +kernel)) rfl, by decide +kernel, by decide +kernel, by decide, by decide +kernel, by decide +kernel⟩, fun _ => ⟨ak_W_of (ak_tw_mem (n := 7067) (by decide +kernel)) rfl, ak_W_of (ak_tw_mem (n := 7068) (by decide +kernel)) rfl⟩, (fun h => absurd h (by decide)), (fun h => absurd h (by decide))⟩
theorem ak_mp174 : ak_mp (⟨"SpanCopierModel", "unit", "(II)I"⟩, prog_15_method_97_code, (Option.some Jvm.ClassFile.FieldType.int), 0) (3, ai_k174, 0, 0) := ⟨⟨ak_W_of (ak_tw_mem (n := 8039) (by decide +kernel)) rfl, ak_W_of (ak_tw_mem (n := 1015) (by decide +kernel)) rfl, by decide +kernel, by decide +kernel, by decide, by decide +kernel, by decide +kernel⟩, fun _ => ⟨ak_W_of (ak_tw_mem (n := 8037) (by decide +kernel)) rfl, ak_W_of (ak_tw_mem (n := 8038) (by decide +kernel)) rfl⟩, (fun h => absurd h (by decide)), (fun h => absurd h (by decide))⟩
theorem ak_mp175 : ak_mp (⟨"SpanCopierModel", "why", "(II)I"⟩, prog_15_method_84_code, (Option.some Jvm.ClassFile.FieldType.int), 0) (3, ai_k175, 0, 0) := ⟨⟨ak_W_of (ak_tw_mem (n := 8007) (by decide +kernel)) rfl, ak_W_of (ak_tw_mem (n := 1015) (by decide +kernel)) rfl, by decide +kernel, by decide +kernel, by decide, by decide +kernel, by decide +kernel⟩, fun _ => ⟨ak_W_of (ak_tw_mem (n := 8006) (by decide +kernel)) rfl, ak_W_of (ak_sel (j := 171) (n := _) (by rfl)) rfl⟩, (fun h => absurd h (by decide)), (fun h => absurd h (by decide))⟩
theorem ak_mp176 : ak_mp (⟨"java/lang/Math", "min", "(II)I"⟩, prog_20_method_69_code, (Option.some Jvm.ClassFile.FieldType.int), 2) (2, ai_k176, 0, 0) := ⟨⟨ak_W_of (ak_tw_mem (n := 2199) (by decide +kernel)) rfl, ak_W_of (ak_tw_mem (n := 1016) (by decide +kernel)) rfl, by decide +kernel, by decide +kernel, by decide, by decide +kernel, by decide +kernel⟩, (fun h => absurd h (by decide)), (fun h => absurd h (by decide)), fun _ => ak_W_of (ak_tw_mem (n := 2198) (by decide +kernel)) rfl⟩
theorem ak_mp177 : ak_mp (⟨"java/util/Arrays", "fill", "([BB)V"⟩, prog_24_method_109_code, (Option.none : Option Jvm.ClassFile.FieldType), 2) (4, ai_k177, 0, 0) := ⟨⟨ak_W_of (ak_tw_mem (n := 3092) (by decide +kernel)) rfl, ak_W_of (ak_tw_mem (n := 1014) (by decide +kernel)) rfl, by decide +kernel, by decide +kernel, by decide, by decide +kernel, by decide +kernel⟩, (fun h => absurd h (by decide)), (fun h => absurd h (by decide)), fun _ => ak_W_of (ak_tw_mem (n := 3091) (by decide +kernel)) rfl⟩
theorem ak_mp178 : ak_mp (⟨"java/util/Arrays", "fill", "([II)V"⟩, prog_24_method_103_code, (Option.none : Option Jvm.ClassFile.FieldType), 2) (4, ai_k178, 0, 0) := ⟨⟨ak_W_of (ak_tw_mem (n := 2139) (by decide +kernel)) rfl, ak_W_of (ak_tw_mem (n := 1014) (by decide +kernel)) rfl, by decide +kernel, by decide +kernel, by decide, by decide +kernel, by decide +kernel⟩, (fun h => absurd h (by decide)), (fun h => absurd h (by decide)), fun _ => ak_W_of (ak_tw_mem (n := 2138) (by decide +kernel)) rfl⟩
end
section
theorem ak_ck0 : ∀ e ∈ ai_k0, ak_ck ⟨"SpanCopier", "<init>", "()V"⟩ prog_1_method_1_code (Option.none : Option Jvm.ClassFile.FieldType) e = true := by decide +kernel
theorem ak_ck1 : ∀ e ∈ ai_k1, ak_ck ⟨"SpanCopier", "book", "(I)I"⟩ prog_1_method_36_code (Option.some Jvm.ClassFile.FieldType.int) e = true := by decide +kernel
theorem ak_ck2 : ∀ e ∈ ai_k2, ak_ck ⟨"SpanCopier", "closeText", "()V"⟩ prog_1_method_5_code (Option.none : Option Jvm.ClassFile.FieldType) e = true := by decide +kernel
theorem ak_ck3 : ∀ e ∈ ai_k3, ak_ck ⟨"SpanCopier", "count", "(I)I"⟩ prog_1_method_43_code (Option.some Jvm.ClassFile.FieldType.int) e = true := by decide +kernel
theorem ak_ck4 : ∀ e ∈ ai_k4, ak_ck ⟨"SpanCopier", "crash", "()I"⟩ prog_1_method_18_code (Option.some Jvm.ClassFile.FieldType.int) e = true := by decide +kernel
theorem ak_ck5 : ∀ e ∈ ai_k5, ak_ck ⟨"SpanCopier", "drawn", "(II)I"⟩ prog_1_method_33_code (Option.some Jvm.ClassFile.FieldType.int) e = true := by decide +kernel
theorem ak_ck6 : ∀ e ∈ ai_k6, ak_ck ⟨"SpanCopier", "end", "(I)Z"⟩ prog_1_method_3_code (Option.some Jvm.ClassFile.FieldType.boolean) e = true := by decide +kernel
theorem ak_ck7 : ∀ e ∈ ai_k7, ak_ck ⟨"SpanCopier", "fault", "()I"⟩ prog_1_method_6_code (Option.some Jvm.ClassFile.FieldType.int) e = true := by decide +kernel
theorem ak_ck8 : ∀ e ∈ ai_k8, ak_ck ⟨"SpanCopier", "feed", "(IIIII)I"⟩ prog_1_method_2_code (Option.some Jvm.ClassFile.FieldType.int) e = true := by decide +kernel
theorem ak_ck9 : ∀ e ∈ ai_k9, ak_ck ⟨"SpanCopier", "file", "()I"⟩ prog_1_method_7_code (Option.some Jvm.ClassFile.FieldType.int) e = true := by decide +kernel
theorem ak_ck10 : ∀ e ∈ ai_k10, ak_ck ⟨"SpanCopier", "gap", "(II)I"⟩ prog_1_method_23_code (Option.some Jvm.ClassFile.FieldType.int) e = true := by decide +kernel
theorem ak_ck11 : ∀ e ∈ ai_k11, ak_ck ⟨"SpanCopier", "image", "(I)Z"⟩ prog_1_method_41_code (Option.some Jvm.ClassFile.FieldType.boolean) e = true := by decide +kernel
theorem ak_ck12 : ∀ e ∈ ai_k12, ak_ck ⟨"SpanCopier", "journal", "(I)I"⟩ prog_1_method_28_code (Option.some Jvm.ClassFile.FieldType.int) e = true := by decide +kernel
theorem ak_ck13 : ∀ e ∈ ai_k13, ak_ck ⟨"SpanCopier", "keepLooked", "()V"⟩ prog_1_method_9_code (Option.none : Option Jvm.ClassFile.FieldType) e = true := by decide +kernel
theorem ak_ck14 : ∀ e ∈ ai_k14, ak_ck ⟨"SpanCopier", "keptIfAbove", "(I)I"⟩ prog_1_method_11_code (Option.some Jvm.ClassFile.FieldType.int) e = true := by decide +kernel
theorem ak_ck15 : ∀ e ∈ ai_k15, ak_ck ⟨"SpanCopier", "keptIfDone", "(I)I"⟩ prog_1_method_13_code (Option.some Jvm.ClassFile.FieldType.int) e = true := by decide +kernel
theorem ak_ck16 : ∀ e ∈ ai_k16, ak_ck ⟨"SpanCopier", "late", "(II)I"⟩ prog_1_method_15_code (Option.some Jvm.ClassFile.FieldType.int) e = true := by decide +kernel
theorem ak_ck17 : ∀ e ∈ ai_k17, ak_ck ⟨"SpanCopier", "lookBefore", "()V"⟩ prog_1_method_8_code (Option.none : Option Jvm.ClassFile.FieldType) e = true := by decide +kernel
theorem ak_ck18 : ∀ e ∈ ai_k18, ak_ck ⟨"SpanCopier", "lose", "(I)I"⟩ prog_1_method_12_code (Option.some Jvm.ClassFile.FieldType.int) e = true := by decide +kernel
theorem ak_ck19 : ∀ e ∈ ai_k19, ak_ck ⟨"SpanCopier", "need", "()I"⟩ prog_1_method_29_code (Option.some Jvm.ClassFile.FieldType.int) e = true := by decide +kernel
theorem ak_ck20 : ∀ e ∈ ai_k20, ak_ck ⟨"SpanCopier", "now", "(I)I"⟩ prog_1_method_20_code (Option.some Jvm.ClassFile.FieldType.int) e = true := by decide +kernel
theorem ak_ck21 : ∀ e ∈ ai_k21, ak_ck ⟨"SpanCopier", "odds", "(II)I"⟩ prog_1_method_34_code (Option.some Jvm.ClassFile.FieldType.int) e = true := by decide +kernel
theorem ak_ck22 : ∀ e ∈ ai_k22, ak_ck ⟨"SpanCopier", "order", "()I"⟩ prog_1_method_4_code (Option.some Jvm.ClassFile.FieldType.int) e = true := by decide +kernel
theorem ak_ck23 : ∀ e ∈ ai_k23, ak_ck ⟨"SpanCopier", "over", "()I"⟩ prog_1_method_30_code (Option.some Jvm.ClassFile.FieldType.int) e = true := by decide +kernel
theorem ak_ck24 : ∀ e ∈ ai_k24, ak_ck ⟨"SpanCopier", "overAs", "(I)I"⟩ prog_1_method_32_code (Option.some Jvm.ClassFile.FieldType.int) e = true := by decide +kernel
theorem ak_ck25 : ∀ e ∈ ai_k25, ak_ck ⟨"SpanCopier", "prompt", "()I"⟩ prog_1_method_17_code (Option.some Jvm.ClassFile.FieldType.int) e = true := by decide +kernel
theorem ak_ck26 : ∀ e ∈ ai_k26, ak_ck ⟨"SpanCopier", "resend", "(II)I"⟩ prog_1_method_24_code (Option.some Jvm.ClassFile.FieldType.int) e = true := by decide +kernel
theorem ak_ck27 : ∀ e ∈ ai_k27, ak_ck ⟨"SpanCopier", "restore", "(I)Z"⟩ prog_1_method_42_code (Option.some Jvm.ClassFile.FieldType.boolean) e = true := by decide +kernel
theorem ak_ck28 : ∀ e ∈ ai_k28, ak_ck ⟨"SpanCopier", "said", "(I)I"⟩ prog_1_method_40_code (Option.some Jvm.ClassFile.FieldType.int) e = true := by decide +kernel
theorem ak_ck29 : ∀ e ∈ ai_k29, ak_ck ⟨"SpanCopier", "sentence", "()I"⟩ prog_1_method_39_code (Option.some Jvm.ClassFile.FieldType.int) e = true := by decide +kernel
theorem ak_ck30 : ∀ e ∈ ai_k30, ak_ck ⟨"SpanCopier", "span", "(III)I"⟩ prog_1_method_22_code (Option.some Jvm.ClassFile.FieldType.int) e = true := by decide +kernel
theorem ak_ck31 : ∀ e ∈ ai_k31, ak_ck ⟨"SpanCopier", "spoil", "(I)I"⟩ prog_1_method_16_code (Option.some Jvm.ClassFile.FieldType.int) e = true := by decide +kernel
theorem ak_ck32 : ∀ e ∈ ai_k32, ak_ck ⟨"SpanCopier", "store", "()I"⟩ prog_1_method_27_code (Option.some Jvm.ClassFile.FieldType.int) e = true := by decide +kernel
theorem ak_ck33 : ∀ e ∈ ai_k33, ak_ck ⟨"SpanCopier", "sum", "(I)I"⟩ prog_1_method_26_code (Option.some Jvm.ClassFile.FieldType.int) e = true := by decide +kernel
theorem ak_ck34 : ∀ e ∈ ai_k34, ak_ck ⟨"SpanCopier", "taken", "(I)I"⟩ prog_1_method_25_code (Option.some Jvm.ClassFile.FieldType.int) e = true := by decide +kernel
theorem ak_ck35 : ∀ e ∈ ai_k35, ak_ck ⟨"SpanCopier", "tellJudged", "(IILSpanCopier$World;)V"⟩ prog_1_method_37_code (Option.none : Option Jvm.ClassFile.FieldType) e = true := by decide +kernel
theorem ak_ck36 : ∀ e ∈ ai_k36, ak_ck ⟨"SpanCopier", "ticks", "(I)I"⟩ prog_1_method_10_code (Option.some Jvm.ClassFile.FieldType.int) e = true := by decide +kernel
theorem ak_ck37 : ∀ e ∈ ai_k37, ak_ck ⟨"SpanCopier", "told", "(I)I"⟩ prog_1_method_38_code (Option.some Jvm.ClassFile.FieldType.int) e = true := by decide +kernel
theorem ak_ck38 : ∀ e ∈ ai_k38, ak_ck ⟨"SpanCopier", "trialWorld", "()LSpanCopier$World;"⟩ prog_1_method_31_code (Option.some (Jvm.ClassFile.FieldType.object "SpanCopier$World")) e = true := by decide +kernel
theorem ak_ck39 : ∀ e ∈ ai_k39, ak_ck ⟨"SpanCopier", "twice", "(I)I"⟩ prog_1_method_14_code (Option.some Jvm.ClassFile.FieldType.int) e = true := by decide +kernel
theorem ak_ck40 : ∀ e ∈ ai_k40, ak_ck ⟨"SpanCopier", "undo", "()I"⟩ prog_1_method_19_code (Option.some Jvm.ClassFile.FieldType.int) e = true := by decide +kernel
end
section
theorem ak_ck41 : ∀ e ∈ ai_k41, ak_ck ⟨"SpanCopier", "unit", "(II)I"⟩ prog_1_method_21_code (Option.some Jvm.ClassFile.FieldType.int) e = true := by decide +kernel
theorem ak_ck42 : ∀ e ∈ ai_k42, ak_ck ⟨"SpanCopier$Book", "<init>", "()V"⟩ prog_3_method_1_code (Option.none : Option Jvm.ClassFile.FieldType) e = true := by decide +kernel
theorem ak_ck43 : ∀ e ∈ ai_k43, ak_ck ⟨"SpanCopier$Book", "readLines", "(LSpanCopier$Tape;)Z"⟩ prog_3_method_2_code (Option.some Jvm.ClassFile.FieldType.boolean) e = true := by decide +kernel
theorem ak_ck44 : ∀ e ∈ ai_k44, ak_ck ⟨"SpanCopier$Link", "<init>", "()V"⟩ prog_4_method_1_code (Option.none : Option Jvm.ClassFile.FieldType) e = true := by decide +kernel
theorem ak_ck45 : ∀ e ∈ ai_k45, ak_ck ⟨"SpanCopier$Link", "clear", "()V"⟩ prog_4_method_2_code (Option.none : Option Jvm.ClassFile.FieldType) e = true := by decide +kernel
theorem ak_ck46 : ∀ e ∈ ai_k46, ak_ck ⟨"SpanCopier$Link", "copyFrom", "(LSpanCopier$Link;)V"⟩ prog_4_method_3_code (Option.none : Option Jvm.ClassFile.FieldType) e = true := by decide +kernel
theorem ak_ck47 : ∀ e ∈ ai_k47, ak_ck ⟨"SpanCopier$Link", "delay", "(II)I"⟩ prog_4_method_14_code (Option.some Jvm.ClassFile.FieldType.int) e = true := by decide +kernel
theorem ak_ck48 : ∀ e ∈ ai_k48, ak_ck ⟨"SpanCopier$Link", "flip", "(I)I"⟩ prog_4_method_15_code (Option.some Jvm.ClassFile.FieldType.int) e = true := by decide +kernel
theorem ak_ck49 : ∀ e ∈ ai_k49, ak_ck ⟨"SpanCopier$Link", "has", "(I)Z"⟩ prog_4_method_7_code (Option.some Jvm.ClassFile.FieldType.boolean) e = true := by decide +kernel
theorem ak_ck50 : ∀ e ∈ ai_k50, ak_ck ⟨"SpanCopier$Link", "remove", "(I)I"⟩ prog_4_method_12_code (Option.some Jvm.ClassFile.FieldType.int) e = true := by decide +kernel
theorem ak_ck51 : ∀ e ∈ ai_k51, ak_ck ⟨"SpanCopier$Link", "repeat", "(I)I"⟩ prog_4_method_13_code (Option.some Jvm.ClassFile.FieldType.int) e = true := by decide +kernel
theorem ak_ck52 : ∀ e ∈ ai_k52, ak_ck ⟨"SpanCopier$Order", "<init>", "()V"⟩ prog_5_method_1_code (Option.none : Option Jvm.ClassFile.FieldType) e = true := by decide +kernel
theorem ak_ck53 : ∀ e ∈ ai_k53, ak_ck ⟨"SpanCopier$Order", "readLines", "(LSpanCopier$Tape;)I"⟩ prog_5_method_3_code (Option.some Jvm.ClassFile.FieldType.int) e = true := by decide +kernel
theorem ak_ck54 : ∀ e ∈ ai_k54, ak_ck ⟨"SpanCopier$Order", "setting", "(I)I"⟩ prog_5_method_2_code (Option.some Jvm.ClassFile.FieldType.int) e = true := by decide +kernel
theorem ak_ck55 : ∀ e ∈ ai_k55, ak_ck ⟨"SpanCopier$Places", "<init>", "()V"⟩ prog_6_method_1_code (Option.none : Option Jvm.ClassFile.FieldType) e = true := by decide +kernel
theorem ak_ck56 : ∀ e ∈ ai_k56, ak_ck ⟨"SpanCopier$Places", "clear", "()V"⟩ prog_6_method_3_code (Option.none : Option Jvm.ClassFile.FieldType) e = true := by decide +kernel
theorem ak_ck57 : ∀ e ∈ ai_k57, ak_ck ⟨"SpanCopier$Places", "copyFrom", "(LSpanCopier$Places;)V"⟩ prog_6_method_2_code (Option.none : Option Jvm.ClassFile.FieldType) e = true := by decide +kernel
theorem ak_ck58 : ∀ e ∈ ai_k58, ak_ck ⟨"SpanCopier$Places", "countSpans", "()I"⟩ prog_6_method_10_code (Option.some Jvm.ClassFile.FieldType.int) e = true := by decide +kernel
theorem ak_ck59 : ∀ e ∈ ai_k59, ak_ck ⟨"SpanCopier$Places", "edge", "(II)I"⟩ prog_6_method_11_code (Option.some Jvm.ClassFile.FieldType.int) e = true := by decide +kernel
theorem ak_ck60 : ∀ e ∈ ai_k60, ak_ck ⟨"SpanCopier$Places", "has", "(I)Z"⟩ prog_6_method_4_code (Option.some Jvm.ClassFile.FieldType.boolean) e = true := by decide +kernel
theorem ak_ck61 : ∀ e ∈ ai_k61, ak_ck ⟨"SpanCopier$Places", "startsSpan", "(I)Z"⟩ prog_6_method_9_code (Option.some Jvm.ClassFile.FieldType.boolean) e = true := by decide +kernel
theorem ak_ck62 : ∀ e ∈ ai_k62, ak_ck ⟨"SpanCopier$Sender", "<init>", "()V"⟩ prog_7_method_1_code (Option.none : Option Jvm.ClassFile.FieldType) e = true := by decide +kernel
theorem ak_ck63 : ∀ e ∈ ai_k63, ak_ck ⟨"SpanCopier$Sender", "act", "(LSpanCopier$World;)V"⟩ prog_7_method_9_code (Option.none : Option Jvm.ClassFile.FieldType) e = true := by decide +kernel
theorem ak_ck64 : ∀ e ∈ ai_k64, ak_ck ⟨"SpanCopier$Sender", "clear", "()V"⟩ prog_7_method_2_code (Option.none : Option Jvm.ClassFile.FieldType) e = true := by decide +kernel
theorem ak_ck65 : ∀ e ∈ ai_k65, ak_ck ⟨"SpanCopier$Sender", "copyFrom", "(LSpanCopier$Sender;)V"⟩ prog_7_method_3_code (Option.none : Option Jvm.ClassFile.FieldType) e = true := by decide +kernel
theorem ak_ck66 : ∀ e ∈ ai_k66, ak_ck ⟨"SpanCopier$Sender", "isActive", "()Z"⟩ prog_7_method_4_code (Option.some Jvm.ClassFile.FieldType.boolean) e = true := by decide +kernel
theorem ak_ck67 : ∀ e ∈ ai_k67, ak_ck ⟨"SpanCopier$Sentence", "<init>", "()V"⟩ prog_8_method_1_code (Option.none : Option Jvm.ClassFile.FieldType) e = true := by decide +kernel
theorem ak_ck68 : ∀ e ∈ ai_k68, ak_ck ⟨"SpanCopier$Sentence", "isMeasure", "(LSpanCopier$Word;)Z"⟩ prog_8_method_6_code (Option.some Jvm.ClassFile.FieldType.boolean) e = true := by decide +kernel
theorem ak_ck69 : ∀ e ∈ ai_k69, ak_ck ⟨"SpanCopier$Sentence", "isSaid", "(LSpanCopier$Word;)Z"⟩ prog_8_method_5_code (Option.some Jvm.ClassFile.FieldType.boolean) e = true := by decide +kernel
theorem ak_ck70 : ∀ e ∈ ai_k70, ak_ck ⟨"SpanCopier$Sentence", "readAll", "(LSpanCopier$Tape;I)Z"⟩ prog_8_method_3_code (Option.some Jvm.ClassFile.FieldType.boolean) e = true := by decide +kernel
theorem ak_ck71 : ∀ e ∈ ai_k71, ak_ck ⟨"SpanCopier$Sentence", "readCond", "(LSpanCopier$Tape;I)Z"⟩ prog_8_method_2_code (Option.some Jvm.ClassFile.FieldType.boolean) e = true := by decide +kernel
theorem ak_ck72 : ∀ e ∈ ai_k72, ak_ck ⟨"SpanCopier$Sentence", "readOne", "(LSpanCopier$Tape;I)Z"⟩ prog_8_method_4_code (Option.some Jvm.ClassFile.FieldType.boolean) e = true := by decide +kernel
theorem ak_ck73 : ∀ e ∈ ai_k73, ak_ck ⟨"SpanCopier$Shelf", "<init>", "()V"⟩ prog_9_method_1_code (Option.none : Option Jvm.ClassFile.FieldType) e = true := by decide +kernel
theorem ak_ck74 : ∀ e ∈ ai_k74, ak_ck ⟨"SpanCopier$Shelf", "clear", "(I)V"⟩ prog_9_method_2_code (Option.none : Option Jvm.ClassFile.FieldType) e = true := by decide +kernel
theorem ak_ck75 : ∀ e ∈ ai_k75, ak_ck ⟨"SpanCopier$Shelf", "copyFrom", "(LSpanCopier$Shelf;)V"⟩ prog_9_method_3_code (Option.none : Option Jvm.ClassFile.FieldType) e = true := by decide +kernel
theorem ak_ck76 : ∀ e ∈ ai_k76, ak_ck ⟨"SpanCopier$Shelf", "entry", "(I)I"⟩ prog_9_method_4_code (Option.some Jvm.ClassFile.FieldType.int) e = true := by decide +kernel
theorem ak_ck77 : ∀ e ∈ ai_k77, ak_ck ⟨"SpanCopier$Taker", "<init>", "()V"⟩ prog_10_method_1_code (Option.none : Option Jvm.ClassFile.FieldType) e = true := by decide +kernel
theorem ak_ck78 : ∀ e ∈ ai_k78, ak_ck ⟨"SpanCopier$Taker", "act", "(LSpanCopier$World;)V"⟩ prog_10_method_14_code (Option.none : Option Jvm.ClassFile.FieldType) e = true := by decide +kernel
theorem ak_ck79 : ∀ e ∈ ai_k79, ak_ck ⟨"SpanCopier$Taker", "byteAt", "(I)I"⟩ prog_10_method_6_code (Option.some Jvm.ClassFile.FieldType.int) e = true := by decide +kernel
theorem ak_ck80 : ∀ e ∈ ai_k80, ak_ck ⟨"SpanCopier$Taker", "clear", "()V"⟩ prog_10_method_2_code (Option.none : Option Jvm.ClassFile.FieldType) e = true := by decide +kernel
theorem ak_ck81 : ∀ e ∈ ai_k81, ak_ck ⟨"SpanCopier$Taker", "copyFrom", "(LSpanCopier$Taker;)V"⟩ prog_10_method_3_code (Option.none : Option Jvm.ClassFile.FieldType) e = true := by decide +kernel
theorem ak_ck82 : ∀ e ∈ ai_k82, ak_ck ⟨"SpanCopier$Taker", "hasByte", "(I)Z"⟩ prog_10_method_5_code (Option.some Jvm.ClassFile.FieldType.boolean) e = true := by decide +kernel
theorem ak_ck83 : ∀ e ∈ ai_k83, ak_ck ⟨"SpanCopier$Taker", "sumOfBytes", "()I"⟩ prog_10_method_7_code (Option.some Jvm.ClassFile.FieldType.int) e = true := by decide +kernel
theorem ak_ck84 : ∀ e ∈ ai_k84, ak_ck ⟨"SpanCopier$Tape", "<init>", "()V"⟩ prog_11_method_1_code (Option.none : Option Jvm.ClassFile.FieldType) e = true := by decide +kernel
theorem ak_ck85 : ∀ e ∈ ai_k85, ak_ck ⟨"SpanCopier$Tape", "fail", "(I)Z"⟩ prog_11_method_4_code (Option.some Jvm.ClassFile.FieldType.boolean) e = true := by decide +kernel
theorem ak_ck86 : ∀ e ∈ ai_k86, ak_ck ⟨"SpanCopier$Tape", "open", "(I)V"⟩ prog_11_method_3_code (Option.none : Option Jvm.ClassFile.FieldType) e = true := by decide +kernel
theorem ak_ck87 : ∀ e ∈ ai_k87, ak_ck ⟨"SpanCopier$Tape", "put", "(I)V"⟩ prog_11_method_2_code (Option.none : Option Jvm.ClassFile.FieldType) e = true := by decide +kernel
theorem ak_ck88 : ∀ e ∈ ai_k88, ak_ck ⟨"SpanCopier$Tape", "step", "()V"⟩ prog_11_method_6_code (Option.none : Option Jvm.ClassFile.FieldType) e = true := by decide +kernel
theorem ak_ck89 : ∀ e ∈ ai_k89, ak_ck ⟨"SpanCopier$World", "<init>", "()V"⟩ prog_13_method_1_code (Option.none : Option Jvm.ClassFile.FieldType) e = true := by decide +kernel
end
section
theorem ak_ck90 : ∀ e ∈ ai_k90, ak_ck ⟨"SpanCopier$World", "begin", "(LSpanCopier$Order;)V"⟩ prog_13_method_3_code (Option.none : Option Jvm.ClassFile.FieldType) e = true := by decide +kernel
theorem ak_ck91 : ∀ e ∈ ai_k91, ak_ck ⟨"SpanCopier$World", "copyFrom", "(LSpanCopier$World;)V"⟩ prog_13_method_2_code (Option.none : Option Jvm.ClassFile.FieldType) e = true := by decide +kernel
theorem ak_ck92 : ∀ e ∈ ai_k92, ak_ck ⟨"SpanCopier$World", "crashTaker", "()I"⟩ prog_13_method_11_code (Option.some Jvm.ClassFile.FieldType.int) e = true := by decide +kernel
theorem ak_ck93 : ∀ e ∈ ai_k93, ak_ck ⟨"SpanCopier$World", "draw", "(I)I"⟩ prog_13_method_9_code (Option.some Jvm.ClassFile.FieldType.int) e = true := by decide +kernel
theorem ak_ck94 : ∀ e ∈ ai_k94, ak_ck ⟨"SpanCopier$World", "drawWhatHappens", "()V"⟩ prog_13_method_8_code (Option.none : Option Jvm.ClassFile.FieldType) e = true := by decide +kernel
theorem ak_ck95 : ∀ e ∈ ai_k95, ak_ck ⟨"SpanCopier$World", "passTick", "()V"⟩ prog_13_method_7_code (Option.none : Option Jvm.ClassFile.FieldType) e = true := by decide +kernel
theorem ak_ck96 : ∀ e ∈ ai_k96, ak_ck ⟨"SpanCopier$World", "passTicks", "(I)I"⟩ prog_13_method_6_code (Option.some Jvm.ClassFile.FieldType.int) e = true := by decide +kernel
theorem ak_ck97 : ∀ e ∈ ai_k97, ak_ck ⟨"SpanCopier$World", "restart", "([B)V"⟩ prog_13_method_5_code (Option.none : Option Jvm.ClassFile.FieldType) e = true := by decide +kernel
theorem ak_ck98 : ∀ e ∈ ai_k98, ak_ck ⟨"SpanCopier$World", "sendPrompt", "()I"⟩ prog_13_method_10_code (Option.some Jvm.ClassFile.FieldType.int) e = true := by decide +kernel
theorem ak_ck99 : ∀ e ∈ ai_k99, ak_ck ⟨"SpanCopierModel", "<init>", "()V"⟩ prog_15_method_26_code (Option.none : Option Jvm.ClassFile.FieldType) e = true := by decide +kernel
theorem ak_ck100 : ∀ e ∈ ai_k100, ak_ck ⟨"SpanCopierModel", "act", "(IIIZ)I"⟩ prog_15_method_87_code (Option.some Jvm.ClassFile.FieldType.int) e = true := by decide +kernel
theorem ak_ck101 : ∀ e ∈ ai_k101, ak_ck ⟨"SpanCopierModel", "allCome", "()V"⟩ prog_15_method_65_code (Option.none : Option Jvm.ClassFile.FieldType) e = true := by decide +kernel
theorem ak_ck102 : ∀ e ∈ ai_k102, ak_ck ⟨"SpanCopierModel", "bad", "(I)Z"⟩ prog_15_method_22_code (Option.some Jvm.ClassFile.FieldType.boolean) e = true := by decide +kernel
theorem ak_ck103 : ∀ e ∈ ai_k103, ak_ck ⟨"SpanCopierModel", "begin", "(I)V"⟩ prog_15_method_25_code (Option.none : Option Jvm.ClassFile.FieldType) e = true := by decide +kernel
theorem ak_ck104 : ∀ e ∈ ai_k104, ak_ck ⟨"SpanCopierModel", "book", "(I)I"⟩ prog_15_method_119_code (Option.some Jvm.ClassFile.FieldType.int) e = true := by decide +kernel
theorem ak_ck105 : ∀ e ∈ ai_k105, ak_ck ⟨"SpanCopierModel", "come", "(I)V"⟩ prog_15_method_3_code (Option.none : Option Jvm.ClassFile.FieldType) e = true := by decide +kernel
theorem ak_ck106 : ∀ e ∈ ai_k106, ak_ck ⟨"SpanCopierModel", "comeBack", "([II)V"⟩ prog_15_method_79_code (Option.none : Option Jvm.ClassFile.FieldType) e = true := by decide +kernel
theorem ak_ck107 : ∀ e ∈ ai_k107, ak_ck ⟨"SpanCopierModel", "count", "(I)I"⟩ prog_15_method_135_code (Option.some Jvm.ClassFile.FieldType.int) e = true := by decide +kernel
theorem ak_ck108 : ∀ e ∈ ai_k108, ak_ck ⟨"SpanCopierModel", "crash", "()I"⟩ prog_15_method_93_code (Option.some Jvm.ClassFile.FieldType.int) e = true := by decide +kernel
theorem ak_ck109 : ∀ e ∈ ai_k109, ak_ck ⟨"SpanCopierModel", "doIf", "(III)V"⟩ prog_15_method_110_code (Option.none : Option Jvm.ClassFile.FieldType) e = true := by decide +kernel
theorem ak_ck110 : ∀ e ∈ ai_k110, ak_ck ⟨"SpanCopierModel", "draw", "(I)I"⟩ prog_15_method_109_code (Option.some Jvm.ClassFile.FieldType.int) e = true := by decide +kernel
theorem ak_ck111 : ∀ e ∈ ai_k111, ak_ck ⟨"SpanCopierModel", "drawTicks", "(II)I"⟩ prog_15_method_113_code (Option.some Jvm.ClassFile.FieldType.int) e = true := by decide +kernel
theorem ak_ck112 : ∀ e ∈ ai_k112, ak_ck ⟨"SpanCopierModel", "drawn", "(II)I"⟩ prog_15_method_114_code (Option.some Jvm.ClassFile.FieldType.int) e = true := by decide +kernel
theorem ak_ck113 : ∀ e ∈ ai_k113, ak_ck ⟨"SpanCopierModel", "drawsFirst", "()V"⟩ prog_15_method_112_code (Option.none : Option Jvm.ClassFile.FieldType) e = true := by decide +kernel
theorem ak_ck114 : ∀ e ∈ ai_k114, ak_ck ⟨"SpanCopierModel", "drawsUnit", "(I)V"⟩ prog_15_method_111_code (Option.none : Option Jvm.ClassFile.FieldType) e = true := by decide +kernel
theorem ak_ck115 : ∀ e ∈ ai_k115, ak_ck ⟨"SpanCopierModel", "end", "(I)Z"⟩ prog_15_method_5_code (Option.some Jvm.ClassFile.FieldType.boolean) e = true := by decide +kernel
theorem ak_ck116 : ∀ e ∈ ai_k116, ak_ck ⟨"SpanCopierModel", "fault", "()I"⟩ prog_15_method_41_code (Option.some Jvm.ClassFile.FieldType.int) e = true := by decide +kernel
theorem ak_ck117 : ∀ e ∈ ai_k117, ak_ck ⟨"SpanCopierModel", "feed", "(IIIII)I"⟩ prog_15_method_4_code (Option.some Jvm.ClassFile.FieldType.int) e = true := by decide +kernel
theorem ak_ck118 : ∀ e ∈ ai_k118, ak_ck ⟨"SpanCopierModel", "file", "()I"⟩ prog_15_method_82_code (Option.some Jvm.ClassFile.FieldType.int) e = true := by decide +kernel
end
section
theorem ak_ck119 : ∀ e ∈ ai_k119, ak_ck ⟨"SpanCopierModel", "fileSum", "()I"⟩ prog_15_method_43_code (Option.some Jvm.ClassFile.FieldType.int) e = true := by decide +kernel
theorem ak_ck120 : ∀ e ∈ ai_k120, ak_ck ⟨"SpanCopierModel", "gap", "(II)I"⟩ prog_15_method_99_code (Option.some Jvm.ClassFile.FieldType.int) e = true := by decide +kernel
theorem ak_ck121 : ∀ e ∈ ai_k121, ak_ck ⟨"SpanCopierModel", "go", "()V"⟩ prog_15_method_16_code (Option.none : Option Jvm.ClassFile.FieldType) e = true := by decide +kernel
theorem ak_ck122 : ∀ e ∈ ai_k122, ak_ck ⟨"SpanCopierModel", "image", "(I)Z"⟩ prog_15_method_133_code (Option.some Jvm.ClassFile.FieldType.boolean) e = true := by decide +kernel
theorem ak_ck123 : ∀ e ∈ ai_k123, ak_ck ⟨"SpanCopierModel", "isBusy", "()Z"⟩ prog_15_method_61_code (Option.some Jvm.ClassFile.FieldType.boolean) e = true := by decide +kernel
theorem ak_ck124 : ∀ e ∈ ai_k124, ak_ck ⟨"SpanCopierModel", "isGap", "(I)Z"⟩ prog_15_method_45_code (Option.some Jvm.ClassFile.FieldType.boolean) e = true := by decide +kernel
theorem ak_ck125 : ∀ e ∈ ai_k125, ak_ck ⟨"SpanCopierModel", "isIn", "(III)Z"⟩ prog_15_method_7_code (Option.some Jvm.ClassFile.FieldType.boolean) e = true := by decide +kernel
theorem ak_ck126 : ∀ e ∈ ai_k126, ak_ck ⟨"SpanCopierModel", "isMarked", "(II)Z"⟩ prog_15_method_46_code (Option.some Jvm.ClassFile.FieldType.boolean) e = true := by decide +kernel
theorem ak_ck127 : ∀ e ∈ ai_k127, ak_ck ⟨"SpanCopierModel", "isSign", "(I)Z"⟩ prog_15_method_20_code (Option.some Jvm.ClassFile.FieldType.boolean) e = true := by decide +kernel
theorem ak_ck128 : ∀ e ∈ ai_k128, ak_ck ⟨"SpanCopierModel", "isUnit", "(I)Z"⟩ prog_15_method_51_code (Option.some Jvm.ClassFile.FieldType.boolean) e = true := by decide +kernel
theorem ak_ck129 : ∀ e ∈ ai_k129, ak_ck ⟨"SpanCopierModel", "isWord", "(I)Z"⟩ prog_15_method_19_code (Option.some Jvm.ClassFile.FieldType.boolean) e = true := by decide +kernel
theorem ak_ck130 : ∀ e ∈ ai_k130, ak_ck ⟨"SpanCopierModel", "journal", "(I)I"⟩ prog_15_method_104_code (Option.some Jvm.ClassFile.FieldType.int) e = true := by decide +kernel
theorem ak_ck131 : ∀ e ∈ ai_k131, ak_ck ⟨"SpanCopierModel", "late", "(II)I"⟩ prog_15_method_90_code (Option.some Jvm.ClassFile.FieldType.int) e = true := by decide +kernel
theorem ak_ck132 : ∀ e ∈ ai_k132, ak_ck ⟨"SpanCopierModel", "least", "(II)I"⟩ prog_15_method_10_code (Option.some Jvm.ClassFile.FieldType.int) e = true := by decide +kernel
theorem ak_ck133 : ∀ e ∈ ai_k133, ak_ck ⟨"SpanCopierModel", "lose", "(I)I"⟩ prog_15_method_88_code (Option.some Jvm.ClassFile.FieldType.int) e = true := by decide +kernel
theorem ak_ck134 : ∀ e ∈ ai_k134, ak_ck ⟨"SpanCopierModel", "need", "()I"⟩ prog_15_method_105_code (Option.some Jvm.ClassFile.FieldType.int) e = true := by decide +kernel
theorem ak_ck135 : ∀ e ∈ ai_k135, ak_ck ⟨"SpanCopierModel", "nextMark", "(IIZ)I"⟩ prog_15_method_47_code (Option.some Jvm.ClassFile.FieldType.int) e = true := by decide +kernel
theorem ak_ck136 : ∀ e ∈ ai_k136, ak_ck ⟨"SpanCopierModel", "now", "(I)I"⟩ prog_15_method_94_code (Option.some Jvm.ClassFile.FieldType.int) e = true := by decide +kernel
theorem ak_ck137 : ∀ e ∈ ai_k137, ak_ck ⟨"SpanCopierModel", "odds", "(II)I"⟩ prog_15_method_115_code (Option.some Jvm.ClassFile.FieldType.int) e = true := by decide +kernel
theorem ak_ck138 : ∀ e ∈ ai_k138, ak_ck ⟨"SpanCopierModel", "oneTick", "()V"⟩ prog_15_method_76_code (Option.none : Option Jvm.ClassFile.FieldType) e = true := by decide +kernel
theorem ak_ck139 : ∀ e ∈ ai_k139, ak_ck ⟨"SpanCopierModel", "order", "()I"⟩ prog_15_method_40_code (Option.some Jvm.ClassFile.FieldType.int) e = true := by decide +kernel
theorem ak_ck140 : ∀ e ∈ ai_k140, ak_ck ⟨"SpanCopierModel", "over", "()I"⟩ prog_15_method_107_code (Option.some Jvm.ClassFile.FieldType.int) e = true := by decide +kernel
theorem ak_ck141 : ∀ e ∈ ai_k141, ak_ck ⟨"SpanCopierModel", "overAs", "(I)I"⟩ prog_15_method_108_code (Option.some Jvm.ClassFile.FieldType.int) e = true := by decide +kernel
theorem ak_ck142 : ∀ e ∈ ai_k142, ak_ck ⟨"SpanCopierModel", "passTicks", "(I)I"⟩ prog_15_method_77_code (Option.some Jvm.ClassFile.FieldType.int) e = true := by decide +kernel
theorem ak_ck143 : ∀ e ∈ ai_k143, ak_ck ⟨"SpanCopierModel", "prompt", "()I"⟩ prog_15_method_92_code (Option.some Jvm.ClassFile.FieldType.int) e = true := by decide +kernel
theorem ak_ck144 : ∀ e ∈ ai_k144, ak_ck ⟨"SpanCopierModel", "readAnd", "()Z"⟩ prog_15_method_124_code (Option.some Jvm.ClassFile.FieldType.boolean) e = true := by decide +kernel
theorem ak_ck145 : ∀ e ∈ ai_k145, ak_ck ⟨"SpanCopierModel", "readOr", "()Z"⟩ prog_15_method_123_code (Option.some Jvm.ClassFile.FieldType.boolean) e = true := by decide +kernel
theorem ak_ck146 : ∀ e ∈ ai_k146, ak_ck ⟨"SpanCopierModel", "readSaid", "()Z"⟩ prog_15_method_125_code (Option.some Jvm.ClassFile.FieldType.boolean) e = true := by decide +kernel
theorem ak_ck147 : ∀ e ∈ ai_k147, ak_ck ⟨"SpanCopierModel", "refuse", "()I"⟩ prog_15_method_2_code (Option.some Jvm.ClassFile.FieldType.int) e = true := by decide +kernel
theorem ak_ck148 : ∀ e ∈ ai_k148, ak_ck ⟨"SpanCopierModel", "resend", "(II)I"⟩ prog_15_method_100_code (Option.some Jvm.ClassFile.FieldType.int) e = true := by decide +kernel
theorem ak_ck149 : ∀ e ∈ ai_k149, ak_ck ⟨"SpanCopierModel", "restore", "(I)Z"⟩ prog_15_method_134_code (Option.some Jvm.ClassFile.FieldType.boolean) e = true := by decide +kernel
theorem ak_ck150 : ∀ e ∈ ai_k150, ak_ck ⟨"SpanCopierModel", "said", "(I)I"⟩ prog_15_method_132_code (Option.some Jvm.ClassFile.FieldType.int) e = true := by decide +kernel
theorem ak_ck151 : ∀ e ∈ ai_k151, ak_ck ⟨"SpanCopierModel", "save", "([II)V"⟩ prog_15_method_78_code (Option.none : Option Jvm.ClassFile.FieldType) e = true := by decide +kernel
theorem ak_ck152 : ∀ e ∈ ai_k152, ak_ck ⟨"SpanCopierModel", "saveTaker", "()V"⟩ prog_15_method_29_code (Option.none : Option Jvm.ClassFile.FieldType) e = true := by decide +kernel
theorem ak_ck153 : ∀ e ∈ ai_k153, ak_ck ⟨"SpanCopierModel", "senderGoes", "()V"⟩ prog_15_method_68_code (Option.none : Option Jvm.ClassFile.FieldType) e = true := by decide +kernel
theorem ak_ck154 : ∀ e ∈ ai_k154, ak_ck ⟨"SpanCopierModel", "sentence", "()I"⟩ prog_15_method_130_code (Option.some Jvm.ClassFile.FieldType.int) e = true := by decide +kernel
theorem ak_ck155 : ∀ e ∈ ai_k155, ak_ck ⟨"SpanCopierModel", "snap", "()V"⟩ prog_15_method_80_code (Option.none : Option Jvm.ClassFile.FieldType) e = true := by decide +kernel
theorem ak_ck156 : ∀ e ∈ ai_k156, ak_ck ⟨"SpanCopierModel", "span", "(III)I"⟩ prog_15_method_98_code (Option.some Jvm.ClassFile.FieldType.int) e = true := by decide +kernel
theorem ak_ck157 : ∀ e ∈ ai_k157, ak_ck ⟨"SpanCopierModel", "spanEnd", "(III)I"⟩ prog_15_method_49_code (Option.some Jvm.ClassFile.FieldType.int) e = true := by decide +kernel
theorem ak_ck158 : ∀ e ∈ ai_k158, ak_ck ⟨"SpanCopierModel", "spansOf", "(I)I"⟩ prog_15_method_48_code (Option.some Jvm.ClassFile.FieldType.int) e = true := by decide +kernel
theorem ak_ck159 : ∀ e ∈ ai_k159, ak_ck ⟨"SpanCopierModel", "spoil", "(I)I"⟩ prog_15_method_91_code (Option.some Jvm.ClassFile.FieldType.int) e = true := by decide +kernel
theorem ak_ck160 : ∀ e ∈ ai_k160, ak_ck ⟨"SpanCopierModel", "startRead", "()V"⟩ prog_15_method_27_code (Option.none : Option Jvm.ClassFile.FieldType) e = true := by decide +kernel
end
section
theorem ak_ck161 : ∀ e ∈ ai_k161, ak_ck ⟨"SpanCopierModel", "startSo", "()V"⟩ prog_15_method_28_code (Option.none : Option Jvm.ClassFile.FieldType) e = true := by decide +kernel
theorem ak_ck162 : ∀ e ∈ ai_k162, ak_ck ⟨"SpanCopierModel", "stay", "(Z)V"⟩ prog_15_method_120_code (Option.none : Option Jvm.ClassFile.FieldType) e = true := by decide +kernel
theorem ak_ck163 : ∀ e ∈ ai_k163, ak_ck ⟨"SpanCopierModel", "store", "()I"⟩ prog_15_method_103_code (Option.some Jvm.ClassFile.FieldType.int) e = true := by decide +kernel
theorem ak_ck164 : ∀ e ∈ ai_k164, ak_ck ⟨"SpanCopierModel", "sum", "(I)I"⟩ prog_15_method_102_code (Option.some Jvm.ClassFile.FieldType.int) e = true := by decide +kernel
theorem ak_ck165 : ∀ e ∈ ai_k165, ak_ck ⟨"SpanCopierModel", "take", "()I"⟩ prog_15_method_6_code (Option.some Jvm.ClassFile.FieldType.int) e = true := by decide +kernel
theorem ak_ck166 : ∀ e ∈ ai_k166, ak_ck ⟨"SpanCopierModel", "taken", "(I)I"⟩ prog_15_method_101_code (Option.some Jvm.ClassFile.FieldType.int) e = true := by decide +kernel
theorem ak_ck167 : ∀ e ∈ ai_k167, ak_ck ⟨"SpanCopierModel", "takenSum", "()I"⟩ prog_15_method_44_code (Option.some Jvm.ClassFile.FieldType.int) e = true := by decide +kernel
theorem ak_ck168 : ∀ e ∈ ai_k168, ak_ck ⟨"SpanCopierModel", "takerGoes", "()V"⟩ prog_15_method_75_code (Option.none : Option Jvm.ClassFile.FieldType) e = true := by decide +kernel
theorem ak_ck169 : ∀ e ∈ ai_k169, ak_ck ⟨"SpanCopierModel", "thrown", "()I"⟩ prog_15_method_1_code (Option.some Jvm.ClassFile.FieldType.int) e = true := by decide +kernel
theorem ak_ck170 : ∀ e ∈ ai_k170, ak_ck ⟨"SpanCopierModel", "ticks", "(I)I"⟩ prog_15_method_83_code (Option.some Jvm.ClassFile.FieldType.int) e = true := by decide +kernel
theorem ak_ck171 : ∀ e ∈ ai_k171, ak_ck ⟨"SpanCopierModel", "told", "(I)I"⟩ prog_15_method_121_code (Option.some Jvm.ClassFile.FieldType.int) e = true := by decide +kernel
theorem ak_ck172 : ∀ e ∈ ai_k172, ak_ck ⟨"SpanCopierModel", "twice", "(I)I"⟩ prog_15_method_89_code (Option.some Jvm.ClassFile.FieldType.int) e = true := by decide +kernel
theorem ak_ck173 : ∀ e ∈ ai_k173, ak_ck ⟨"SpanCopierModel", "undo", "()I"⟩ prog_15_method_81_code (Option.some Jvm.ClassFile.FieldType.int) e = true := by decide +kernel
theorem ak_ck174 : ∀ e ∈ ai_k174, ak_ck ⟨"SpanCopierModel", "unit", "(II)I"⟩ prog_15_method_97_code (Option.some Jvm.ClassFile.FieldType.int) e = true := by decide +kernel
theorem ak_ck175 : ∀ e ∈ ai_k175, ak_ck ⟨"SpanCopierModel", "why", "(II)I"⟩ prog_15_method_84_code (Option.some Jvm.ClassFile.FieldType.int) e = true := by decide +kernel
theorem ak_ck176 : ∀ e ∈ ai_k176, ak_ck ⟨"java/lang/Math", "min", "(II)I"⟩ prog_20_method_69_code (Option.some Jvm.ClassFile.FieldType.int) e = true := by decide +kernel
theorem ak_ck177 : ∀ e ∈ ai_k177, ak_ck ⟨"java/util/Arrays", "fill", "([BB)V"⟩ prog_24_method_109_code (Option.none : Option Jvm.ClassFile.FieldType) e = true := by decide +kernel
theorem ak_ck178 : ∀ e ∈ ai_k178, ak_ck ⟨"java/util/Arrays", "fill", "([II)V"⟩ prog_24_method_103_code (Option.none : Option Jvm.ClassFile.FieldType) e = true := by decide +kernel
theorem ak_ck179_0 : ∀ e ∈ (ai_k179.drop 0).take 60, ak_ck ⟨"SpanCopierLaw", "law", "([I)Z"⟩ code ret e = true := by decide +kernel
theorem ak_ck179_1 : ∀ e ∈ (ai_k179.drop 60).take 60, ak_ck ⟨"SpanCopierLaw", "law", "([I)Z"⟩ code ret e = true := by decide +kernel
theorem ak_ck179_2 : ∀ e ∈ (ai_k179.drop 120).take 60, ak_ck ⟨"SpanCopierLaw", "law", "([I)Z"⟩ code ret e = true := by decide +kernel
theorem ak_ck179_3 : ∀ e ∈ (ai_k179.drop 180).take 60, ak_ck ⟨"SpanCopierLaw", "law", "([I)Z"⟩ code ret e = true := by decide +kernel
theorem ak_ck179_4 : ∀ e ∈ (ai_k179.drop 240).take 60, ak_ck ⟨"SpanCopierLaw", "law", "([I)Z"⟩ code ret e = true := by decide +kernel
theorem ak_ck179_5 : ∀ e ∈ (ai_k179.drop 300).take 60, ak_ck ⟨"SpanCopierLaw", "law", "([I)Z"⟩ code ret e = true := by decide +kernel
theorem ak_ck179_6 : ∀ e ∈ (ai_k179.drop 360).take 60, ak_ck ⟨"SpanCopierLaw", "law", "([I)Z"⟩ code ret e = true := by decide +kernel
theorem ak_ck179_7 : ∀ e ∈ (ai_k179.drop 420).take 60, ak_ck ⟨"SpanCopierLaw", "law", "([I)Z"⟩ code ret e = true := by decide +kernel
theorem ak_ck179_8 : ∀ e ∈ (ai_k179.drop 480).take 60, ak_ck ⟨"SpanCopierLaw", "law", "([I)Z"⟩ code ret e = true := by decide +kernel
theorem ak_ck179_9 : ∀ e ∈ (ai_k179.drop 540).take 60, ak_ck ⟨"SpanCopierLaw", "law", "([I)Z"⟩ code ret e = true := by decide +kernel
theorem ak_ck179_r : ∀ e ∈ ai_k179.drop 600, ak_ck ⟨"SpanCopierLaw", "law", "([I)Z"⟩ code ret e = true := by decide +kernel
theorem ak_ck179 : ∀ e ∈ ai_k179, ak_ck ⟨"SpanCopierLaw", "law", "([I)Z"⟩ code ret e = true := ak_parts 0 (n := 60) ak_ck179_0 ( ak_parts 60 (n := 60) ak_ck179_1 ( ak_parts 120 (n := 60) ak_ck179_2 ( ak_parts 180 (n := 60) ak_ck179_3 ( ak_parts 240 (n := 60) ak_ck179_4 ( ak_parts 300 (n := 60) ak_ck179_5 ( ak_parts 360 (n := 60) ak_ck179_6 ( ak_parts 420 (n := 60) ak_ck179_7 ( ak_parts 480 (n := 60) ak_ck179_8 ( ak_parts 540 (n := 60) ak_ck179_9 (ak_ck179_r))))))))))
end
section
theorem ak_ck180 : ∀ e ∈ ai_k180, ak_ck ⟨"SpanCopierLaw", "unit", "(LSpanCopier;II[J)I"⟩ method_3_code (Option.some Jvm.ClassFile.FieldType.int) e = true := by decide +kernel
theorem ak_ck181 : ∀ e ∈ ai_k181, ak_ck ⟨"SpanCopierLaw", "sum", "(LSpanCopier;I[J)I"⟩ method_4_code (Option.some Jvm.ClassFile.FieldType.int) e = true := by decide +kernel
end
section
theorem ak_arrs_ok : ak_arrs := by refine ⟨?_, ?_, ?_, ?_⟩ <;> exact ak_W_of (by decide +kernel) rfl
theorem ak_ordw_ok : ak_ordw := by refine ⟨?_, ?_, ?_, ?_, ?_, ?_⟩ <;> exact ak_W_of (by decide +kernel) rfl
theorem ak_len : ak_mt.length = 182 ∧ ai_tab.length = 182 := by decide +kernel
theorem ak_T_of (mid : Nat) (q : MethodName × ByteArray × Option FieldType × Nat) (h : ak_mt[mid]? = some q) : ∃ M, ai_tab[mid]? = some M := by
  have h1 := (List.getElem?_eq_some_iff.mp h).1
  have h2 : mid < ai_tab.length := by rw [ak_len.2]; rw [ak_len.1] at h1; exact h1
  exact ⟨_, List.getElem?_eq_getElem h2⟩
theorem ak_mok : ∀ (mid : Nat) (q : MethodName × ByteArray × Option FieldType × Nat) (M : ai_M), mid < 179 → ak_mt[mid]? = some q → ai_tab[mid]? = some M → ak_mp q M
  | 0, _, _, _, h1, h2 => by cases h1; cases h2; exact ak_mp0
  | 1, _, _, _, h1, h2 => by cases h1; cases h2; exact ak_mp1
  | 2, _, _, _, h1, h2 => by cases h1; cases h2; exact ak_mp2
  | 3, _, _, _, h1, h2 => by cases h1; cases h2; exact ak_mp3
  | 4, _, _, _, h1, h2 => by cases h1; cases h2; exact ak_mp4
  | 5, _, _, _, h1, h2 => by cases h1; cases h2; exact ak_mp5
  | 6, _, _, _, h1, h2 => by cases h1; cases h2; exact ak_mp6
  | 7, _, _, _, h1, h2 => by cases h1; cases h2; exact ak_mp7
  | 8, _, _, _, h1, h2 => by cases h1; cases h2; exact ak_mp8
  | 9, _, _, _, h1, h2 => by cases h1; cases h2; exact ak_mp9
  | 10, _, _, _, h1, h2 => by cases h1; cases h2; exact ak_mp10
  | 11, _, _, _, h1, h2 => by cases h1; cases h2; exact ak_mp11
  | 12, _, _, _, h1, h2 => by cases h1; cases h2; exact ak_mp12
  | 13, _, _, _, h1, h2 => by cases h1; cases h2; exact ak_mp13
  | 14, _, _, _, h1, h2 => by cases h1; cases h2; exact ak_mp14
  | 15, _, _, _, h1, h2 => by cases h1; cases h2; exact ak_mp15
  | 16, _, _, _, h1, h2 => by cases h1; cases h2; exact ak_mp16
  | 17, _, _, _, h1, h2 => by cases h1; cases h2; exact ak_mp17
  | 18, _, _, _, h1, h2 => by cases h1; cases h2; exact ak_mp18
  | 19, _, _, _, h1, h2 => by cases h1; cases h2; exact ak_mp19
  | 20, _, _, _, h1, h2 => by cases h1; cases h2; exact ak_mp20
  | 21, _, _, _, h1, h2 => by cases h1; cases h2; exact ak_mp21
  | 22, _, _, _, h1, h2 => by cases h1; cases h2; exact ak_mp22
  | 23, _, _, _, h1, h2 => by cases h1; cases h2; exact ak_mp23
  | 24, _, _, _, h1, h2 => by cases h1; cases h2; exact ak_mp24
  | 25, _, _, _, h1, h2 => by cases h1; cases h2; exact ak_mp25
  | 26, _, _, _, h1, h2 => by cases h1; cases h2; exact ak_mp26
  | 27, _, _, _, h1, h2 => by cases h1; cases h2; exact ak_mp27
  | 28, _, _, _, h1, h2 => by cases h1; cases h2; exact ak_mp28
  | 29, _, _, _, h1, h2 => by cases h1; cases h2; exact ak_mp29
  | 30, _, _, _, h1, h2 => by cases h1; cases h2; exact ak_mp30
  | 31, _, _, _, h1, h2 => by cases h1; cases h2; exact ak_mp31
  | 32, _, _, _, h1, h2 => by cases h1; cases h2; exact ak_mp32
  | 33, _, _, _, h1, h2 => by cases h1; cases h2; exact ak_mp33
  | 34, _, _, _, h1, h2 => by cases h1; cases h2; exact ak_mp34
  | 35, _, _, _, h1, h2 => by cases h1; cases h2; exact ak_mp35
  | 36, _, _, _, h1, h2 => by cases h1; cases h2; exact ak_mp36
  | 37, _, _, _, h1, h2 => by cases h1; cases h2; exact ak_mp37
  | 38, _, _, _, h1, h2 => by cases h1; cases h2; exact ak_mp38
  | 39, _, _, _, h1, h2 => by cases h1; cases h2; exact ak_mp39
  | 40, _, _, _, h1, h2 => by cases h1; cases h2; exact ak_mp40
  | 41, _, _, _, h1, h2 => by cases h1; cases h2; exact ak_mp41
  | 42, _, _, _, h1, h2 => by cases h1; cases h2; exact ak_mp42
  | 43, _, _, _, h1, h2 => by cases h1; cases h2; exact ak_mp43
  | 44, _, _, _, h1, h2 => by cases h1; cases h2; exact ak_mp44
  | 45, _, _, _, h1, h2 => by cases h1; cases h2; exact ak_mp45
  | 46, _, _, _, h1, h2 => by cases h1; cases h2; exact ak_mp46
  | 47, _, _, _, h1, h2 => by cases h1; cases h2; exact ak_mp47
  | 48, _, _, _, h1, h2 => by cases h1; cases h2; exact ak_mp48
  | 49, _, _, _, h1, h2 => by cases h1; cases h2; exact ak_mp49
  | 50, _, _, _, h1, h2 => by cases h1; cases h2; exact ak_mp50
  | 51, _, _, _, h1, h2 => by cases h1; cases h2; exact ak_mp51
  | 52, _, _, _, h1, h2 => by cases h1; cases h2; exact ak_mp52
  | 53, _, _, _, h1, h2 => by cases h1; cases h2; exact ak_mp53
  | 54, _, _, _, h1, h2 => by cases h1; cases h2; exact ak_mp54
  | 55, _, _, _, h1, h2 => by cases h1; cases h2; exact ak_mp55
  | 56, _, _, _, h1, h2 => by cases h1; cases h2; exact ak_mp56
  | 57, _, _, _, h1, h2 => by cases h1; cases h2; exact ak_mp57
  | 58, _, _, _, h1, h2 => by cases h1; cases h2; exact ak_mp58
  | 59, _, _, _, h1, h2 => by cases h1; cases h2; exact ak_mp59
  | 60, _, _, _, h1, h2 => by cases h1; cases h2; exact ak_mp60
  | 61, _, _, _, h1, h2 => by cases h1; cases h2; exact ak_mp61
  | 62, _, _, _, h1, h2 => by cases h1; cases h2; exact ak_mp62
  | 63, _, _, _, h1, h2 => by cases h1; cases h2; exact ak_mp63
  | 64, _, _, _, h1, h2 => by cases h1; cases h2; exact ak_mp64
  | 65, _, _, _, h1, h2 => by cases h1; cases h2; exact ak_mp65
  | 66, _, _, _, h1, h2 => by cases h1; cases h2; exact ak_mp66
  | 67, _, _, _, h1, h2 => by cases h1; cases h2; exact ak_mp67
  | 68, _, _, _, h1, h2 => by cases h1; cases h2; exact ak_mp68
  | 69, _, _, _, h1, h2 => by cases h1; cases h2; exact ak_mp69
  | 70, _, _, _, h1, h2 => by cases h1; cases h2; exact ak_mp70
  | 71, _, _, _, h1, h2 => by cases h1; cases h2; exact ak_mp71
  | 72, _, _, _, h1, h2 => by cases h1; cases h2; exact ak_mp72
  | 73, _, _, _, h1, h2 => by cases h1; cases h2; exact ak_mp73
  | 74, _, _, _, h1, h2 => by cases h1; cases h2; exact ak_mp74
  | 75, _, _, _, h1, h2 => by cases h1; cases h2; exact ak_mp75
  | 76, _, _, _, h1, h2 => by cases h1; cases h2; exact ak_mp76
  | 77, _, _, _, h1, h2 => by cases h1; cases h2; exact ak_mp77
  | 78, _, _, _, h1, h2 => by cases h1; cases h2; exact ak_mp78
  | 79, _, _, _, h1, h2 => by cases h1; cases h2; exact ak_mp79
  | 80, _, _, _, h1, h2 => by cases h1; cases h2; exact ak_mp80
  | 81, _, _, _, h1, h2 => by cases h1; cases h2; exact ak_mp81
  | 82, _, _, _, h1, h2 => by cases h1; cases h2; exact ak_mp82
  | 83, _, _, _, h1, h2 => by cases h1; cases h2; exact ak_mp83
  | 84, _, _, _, h1, h2 => by cases h1; cases h2; exact ak_mp84
  | 85, _, _, _, h1, h2 => by cases h1; cases h2; exact ak_mp85
  | 86, _, _, _, h1, h2 => by cases h1; cases h2; exact ak_mp86
  | 87, _, _, _, h1, h2 => by cases h1; cases h2; exact ak_mp87
  | 88, _, _, _, h1, h2 => by cases h1; cases h2; exact ak_mp88
  | 89, _, _, _, h1, h2 => by cases h1; cases h2; exact ak_mp89
  | 90, _, _, _, h1, h2 => by cases h1; cases h2; exact ak_mp90
  | 91, _, _, _, h1, h2 => by cases h1; cases h2; exact ak_mp91
  | 92, _, _, _, h1, h2 => by cases h1; cases h2; exact ak_mp92
  | 93, _, _, _, h1, h2 => by cases h1; cases h2; exact ak_mp93
  | 94, _, _, _, h1, h2 => by cases h1; cases h2; exact ak_mp94
  | 95, _, _, _, h1, h2 => by cases h1; cases h2; exact ak_mp95
  | 96, _, _, _, h1, h2 => by cases h1; cases h2; exact ak_mp96
  | 97, _, _, _, h1, h2 => by cases h1; cases h2; exact ak_mp97
  | 98, _, _, _, h1, h2 => by cases h1; cases h2; exact ak_mp98
  | 99, _, _, _, h1, h2 => by cases h1; cases h2; exact ak_mp99
  | 100, _, _, _, h1, h2 => by cases h1; cases h2; exact ak_mp100
  | 101, _, _, _, h1, h2 => by cases h1; cases h2; exact ak_mp101
  | 102, _, _, _, h1, h2 => by cases h1; cases h2; exact ak_mp102
  | 103, _, _, _, h1, h2 => by cases h1; cases h2; exact ak_mp103
  | 104, _, _, _, h1, h2 => by cases h1; cases h2; exact ak_mp104
  | 105, _, _, _, h1, h2 => by cases h1; cases h2; exact ak_mp105
  | 106, _, _, _, h1, h2 => by cases h1; cases h2; exact ak_mp106
  | 107, _, _, _, h1, h2 => by cases h1; cases h2; exact ak_mp107
  | 108, _, _, _, h1, h2 => by cases h1; cases h2; exact ak_mp108
  | 109, _, _, _, h1, h2 => by cases h1; cases h2; exact ak_mp109
  | 110, _, _, _, h1, h2 => by cases h1; cases h2; exact ak_mp110
  | 111, _, _, _, h1, h2 => by cases h1; cases h2; exact ak_mp111
  | 112, _, _, _, h1, h2 => by cases h1; cases h2; exact ak_mp112
  | 113, _, _, _, h1, h2 => by cases h1; cases h2; exact ak_mp113
  | 114, _, _, _, h1, h2 => by cases h1; cases h2; exact ak_mp114
  | 115, _, _, _, h1, h2 => by cases h1; cases h2; exact ak_mp115
  | 116, _, _, _, h1, h2 => by cases h1; cases h2; exact ak_mp116
  | 117, _, _, _, h1, h2 => by cases h1; cases h2; exact ak_mp117
  | 118, _, _, _, h1, h2 => by cases h1; cases h2; exact ak_mp118
  | 119, _, _, _, h1, h2 => by cases h1; cases h2; exact ak_mp119
  | 120, _, _, _, h1, h2 => by cases h1; cases h2; exact ak_mp120
  | 121, _, _, _, h1, h2 => by cases h1; cases h2; exact ak_mp121
  | 122, _, _, _, h1, h2 => by cases h1; cases h2; exact ak_mp122
  | 123, _, _, _, h1, h2 => by cases h1; cases h2; exact ak_mp123
  | 124, _, _, _, h1, h2 => by cases h1; cases h2; exact ak_mp124
  | 125, _, _, _, h1, h2 => by cases h1; cases h2; exact ak_mp125
  | 126, _, _, _, h1, h2 => by cases h1; cases h2; exact ak_mp126
  | 127, _, _, _, h1, h2 => by cases h1; cases h2; exact ak_mp127
  | 128, _, _, _, h1, h2 => by cases h1; cases h2; exact ak_mp128
  | 129, _, _, _, h1, h2 => by cases h1; cases h2; exact ak_mp129
  | 130, _, _, _, h1, h2 => by cases h1; cases h2; exact ak_mp130
  | 131, _, _, _, h1, h2 => by cases h1; cases h2; exact ak_mp131
  | 132, _, _, _, h1, h2 => by cases h1; cases h2; exact ak_mp132
  | 133, _, _, _, h1, h2 => by cases h1; cases h2; exact ak_mp133
  | 134, _, _, _, h1, h2 => by cases h1; cases h2; exact ak_mp134
  | 135, _, _, _, h1, h2 => by cases h1; cases h2; exact ak_mp135
  | 136, _, _, _, h1, h2 => by cases h1; cases h2; exact ak_mp136
  | 137, _, _, _, h1, h2 => by cases h1; cases h2; exact ak_mp137
  | 138, _, _, _, h1, h2 => by cases h1; cases h2; exact ak_mp138
  | 139, _, _, _, h1, h2 => by cases h1; cases h2; exact ak_mp139
  | 140, _, _, _, h1, h2 => by cases h1; cases h2; exact ak_mp140
  | 141, _, _, _, h1, h2 => by cases h1; cases h2; exact ak_mp141
  | 142, _, _, _, h1, h2 => by cases h1; cases h2; exact ak_mp142
  | 143, _, _, _, h1, h2 => by cases h1; cases h2; exact ak_mp143
  | 144, _, _, _, h1, h2 => by cases h1; cases h2; exact ak_mp144
  | 145, _, _, _, h1, h2 => by cases h1; cases h2; exact ak_mp145
  | 146, _, _, _, h1, h2 => by cases h1; cases h2; exact ak_mp146
  | 147, _, _, _, h1, h2 => by cases h1; cases h2; exact ak_mp147
  | 148, _, _, _, h1, h2 => by cases h1; cases h2; exact ak_mp148
  | 149, _, _, _, h1, h2 => by cases h1; cases h2; exact ak_mp149
  | 150, _, _, _, h1, h2 => by cases h1; cases h2; exact ak_mp150
  | 151, _, _, _, h1, h2 => by cases h1; cases h2; exact ak_mp151
  | 152, _, _, _, h1, h2 => by cases h1; cases h2; exact ak_mp152
  | 153, _, _, _, h1, h2 => by cases h1; cases h2; exact ak_mp153
  | 154, _, _, _, h1, h2 => by cases h1; cases h2; exact ak_mp154
  | 155, _, _, _, h1, h2 => by cases h1; cases h2; exact ak_mp155
  | 156, _, _, _, h1, h2 => by cases h1; cases h2; exact ak_mp156
  | 157, _, _, _, h1, h2 => by cases h1; cases h2; exact ak_mp157
  | 158, _, _, _, h1, h2 => by cases h1; cases h2; exact ak_mp158
  | 159, _, _, _, h1, h2 => by cases h1; cases h2; exact ak_mp159
  | 160, _, _, _, h1, h2 => by cases h1; cases h2; exact ak_mp160
  | 161, _, _, _, h1, h2 => by cases h1; cases h2; exact ak_mp161
  | 162, _, _, _, h1, h2 => by cases h1; cases h2; exact ak_mp162
  | 163, _, _, _, h1, h2 => by cases h1; cases h2; exact ak_mp163
  | 164, _, _, _, h1, h2 => by cases h1; cases h2; exact ak_mp164
  | 165, _, _, _, h1, h2 => by cases h1; cases h2; exact ak_mp165
  | 166, _, _, _, h1, h2 => by cases h1; cases h2; exact ak_mp166
  | 167, _, _, _, h1, h2 => by cases h1; cases h2; exact ak_mp167
  | 168, _, _, _, h1, h2 => by cases h1; cases h2; exact ak_mp168
  | 169, _, _, _, h1, h2 => by cases h1; cases h2; exact ak_mp169
  | 170, _, _, _, h1, h2 => by cases h1; cases h2; exact ak_mp170
  | 171, _, _, _, h1, h2 => by cases h1; cases h2; exact ak_mp171
  | 172, _, _, _, h1, h2 => by cases h1; cases h2; exact ak_mp172
  | 173, _, _, _, h1, h2 => by cases h1; cases h2; exact ak_mp173
  | 174, _, _, _, h1, h2 => by cases h1; cases h2; exact ak_mp174
  | 175, _, _, _, h1, h2 => by cases h1; cases h2; exact ak_mp175
  | 176, _, _, _, h1, h2 => by cases h1; cases h2; exact ak_mp176
  | 177, _, _, _, h1, h2 => by cases h1; cases h2; exact ak_mp177
  | 178, _, _, _, h1, h2 => by cases h1; cases h2; exact ak_mp178
  | n + 179, _, _, h, _, _ => by omega
theorem ak_ckall : ∀ (mid : Nat) (M : ai_M) (q : MethodName × ByteArray × Option FieldType × Nat), ai_tab[mid]? = some M → ak_mt[mid]? = some q → ∀ e ∈ M.2.1, ak_ck q.1 q.2.1 q.2.2.1 e = true
  | 0, _, _, h1, h2 => by cases h1; cases h2; exact ak_ck0
  | 1, _, _, h1, h2 => by cases h1; cases h2; exact ak_ck1
  | 2, _, _, h1, h2 => by cases h1; cases h2; exact ak_ck2
  | 3, _, _, h1, h2 => by cases h1; cases h2; exact ak_ck3
  | 4, _, _, h1, h2 => by cases h1; cases h2; exact ak_ck4
  | 5, _, _, h1, h2 => by cases h1; cases h2; exact ak_ck5
  | 6, _, _, h1, h2 => by cases h1; cases h2; exact ak_ck6
  | 7, _, _, h1, h2 => by cases h1; cases h2; exact ak_ck7
  | 8, _, _, h1, h2 => by cases h1; cases h2; exact ak_ck8
  | 9, _, _, h1, h2 => by cases h1; cases h2; exact ak_ck9
  | 10, _, _, h1, h2 => by cases h1; cases h2; exact ak_ck10
  | 11, _, _, h1, h2 => by cases h1; cases h2; exact ak_ck11
  | 12, _, _, h1, h2 => by cases h1; cases h2; exact ak_ck12
  | 13, _, _, h1, h2 => by cases h1; cases h2; exact ak_ck13
  | 14, _, _, h1, h2 => by cases h1; cases h2; exact ak_ck14
  | 15, _, _, h1, h2 => by cases h1; cases h2; exact ak_ck15
  | 16, _, _, h1, h2 => by cases h1; cases h2; exact ak_ck16
  | 17, _, _, h1, h2 => by cases h1; cases h2; exact ak_ck17
  | 18, _, _, h1, h2 => by cases h1; cases h2; exact ak_ck18
  | 19, _, _, h1, h2 => by cases h1; cases h2; exact ak_ck19
  | 20, _, _, h1, h2 => by cases h1; cases h2; exact ak_ck20
  | 21, _, _, h1, h2 => by cases h1; cases h2; exact ak_ck21
  | 22, _, _, h1, h2 => by cases h1; cases h2; exact ak_ck22
  | 23, _, _, h1, h2 => by cases h1; cases h2; exact ak_ck23
  | 24, _, _, h1, h2 => by cases h1; cases h2; exact ak_ck24
  | 25, _, _, h1, h2 => by cases h1; cases h2; exact ak_ck25
  | 26, _, _, h1, h2 => by cases h1; cases h2; exact ak_ck26
  | 27, _, _, h1, h2 => by cases h1; cases h2; exact ak_ck27
  | 28, _, _, h1, h2 => by cases h1; cases h2; exact ak_ck28
  | 29, _, _, h1, h2 => by cases h1; cases h2; exact ak_ck29
  | 30, _, _, h1, h2 => by cases h1; cases h2; exact ak_ck30
  | 31, _, _, h1, h2 => by cases h1; cases h2; exact ak_ck31
  | 32, _, _, h1, h2 => by cases h1; cases h2; exact ak_ck32
  | 33, _, _, h1, h2 => by cases h1; cases h2; exact ak_ck33
  | 34, _, _, h1, h2 => by cases h1; cases h2; exact ak_ck34
  | 35, _, _, h1, h2 => by cases h1; cases h2; exact ak_ck35
  | 36, _, _, h1, h2 => by cases h1; cases h2; exact ak_ck36
  | 37, _, _, h1, h2 => by cases h1; cases h2; exact ak_ck37
  | 38, _, _, h1, h2 => by cases h1; cases h2; exact ak_ck38
  | 39, _, _, h1, h2 => by cases h1; cases h2; exact ak_ck39
  | 40, _, _, h1, h2 => by cases h1; cases h2; exact ak_ck40
  | 41, _, _, h1, h2 => by cases h1; cases h2; exact ak_ck41
  | 42, _, _, h1, h2 => by cases h1; cases h2; exact ak_ck42
  | 43, _, _, h1, h2 => by cases h1; cases h2; exact ak_ck43
  | 44, _, _, h1, h2 => by cases h1; cases h2; exact ak_ck44
  | 45, _, _, h1, h2 => by cases h1; cases h2; exact ak_ck45
  | 46, _, _, h1, h2 => by cases h1; cases h2; exact ak_ck46
  | 47, _, _, h1, h2 => by cases h1; cases h2; exact ak_ck47
  | 48, _, _, h1, h2 => by cases h1; cases h2; exact ak_ck48
  | 49, _, _, h1, h2 => by cases h1; cases h2; exact ak_ck49
  | 50, _, _, h1, h2 => by cases h1; cases h2; exact ak_ck50
  | 51, _, _, h1, h2 => by cases h1; cases h2; exact ak_ck51
  | 52, _, _, h1, h2 => by cases h1; cases h2; exact ak_ck52
  | 53, _, _, h1, h2 => by cases h1; cases h2; exact ak_ck53
  | 54, _, _, h1, h2 => by cases h1; cases h2; exact ak_ck54
  | 55, _, _, h1, h2 => by cases h1; cases h2; exact ak_ck55
  | 56, _, _, h1, h2 => by cases h1; cases h2; exact ak_ck56
  | 57, _, _, h1, h2 => by cases h1; cases h2; exact ak_ck57
  | 58, _, _, h1, h2 => by cases h1; cases h2; exact ak_ck58
  | 59, _, _, h1, h2 => by cases h1; cases h2; exact ak_ck59
  | 60, _, _, h1, h2 => by cases h1; cases h2; exact ak_ck60
  | 61, _, _, h1, h2 => by cases h1; cases h2; exact ak_ck61
  | 62, _, _, h1, h2 => by cases h1; cases h2; exact ak_ck62
  | 63, _, _, h1, h2 => by cases h1; cases h2; exact ak_ck63
  | 64, _, _, h1, h2 => by cases h1; cases h2; exact ak_ck64
  | 65, _, _, h1, h2 => by cases h1; cases h2; exact ak_ck65
  | 66, _, _, h1, h2 => by cases h1; cases h2; exact ak_ck66
  | 67, _, _, h1, h2 => by cases h1; cases h2; exact ak_ck67
  | 68, _, _, h1, h2 => by cases h1; cases h2; exact ak_ck68
  | 69, _, _, h1, h2 => by cases h1; cases h2; exact ak_ck69
  | 70, _, _, h1, h2 => by cases h1; cases h2; exact ak_ck70
  | 71, _, _, h1, h2 => by cases h1; cases h2; exact ak_ck71
  | 72, _, _, h1, h2 => by cases h1; cases h2; exact ak_ck72
  | 73, _, _, h1, h2 => by cases h1; cases h2; exact ak_ck73
  | 74, _, _, h1, h2 => by cases h1; cases h2; exact ak_ck74
  | 75, _, _, h1, h2 => by cases h1; cases h2; exact ak_ck75
  | 76, _, _, h1, h2 => by cases h1; cases h2; exact ak_ck76
  | 77, _, _, h1, h2 => by cases h1; cases h2; exact ak_ck77
  | 78, _, _, h1, h2 => by cases h1; cases h2; exact ak_ck78
  | 79, _, _, h1, h2 => by cases h1; cases h2; exact ak_ck79
  | 80, _, _, h1, h2 => by cases h1; cases h2; exact ak_ck80
  | 81, _, _, h1, h2 => by cases h1; cases h2; exact ak_ck81
  | 82, _, _, h1, h2 => by cases h1; cases h2; exact ak_ck82
  | 83, _, _, h1, h2 => by cases h1; cases h2; exact ak_ck83
  | 84, _, _, h1, h2 => by cases h1; cases h2; exact ak_ck84
  | 85, _, _, h1, h2 => by cases h1; cases h2; exact ak_ck85
  | 86, _, _, h1, h2 => by cases h1; cases h2; exact ak_ck86
  | 87, _, _, h1, h2 => by cases h1; cases h2; exact ak_ck87
  | 88, _, _, h1, h2 => by cases h1; cases h2; exact ak_ck88
  | 89, _, _, h1, h2 => by cases h1; cases h2; exact ak_ck89
  | 90, _, _, h1, h2 => by cases h1; cases h2; exact ak_ck90
  | 91, _, _, h1, h2 => by cases h1; cases h2; exact ak_ck91
  | 92, _, _, h1, h2 => by cases h1; cases h2; exact ak_ck92
  | 93, _, _, h1, h2 => by cases h1; cases h2; exact ak_ck93
  | 94, _, _, h1, h2 => by cases h1; cases h2; exact ak_ck94
  | 95, _, _, h1, h2 => by cases h1; cases h2; exact ak_ck95
  | 96, _, _, h1, h2 => by cases h1; cases h2; exact ak_ck96
  | 97, _, _, h1, h2 => by cases h1; cases h2; exact ak_ck97
  | 98, _, _, h1, h2 => by cases h1; cases h2; exact ak_ck98
  | 99, _, _, h1, h2 => by cases h1; cases h2; exact ak_ck99
  | 100, _, _, h1, h2 => by cases h1; cases h2; exact ak_ck100
  | 101, _, _, h1, h2 => by cases h1; cases h2; exact ak_ck101
  | 102, _, _, h1, h2 => by cases h1; cases h2; exact ak_ck102
  | 103, _, _, h1, h2 => by cases h1; cases h2; exact ak_ck103
  | 104, _, _, h1, h2 => by cases h1; cases h2; exact ak_ck104
  | 105, _, _, h1, h2 => by cases h1; cases h2; exact ak_ck105
  | 106, _, _, h1, h2 => by cases h1; cases h2; exact ak_ck106
  | 107, _, _, h1, h2 => by cases h1; cases h2; exact ak_ck107
  | 108, _, _, h1, h2 => by cases h1; cases h2; exact ak_ck108
  | 109, _, _, h1, h2 => by cases h1; cases h2; exact ak_ck109
  | 110, _, _, h1, h2 => by cases h1; cases h2; exact ak_ck110
  | 111, _, _, h1, h2 => by cases h1; cases h2; exact ak_ck111
  | 112, _, _, h1, h2 => by cases h1; cases h2; exact ak_ck112
  | 113, _, _, h1, h2 => by cases h1; cases h2; exact ak_ck113
  | 114, _, _, h1, h2 => by cases h1; cases h2; exact ak_ck114
  | 115, _, _, h1, h2 => by cases h1; cases h2; exact ak_ck115
  | 116, _, _, h1, h2 => by cases h1; cases h2; exact ak_ck116
  | 117, _, _, h1, h2 => by cases h1; cases h2; exact ak_ck117
  | 118, _, _, h1, h2 => by cases h1; cases h2; exact ak_ck118
  | 119, _, _, h1, h2 => by cases h1; cases h2; exact ak_ck119
  | 120, _, _, h1, h2 => by cases h1; cases h2; exact ak_ck120
  | 121, _, _, h1, h2 => by cases h1; cases h2; exact ak_ck121
  | 122, _, _, h1, h2 => by cases h1; cases h2; exact ak_ck122
  | 123, _, _, h1, h2 => by cases h1; cases h2; exact ak_ck123
  | 124, _, _, h1, h2 => by cases h1; cases h2; exact ak_ck124
  | 125, _, _, h1, h2 => by cases h1; cases h2; exact ak_ck125
  | 126, _, _, h1, h2 => by cases h1; cases h2; exact ak_ck126
  | 127, _, _, h1, h2 => by cases h1; cases h2; exact ak_ck127
  | 128, _, _, h1, h2 => by cases h1; cases h2; exact ak_ck128
  | 129, _, _, h1, h2 => by cases h1; cases h2; exact ak_ck129
  | 130, _, _, h1, h2 => by cases h1; cases h2; exact ak_ck130
  | 131, _, _, h1, h2 => by cases h1; cases h2; exact ak_ck131
  | 132, _, _, h1, h2 => by cases h1; cases h2; exact ak_ck132
  | 133, _, _, h1, h2 => by cases h1; cases h2; exact ak_ck133
  | 134, _, _, h1, h2 => by cases h1; cases h2; exact ak_ck134
  | 135, _, _, h1, h2 => by cases h1; cases h2; exact ak_ck135
  | 136, _, _, h1, h2 => by cases h1; cases h2; exact ak_ck136
  | 137, _, _, h1, h2 => by cases h1; cases h2; exact ak_ck137
  | 138, _, _, h1, h2 => by cases h1; cases h2; exact ak_ck138
  | 139, _, _, h1, h2 => by cases h1; cases h2; exact ak_ck139
  | 140, _, _, h1, h2 => by cases h1; cases h2; exact ak_ck140
  | 141, _, _, h1, h2 => by cases h1; cases h2; exact ak_ck141
  | 142, _, _, h1, h2 => by cases h1; cases h2; exact ak_ck142
  | 143, _, _, h1, h2 => by cases h1; cases h2; exact ak_ck143
  | 144, _, _, h1, h2 => by cases h1; cases h2; exact ak_ck144
  | 145, _, _, h1, h2 => by cases h1; cases h2; exact ak_ck145
  | 146, _, _, h1, h2 => by cases h1; cases h2; exact ak_ck146
  | 147, _, _, h1, h2 => by cases h1; cases h2; exact ak_ck147
  | 148, _, _, h1, h2 => by cases h1; cases h2; exact ak_ck148
  | 149, _, _, h1, h2 => by cases h1; cases h2; exact ak_ck149
  | 150, _, _, h1, h2 => by cases h1; cases h2; exact ak_ck150
  | 151, _, _, h1, h2 => by cases h1; cases h2; exact ak_ck151
  | 152, _, _, h1, h2 => by cases h1; cases h2; exact ak_ck152
  | 153, _, _, h1, h2 => by cases h1; cases h2; exact ak_ck153
  | 154, _, _, h1, h2 => by cases h1; cases h2; exact ak_ck154
  | 155, _, _, h1, h2 => by cases h1; cases h2; exact ak_ck155
  | 156, _, _, h1, h2 => by cases h1; cases h2; exact ak_ck156
  | 157, _, _, h1, h2 => by cases h1; cases h2; exact ak_ck157
  | 158, _, _, h1, h2 => by cases h1; cases h2; exact ak_ck158
  | 159, _, _, h1, h2 => by cases h1; cases h2; exact ak_ck159
  | 160, _, _, h1, h2 => by cases h1; cases h2; exact ak_ck160
  | 161, _, _, h1, h2 => by cases h1; cases h2; exact ak_ck161
  | 162, _, _, h1, h2 => by cases h1; cases h2; exact ak_ck162
  | 163, _, _, h1, h2 => by cases h1; cases h2; exact ak_ck163
  | 164, _, _, h1, h2 => by cases h1; cases h2; exact ak_ck164
  | 165, _, _, h1, h2 => by cases h1; cases h2; exact ak_ck165
  | 166, _, _, h1, h2 => by cases h1; cases h2; exact ak_ck166
  | 167, _, _, h1, h2 => by cases h1; cases h2; exact ak_ck167
  | 168, _, _, h1, h2 => by cases h1; cases h2; exact ak_ck168
  | 169, _, _, h1, h2 => by cases h1; cases h2; exact ak_ck169
  | 170, _, _, h1, h2 => by cases h1; cases h2; exact ak_ck170
  | 171, _, _, h1, h2 => by cases h1; cases h2; exact ak_ck171
  | 172, _, _, h1, h2 => by cases h1; cases h2; exact ak_ck172
  | 173, _, _, h1, h2 => by cases h1; cases h2; exact ak_ck173
  | 174, _, _, h1, h2 => by cases h1; cases h2; exact ak_ck174
  | 175, _, _, h1, h2 => by cases h1; cases h2; exact ak_ck175
  | 176, _, _, h1, h2 => by cases h1; cases h2; exact ak_ck176
  | 177, _, _, h1, h2 => by cases h1; cases h2; exact ak_ck177
  | 178, _, _, h1, h2 => by cases h1; cases h2; exact ak_ck178
  | 179, _, _, h1, h2 => by cases h1; cases h2; exact ak_ck179
  | 180, _, _, h1, h2 => by cases h1; cases h2; exact ak_ck180
  | 181, _, _, h1, h2 => by cases h1; cases h2; exact ak_ck181
  | n + 182, _, _, h, _ => by have := (List.getElem?_eq_some_iff.mp h).1; rw [ak_len.2] at this; omega
theorem ak_tabok_ok : ak_tabok := fun mid M q h1 h2 e he => ak_ck_ok ak_arrs_ok ak_mok ak_T_of (ak_ckall mid M q h1 h2 e he)
end
section
/-! ===== one state under another; runs from known states to known states ===== -/
abbrev ai_Z : Type := ai_L × List ai_V × ai_W
abbrev ai_T : Type := Nat × ai_Z × List ai_O
noncomputable def ai_a2 {α : Type} (f : α → α → Bool) (l : List α) : List α → Bool := @List.rec α (fun _ => List α → Bool) (fun k => (@List.rec _ (fun _ => _) true (fun _ _ _ => false) k)) (fun a _ ih k => (@List.rec _ (fun _ => _) false (fun x k _ => (@Bool.rec (fun _ => _) false (ih k) (f a x))) k)) l
noncomputable def ai_eqP (p q : Nat × ai_V) : Bool := (@Bool.rec (fun _ => _) false (ai_eqV p.2 q.2) (Nat.beq p.1 q.1))
noncomputable def ai_eqC (c d : ai_C) : Bool := (@Bool.rec (fun _ => _) false ((@Bool.rec (fun _ => _) false ((@Bool.rec (fun _ => _) false (ai_a2 ai_eqP c.2.2.2 d.2.2.2) (ai_eqV c.2.2.1 d.2.2.1))) (Nat.beq c.2.1 d.2.1))) (Nat.beq c.1 d.1))
noncomputable def ai_leC (c d : ai_C) : Bool := (@Bool.rec (fun _ => _) (ai_eqC c d) true (Nat.beq d.1 9))
noncomputable def ai_leE (p q : Nat × Nat) : Bool := (@Bool.rec (fun _ => _) false (Nat.ble p.2 q.2) (Nat.ble q.1 p.1))
noncomputable def ai_leV (env : ai_E) (u v : ai_V) : Bool := (@Bool.rec (fun _ => _) ((@Bool.rec (fun _ => _) ((@Bool.rec (fun _ => _) false (ai_nth env false (fun q => (@Bool.rec (fun _ => _) false (Nat.beq (ai_b q.1) u.2) (Nat.beq q.1 q.2))) v.2) ((@Bool.rec (fun _ => _) false (Nat.beq v.1 1) (Nat.beq u.1 0))))) (Nat.ble u.1 2) (Nat.beq v.1 2))) true (ai_eqV u v))
noncomputable def ai_leL (env : ai_E) (u v : ai_V) : Bool := (@Bool.rec (fun _ => _) (ai_leV env u v) true (Nat.ble 8 v.1))
noncomputable def ai_leZ (loc : ai_L) (stk : List ai_V) (w : ai_W) (z : ai_Z) : Bool := (@Bool.rec (fun _ => _) false ((@Bool.rec (fun _ => _) false ((@Bool.rec (fun _ => _) false ((@Bool.rec (fun _ => _) false ((@Bool.rec (fun _ => _) false (ai_a2 ai_leC w.2.1 z.2.2.2.1) ((@Bool.rec (fun _ => _) false (Nat.ble w.2.2.2.2 z.2.2.2.2.2.2) (Nat.ble w.2.2.2.1 z.2.2.2.2.2.1))))) (ai_a2 ai_leE w.2.2.1 z.2.2.2.2.1))) (ai_a2 (ai_leL w.2.2.1) loc z.1))) (ai_a2 (ai_leV w.2.2.1) stk z.2.1))) (Nat.beq w.1 z.2.2.1))
noncomputable def ai_leU (env : ai_E) (u v : Option ai_V) : Bool := (@Option.rec _ (fun _ => _) ((@Option.rec _ (fun _ => _) true (fun _ => false) v)) (fun a => (@Option.rec _ (fun _ => _) false (fun x => (@Bool.rec (fun _ => _) ((@Bool.rec (fun _ => _) false (ai_leV env a x) (Nat.ble x.1 2))) (ai_eqV a x) (Nat.beq x.1 8))) v)) u)
noncomputable def ai_dd (h : ai_H) : Bool := @List.rec ai_C (fun _ => Bool) true (fun c _ ih => (@Bool.rec (fun _ => _) false ih (Nat.beq c.1 9))) h
/-- one end under another; nz: so many cells must stay -/
noncomputable def ai_leO (nz : Nat) (o p : ai_O) : Bool := (@Bool.rec (fun _ => _) false ((@Bool.rec (fun _ => _) false ((@Bool.rec (fun _ => _) false ((@Bool.rec (fun _ => _) ((@Bool.rec (fun _ => _) false ((@Bool.rec (fun _ => _) false (ai_dd p.2.2.1) (Nat.beq (ai_len p.2.2.1) p.2.1))) (Nat.ble p.2.1 o.2.1))) (ai_a2 ai_leC o.2.2.1 p.2.2.1) (Nat.beq o.2.1 p.2.1))) (Nat.ble nz p.2.1))) (ai_a2 ai_leE o.2.2.2 p.2.2.2))) (ai_leU o.2.2.2 o.1 p.1))
noncomputable def ai_any (nz : Nat) (o : ai_O) (ps : List ai_O) : Bool := @List.rec ai_O (fun _ => Bool) false (fun p _ ih => (@Bool.rec (fun _ => _) ih true (ai_leO nz o p))) ps
noncomputable def ai_cov (nz : Nat) (ps : List ai_O) (os : List ai_O) : Bool := @List.rec ai_O (fun _ => Bool) true (fun o _ ih => (@Bool.rec (fun _ => _) false ih (ai_any nz o ps))) os
noncomputable def ai_stp (ts : List ai_T) (pc : Nat) (loc : ai_L) (stk : List ai_V) (w : ai_W) (n : ai_P) : ai_P := @List.rec ai_T (fun _ => ai_P) n (fun t _ ih => (@Bool.rec (fun _ => _) ih ((@Bool.rec (fun _ => _) ih (some t.2.2) (ai_leZ loc stk w t.2.1))) (Nat.beq t.1 pc))) ts
noncomputable def ai_one2 (X ih : ai_X) (d : Nat) (M : ai_M) (loc : ai_L) (stk : List ai_V) (w : ai_W) (e : ai_N) (tl : List ai_N) : ai_P := (@Option.rec _ (fun _ => _) none (fun hd => hd (ih d M (Nat.add e.1 e.2.2.1) tl) (ai_jm ih d M) (X, d, M, e.1) loc stk w) (ai_h e))
noncomputable def ai_nxt (X ih : ai_X) : ai_X := fun d M pc rest loc stk w => (@List.rec _ (fun _ => _) none (fun e tl _ => (@Bool.rec (fun _ => _) none (ai_one2 X ih d M loc stk w e tl) (Nat.beq e.1 pc))) rest)
/-- a method's own run: calls by X, ended at the states ts -/
noncomputable def ai_top (X : ai_X) (ts : List ai_T) (n : Nat) : ai_X := @Nat.rec (fun _ => ai_X) (fun _ _ _ _ _ _ _ => none) (fun _ ih d M pc rest loc stk w => ai_stp ts pc loc stk w (ai_nxt X ih d M pc rest loc stk w)) n
noncomputable def ai_go (X : ai_X) (ts : List ai_T) (n r d : Nat) (M : ai_M) (pc : Nat) (z : ai_Z) (ps : List ai_O) : Bool := (@Option.rec _ (fun _ => _) false (fun os => ai_cov r ps os) (ai_nxt X (ai_top X ts n) d M pc (ai_seek pc M.2.1) z.1 z.2.1 z.2.2))
/-- what is known of calls: the method's numbers, depth, locals, cells and bounds, ends -/
abbrev ai_U : Type := (Nat × Nat × Nat × Nat) × Nat × ai_L × ai_W × List ai_O
/-- the links that a code names, counted together -/
noncomputable def ai_ks (l : List ai_N) : Nat := @List.rec ai_N (fun _ => Nat) 0 (fun e _ ih => Nat.add e.2.2.2.2.2.2.1 (Nat.succ ih)) l
noncomputable def ai_key (k : Nat × Nat × Nat × Nat) (M : ai_M) : Bool := (@Bool.rec (fun _ => _) false ((@Bool.rec (fun _ => _) false (Nat.beq k.2.2.2 (ai_ks M.2.1)) (Nat.beq k.2.2.1 M.2.2.2))) ((@Bool.rec (fun _ => _) false (Nat.beq k.2.1 M.2.2.1) (Nat.beq k.1 M.1))))
noncomputable def ai_orc (us : List ai_U) (X : ai_X) : ai_X := fun d M pc rest loc stk w => (@Bool.rec (fun _ => _) (X d M pc rest loc stk w) (@List.rec ai_U (fun _ => ai_P) (X d M pc rest loc stk w) (fun u _ ih => (@Bool.rec (fun _ => _) ih ((@Bool.rec (fun _ => _) ih (some u.2.2.2.2) (ai_leZ loc stk w (u.2.2.1, [], u.2.2.2.1)))) ((@Bool.rec (fun _ => _) false (ai_key u.1 M) (Nat.beq u.2.1 d))))) us) (Nat.beq pc 0))
end
section
def ak_At (ι : ak_I) (M : ai_M) (φ : ak_Fr) (pc : Nat) (z : ai_Z) (outs : List ai_O) : Prop := ∀ Q : State → Prop, (∀ o ∈ outs, ak_End ι M φ Q o) → ∀ (ws : va_W) (ls : Array Slot) (st : List Value) (H : Heap) (locs : List Loc), ak_M ι φ.2.2.2.2.1 M.1 z.1 z.2.1 z.2.2 ws ls st H locs → ak_WW φ H locs z.2.2.2.2.2.1 z.2.2.2.2.2.2 Q (F0 φ.2.2.2.2.2.1 pc ls st)
/-- what is known of a state of a method; r: no more cells were there as it began -/
def ak_F (r d mid pc : Nat) (z : ai_Z) (ps : List ai_O) : Prop := ∀ (M : ai_M) (q : MethodName × ByteArray × Option FieldType × Nat), ai_tab[mid]? = some M → ak_mt[mid]? = some q → ∀ (ι : ak_I) (p : Program) (l : Launch) (e : Env) (R : Room) (s : State) (m : MethodId) (args : Array Value) (below : List Frame) (meth : Method) (c : Code), ι.2.2.2.2.2.length ≤ r → ak_C ι q.1 q.2.1 q.2.2.1 M d p l e R s m args below meth c → ak_At ι M (p, l, e, R, s, m, args, below, meth, c) pc z ps
/-- the same where G holds of the frame -/
def ak_FG (G : ak_I → ak_Fr → Prop) (r d mid pc : Nat) (z : ai_Z) (ps : List ai_O) : Prop := ∀ (M : ai_M) (q : MethodName × ByteArray × Option FieldType × Nat), ai_tab[mid]? = some M → ak_mt[mid]? = some q → ∀ (ι : ak_I) (p : Program) (l : Launch) (e : Env) (R : Room) (s : State) (m : MethodId) (args : Array Value) (below : List Frame) (meth : Method) (c : Code), G ι (p, l, e, R, s, m, args, below, meth, c) → ι.2.2.2.2.2.length ≤ r → ak_C ι q.1 q.2.1 q.2.2.1 M d p l e R s m args below meth c → ak_At ι M (p, l, e, R, s, m, args, below, meth, c) pc z ps
theorem ak_F.g {G : ak_I → ak_Fr → Prop} {r d mid pc : Nat} {z : ai_Z} {ps : List ai_O} (h : ak_F r d mid pc z ps) : ak_FG G r d mid pc z ps := fun M q h1 h2 ι p l e R s m args below meth c _ => h M q h1 h2 ι p l e R s m args below meth c
theorem ai_a2_ok {α : Type} {f : α → α → Bool} : ∀ {l k : List α}, ai_a2 f l k = true → l.length = k.length ∧ ∀ (i : Nat) (a b : α), l[i]? = some a → k[i]? = some b → f a b = true
  | [], [], _ => ⟨rfl, fun i a b h => by cases h⟩
  | [], _ :: _, h => by cases h
  | _ :: _, [], h => by cases h
  | a :: l, b :: k, h => by
    have h1 : (@Bool.rec (fun _ => Bool) false (ai_a2 f l k) (f a b)) = true := h
    rw [ak_if, ak_and] at h1
    obtain ⟨e1, e2⟩ := ai_a2_ok h1.2
    refine ⟨by simp [e1], fun i x y hx hy => ?_⟩
    cases i with
    | zero => cases hx; cases hy; exact h1.1
    | succ i => exact e2 i x y hx hy
theorem ak_and2 {a b : Bool} (h : (@Bool.rec (fun _ => Bool) false b a) = true) : a = true ∧ b = true := by
  cases a with
  | false => cases h
  | true => exact ⟨rfl, h⟩
theorem ai_a2_eq {α : Type} {f : α → α → Bool} (hf : ∀ a b, f a b = true → a = b) {l k : List α} (h : ai_a2 f l k = true) : l = k := by
  obtain ⟨h1, h2⟩ := ai_a2_ok h
  apply List.ext_getElem h1
  intro i p q
  exact hf _ _ (h2 i _ _ (List.getElem?_eq_getElem p) (List.getElem?_eq_getElem q))
theorem ai_eqC_ok {c d : ai_C} (h : ai_eqC c d = true) : c = d := by
  obtain ⟨h1, h⟩ := ak_and2 h
  obtain ⟨h2, h⟩ := ak_and2 h
  obtain ⟨h3, h⟩ := ak_and2 h
  have h4 := ai_a2_eq (fun a b h => by
    obtain ⟨g1, g2⟩ := ak_and2 h
    rw [ai_eqV_iff] at g2
    exact Prod.ext (Nat.eq_of_beq_eq_true g1) g2) h
  rw [ai_eqV_iff] at h3
  exact Prod.ext (Nat.eq_of_beq_eq_true h1) (Prod.ext (Nat.eq_of_beq_eq_true h2) (Prod.ext h3 h4))
theorem ai_leC_ok {ι : ak_I} {ads : List Nat} {c d : ai_C} {e : va_E} (h : ai_leC c d = true) (hc : ak_c ι ads c e) : ak_c ι ads d e := by
  have h1 : (@Bool.rec (fun _ => Bool) (ai_eqC c d) true (Nat.beq d.1 9)) = true := h
  rw [ak_if] at h1
  split at h1
  · rename_i h9; exact Or.inl (Nat.eq_of_beq_eq_true h9)
  · rw [← ai_eqC_ok h1]; exact hc
theorem ai_leH_ok {ι : ak_I} {n : Nat} {h h' : ai_H} {ws : va_W} (hl : ai_a2 ai_leC h h' = true) (hh : ak_h ι n h ws) : ak_h ι n h' ws := by
  obtain ⟨e1, e2⟩ := ai_a2_ok hl
  refine ⟨e1 ▸ hh.1, hh.2.1, fun k c hk hc => ?_⟩
  have hlt : n - (k + 1) < h.length := by rw [hh.1]; omega
  obtain ⟨q, q1, q2⟩ := hh.2.2 k _ hk (List.getElem?_eq_getElem hlt)
  exact ⟨q, q1, ai_leC_ok (e2 _ _ _ (List.getElem?_eq_getElem hlt) hc) q2⟩
theorem ai_leE_ok {ι : ak_I} {e e' : ai_E} (hl : ai_a2 ai_leE e e' = true) (h : ak_e ι e) : ak_e ι e' := by
  obtain ⟨e1, e2⟩ := ai_a2_ok hl
  intro k q hq
  have hlt : k < e.length := by rw [e1]; exact (List.getElem?_eq_some_iff.mp hq).1
  obtain ⟨g1, g2⟩ := ak_and2 (e2 k _ _ (List.getElem?_eq_getElem hlt) hq)
  obtain ⟨b1, b2⟩ := h k _ (List.getElem?_eq_getElem hlt)
  exact ⟨Nat.le_trans (Nat.le_of_ble_eq_true g1) b1, Nat.le_trans b2 (Nat.le_of_ble_eq_true g2)⟩
theorem ai_leV_ok {ι : ak_I} {ads : List Nat} {env : ai_E} {u v : ai_V} {x : Value} (he : ak_e ι env) (h : ai_leV env u v = true) (hu : ak_v ι ads u x) : ak_v ι ads v x := by
  have h1 : (@Bool.rec (fun _ => Bool) (@Bool.rec (fun _ => Bool) (@Bool.rec (fun _ => Bool) false (ai_nth env false (fun q => @Bool.rec (fun _ => Bool) false (Nat.beq (ai_b q.1) u.2) (Nat.beq q.1 q.2)) v.2) (@Bool.rec (fun _ => Bool) false (Nat.beq v.1 1) (Nat.beq u.1 0))) (Nat.ble u.1 2) (Nat.beq v.1 2)) true (ai_eqV u v)) = true := h
  rw [ak_if, ak_if] at h1
  split at h1
  · rename_i h2; rw [ai_eqV_iff] at h2; exact h2 ▸ hu
  · split at h1
    · rename_i h2
      obtain ⟨y, rfl, -, -⟩ := ak_v_int hu (Nat.le_of_ble_eq_true h1)
      exact Or.inr (Or.inr (Or.inl ⟨Nat.eq_of_beq_eq_true h2, y, rfl⟩))
    · obtain ⟨h3, h4⟩ := ak_and2 h1
      obtain ⟨h5, h6⟩ := ak_and2 h3
      have h5 := Nat.eq_of_beq_eq_true h5
      have h6 := Nat.eq_of_beq_eq_true h6
      rw [ai_nth_eq] at h4
      cases hk : env[v.2]? with
      | none => rw [hk] at h4; cases h4
      | some q =>
        rw [hk] at h4
        obtain ⟨h7, h8⟩ := ak_and2 h4
        have h7 := Nat.eq_of_beq_eq_true h7
        have h8 := Nat.eq_of_beq_eq_true h8
        obtain ⟨b1, b2⟩ := he _ _ hk
        have eb : ak_b (ι.2.2.2.2.1 v.2) = q.1 := Nat.le_antisymm (by omega) b1
        obtain ⟨y, rfl, h0, -⟩ := ak_v_int hu (by omega)
        refine Or.inr (Or.inl ⟨h6, ?_⟩)
        rw [h0 h5, ← h8, ← eb, ← ak_of_b]
theorem ai_leS_ok {ι : ak_I} {ads : List Nat} {env : ai_E} (he : ak_e ι env) : ∀ {l k : List ai_V} {st : List Value}, ai_a2 (ai_leV env) l k = true → ak_s ι ads l st → ak_s ι ads k st
  | [], [], st, _, hs => by rw [ak_s_nil hs]; trivial
  | [], _ :: _, _, h, _ => by cases h
  | _ :: _, [], _, h, _ => by cases h
  | a :: l, b :: k, st, h, hs => by
    have h1 : (@Bool.rec (fun _ => Bool) false (ai_a2 (ai_leV env) l k) (ai_leV env a b)) = true := h
    obtain ⟨g1, g2⟩ := ak_and2 h1
    obtain ⟨x, st', rfl, hx, hs⟩ := ak_s_cons hs
    exact ⟨ai_leV_ok he g1 hx, ai_leS_ok he g2 hs⟩
theorem ai_leL_ok {ι : ak_I} {ads : List Nat} {env : ai_E} (he : ak_e ι env) {loc loc' : ai_L} {nL : Nat} {ls : Array Slot} (h : ai_a2 (ai_leL env) loc loc' = true) (hl : ak_l ι ads loc nL ls) : ak_l ι ads loc' nL ls := by
  obtain ⟨e1, e2⟩ := ai_a2_ok h
  obtain ⟨h1, lv, h2, h3⟩ := hl
  refine ⟨e1 ▸ h1, lv, h2, fun i a hi ha => ?_⟩
  have hlt : i < loc.length := by rw [e1]; exact (List.getElem?_eq_some_iff.mp hi).1
  have g : (@Bool.rec (fun _ => Bool) (ai_leV env loc[i] a) true (Nat.ble 8 a.1)) = true := e2 i _ _ (List.getElem?_eq_getElem hlt) hi
  simp only [ak_if, Nat.ble_eq] at g
  rw [if_neg (by omega)] at g
  have h8 : (loc[i]).1 ≤ 7 := by
    have h1 : (@Bool.rec (fun _ => Bool) (@Bool.rec (fun _ => Bool) (@Bool.rec (fun _ => Bool) false (ai_nth env false (fun q => @Bool.rec (fun _ => Bool) false (Nat.beq (ai_b q.1) (loc[i]).2) (Nat.beq q.1 q.2)) a.2) (@Bool.rec (fun _ => Bool) false (Nat.beq a.1 1) (Nat.beq (loc[i]).1 0))) (Nat.ble (loc[i]).1 2) (Nat.beq a.1 2)) true (ai_eqV loc[i] a)) = true := g
    rw [ak_if, ak_if] at h1
    split at h1
    · rename_i h2; rw [ai_eqV_iff] at h2; rw [h2]; exact ha
    · split at h1
      · have := Nat.le_of_ble_eq_true h1; omega
      · obtain ⟨h3, h4⟩ := ak_and2 h1
        obtain ⟨h5, h6⟩ := ak_and2 h3
        have h5 := Nat.eq_of_beq_eq_true h5
        omega
  obtain ⟨v, m1, m2, m3⟩ := h3 i _ (List.getElem?_eq_getElem hlt) h8
  exact ⟨v, m1, ai_leV_ok he g m2, m3⟩
theorem ai_leZ_ok {ι : ak_I} {s : State} {nL : Nat} {loc : ai_L} {stk : List ai_V} {w : ai_W} {z : ai_Z} {ws : va_W} {ls : Array Slot} {st : List Value} {H : Heap} {locs : List Loc} (h : ai_leZ loc stk w z = true) (hM : ak_M ι s nL loc stk w ws ls st H locs) : ak_M ι s nL z.1 z.2.1 z.2.2 ws ls st H locs ∧ w.2.2.2.1 ≤ z.2.2.2.2.2.1 ∧ w.2.2.2.2 ≤ z.2.2.2.2.2.2 := by
  obtain ⟨h1, h⟩ := ak_and2 h
  obtain ⟨h2, h⟩ := ak_and2 h
  obtain ⟨h3, h⟩ := ak_and2 h
  obtain ⟨h4, h⟩ := ak_and2 h
  obtain ⟨h5, h6⟩ := ak_and2 h
  obtain ⟨h7, h8⟩ := ak_and2 h5
  obtain ⟨m1, m2, m3, m4, m5, m6, m7⟩ := hM
  refine ⟨⟨m1, m2, m3, ?_, ai_leL_ok m7 h3 m5, ai_leS_ok m7 h2 m6, ai_leE_ok h4 m7⟩, Nat.le_of_ble_eq_true h7, Nat.le_of_ble_eq_true h8⟩
  rw [← Nat.eq_of_beq_eq_true h1]
  exact ai_leH_ok h6 m4
theorem ai_dd_ok {h : ai_H} (hd : ai_dd h = true) : ∀ (k : Nat) (c : ai_C), h[k]? = some c → c.1 = 9 := by
  induction h with
  | nil => intro k c hc; cases hc
  | cons a tl ih =>
    have h1 : (@Bool.rec (fun _ => Bool) false (ai_dd tl) (Nat.beq a.1 9)) = true := hd
    obtain ⟨g1, g2⟩ := ak_and2 h1
    intro k c hc
    cases k with
    | zero => cases hc; exact Nat.eq_of_beq_eq_true g1
    | succ k => exact ih g2 k c hc
theorem ai_leO_ok {ι : ak_I} {M : ai_M} {φ : ak_Fr} {Q : State → Prop} {nz : Nat} {o o' : ai_O} (hnz : ι.2.2.2.2.2.length ≤ nz) (h : ai_leO nz o o' = true) (hE : ak_End ι M φ Q o') : ak_End ι M φ Q o := by
  obtain ⟨h1, h⟩ := ak_and2 h
  obtain ⟨h2, h⟩ := ak_and2 h
  obtain ⟨h3, h4⟩ := ak_and2 h
  have h3 := Nat.le_of_ble_eq_true h3
  simp only [ak_if, Nat.beq_eq] at h4
  intro ws ls H locs pc nc ns v hnc hns hP hD hads hS hh he hv
  have hv' : ∀ ws' : va_W, (o'.1 = none ∧ v = none ∧ φ.2.2.2.2.2.2.2.2.1.sig.returnType = none ∧ decode φ.2.2.2.2.2.2.2.2.2.code pc = .ok (.return_, 1)) ∨ (∃ (a : ai_V) (x : Int32), o'.1 = some a ∧ v = some (.int x) ∧ ak_v ι (ws'.map Prod.fst) a (.int x) ∧ (∃ ty, φ.2.2.2.2.2.2.2.2.1.sig.returnType = some ty ∧ narrow ty (.int x) = .int x) ∧ decode φ.2.2.2.2.2.2.2.2.2.code pc = .ok (.ireturn, 1)) ∨ (∃ k : Nat, o'.1 = some (8, k) ∧ v = none ∧ pc = k ∧ ls.size = M.1 ∧ nc = 0 ∧ ns = 0) := by
    intro ws'
    rcases hv with ⟨a1, a2, a3, a4⟩ | ⟨a, x, a1, a2, a3, a4, a5⟩ | ⟨a, x, a1, a2, a3, a4, a5, a6⟩ | ⟨k, a1, a2, a3⟩
    · rw [a1] at h1
      cases ho : o'.1 with
      | none => exact Or.inl ⟨rfl, a2, a3, a4⟩
      | some u => rw [ho] at h1; cases h1
    · rw [a1] at h1
      cases ho : o'.1 with
      | none => rw [ho] at h1; cases h1
      | some u =>
        rw [ho] at h1
        have h1 : (@Bool.rec (fun _ => Bool) (@Bool.rec (fun _ => Bool) false (ai_leV o.2.2.2 a u) (Nat.ble u.1 2)) (ai_eqV a u) (Nat.beq u.1 8)) = true := h1
        rw [ak_if] at h1
        split at h1
        · rename_i hu8
          rw [ai_eqV_iff] at h1
          subst h1
          have hu8 := Nat.eq_of_beq_eq_true hu8
          rcases a3 with ⟨b, c⟩ | ⟨b, c⟩ | ⟨b, c⟩ | ⟨b, c⟩ | ⟨b, c⟩ | ⟨b, c⟩ | ⟨b, c⟩ | ⟨b, c⟩ <;> omega
        obtain ⟨g1, g2⟩ := ak_and2 h1
        have g3 := ai_leV_ok he g2 a3
        refine Or.inr (Or.inl ⟨u, x, rfl, a2, ?_, a4, a5⟩)
        have g1 := Nat.le_of_ble_eq_true g1
        rcases g3 with ⟨b, c⟩ | ⟨b, c⟩ | ⟨b, c⟩ | ⟨b, c⟩ | ⟨b, y, c⟩ | ⟨b, c⟩ | ⟨b, y, -, c⟩ | ⟨b, c⟩ <;> first | cases c | skip
        · exact Or.inl ⟨b, rfl⟩
        · exact Or.inr (Or.inl ⟨b, rfl⟩)
        · exact Or.inr (Or.inr (Or.inl ⟨b, x, rfl⟩))
    · rw [a1] at h1
      cases ho : o'.1 with
      | none => rw [ho] at h1; cases h1
      | some u =>
        rw [ho] at h1
        have h1 : (@Bool.rec (fun _ => Bool) (@Bool.rec (fun _ => Bool) false (ai_leV o.2.2.2 a u) (Nat.ble u.1 2)) (ai_eqV a u) (Nat.beq u.1 8)) = true := h1
        rw [ak_if] at h1
        split at h1
        · rename_i hu8
          rw [ai_eqV_iff] at h1
          subst h1
          have hu8 := Nat.eq_of_beq_eq_true hu8
          rcases a4 with ⟨b, c⟩ | ⟨b, c⟩ | ⟨b, c⟩ | ⟨b, c⟩ | ⟨b, c⟩ | ⟨b, c⟩ | ⟨b, c⟩ | ⟨b, c⟩ <;> omega
        obtain ⟨g1, g2⟩ := ak_and2 h1
        have g3 := ai_leV_ok he g2 a4
        obtain ⟨y, hy, -, -⟩ := ak_v_int g3 (Nat.le_of_ble_eq_true g1)
        rcases a3 with rfl | ⟨q, rfl⟩ <;> cases hy
    · rw [a1] at h1
      cases ho : o'.1 with
      | none => rw [ho] at h1; cases h1
      | some u =>
        rw [ho] at h1
        have h1 : (@Bool.rec (fun _ => Bool) (@Bool.rec (fun _ => Bool) false (ai_leV o.2.2.2 (8, k) u) (Nat.ble u.1 2)) (ai_eqV (8, k) u) (Nat.beq u.1 8)) = true := h1
        rw [ak_if] at h1
        split at h1
        · rw [ai_eqV_iff] at h1
          subst h1
          exact Or.inr (Or.inr ⟨k, rfl, a2, a3⟩)
        · obtain ⟨g1, g2⟩ := ak_and2 h1
          have h3 : (@Bool.rec (fun _ => Bool) (@Bool.rec (fun _ => Bool) (@Bool.rec (fun _ => Bool) false (ai_nth o.2.2.2 false (fun q => @Bool.rec (fun _ => Bool) false (Nat.beq (ai_b q.1) k) (Nat.beq q.1 q.2)) u.2) (@Bool.rec (fun _ => Bool) false (Nat.beq u.1 1) (Nat.beq 8 0))) (Nat.ble 8 2) (Nat.beq u.1 2)) true (ai_eqV (8, k) u)) = true := g2
          rw [ak_if, ak_if] at h3
          split at h3
          · rename_i h4; rw [ai_eqV_iff] at h4; subst h4; rename_i h5; exact absurd rfl h5
          · split at h3
            · cases h3
            · have h5 : (false : Bool) = true := h3
              cases h5
  by_cases hn : o.2.1 = o'.2.1
  · rw [if_pos hn] at h4
    rcases hv' ws with k | k | k
    · exact hE ws ls H locs pc nc ns v hnc hns hP hD hads hS (hn ▸ ai_leH_ok h4 hh) (ai_leE_ok h2 he) (Or.inl k)
    · exact hE ws ls H locs pc nc ns v hnc hns hP hD hads hS (hn ▸ ai_leH_ok h4 hh) (ai_leE_ok h2 he) (Or.inr (Or.inl k))
    · exact hE ws ls H locs pc nc ns v hnc hns hP hD hads hS (hn ▸ ai_leH_ok h4 hh) (ai_leE_ok h2 he) (Or.inr (Or.inr (Or.inr k)))
  · rw [if_neg hn] at h4
    simp only [ak_and, Nat.ble_eq] at h4
    obtain ⟨g1, g3, g4⟩ := h4
    rw [ai_len_eq] at g3
    have gt : ∀ (k : Nat) (q : Nat × va_E), (ws.take o'.2.1)[k]? = some q → ws[k]? = some q := by
      intro k q hk
      rw [List.getElem?_take] at hk
      split at hk
      · exact hk
      · cases hk
    have hP' : va_P ι.2.1 vwCl (ws.take o'.2.1) H := fun k q hk => hP k q (gt k q hk)
    have hD' : va_D (ak_A ι) (ws.take o'.2.1) := ⟨fun i j a b ha hb he => hD.1 i j a b (gt i a ha) (gt j b hb) he, fun k q hk => hD.2 k q (gt k q hk)⟩
    have ha' : ι.2.2.2.2.2 <+: (ws.take o'.2.1).map Prod.fst := by
      rw [List.map_take]
      exact List.prefix_take_iff.mpr ⟨hads, by omega⟩
    have hh' : ak_h ι o'.2.1 o'.2.2.1 (ws.take o'.2.1) := by
      have hlen : (ws.take o'.2.1).length = o'.2.1 := by rw [List.length_take, hh.2.1]; omega
      refine ⟨g3, hlen, fun k c hk hc => ?_⟩
      have : k < (ws.take o'.2.1).length := by omega
      exact ⟨_, List.getElem?_eq_getElem this, Or.inl (ai_dd_ok g4 _ c hc)⟩
    rcases hv' (ws.take o'.2.1) with k | k | k
    · exact hE _ ls H locs pc nc ns v hnc hns hP' hD' ha' hS hh' (ai_leE_ok h2 he) (Or.inl k)
    · exact hE _ ls H locs pc nc ns v hnc hns hP' hD' ha' hS hh' (ai_leE_ok h2 he) (Or.inr (Or.inl k))
    · exact hE _ ls H locs pc nc ns v hnc hns hP' hD' ha' hS hh' (ai_leE_ok h2 he) (Or.inr (Or.inr (Or.inr k)))
theorem ai_any_ok {nz : Nat} {o : ai_O} {ps : List ai_O} (h : ai_any nz o ps = true) : ∃ p ∈ ps, ai_leO nz o p = true := by
  induction ps with
  | nil => cases h
  | cons p tl ih =>
    have h1 : (@Bool.rec (fun _ => Bool) (ai_any nz o tl) true (ai_leO nz o p)) = true := h
    rw [ak_if] at h1
    split at h1
    · rename_i h2; exact ⟨p, List.mem_cons_self, h2⟩
    · obtain ⟨q, q1, q2⟩ := ih h1; exact ⟨q, List.mem_cons_of_mem _ q1, q2⟩
theorem ai_cov_ok {nz : Nat} {ps os : List ai_O} (h : ai_cov nz ps os = true) : ∀ o ∈ os, ∃ p ∈ ps, ai_leO nz o p = true := by
  induction os with
  | nil => intro o ho; cases ho
  | cons a tl ih =>
    have h1 : (@Bool.rec (fun _ => Bool) false (ai_cov nz ps tl) (ai_any nz a ps)) = true := h
    obtain ⟨g1, g2⟩ := ak_and2 h1
    intro o ho
    rcases List.mem_cons.mp ho with rfl | ho
    · exact ai_any_ok g1
    · exact ih g2 o ho
theorem ak_At.weak {ι : ak_I} {M : ai_M} {φ : ak_Fr} {pc r : Nat} {z : ai_Z} {os ps : List ai_O} (hn : ι.2.2.2.2.2.length ≤ r) (h : ai_cov r ps os = true) (hA : ak_At ι M φ pc z os) : ak_At ι M φ pc z ps := by
  intro Q hQ ws ls st H locs hM
  refine hA Q (fun o ho => ?_) ws ls st H locs hM
  obtain ⟨p, p1, p2⟩ := ai_cov_ok h o ho
  exact ai_leO_ok hn p2 (hQ p p1)
theorem ak_M.few {ι : ak_I} {s : State} {nL : Nat} {loc : ai_L} {stk : List ai_V} {w : ai_W} {ws : va_W} {ls : Array Slot} {st : List Value} {H : Heap} {locs : List Loc} (hM : ak_M ι s nL loc stk w ws ls st H locs) : ι.2.2.2.2.2.length ≤ w.1 := by
  have h1 := hM.2.1.2.length_le
  have h2 := hM.2.2.2.1.2.1
  rw [List.length_map, h2] at h1
  exact h1
theorem ak_At.under {ι : ak_I} {M : ai_M} {φ : ak_Fr} {pc : Nat} {loc : ai_L} {stk : List ai_V} {w : ai_W} {z : ai_Z} {os : List ai_O} (h : ai_leZ loc stk w z = true) (hA : ak_At ι M φ pc z os) : ak_At ι M φ pc (loc, stk, w) os := by
  intro Q hQ ws ls st H locs hM
  obtain ⟨h1, h2, h3⟩ := ai_leZ_ok h hM
  exact W.widen h2 h3 (hA Q hQ ws ls st H locs h1)
theorem ai_stp_ok {ι : ak_I} {M : ai_M} {φ : ak_Fr} {pc : Nat} {loc : ai_L} {stk : List ai_V} {w : ai_W} {n : ai_P} {ts : List ai_T} (hts : ∀ t ∈ ts, ak_At ι M φ t.1 t.2.1 t.2.2) {os : List ai_O} (h : ai_stp ts pc loc stk w n = some os) : n = some os ∨ ak_At ι M φ pc (loc, stk, w) os := by
  induction ts with
  | nil => exact Or.inl h
  | cons t tl ih =>
    have h1 : (@Bool.rec (fun _ => ai_P) (ai_stp tl pc loc stk w n) (@Bool.rec (fun _ => ai_P) (ai_stp tl pc loc stk w n) (some t.2.2) (ai_leZ loc stk w t.2.1)) (Nat.beq t.1 pc)) = some os := h
    have ih := ih (fun t ht => hts t (List.mem_cons_of_mem _ ht))
    rw [ak_if, ak_if] at h1
    split at h1
    · rename_i hp
      split at h1
      · rename_i hz
        cases h1
        refine Or.inr ?_
        rw [← Nat.eq_of_beq_eq_true hp]
        exact ak_At.under hz (hts t List.mem_cons_self)
      · exact ih h1
    · exact ih h1
section TOP
variable {ι : ak_I} {q : MethodName × ByteArray × Option FieldType × Nat} {M : ai_M} {d mid : Nat} {p : Program} {l : Launch} {e : Env} {R : Room} {s : State} {m : MethodId} {args : Array Value} {below : List Frame} {meth : Method} {c : Code} {X : ai_X} {ts : List ai_T}
theorem ai_nxt_ok {ih : ai_X} (hg : ak_glob) (ho : ak_ordw) (ht : ak_tabok) (hX : ak_X X) (hT : ai_tab[mid]? = some M) (hq : ak_mt[mid]? = some q) (C : ak_C ι q.1 q.2.1 q.2.2.1 M d p l e R s m args below meth c) (hih : ∀ (pc : Nat) (rest : List ai_N), (∀ e ∈ rest, e ∈ M.2.1) → ak_Snd ι M (p, l, e, R, s, m, args, below, meth, c) pc (ih d M pc rest)) (pc : Nat) (rest : List ai_N) (hr : ∀ e ∈ rest, e ∈ M.2.1) : ak_Snd ι M (p, l, e, R, s, m, args, below, meth, c) pc (ai_nxt X ih d M pc rest) := by
  intro loc stk w outs h Q hQ ws ls st H locs hM
  cases rest with
  | nil => cases h
  | cons en tl =>
    simp only [ai_nxt, ak_if, Nat.beq_eq] at h
    split at h
    · rename_i hpc
      subst hpc
      simp only [ai_one2, ak_op] at h
      cases hh : ai_h en with
      | none => rw [hh] at h; cases h
      | some hd =>
        rw [hh] at h
        exact ah_one (sq := ih d M (Nat.add en.1 en.2.2.1) tl) (jm := ai_jm ih d M) hX hg ho C (ht mid M q hT hq en (hr en List.mem_cons_self)) hh (hih _ tl (fun e he => hr e (List.mem_cons_of_mem _ he))) (fun t => hih t _ (fun e he => ai_seek_mem t M.2.1 e he)) loc stk w outs h Q hQ ws ls st H locs hM
    · cases h
theorem ai_top_ok (hg : ak_glob) (ho : ak_ordw) (ht : ak_tabok) (hX : ak_X X) (hT : ai_tab[mid]? = some M) (hq : ak_mt[mid]? = some q) (C : ak_C ι q.1 q.2.1 q.2.2.1 M d p l e R s m args below meth c) (hts : ∀ t ∈ ts, ak_At ι M (p, l, e, R, s, m, args, below, meth, c) t.1 t.2.1 t.2.2) : ∀ (n pc : Nat) (rest : List ai_N), (∀ e ∈ rest, e ∈ M.2.1) → ak_Snd ι M (p, l, e, R, s, m, args, below, meth, c) pc (ai_top X ts n d M pc rest) := by
  intro n
  induction n with
  | zero => intro pc rest hr loc stk w outs h; cases h
  | succ n ih =>
    intro pc rest hr loc stk w outs h
    have h1 : ai_stp ts pc loc stk w (ai_nxt X (ai_top X ts n) d M pc rest loc stk w) = some outs := h
    rcases ai_stp_ok hts h1 with h2 | h2
    · exact ai_nxt_ok hg ho ht hX hT hq C ih pc rest hr loc stk w outs h2
    · exact h2
end TOP
theorem ai_go_okG {G : ak_I → ak_Fr → Prop} {X : ai_X} {ts : List ai_T} {n r d mid pc : Nat} {M : ai_M} {z : ai_Z} {ps : List ai_O} (hg : ak_glob) (ho : ak_ordw) (ht : ak_tabok) (hX : ak_X X) (hT : ai_tab[mid]? = some M) (hts : ∀ t ∈ ts, ak_FG G r d mid t.1 t.2.1 t.2.2) (h : ai_go X ts n r d M pc z ps = true) : ak_FG G r d mid pc z ps := by
  intro M' q hT' hq ι p l e R s m args below meth c hG hn C
  cases hT.symm.trans hT'
  have h1 : (@Option.rec _ (fun _ => Bool) false (fun os => ai_cov r ps os) (ai_nxt X (ai_top X ts n) d M pc (ai_seek pc M.2.1) z.1 z.2.1 z.2.2)) = true := h
  cases hr : ai_nxt X (ai_top X ts n) d M pc (ai_seek pc M.2.1) z.1 z.2.1 z.2.2 with
  | none => rw [hr] at h1; cases h1
  | some os =>
    rw [hr] at h1
    refine ak_At.weak hn h1 ?_
    exact ai_nxt_ok hg ho ht hX hT hq C (ai_top_ok hg ho ht hX hT hq C (fun t h => hts t h M q hT hq ι p l e R s m args below meth c hG hn C) n) pc (ai_seek pc M.2.1) (ai_seek_mem pc M.2.1) z.1 z.2.1 z.2.2 os hr
theorem ai_go_ok {X : ai_X} {ts : List ai_T} {n r d mid pc : Nat} {M : ai_M} {z : ai_Z} {ps : List ai_O} (hg : ak_glob) (ho : ak_ordw) (ht : ak_tabok) (hX : ak_X X) (hT : ai_tab[mid]? = some M) (hts : ∀ t ∈ ts, ak_F r d mid t.1 t.2.1 t.2.2) (h : ai_go X ts n r d M pc z ps = true) : ak_F r d mid pc z ps := fun M' q h1 h2 ι p l e R s m args below meth c hn C => ai_go_okG (G := fun _ _ => True) hg ho ht hX hT (fun t h M q h1 h2 ι p l e R s m args below meth c _ => hts t h M q h1 h2 ι p l e R s m args below meth c) h M' q h1 h2 ι p l e R s m args below meth c trivial hn C
/-- at a stop on the way there is nothing to show -/
theorem ak_hook {r d mid pc n : Nat} {l : ai_L} {h : ai_H} {env : ai_E} : ak_F r d mid pc (l, [], n, h, env, 0, 0) [(some (8, pc), n, h, env)] := by
  intro M q hT hq ι p l e R s m args below meth c hn C Q hQ ws ls st H locs hM
  obtain ⟨m1, m2, m3, m4, m5, m6, m7⟩ := hM
  obtain rfl := ak_s_nil m6
  exact hQ _ List.mem_cons_self ws ls H locs pc 0 0 none (Nat.zero_le _) (Nat.zero_le _) m1 m2.1 m2.2 m3 m4 m7 (Or.inr (Or.inr (Or.inr ⟨pc, rfl, rfl, rfl, by obtain ⟨-, lv, hl, -⟩ := m5; exact hl.1, rfl, rfl⟩)))
/-- an oracle's word is good -/
def ak_U (u : ai_U) : Prop := ∃ mid : Nat, (∀ (mid' : Nat) (M : ai_M), ai_tab[mid']? = some M → ai_key u.1 M = true → mid' = mid) ∧ ak_F u.2.2.2.1.1 u.2.1 mid 0 (u.2.2.1, [], u.2.2.2.1) u.2.2.2.2
theorem ai_orc_ok {us : List ai_U} {X : ai_X} (hX : ak_X X) (hus : ∀ u ∈ us, ak_U u) : ak_X (ai_orc us X) := by
  intro d mid M q hT hq ι p l e R s m args below meth c C pc rest hr loc stk w outs h
  have h1 : (@Bool.rec (fun _ => ai_P) (X d M pc rest loc stk w) (@List.rec ai_U (fun _ => ai_P) (X d M pc rest loc stk w) (fun u _ ih => @Bool.rec (fun _ => ai_P) ih (@Bool.rec (fun _ => ai_P) ih (some u.2.2.2.2) (ai_leZ loc stk w (u.2.2.1, [], u.2.2.2.1))) (@Bool.rec (fun _ => Bool) false (ai_key u.1 M) (Nat.beq u.2.1 d))) us) (Nat.beq pc 0)) = some outs := h
  have hx := hX d mid M q hT hq ι p l e R s m args below meth c C pc rest hr loc stk w outs
  rw [ak_if] at h1
  split at h1
  · rename_i hpc
    have hpc := Nat.eq_of_beq_eq_true hpc
    subst hpc
    clear h hr
    induction us with
    | nil => exact hx h1
    | cons u tl ih =>
      have ih := ih (fun u hu => hus u (List.mem_cons_of_mem _ hu))
      dsimp only at h1
      simp only [ak_if, ak_and, Nat.beq_eq] at h1
      split at h1
      · rename_i hk
        split at h1
        · rename_i hz
          cases h1
          obtain ⟨g1, g2⟩ := hk
          obtain ⟨mid', f1, f2⟩ := hus u List.mem_cons_self
          have := f1 mid M hT g2
          subst this
          subst g1
          intro Q hQ ws ls st H locs hM
          have hn := (ai_leZ_ok hz hM).1.few
          exact ak_At.under hz (f2 M q hT hq ι p l e R s m args below meth c hn C) Q hQ ws ls st H locs hM
        · exact ih (by simpa only [ak_if, ak_and, Nat.beq_eq] using h1)
      · exact ih (by simpa only [ak_if, ak_and, Nat.beq_eq] using h1)
  · exact hx h1
end
section
theorem ak_v_def (ty : FieldType) (n : Nat × Nat) (h : (n = (0, 0) ∧ (ty = .int ∨ ty = .boolean)) ∨ (n = (3, 0) ∧ ty = .long) ∨ (n = (5, 0) ∧ ((∃ t, ty = .object t) ∨ ∃ t, ty = .array t))) (ι : ak_I) (ads : List Nat) : ak_v ι ads n (defaultValue ty) := by
  rcases h with ⟨rfl, rfl | rfl⟩ | ⟨rfl, rfl⟩ | ⟨rfl, ⟨t, rfl⟩ | ⟨t, rfl⟩⟩
  · exact Or.inl ⟨rfl, rfl⟩
  · exact Or.inl ⟨rfl, rfl⟩
  · exact Or.inr (Or.inr (Or.inr (Or.inl ⟨rfl, rfl⟩)))
  · exact Or.inr (Or.inr (Or.inr (Or.inr (Or.inr (Or.inl ⟨rfl, rfl⟩)))))
  · exact Or.inr (Or.inr (Or.inr (Or.inr (Or.inr (Or.inl ⟨rfl, rfl⟩)))))
/-- by the first letter -/
def ak_dk (d : Option FieldType) (n : Nat × Nat) : Bool := match d with
  | some .int => decide (n = (0, 0))
  | some .boolean => decide (n = (0, 0))
  | some .long => decide (n = (3, 0))
  | some (.object _) => decide (n = (5, 0))
  | some (.array _) => decide (n = (5, 0))
  | _ => false
theorem ak_dk_ok {d : Option FieldType} {n : Nat × Nat} (h : ak_dk d n = true) : ∃ ty, d = some ty ∧ ∀ (ι : ak_I) (ads : List Nat), ak_v ι ads n (defaultValue ty) := by
  unfold ak_dk at h
  split at h
  · exact ⟨_, rfl, ak_v_def _ _ (Or.inl ⟨of_decide_eq_true h, Or.inl rfl⟩)⟩
  · exact ⟨_, rfl, ak_v_def _ _ (Or.inl ⟨of_decide_eq_true h, Or.inr rfl⟩)⟩
  · exact ⟨_, rfl, ak_v_def _ _ (Or.inr (Or.inl ⟨of_decide_eq_true h, rfl⟩))⟩
  · exact ⟨_, rfl, ak_v_def _ _ (Or.inr (Or.inr ⟨of_decide_eq_true h, Or.inl ⟨_, rfl⟩⟩))⟩
  · exact ⟨_, rfl, ak_v_def _ _ (Or.inr (Or.inr ⟨of_decide_eq_true h, Or.inr ⟨_, rfl⟩⟩))⟩
  · cases h
theorem ak_ini_ok : ∀ ci, ci < vwCl.length → ∀ j, j < ak_n ci → ak_dk (parseFieldDescriptor (ak_fd ci j).2.2.1) (ak_rd (0, ci, (5, 0), ai_ini ci) j) = true := by decide +kernel
theorem ak_glob_ok : ak_glob := by
  refine ⟨ak_W_of (by decide +kernel) rfl, ak_W_of (by decide +kernel) rfl, ak_W_of (by decide +kernel) rfl, ak_W_of (by decide +kernel) rfl, ak_W_of (by decide +kernel) rfl, by decide +kernel, ?_⟩
  intro ci q hq j hj
  have h1 : ci < vwCl.length := (List.getElem?_eq_some_iff.mp hq).1
  have e1 : ak_n ci = q.2.2 := by unfold ak_n; rw [hq]; rfl
  have e2 : ak_fd ci j = q.2.1 j := by unfold ak_fd; rw [hq]; rfl
  have h := ak_ini_ok ci h1 j (by rw [e1]; exact hj)
  rw [e2] at h
  exact ak_dk_ok h
theorem ak_all (n : Nat) : ak_X (ai_run n) := ak_run_ok ak_glob_ok ak_ordw_ok ak_tabok_ok n
theorem ak_cut {X : ai_X} {ts : List ai_T} {n r d mid pc : Nat} {M : ai_M} {z : ai_Z} {ps : List ai_O} (hX : ak_X X) (hT : ai_tab[mid]? = some M) (hts : ∀ t ∈ ts, ak_F r d mid t.1 t.2.1 t.2.2) (h : ai_go X ts n r d M pc z ps = true) : ak_F r d mid pc z ps := ai_go_ok ak_glob_ok ak_ordw_ok ak_tabok_ok hX hT hts h
noncomputable def ak_kone (k : Nat × Nat × Nat × Nat) (mid i : Nat) : Bool := match ai_tab[i]? with
  | some M => !(ai_key k M) || decide (i = mid)
  | none => true
/-- the numbers are one method's alone -/
theorem ak_uni {k : Nat × Nat × Nat × Nat} {mid : Nat} (h : ∀ i, i < 182 → ak_kone k mid i = true) (mid' : Nat) (M : ai_M) (hM : ai_tab[mid']? = some M) (hk : ai_key k M = true) : mid' = mid := by
  have h1 : mid' < 182 := by rw [← ak_len.2]; exact (List.getElem?_eq_some_iff.mp hM).1
  have h2 := h mid' h1
  unfold ak_kone at h2
  rw [hM] at h2
  simp only [hk, Bool.not_true, Bool.false_or, decide_eq_true_eq] at h2
  exact h2
theorem ak_us0 : ∀ u ∈ ([] : List ai_U), ak_U u := fun u h => by cases h
theorem ak_us1 {u : ai_U} {us : List ai_U} (h : ak_U u) (hs : ∀ u ∈ us, ak_U u) : ∀ v ∈ u :: us, ak_U v := by
  intro v hv
  rcases List.mem_cons.mp hv with rfl | hv
  · exact h
  · exact hs v hv
theorem ak_U_of {k : Nat × Nat × Nat × Nat} {d mid : Nat} {l : ai_L} {w : ai_W} {o : List ai_O} (h : ∀ i, i < 182 → ak_kone k mid i = true) (hF : ak_F w.1 d mid 0 (l, [], w) o) : ak_U (k, d, l, w, o) := ⟨mid, ak_uni h, hF⟩
theorem ak_cutG {G : ak_I → ak_Fr → Prop} {X : ai_X} {ts : List ai_T} {n r d mid pc : Nat} {M : ai_M} {z : ai_Z} {ps : List ai_O} (hX : ak_X X) (hT : ai_tab[mid]? = some M) (hts : ∀ t ∈ ts, ak_FG G r d mid t.1 t.2.1 t.2.2) (h : ai_go X ts n r d M pc z ps = true) : ak_FG G r d mid pc z ps := ai_go_okG ak_glob_ok ak_ordw_ok ak_tabok_ok hX hT hts h
end
section
/-! ===== BEGIN exceptions that leave a method, and their catching by the caller (launches without stack traces) ===== -/
section VXA
/-! The laws vx_back, vx_callV, vx_callS, vx_callSW, vx_throw0, vx_throwS follow proofs of the library, with one case more: JvmDerived/Free/Laws.lean (Back.of_free), Shelf42/LK1.lean (callV, callS), Shelf/KitTraced.lean (throwNew0V, throwNewS). -/
/-- where a method has thrown q: the class by its name, the cell, what was written, the world -/
def vx_T (XC : String → State → State → Prop) (st : State) (q : Addr) (t : State) (mc ms : Nat) (free : Addr → Prop) : Prop :=
  ∃ (E : String) (ce : Cell) (L : List Loc), XC E st t ∧ t.heap[q]? = some ce ∧ ce.vm = .none ∧ st.vm.findClass E = some ce.cls ∧ st.WarmedH t.vm ∧ st.sameButNew ({ t with vm := st.vm } : State) L mc ms ∧ ∀ z ∈ L, free z.base
def vx_Q (Qc : Array Value → State → Outcome → State → Prop) (XC : String → State → State → Prop) (mc ms : Nat) (free : Addr → Prop) : Array Value → State → Outcome → State → Prop := fun a st o t =>
  (Qc a st o t ∧ ∃ L, FrameEnd st o t L mc ms ∧ ∀ q ∈ L, free q.base) ∨ ∃ q, o = .threw q ∧ vx_T XC st q t mc ms free
/-- a callee that returns or throws -/
def vx_Met (l : Launch) (y : MethodName) (ws : List Cond) (rm : Room) (Pc : Array Value → State → Prop) (Qc : Array Value → State → Outcome → State → Prop) (XC : String → State → State → Prop) (mc ms : Nat) (free : Addr → Prop) : Prop :=
  MetFree l y (headSpec ws rm) Pc (fun _ _ _ _ _ => True) (vx_Q Qc XC mc ms free)
def vx_Post (XC : String → State → State → Prop) (mc ms : Nat) (free : Addr → Prop) : Pt → Array Value → Addr → Pt → Prop := fun A a q B =>
  ∃ (g : JFrame) (mk : MethodId) (t : State) (L : List Loc) (E : String) (ce : Cell), B.U.heap = t.heap ∧ B.U.vm = t.vm ∧ XC E (A.U.calling g mk a) t ∧ t.heap[q]? = some ce ∧ ce.vm = .none ∧ A.U.vm.findClass E = some ce.cls ∧ B.locs = A.locs ++ L ∧ (∀ z ∈ L, free z.base) ∧ B.cells = A.cells + mc ∧ B.slots = A.slots + ms
def vx_Back (l : Launch) (R : Room) (p : Program) (e : Env) (below : List Frame) (s : State) (sargs : Array Value) (y : MethodName) (len W9 : Nat)
    (Pre : Pt → Array Value → Prop) (Post : Pt → Array Value → Option Value → Pt → Prop) (PostX : Pt → Array Value → Addr → Pt → Prop) : Prop :=
  ∀ (m : MethodId) (meth : Method) (c : Code) (A : Pt) (g : JFrame) (ig : Instr) (mk : MethodId) (a : Array Value),
    Stand p l e R s m sargs below meth c A.U A.locs A.cells A.slots → g.method = m → g.locals.size = c.maxLocals → decode c.code g.pc = .ok (ig, len) →
    2 * g.monitorRoom + (g.stack.map fun v => v.category).sum ≤ W9 → A.U.methodNamed? y = some mk → Pre A a →
    (∃ (v : Option Value) (B : Pt), Stand p l e R s m sargs below meth c B.U B.locs B.cells B.slots ∧ Post A a v B ∧
      Steps p.tables e below (doInvoke e (A.U.setTop g) [] mk a).1 (B.U.setTop { g with pc := g.pc + len, stack := v.toList ++ g.stack })) ∨
    (∃ (q : Addr) (B : Pt), Stand p l e R s m sargs below meth c B.U B.locs B.cells B.slots ∧ PostX A a q B ∧
      Steps p.tables e below (doInvoke e (A.U.setTop g) [] mk a).1 ((B.U.setTop g).pushFrame (.throwing q)))
section Payer
variable {l : Launch} {R : Room} {p : Program} {e : Env} {below : List Frame} {s : State} {sargs : Array Value} {y : MethodName} {len W9 : Nat}
theorem vx_back {ws : List Cond} {rm : Room} {Pc : Array Value → State → Prop} {Qc : Array Value → State → Outcome → State → Prop} {XC : String → State → State → Prop} {mc ms : Nat} {free : Addr → Prop} {bytes : ByteArray} {maxL : Nat} {ret : Option FieldType}
    (hM : vx_Met l y ws rm Pc Qc XC mc ms free) (hblind : FrameBlind Pc) (hrc : rm.cells = mc) (hrs : rm.slots = ms)
    (hframes : rm.frames + 1 ≤ R.frames) (hlocals : W9 + (maxL + 11) + rm.locals ≤ R.locals)
    (hws : ∀ w ∈ ws, ∀ a' U, s.WarmedH U.vm → w.before a' U = true) (hcode : Cond.code y bytes maxL ret ∈ ws) (hinit : ∀ a' U, s.WarmedH U.vm → (Cond.initialized y.cls).before a' U = true) :
    vx_Back l R p e below s sargs y len W9 (PreOf R mc ms Pc) (PostOf Qc mc ms free) (vx_Post XC mc ms free) := by
  intro m meth c A g ig mk a X hg hsize hdg hW hn hp
  have h1 : (headSpec ws rm).pre.before a A.U = true := atoms_intro fun w hw => hws w hw _ _ X.warmed
  have h2 : (Cond.code y bytes maxL ret).before a A.U = true := hws _ hcode _ _ X.warmed
  have h3 : (Cond.initialized y.cls).before a A.U = true := hinit _ _ X.warmed
  have h4 : A.cells + (headSpec ws rm).room.cells ≤ R.cells := by rw [show (headSpec ws rm).room.cells = mc from hrc]; exact hp.1
  have h5 : A.slots + (headSpec ws rm).room.slots ≤ R.slots := by rw [show (headSpec ws rm).room.slots = ms from hrs]; exact hp.2.1
  have hPc : Pc a (A.U.calling g mk a) := hblind _ _ _ _ hp.2.2
  obtain ⟨U, Ls, c0, s0⟩ := A
  dsimp only [Pt.U, Pt.locs, Pt.cells, Pt.slots] at h1 h2 h3 h4 h5 X hn hPc ⊢
  obtain ⟨methY, cY, hmY, hcY, -, hlY, -, -, -, -⟩ := Cond.code_spec hn h2
  obtain ⟨kY, hkY, -⟩ := className_of_methodNamed hn
  have hinitY : kY.init = .initialized := Cond.initialized_spec (findClass_of_methodNamed hn) hkY h3
  have h : At U g.method c below := by rw [hg]; exact X.here
  have hlocals9 : W9 + (maxL + 11) + (headSpec ws rm).room.locals ≤ R.locals := hlocals
  have happ : (headSpec ws rm).appliesLoose y e.platform (U.calling g mk a) = true :=
    Spec.appliesLoose_calling (g := g) h hdg hn hkY hinitY
      (X.room_calling (g := g) (R' := (headSpec ws rm).room) hsize hmY hcY hframes (by rw [hlY]; omega) h4 h5) h1
  obtain ⟨mid, hmid⟩ := h.above
  have hfr : (U.setTop g).frames = (.java g :: mid) ++ below := by rw [State.frames_setTop' g h.top, hmid]; rfl
  obtain ⟨o, s₂, hsteps, -, hend, hq⟩ := Steps.callFree hM p X.admits X.cas X.clock (acts := []) hfr happ hPc trivial
  have hq' : vx_Q Qc XC mc ms free a (U.calling g mk a) o s₂ := hq
  rw [State.frames_setTop' g h.top] at hend
  obtain ⟨g₀, hg0⟩ := Option.isSome_iff_exists.mp h.top
  obtain ⟨r, hr⟩ := State.topJava?_eq_some.mp hg0
  have hr' : (({ U with heap := s₂.heap, slotsUsed := s₂.slotsUsed } : State).setVm s₂.vm).frames = .java g₀ :: r := hr
  rcases hq' with ⟨hqc, L, hfe, hL⟩ | ⟨q, rfl, E, ce, L, hx, hce, hcv, hcl, hW₂, hsm, hL⟩
  · obtain ⟨⟨v, rfl⟩, hW₂, e2, q2, q3, q4, q5, q6⟩ := id hfe
    have e3 : s₂ = ({ (U.calling g mk a).setFrames s₂.frames with heap := s₂.heap, slotsUsed := s₂.slotsUsed } : State).setVm s₂.vm := by
      have : s₂ = ({ s₂ with vm := (U.calling g mk a).vm } : State).setVm s₂.vm := rfl
      rw [e2] at this
      exact this
    obtain ⟨c₂, i₂, len₂, hc₂, hd₂, hf₂⟩ := hend
    have hW' : U.WarmedH s₂.vm := hW₂
    have hcc : c₂ = c := by
      have h1 : s₂.code? g.method = U.code? g.method := by
        rw [State.code?_eq, State.code?_eq, hW'.alike.method?]
      exact Option.some.inj (hc₂.symm.trans (h1.trans h.code))
    subst hcc
    have hlen : len₂ = len := by rw [hdg] at hd₂; cases hd₂; rfl
    subst hlen
    have hs₂ : s₂ = (({ U with heap := s₂.heap, slotsUsed := s₂.slotsUsed } : State).setVm s₂.vm).setTop { g with pc := g.pc + len₂, stack := v.toList ++ g.stack } := by
      refine e3.trans ?_
      rw [hf₂, State.calling_eq h.top, State.setFrames_setFrames, State.setTop_of_frames _ hr', hr]
      rfl
    have hsame : U.sameButNew ({ U with heap := s₂.heap, slotsUsed := s₂.slotsUsed } : State) L mc ms := by
      refine ⟨?_, q2, q3, q4, q5, q6⟩
      obtain ⟨t, ht, -⟩ := State.frames_cons hr
      show ({ U with heap := s₂.heap, slotsUsed := s₂.slotsUsed } : State) = { U.setFrames U.frames with heap := s₂.heap, slotsUsed := s₂.slotsUsed }
      rw [State.setFrames_self ht]
    subst hg
    refine Or.inl ⟨v, ⟨(({ U with heap := s₂.heap, slotsUsed := s₂.slotsUsed } : State).setVm s₂.vm), Ls ++ L, c0 + mc, s0 + ms⟩,
      ⟨X.admits, X.cas, X.clock, X.frames, X.room, X.hears, X.method, X.code, (X.here.setHeapUsed s₂.heap s₂.slotsUsed).setVm hW'.alike, X.tail, State.WarmedH.trans X.warmed hW', X.limits, X.bytes, X.same.trans (hsame.setVm s.vm)⟩,
      ⟨g, mk, s₂, L, rfl, rfl, hqc, rfl, hL, rfl, rfl⟩, ?_⟩
    show Steps p.tables e below _ ((({ U with heap := s₂.heap, slotsUsed := s₂.slotsUsed } : State).setVm s₂.vm).setTop { g with pc := g.pc + len₂, stack := v.toList ++ g.stack })
    rw [← hs₂]
    exact hsteps
  · obtain ⟨e2, q2, q3, q4, q5, q6⟩ := id hsm
    have e3 : s₂ = ({ (U.calling g mk a).setFrames s₂.frames with heap := s₂.heap, slotsUsed := s₂.slotsUsed } : State).setVm s₂.vm := by
      have : s₂ = ({ s₂ with vm := (U.calling g mk a).vm } : State).setVm s₂.vm := rfl
      rw [e2] at this
      exact this
    have hf₂ : s₂.frames = .throwing q :: .java g :: U.frames.tail := hend
    have hW' : U.WarmedH s₂.vm := hW₂
    have hs₂ : s₂ = ((({ U with heap := s₂.heap, slotsUsed := s₂.slotsUsed } : State).setVm s₂.vm).setTop g).pushFrame (.throwing q) := by
      refine e3.trans ?_
      rw [hf₂, State.calling_eq h.top, State.setFrames_setFrames, State.pushFrame, State.frames_setTop _ hr', State.setTop_of_frames _ hr', State.setFrames_setFrames, hr]
      rfl
    have hsame : U.sameButNew ({ U with heap := s₂.heap, slotsUsed := s₂.slotsUsed } : State) L mc ms := by
      refine ⟨?_, q2, q3, q4, q5, q6⟩
      obtain ⟨t, ht, -⟩ := State.frames_cons hr
      show ({ U with heap := s₂.heap, slotsUsed := s₂.slotsUsed } : State) = { U.setFrames U.frames with heap := s₂.heap, slotsUsed := s₂.slotsUsed }
      rw [State.setFrames_self ht]
    subst hg
    refine Or.inr ⟨q, ⟨(({ U with heap := s₂.heap, slotsUsed := s₂.slotsUsed } : State).setVm s₂.vm), Ls ++ L, c0 + mc, s0 + ms⟩,
      ⟨X.admits, X.cas, X.clock, X.frames, X.room, X.hears, X.method, X.code, (X.here.setHeapUsed s₂.heap s₂.slotsUsed).setVm hW'.alike, X.tail, State.WarmedH.trans X.warmed hW', X.limits, X.bytes, X.same.trans (hsame.setVm s.vm)⟩,
      ⟨g, mk, s₂, L, E, ce, rfl, rfl, hx, hce, hcv, hcl, rfl, hL, rfl, rfl⟩, ?_⟩
    show Steps p.tables e below _ (((({ U with heap := s₂.heap, slotsUsed := s₂.slotsUsed } : State).setVm s₂.vm).setTop g).pushFrame (.throwing q))
    rw [← hs₂]
    exact hsteps
end Payer
section Calls
variable {p : Program} {l : Launch} {e : Env} {R : Room} {s : State} {m : MethodId} {args : Array Value} {below : List Frame} {meth : Method} {c : Code} {T : State} {locs : List Loc} {cells slots : Nat}
theorem vx_callV (X : Stand p l e R s m args below meth c T locs cells slots) (hexec : p.tables.exec = Jvm.exec) {own C : String} {index : Nat} {y : MethodName} {bytes : ByteArray} {maxL : Nat} {ret : Option FieldType}
    (hown : s.vm.findClass own = some m.cls) (hlink : (Cond.methodLink own index y).before args s = true) (hinst : (Cond.instanceMethod y).before args s = true) (hsel : (Cond.selects C y y).before args s = true)
    (hcode : (Cond.code y bytes maxL ret).before args s = true) (hy : y.cls ≠ "java/lang/invoke/MethodHandle" ∧ y.cls ≠ "java/lang/invoke/VarHandle")
    {W9 : Nat} {Pre : Pt → Array Value → Prop} {Post : Pt → Array Value → Option Value → Pt → Prop} {PostX : Pt → Array Value → Addr → Pt → Prop} (hK : vx_Back l R p e below s args y 3 W9 Pre Post PostX)
    {b : Addr} {cellB : Cell} (hcell : T.heap[b]? = some cellB) (hobj : cellB.vm.isStatics = false) (hcls : s.vm.findClass C = some cellB.cls)
    {g : JFrame} (hg : g.method = m) (hsize : g.locals.size = c.maxLocals) {argsL rest : List Value} (hlen : ∀ sig, parseMethodDescriptor y.desc = some sig → argsL.length = sig.parameters.length)
    (hstack : g.stack = argsL.reverse ++ .ref b :: rest) (hW : 2 * g.monitorRoom + (rest.map fun v => v.category).sum ≤ W9) (hdg : decode c.code g.pc = .ok (.invokevirtual index, 3))
    (hpre : ∀ vm₁, s.WarmedH vm₁ → Pre ⟨T.setVm vm₁, locs, cells, slots⟩ (Value.ref b :: argsL).toArray) :
    (∃ (v : Option Value) (vm₁ : Vm) (B : Pt), s.WarmedH vm₁ ∧ Stand p l e R s m args below meth c B.U B.locs B.cells B.slots ∧ Post ⟨T.setVm vm₁, locs, cells, slots⟩ (Value.ref b :: argsL).toArray v B ∧
      ∀ target, Steps p.tables e below (B.U.setTop { g with pc := g.pc + 3, stack := v.toList ++ rest }) target → Steps p.tables e below (T.setTop g) target) ∨
    (∃ (q : Addr) (vm₁ : Vm) (B : Pt), s.WarmedH vm₁ ∧ Stand p l e R s m args below meth c B.U B.locs B.cells B.slots ∧ PostX ⟨T.setVm vm₁, locs, cells, slots⟩ (Value.ref b :: argsL).toArray q B ∧
      Steps p.tables e below (T.setTop g) ((B.U.setTop { g with stack := rest }).pushFrame (.throwing q))) := by
  obtain ⟨mk, methM, hnamed, hmethM, hstM, habM⟩ := Cond.instanceMethod_spec hinst
  obtain ⟨methM', cM, hmethM', -, -, -, -, -, -, hsigM⟩ := Cond.code_spec hnamed hcode
  cases hmethM.symm.trans hmethM'
  obtain ⟨c2, r2, m2, q1, q2, q3, q4, kP, hkP, hkPi⟩ := Cond.selects_spec hsel
  cases hcls.symm.trans q1
  cases (State.methodFound?_of_named hnamed hy).symm.trans q2
  cases hnamed.symm.trans q3
  have hselP : selectMethod e.platform s.vm cellB.cls mk = .method mk := by rw [Launch.admits_selectMethod X.admits]; exact q4
  obtain ⟨vm₁, X₁, hstep₁⟩ := X.invokevirtual hexec hown hlink hnamed hmethM hstM hkP hkPi hy (a := b) (cell := cellB) hcell
    (fun z h => by rw [h] at hobj; cases hobj) hselP hmethM habM hkP hkPi (g := g) hg (argsL := argsL) (rest := rest) (hlen _ hsigM) hstack hdg
  rcases hK m meth c ⟨T.setVm vm₁, locs, cells, slots⟩ { g with stack := rest } (.invokevirtual index) mk (Value.ref b :: argsL).toArray X₁ hg hsize hdg hW (X₁.named hnamed) (hpre vm₁ X₁.warmed) with ⟨v, B, X', hpost, hsteps⟩ | ⟨q, B, X', hpost, hsteps⟩
  · exact Or.inl ⟨v, vm₁, B, X₁.warmed, X', hpost, fun target h => hstep₁ _ fun acts => by rw [doInvoke_state]; exact hsteps.trans h⟩
  · exact Or.inr ⟨q, vm₁, B, X₁.warmed, X', hpost, hstep₁ _ fun acts => by rw [doInvoke_state]; exact hsteps⟩
end Calls
theorem vx_cls {s : State} {T : State} {vm₁ : Vm} {E : String} {k : ClassId} (hW : s.WarmedH vm₁) (h : (T.setVm vm₁).vm.findClass E = some k) : s.vm.findClass E = some k := by
  have h1 : vm₁.findClass E = some k := h
  rw [hW.alike.findClass] at h1
  exact h1
/-- the method's frame g, with q thrown over it -/
def vx_W (p : Program) (l : Launch) (e : Env) (R : Room) (s : State) (m : MethodId) (args : Array Value) (below : List Frame) (meth : Method) (c : Code) (H : Heap) (locs : List Loc) (cells slots : Nat) (Q : State → Prop) (g : JFrame) (q : Addr) : Prop :=
  ∀ T : State, T.heap = H → Stand p l e R s m args below meth c T locs cells slots → ∃ t, Steps p.tables e below ((T.setTop g).pushFrame (.throwing q)) t ∧ Q t
def vx_Run (p : Program) (l : Launch) (e : Env) (R : Room) (s : State) (m : MethodId) (args : Array Value) (below : List Frame) (meth : Method) (c : Code) (H : Heap) (locs : List Loc) (cells slots mc ms : Nat) (g : JFrame) (rest : List Value) (Qa : State → Outcome → State → Prop) (XC : String → State → State → Prop) (free : Addr → Prop) : Prop :=
  ∀ T : State, T.heap = H → Stand p l e R s m args below meth c T locs cells slots →
    (∃ (v : Option Value) (st₀ t T' : State) (L : List Loc), st₀.heap = H ∧ Stand p l e R s m args below meth c T' (locs ++ L) (cells + mc) (slots + ms) ∧ (∀ q ∈ L, free q.base) ∧ T'.heap = t.heap ∧ T'.vm = t.vm ∧ Qa st₀ (.returned v) t ∧
      Goes p e below T g T' { g with pc := g.pc + 3, stack := v.toList ++ rest }) ∨
    (∃ (q : Addr) (st₀ t T' : State) (L : List Loc) (E : String) (ce : Cell), st₀.heap = H ∧ Stand p l e R s m args below meth c T' (locs ++ L) (cells + mc) (slots + ms) ∧ (∀ z ∈ L, free z.base) ∧ T'.heap = t.heap ∧ T'.vm = t.vm ∧ XC E st₀ t ∧ t.heap[q]? = some ce ∧ ce.vm = .none ∧ s.vm.findClass E = some ce.cls ∧
      Steps p.tables e below (T.setTop g) ((T'.setTop { g with stack := rest }).pushFrame (.throwing q)))
def vx_X {S : Type} (px : S → Prop) (B : String → S → State → Prop) (A : Nat → Prop) : String → State → State → Prop := fun E st t => ∃ u : S, px u ∧ B E u t ∧ va_F A st t
section Runs
variable {p : Program} {l : Launch} {e : Env} {R : Room} {s : State} {m : MethodId} {args : Array Value} {below : List Frame} {meth : Method} {c : Code} {H : Heap} {locs : List Loc} {cells slots : Nat}
variable {y : MethodName} {bytes cc : ByteArray} {maxL nL mc ms n index : Nat} {ret : Option FieldType} {ws : List Cond} {rm : Room} {Pc : Array Value → State → Prop} {Qc : Array Value → State → Outcome → State → Prop} {XC : String → State → State → Prop} {free : Addr → Prop} {Ts : List Cond} {own C : String} {b : Addr} {As rest : List Value} {g : JFrame}
theorem vx_callBack (cb : CallB R s args own index y bytes maxL ret ws rm mc ms n) (hM : vx_Met l y ws rm Pc Qc XC mc ms free) (hbl : FrameBlind Pc) : vx_Back l R p e below s args y 3 8 (PreOf R mc ms Pc) (PostOf Qc mc ms free) (vx_Post XC mc ms free) := by
  obtain ⟨hrc, hrs, hfr, hlo, hws, hcw, -, hini, -⟩ := cb
  exact vx_back (bytes := bytes) (maxL := maxL) (ret := ret) hM hbl hrc hrs hfr hlo hws hcw (fun a' U hW => word_at hW (Or.inl (by first | rfl | simp [Cond.onTables, Cond.keeps, Cond.steady])) hini)
theorem vx_runV (S : CallFix p m c cc nL s args Ts own) (hM : vx_Met l y ws rm Pc Qc XC mc ms free) (cw : CallW R s args own C index y bytes maxL ret ws rm mc ms n) (hp : PreV s H C b Pc As)
    (hg : g.method = m) (hn : As.length = n) (hsize : g.locals.size = nL) (hstack : g.stack = As.reverse ++ .ref b :: rest) (hW : 2 * g.monitorRoom + (rest.map fun v => v.category).sum ≤ 8) (hdg : decode cc g.pc = .ok (.invokevirtual index, 3)) (hf : cells + mc ≤ R.cells ∧ slots + ms ≤ R.slots) :
    vx_Run p l e R s m args below meth c H locs cells slots mc ms g rest (Qc (Value.ref b :: As).toArray) XC free := by
  have hK : vx_Back l R p e below s args y 3 8 (PreOf R mc ms Pc) (PostOf Qc mc ms free) (vx_Post XC mc ms free) := vx_callBack cw.1 hM hp.1
  obtain ⟨⟨-, -, -, -, -, -, hcode, -, hy, hlen, hl⟩, hin, hse⟩ := cw
  obtain ⟨hx, hb, hml, ho, -⟩ := S
  obtain ⟨-, ⟨cellB, hcB, hoB, hclB⟩, hPc⟩ := hp
  intro T hT X
  rcases vx_callV X hx (C := C) (bytes := bytes) (maxL := maxL) (ret := ret) ho hl hin hse hcode hy hK (by rw [hT]; exact hcB) hoB hclB hg (hsize.trans hml.symm) (argsL := As) (rest := rest) (fun sig h => hn.trans (hlen sig h)) hstack hW (by rw [hb]; exact hdg)
    (fun vm₁ hW₁ => ⟨hf.1, hf.2, hPc (T.setVm vm₁) hT hW₁⟩) with ⟨v, vm₁, ⟨U', l2, c2, s2⟩, hW₁, X', ⟨g', mk, t, L, e1, e2, hq, h1, hL, h2, h3⟩, st⟩ | ⟨q, vm₁, ⟨U', l2, c2, s2⟩, hW₁, X', ⟨g', mk, t, L, E, ce, e1, e2, hq, hce, hcv, hcl, h1, hL, h2, h3⟩, st⟩
  · dsimp only [Pt.U, Pt.locs, Pt.cells, Pt.slots] at X' e1 e2 h1 h2 h3 st
    subst h1; subst h2; subst h3
    exact Or.inl ⟨v, (T.setVm vm₁).calling g' mk (Value.ref b :: As).toArray, t, U', L, hT, X', hL, e1, e2, hq, st⟩
  · dsimp only [Pt.U, Pt.locs, Pt.cells, Pt.slots] at X' e1 e2 h1 h2 h3 st hcl
    subst h1; subst h2; subst h3
    exact Or.inr ⟨q, (T.setVm vm₁).calling g' mk (Value.ref b :: As).toArray, t, U', L, E, ce, hT, X', hL, e1, e2, hq, hce, hcv, vx_cls hW₁ hcl, st⟩
end Runs
section Rows
variable {p : Program} {l : Launch} {e : Env} {R : Room} {s : State} {m : MethodId} {args : Array Value} {below : List Frame} {meth : Method} {c : Code} {H : Heap} {locs : List Loc} {cells slots : Nat} {Q : State → Prop}
variable {mc ms : Nat} {free : Addr → Prop} {A0 A1 : Nat → Prop} {H0 : Heap} {a : Array Value} {pc : Nat} {ls : Array Slot} {st0 rest : List Value}
theorem vx_keep {st₀ t T' : State} {L : List Loc} (h0 : st₀.heap = H) (e1 : T'.heap = t.heap) (hS : va_S A0 H0 H locs) (hA : ∀ q, q < H.size → A1 q → A0 q) (hf : ∀ q, free q → A0 q) (hL : ∀ q ∈ L, free q.base) (hF : va_F A1 st₀ t) :
    H.size ≤ T'.heap.size ∧ (∀ q : Nat, q < H.size → ¬ A1 q → T'.heap[q]? = H[q]?) ∧ va_S A0 H0 T'.heap (locs ++ L) := by
  obtain ⟨hz, hk⟩ := hF
  rw [h0] at hz hk
  exact ⟨by rw [e1]; exact hz, fun q h1 h2 => by rw [e1]; exact hk q h1 h2,
    ⟨Nat.le_trans hS.1 (by rw [e1]; exact hz), fun q h1 h2 => by rw [e1, hk q (Nat.lt_of_lt_of_le h1 hS.1) (fun z => h2 (hA q (Nat.lt_of_lt_of_le h1 hS.1) z))]; exact hS.2.1 q h1 h2, fun q hq => by
      rcases List.mem_append.mp hq with h | h
      · exact hS.2.2 q h
      · exact hf _ (hL q h)⟩⟩
theorem vx_calli {S SX : Type} {post : Int32 → S → Prop} {px : SX → Prop} {B : S → State → Prop} {BX : String → SX → State → Prop} {AX : Nat → Prop} (hr : vx_Run p l e R s m args below meth c H locs cells slots mc ms (F0 m pc ls st0) rest (va_Qi post B A1 a) (vx_X px BX AX) free) (hS : va_S A0 H0 H locs) (hA : ∀ q, q < H.size → A1 q → A0 q) (hf : ∀ q, free q → A0 q) (hAX : ∀ q, q < H.size → AX q → A0 q)
    (kx : ∀ (E : String) (ce : Cell) (q9 : Addr) (u : SX) (t : State) (H1 : Heap) (locs1 : List Loc), t.heap = H1 → s.vm.Alike t.vm → px u → BX E u t → H.size ≤ H1.size → (∀ q : Nat, q < H.size → ¬ AX q → H1[q]? = H[q]?) → va_S A0 H0 H1 locs1 → H1[q9]? = some ce → ce.vm = .none → s.vm.findClass E = some ce.cls → vx_W p l e R s m args below meth c H1 locs1 (cells + mc) (slots + ms) Q (F0 m pc ls rest) q9)
    (kk : ∀ (r : Int32) (u : S) (t : State) (H1 : Heap) (locs1 : List Loc), t.heap = H1 → s.vm.Alike t.vm → post r u → B u t → H.size ≤ H1.size → (∀ q : Nat, q < H.size → ¬ A1 q → H1[q]? = H[q]?) → va_S A0 H0 H1 locs1 → W p l e R s m args below meth c H1 locs1 (cells + mc) (slots + ms) Q (F0 m (pc + 3) ls (.int r :: rest))) : W p l e R s m args below meth c H locs cells slots Q (F0 m pc ls st0) := by
  intro T hT X
  rcases hr T hT X with ⟨v, st₀, t, T', L, h0, X', hL, e1, e2, ⟨⟨r, u, hv, hp, hb⟩, hF⟩, st⟩ | ⟨q, st₀, t, T', L, E, ce, h0, X', hL, e1, e2, ⟨u, hp, hb, hF⟩, hce, hcv, hcl, st⟩
  · cases hv
    obtain ⟨k1, k2, k3⟩ := vx_keep h0 e1 hS hA hf hL hF
    obtain ⟨t2, a1, b1⟩ := kk r u t T'.heap (locs ++ L) e1.symm (by rw [← e2]; exact X'.warmed.alike) hp hb k1 k2 k3 T' rfl X'
    exact ⟨t2, st t2 a1, b1⟩
  · obtain ⟨k1, k2, k3⟩ := vx_keep h0 e1 hS hAX hf hL hF
    obtain ⟨t2, a1, b1⟩ := kx E ce q u t T'.heap (locs ++ L) e1.symm (by rw [← e2]; exact X'.warmed.alike) hp hb k1 k2 k3 (by rw [e1]; exact hce) hcv hcl T' rfl X'
    exact ⟨t2, st.trans a1, b1⟩
/-- the search through a table of one row that takes it: what is found, and the tables it leaves -/
theorem aw_find {f : JFrame} {S : State} {a9 : Addr} {x9 : ExceptionTableEntry} {c9 : ClassId} {cell : Cell} (hm : S.vm.method? f.method = some meth) (hc : meth.code = some c) (ht : c.exceptionTable.toList = [x9]) (hx : covers x9 f.pc = true) (h0 : x9.catchType ≠ 0) (hl : S.vm.ClassLinks e.platform f.method.cls x9.catchType c9) (hcell : S.heap[a9]? = some cell) (hobj : ∀ k, cell.vm ≠ .statics k) (hk : ∃ k, S.vm.classes[cell.cls]? = some k) (hk9 : ∃ k, S.vm.classes[c9]? = some k) (hfit : S.vm.assignable cell.cls c9 = true) (QQ : Handler → _root_.Jvm.Pre) (E : CtlPost) (d : Bool) (acts : List Action) :
    wp (findHandler f a9) QQ E e d acts S ↔ QQ (.found x9.handlerPc) d acts (S.setVm (S.vm.noted f.method.cls x9.catchType (.cls c9))) := by
  rw [_root_.Jvm.W.findHandler_eq hm hc, ht]
  have al : S.vm.Alike (S.vm.noted f.method.cls x9.catchType (.cls c9)) := (Vm.Alike.refl S.vm).noted _ _ _
  obtain ⟨r1, r2⟩ := (resolveClass_links e.toSetting hl).op (op := VmOp.resolveClass f.method.cls x9.catchType) rfl
  obtain ⟨k1, hk1⟩ := hk
  obtain ⟨k2, hk2⟩ := hk9
  obtain ⟨k3, hk3, -⟩ := al.2.2 _ _ hk1
  obtain ⟨k4, hk4, -⟩ := al.2.2 _ _ hk2
  have hf : (S.vm.noted f.method.cls x9.catchType (.cls c9)).assignable cell.cls c9 = true := al.assignable _ _ ▸ hfit
  simp only [covers] at hx
  simp [findHandler.go, hx, h0, r1, r2, hcell, hobj, hk3, hk4, hf, VmOp.dirties, VmOp.acts]
/-- caught by the one row of this method's table -/
theorem vx_catch {own name : String} {E : String} {ce : Cell} {q : Addr} (hown : s.vm.findClass own = some m.cls) (x : ExceptionTableEntry) (hone : c.exceptionTable.toList = [x]) (hx : covers x pc = true) (h0 : x.catchType ≠ 0)
    (hlink : (Cond.classLink own x.catchType name).before args s = true) (hcast : (Cond.castable E name).before args s = true) (hcell : H[q]? = some ce) (hv : ce.vm = .none) (hcl : s.vm.findClass E = some ce.cls)
    (kk : W p l e R s m args below meth c H locs cells slots Q (F0 m x.handlerPc ls [.ref q])) : vx_W p l e R s m args below meth c H locs cells slots Q (F0 m pc ls rest) q := by
  intro T hT X
  have hpl : e.platform.magicAccessors = ({} : Platform).magicAccessors := by rw [X.admits.platform]
  obtain ⟨c3, c4, hc3, hc4, hasg⟩ := Cond.castable_spec hcast
  cases Option.some.inj (hc3.symm.trans hcl)
  obtain ⟨c5, hc5, hcl5⟩ := Cond.classLink_spec hown hlink e.platform hpl
  cases Option.some.inj (hc4.symm.trans hc5)
  obtain ⟨dk, _, _, kt, hd, _, _, _, _, hkt, _, hopen⟩ := hcl5.here
  have al := X.warmed.alike
  obtain ⟨kt', hkt', -⟩ := al.2.2 _ _ hkt
  have hfit : T.vm.assignable ce.cls c4 = true := al.assignable _ _ ▸ hasg
  have hW' : s.WarmedH (T.vm.noted m.cls x.catchType (.cls c4)) := X.warmed.noted hd hopen (State.rightAt_cls hcl5)
  have hfind := aw_find (e := e) (f := F0 m pc ls rest) (S := (T.setTop (F0 m pc ls rest)).pushFrame (.throwing q)) (a9 := q) (x9 := x) (c9 := c4) (cell := ce) X.method' X.code hone hx h0 (X.warmed.classLinks hcl5) (by show T.heap[q]? = some ce; rw [hT]; exact hcell) (VmData.ne_statics_of (by rw [hv]; rfl)) (Vm.classAt_of_assignable hfit ⟨kt', hkt'⟩) ⟨kt', hkt'⟩ hfit
  obtain ⟨t, a1, b1⟩ := kk (T.setVm (T.vm.noted m.cls x.catchType (.cls c4))) hT (X.noted hW')
  refine ⟨t, ?_, b1⟩
  obtain ⟨hgo, hw⟩ := X.here.throwing (g := F0 m pc ls rest) q
  refine Steps.head hgo hw ?_
  have hcatch : ∀ (S : State) (r : List Frame) (vm9 : Vm), (∀ (QQ : Handler → _root_.Jvm.Pre) (E : CtlPost) (d : Bool) (acts : List Action), wp (findHandler (F0 m pc ls rest) q) QQ E e d acts S ↔ QQ (.found x.handlerPc) d acts (S.setVm vm9)) → (stepThrowing e S q (.java (F0 m pc ls rest) :: r)).1 = (S.setVm vm9).setFrames (.java { F0 m pc ls rest with pc := x.handlerPc, stack := [.ref q] } :: r) := by
    intro S r vm9 hf
    simp only [stepThrowing, searchFrame, vmDo]
    generalize hr : Sem.go _ e false [] S = res
    obtain ⟨as, rfl, -⟩ := Sem.eq_ok_of hr (a := Handler.found x.handlerPc) (s' := S.setVm vm9) (acts' := []) (by simp [hf _ _ _ _])
    rfl
  obtain ⟨g0, hg0⟩ := Option.isSome_iff_exists.mp X.here.top
  obtain ⟨r0, hr0⟩ := State.topJava?_eq_some.mp hg0
  rw [stepThread_throwing (frames_entered X.here.top _), hcatch _ _ _ hfind]
  have a2 := a1
  rw [State.setTop_of_frames _ (show (T.setVm (T.vm.noted m.cls x.catchType (.cls c4))).frames = .java g0 :: r0 from hr0)] at a2
  have e1 : ∀ (u : State) (vm9 : Vm) (F G : List Frame), ((u.setFrames F).setVm vm9).setFrames G = (u.setVm vm9).setFrames G := fun u vm9 F G => State.setFrames_setFrames (u.setVm vm9) F G
  rw [hr0, List.tail_cons, State.pushFrame, e1, State.setTop_of_frames _ hr0, e1]
  exact a2
end Rows
section Ends
variable {p : Program} {l : Launch} {e : Env} {R : Room} {s : State} {m : MethodId} {args : Array Value} {below : List Frame} {meth : Method} {c : Code} {H : Heap} {locs : List Loc} {cells slots : Nat} {Q : State → Prop}
variable {mc ms : Nat} {free : Addr → Prop} {A0 A1 : Nat → Prop} {H0 : Heap} {a : Array Value} {ls : Array Slot} {st0 rest : List Value}
variable {Qc : Array Value → State → Outcome → State → Prop} {XC : String → State → State → Prop}
/-- what a body that may throw owes at its end -/
def vx_MQ (below : List Frame) (Qc : Array Value → State → Outcome → State → Prop) (XC : String → State → State → Prop) (a : Array Value) (s : State) (mc ms : Nat) (free : Addr → Prop) : State → Prop := fun t =>
  ∃ o, t.status = .running ∧ Ended t below o ∧ vx_Q Qc XC mc ms free a s o t
theorem vx_ret {g : JFrame} {mc ms : Nat} (k : W p l e R s m args below meth c H locs cells slots (MQ below Qc args s mc ms free) g) : W p l e R s m args below meth c H locs cells slots (vx_MQ below Qc XC args s mc ms free) g := by
  intro T hT X
  obtain ⟨t, a1, o, b1, b2, b3, b4⟩ := k T hT X
  exact ⟨t, a1, o, b1, b2, Or.inl ⟨b3, b4⟩⟩
/-- not caught here: it goes on to the caller -/
theorem vx_widen {g : JFrame} {q : Addr} {k n : Nat} (h1 : cells ≤ k) (h2 : slots ≤ n) (kk : vx_W p l e R s m args below meth c H locs k n Q g q) : vx_W p l e R s m args below meth c H locs cells slots Q g q := fun T hT X => kk T hT (stand_widen X h1 h2)
theorem vx_frame {U : State} {k n : Nat} (h : s.sameButNew ({ U with vm := s.vm } : State) locs k n) : s.heap.size ≤ U.heap.size ∧ ∀ q : Nat, q < s.heap.size → (∀ z ∈ locs, z.base ≠ q) → U.heap[q]? = s.heap[q]? := by
  obtain ⟨-, h2, -, -, -, h6⟩ := h
  refine ⟨h2, fun q hq hz => ?_⟩
  obtain ⟨c9, e1, e2, e3, e4⟩ := h6 q _ (Array.getElem?_eq_getElem hq)
  have hs : c9.slots = (s.heap[q]).slots := Array.ext_getElem? fun i => e4 i fun hm => hz _ hm rfl
  have h9 : c9 = s.heap[q] := by
    rw [hs] at e2
    exact e2
  have e5 : U.heap[q]? = some c9 := e1
  rw [e5, h9, Array.getElem?_eq_getElem hq]
/-- the words of a throw but the four that speak of the heap -/
def vx_no (w : Cond) : Bool := decide (w ≠ .isRef (.static Bundle.tN "UNASSIGNED_STACK" Bundle.steD)) && decide (w ≠ .isRef (.static Bundle.tN "SUPPRESSED_SENTINEL" Bundle.listD)) && decide (w ≠ .laysStatic Bundle.tN "UNASSIGNED_STACK" Bundle.steD) && decide (w ≠ .laysStatic Bundle.tN "SUPPRESSED_SENTINEL" Bundle.listD)
def vx_at0 (own : String) (ic : Nat) (X : String) (names : List String) : List Cond := (Bundle.ownAtoms0 own ic X names).filter vx_no
/-- a word that the tables alone decide, or a good one -/
def vx_ot (w : Cond) : Bool := w.onTables || goodWord w
theorem vx_ot_at {args a' : Array Value} {s U : State} {w : Cond} (hW : s.WarmedH U.vm) (hvm : s.vm = U.vm) (hg : vx_ot w = true) (h : w.before args s = true) : w.before a' U = true := by
  simp only [vx_ot, Bool.or_eq_true] at hg
  rcases hg with hg | hg
  · exact va_tabs hg hvm h
  · exact word_at hW (good_of_word hg) h
/-- a list's words: the good ones out of the method's own list, the others by premises of their own -/
theorem vx_hat {args : Array Value} {s : State} {L B : List Cond} (h1 : ∀ w ∈ L.filter goodWord, w.before args s = true) (h2 : ∀ w ∈ L.filter (fun w => !goodWord w), w ∈ B) (h3 : ∀ w ∈ B, w.before args s = true) : ∀ w ∈ L, w.before args s = true := by
  intro w hw
  by_cases g : goodWord w = true
  · exact h1 w (List.mem_filter.mpr ⟨hw, g⟩)
  · refine h3 w (h2 w (List.mem_filter.mpr ⟨hw, ?_⟩))
    show (!goodWord w) = true
    cases hgw : goodWord w
    · rfl
    · exact absurd hgw g
theorem vx_c {args : Array Value} {s : State} {w : Cond} {B : List Cond} (h : w.before args s = true) (t : ∀ w ∈ B, w.before args s = true) : ∀ w' ∈ w :: B, w'.before args s = true := fun w' h' => (List.mem_cons.mp h').elim (fun e => by rw [e]; exact h) (t w')
theorem vx_n {args : Array Value} {s : State} : ∀ w ∈ ([] : List Cond), w.before args s = true := fun _ h => nomatch h
theorem vx_own {args : Array Value} {s : State} {L : List Cond} (h1 : ∀ w ∈ L.filter vx_no, w.before args s = true)
    (hU : (Cond.isRef (.static Bundle.tN "UNASSIGNED_STACK" Bundle.steD)).before args s = true) (hN : (Cond.isRef (.static Bundle.tN "SUPPRESSED_SENTINEL" Bundle.listD)).before args s = true)
    (lU : (Cond.laysStatic Bundle.tN "UNASSIGNED_STACK" Bundle.steD).before args s = true) (lN : (Cond.laysStatic Bundle.tN "SUPPRESSED_SENTINEL" Bundle.listD).before args s = true) : ∀ w ∈ L, w.before args s = true := by
  intro w hw
  by_cases e1 : w = .isRef (.static Bundle.tN "UNASSIGNED_STACK" Bundle.steD)
  · rw [e1]; exact hU
  · by_cases e2 : w = .isRef (.static Bundle.tN "SUPPRESSED_SENTINEL" Bundle.listD)
    · rw [e2]; exact hN
    · by_cases e3 : w = .laysStatic Bundle.tN "UNASSIGNED_STACK" Bundle.steD
      · rw [e3]; exact lU
      · by_cases e4 : w = .laysStatic Bundle.tN "SUPPRESSED_SENTINEL" Bundle.listD
        · rw [e4]; exact lN
        · exact h1 w (List.mem_filter.mpr ⟨hw, by unfold vx_no; rw [decide_eq_true e1, decide_eq_true e2, decide_eq_true e3, decide_eq_true e4]; rfl⟩)
/-- where a static field lies, its class's statics cell in H -/
def vx_L (C n d : String) (A : Nat → Prop) (U : State) (H : Heap) : Prop := ∃ (c : ClassId) (k : Class) (i : Nat) (f : Field) (a : Nat) (cell : Cell), U.vm.findClass C = some c ∧ U.fieldFound? C n d = some (c, k, i, f) ∧ f.isStatic = true ∧ k.statics = some a ∧ H[a]? = some cell ∧ cell.vm.isStatics = true ∧ cell.cls = c ∧ f.slot < cell.slots.size ∧ k.staticTypes[f.slot]? = some f.type ∧ ¬ A a
theorem vx_L.moved {C n d : String} {A : Nat → Prop} {u U : State} {H : Heap} (hvm : u.vm.Alike U.vm) (h : vx_L C n d A u H) : vx_L C n d A U H := by
  obtain ⟨c, k, i, f, a, cell, h1, h2, h3, h4, h5, h6, h7, h8, h9, h10⟩ := h
  obtain ⟨k', hi', he⟩ := State.fieldFound?_setVm hvm h2
  exact ⟨c, k', i, f, a, cell, by rw [hvm.findClass]; exact h1, hi', h3, by rw [he]; exact h4, h5, h6, h7, h8, by rw [he]; exact h9, h10⟩
theorem vx_L.kept {C n d : String} {A : Nat → Prop} {U : State} {H H1 : Heap} (h : vx_L C n d A U H) (hq : ∀ a : Nat, a < H.size → ¬ A a → H1[a]? = H[a]?) : vx_L C n d A U H1 := by
  obtain ⟨c, k, i, f, a, cell, h1, h2, h3, h4, h5, h6, h7, h8, h9, h10⟩ := h
  exact ⟨c, k, i, f, a, cell, h1, h2, h3, h4, by rw [hq a (Array.getElem?_eq_some_iff.mp h5).1 h10]; exact h5, h6, h7, h8, h9, h10⟩
theorem vx_L.narrow {C n d : String} {A B : Nat → Prop} {U : State} {H : Heap} (h : vx_L C n d A U H) (hAB : ∀ q, B q → A q) : vx_L C n d B U H := by
  obtain ⟨c, k, i, f, a, cell, h1, h2, h3, h4, h5, h6, h7, h8, h9, h10⟩ := h
  exact ⟨c, k, i, f, a, cell, h1, h2, h3, h4, h5, h6, h7, h8, h9, fun z => h10 (hAB _ z)⟩
theorem vx_L.word {C n d : String} {A : Nat → Prop} {s : State} {args : Array Value} (h : vx_L C n d A s s.heap) : (Cond.laysStatic C n d).before args s = true := by
  obtain ⟨c, k, i, f, a, cell, h1, h2, h3, h4, h5, h6, h7, h8, h9, -⟩ := h
  show (Cond.laysStatic C n d).holds args s none s [] = true
  exact Cond.laysStatic_of h1 h2 h3 h4 h5 h6 h7 h8 h9
/-- .. and what it holds: null or some reference -/
def vx_Zq (C n d : String) (A : Nat → Prop) (U : State) (H : Heap) : Prop := va_Zq C n d A U H ∧ vx_L C n d A U H
theorem vx_Zq.moved {C n d : String} {A : Nat → Prop} {u U : State} {H : Heap} (hvm : u.vm.Alike U.vm) (h : vx_Zq C n d A u H) : vx_Zq C n d A U H := ⟨va_Zq.moved hvm h.1, vx_L.moved hvm h.2⟩
theorem vx_Zq.kept {C n d : String} {A : Nat → Prop} {U : State} {H H1 : Heap} (h : vx_Zq C n d A U H) (hq : ∀ a : Nat, a < H.size → ¬ A a → H1[a]? = H[a]?) : vx_Zq C n d A U H1 := ⟨va_Zq.kept h.1 hq, vx_L.kept h.2 hq⟩
theorem vx_Zq.narrow {C n d : String} {A B : Nat → Prop} {U : State} {H : Heap} (h : vx_Zq C n d A U H) (hAB : ∀ q, B q → A q) : vx_Zq C n d B U H := ⟨va_Zq.narrow h.1 hAB, vx_L.narrow h.2 hAB⟩
theorem vx_Zqof {args : Array Value} {s : State} {C n d : String} {A : Nat → Prop} (hl : (Cond.laysStatic C n d).before args s = true) (hini : (Cond.initialized C).before args s = true) (h : (Cond.isRef (.static C n d)).before args s = true) (hA : ∀ a : Nat, a < s.heap.size → ¬ A a) : vx_Zq C n d A s s.heap := by
  refine ⟨va_Zqof hl hini h hA, ?_⟩
  obtain ⟨c, k, i, f, a, cell, h1, h2, h3, h4, h5, h6, h7, h8, h9⟩ := Cond.laysStatic_spec hl
  exact ⟨c, k, i, f, a, cell, h1, h2, h3, h4, h5, h6, h7, h8, h9, hA a (Array.getElem?_eq_some_iff.mp h5).1⟩
theorem vx_isRef {C n d : String} {v : Value} {A : Nat → Prop} {s : State} {args : Array Value} (h : va_Z C n d v A s s.heap) (hv : v.isRef = true) : (Cond.isRef (.static C n d)).before args s = true := by
  obtain ⟨cf, kf, fi, f, a, cell, h1, h2, h3, h4, h5, h6, h7, -⟩ := h
  have he : (Term.static C n d).eval args s none [] s = some v := by
    simp [Term.eval, State.fieldNamed?, h1, h2, h4, h5, h6, h7]
  simp only [Cond.before, Cond.holds, Cond.value, he]
  cases v <;> simp_all [Value.isRef]
theorem vx_isRefq {C n d : String} {A : Nat → Prop} {s : State} {args : Array Value} (h : va_Zq C n d A s s.heap) : (Cond.isRef (.static C n d)).before args s = true := by
  rcases h with h | ⟨t, h⟩
  · exact vx_isRef h rfl
  · exact vx_isRef h rfl
/-- the same frame, seen from here: as if the method were called anew in this heap -/
theorem vx_rebase {T : State} (X : Stand p l e R s m args below meth c T locs cells slots) {R' : Room} (hf : R'.frames ≤ R.frames) (hl : R'.locals ≤ R.locals) (hc : cells + R'.cells ≤ R.cells) (hs : slots + R'.slots ≤ R.slots) :
    Stand p l e R' ((T.setVm s.vm).setFrames (.invoking m args :: below)) m args below meth c T [] 0 0 := by
  have htop : (T.setVm s.vm).topJava?.isSome := X.here.top
  have hF : ((T.setVm s.vm).setFrames (.invoking m args :: below)).frames = .invoking m args :: below := State.frames_setFrames _ (State.cur_lt_of_top htop)
  obtain ⟨g₀, hg0⟩ := Option.isSome_iff_exists.mp htop
  obtain ⟨r, hr⟩ := State.topJava?_eq_some.mp hg0
  have hl9 : e.platform.stackLimits (T.setVm s.vm).me = e.platform.stackLimits s.me := X.limits
  have hb9 : (T.setVm s.vm).me.stackBytes = s.me.stackBytes := X.bytes
  refine ⟨X.admits, X.cas, X.clock, hF, ?_, X.hears, X.method, X.code, X.here, X.tail, X.warmed, ?_, ?_, ?_⟩
  · have h := X.room
    have hU : ((T.setVm s.vm).setFrames (.invoking m args :: below)).localsInUse = s.localsInUse := by
      rw [State.localsInUse_invoking hF (meth := meth) (c := c) X.method X.code, State.localsInUse_invoking X.frames X.method X.code]
    simp only [State.hasRoom, Bool.and_eq_true, decide_eq_true_eq] at h ⊢
    obtain ⟨⟨⟨⟨h1, h2, h3, h4, h5, h6⟩, h7⟩, h8⟩, h9⟩ := h
    rw [X.frames, List.length_cons] at h2 h3
    have q1 := X.heapSize
    have q2 := X.used
    simp only [hF, hU, List.length_cons, State.stackLimits_setFrames, State.stackBytes_setFrames, hl9, hb9]
    refine ⟨⟨⟨⟨by omega, by omega, by omega, by omega, by omega, h6⟩, ?_⟩, ?_⟩, X.book⟩
    · show T.heap.size + R'.cells ≤ e.platform.maxCells
      omega
    · show T.slotsUsed + R'.slots ≤ e.platform.maxSlots
      omega
  · rw [State.stackLimits_setFrames]; rfl
  · rw [State.stackBytes_setFrames]; rfl
  · refine ⟨?_, Nat.le_refl _, Nat.le_refl _, ?_, ?_, fun a c9 h9 => ⟨c9, h9, rfl, rfl, fun _ _ => rfl⟩⟩
    · obtain ⟨t, ht, -⟩ := State.frames_cons hr
      show T.setVm s.vm = { ((T.setVm s.vm).setFrames (.invoking m args :: below)).setFrames (T.setVm s.vm).frames with heap := T.heap, slotsUsed := T.slotsUsed }
      rw [State.setFrames_setFrames, State.setFrames_self ht]
      rfl
    · show T.slotsUsed = T.slotsUsed + ((T.heap.toList.drop T.heap.size).map (·.slots.size)).sum
      rw [List.drop_eq_nil_of_le (Nat.le_of_eq Array.length_toList)]
      rfl
    · show ((T.heap.toList.drop T.heap.size).map (·.slots.size)).sum ≤ 0
      rw [List.drop_eq_nil_of_le (Nat.le_of_eq Array.length_toList)]
      exact Nat.le_refl _
/-- 'throw new E()': new; dup; invokespecial; athrow -/
theorem vx_throw0 {cc : ByteArray} {pc : Nat} (hexec : p.tables.exec = Jvm.exec) (hb : c.code = cc) (hl : l.stackTraces = false) {own cls : String} {names : List String} {ik ic mc ms : Nat} {A : Nat → Prop}
    (hown : s.vm.findClass own = some m.cls) (hcls : Bundle.fit cls = true) (hnames : ∀ n ∈ names, Bundle.fit n = true)
    (hk : (Cond.classLink own ik cls).before args s = true) (hini : (Cond.initialized cls).before args s = true) (hat : ∀ w ∈ vx_at0 own ic cls names, w.before args s = true)
    (hgood : ∀ w ∈ Cond.classLink own ik cls :: Cond.initialized cls :: vx_at0 own ic cls names, vx_ot w = true)
    (hU : vx_Zq Bundle.tN "UNASSIGNED_STACK" Bundle.steD A s s.heap) (hN : vx_Zq Bundle.tN "SUPPRESSED_SENTINEL" Bundle.listD A s s.heap) (hS : va_S A s.heap H locs) (hsize : ls.size = c.maxLocals)
    (d0 : decode cc pc = .ok (.new ik, 3)) (d3 : decode cc (pc + 3) = .ok (.dup, 1)) (d4 : decode cc (pc + 4) = .ok (.invokespecial ic, 3)) (d7 : decode cc (pc + 7) = .ok (.athrow, 1))
    (hout : ∀ x ∈ c.exceptionTable.toList, covers x (pc + 7) = false)
    (hRframes : names.length + 3 < R.frames) (hRlocals : (rest.map fun v => v.category).sum + (13 * (names.length + 1) + 42) ≤ R.locals) (hRcells : cells + 1 ≤ R.cells) (hRslots : slots + 6 ≤ R.slots) (hlocks : meth.locks = false)
    (hx : ∀ t : State, s.vm.Alike t.vm → H.size ≤ t.heap.size → (∀ q : Nat, q < H.size → t.heap[q]? = H[q]?) → XC cls s t)
    (hf : ∀ z ∈ locs, free z.base) (hc : cells + 1 ≤ mc) (hs : slots + 6 ≤ ms) :
    W p l e R s m args below meth c H locs cells slots (vx_MQ below Qc XC args s mc ms free) (F0 m pc ls rest) := by
  intro T hT X
  have htr : e.platform.stackTraces = false := (show e.platform.stackTraces = l.stackTraces by rw [X.admits.platform]).trans hl
  have Y := vx_rebase X (R' := { frames := R.frames, locals := R.locals, cells := 1, slots := 6 }) (Nat.le_refl _) (Nat.le_refl _) hRcells hRslots
  obtain ⟨s', hA⟩ : ∃ z, z = (T.setVm s.vm).setFrames (.invoking m args :: below) := ⟨_, rfl⟩
  rw [← hA] at Y
  have hvm : s'.vm = s.vm := by rw [hA]; rfl
  have hhp : s'.heap = H := by rw [hA]; exact hT
  have hW0 : s.WarmedH s'.vm := by rw [hvm]; exact State.WarmedH.refl s
  have hat' : ∀ w ∈ vx_at0 own ic cls names, w.before args s' = true := fun w hw => vx_ot_at hW0 hvm.symm (hgood w (List.mem_cons_of_mem _ (List.mem_cons_of_mem _ hw))) (hat w hw)
  have hk' : (Cond.classLink own ik cls).before args s' = true := vx_ot_at hW0 hvm.symm (hgood _ List.mem_cons_self) hk
  have hini' : (Cond.initialized cls).before args s' = true := vx_ot_at hW0 hvm.symm (hgood _ (List.mem_cons_of_mem _ List.mem_cons_self)) hini
  have hU' : vx_Zq Bundle.tN "UNASSIGNED_STACK" Bundle.steD A s' s'.heap := by rw [hhp]; exact vx_Zq.moved hW0.alike (hU.kept hS.2.1)
  have hN' : vx_Zq Bundle.tN "SUPPRESSED_SENTINEL" Bundle.listD A s' s'.heap := by rw [hhp]; exact vx_Zq.moved hW0.alike (hN.kept hS.2.1)
  have h : ∀ w ∈ Bundle.ownAtoms0 own ic cls names, w.before args s' = true := vx_own hat' (vx_isRefq hU'.1) (vx_isRefq hN'.1) hU'.2.word hN'.2.word
  have hown' : s'.vm.findClass own = some m.cls := by rw [hvm]; exact hown
  have hins : (Cond.instantiable cls 6).before args s' = true := h _ (by simp [Bundle.ownAtoms0])
  obtain ⟨vm₁, cX, kX, hfX, hkX, -, -, X₁, st1⟩ := Y.newCold hexec (own := own) (C := cls) (index := ik) (n := 6) hown' hk' hins hini'
    (g := F0 m pc ls rest) rfl (by rw [hb]; exact d0) (Nat.le_refl _) (Nat.le_refl _)
  generalize hT1 : (T.setVm vm₁).pushCell { cls := cX, slots := kX.instanceTypes.map defaultValue, vm := .none } = T1 at X₁ st1
  have hcat : (Value.ref T.heap.size).category = 1 := rfl
  have hcellA : T1.heap[T.heap.size]? = some (freshCell cX kX) := by rw [← hT1]; exact State.heap_pushCell_size _ _
  have d3' : decode c.code (pc + 3) = .ok (.dup, 1) := by rw [hb]; exact d3
  obtain ⟨U, hsteps, hrun, hend, hW, hsame, ce, hce, hO⟩ := X₁.ctorThrow0 hexec htr (own := own) (cls := cls) (names := names) (ic := ic) hown' hcls hnames h (fun x hx => nomatch hx) hfX hkX hcellA (by rw [hhp, hT]; exact Nat.le_refl _)
    (g := { method := m, pc := pc + 4, locals := ls, stack := .ref T.heap.size :: .ref T.heap.size :: rest, locked := none }) rfl hsize rfl rfl (rest := rest) rfl
    (by rw [hb]; exact d4) (by rw [hb]; exact d7) hout hRframes (by simp only [List.map_cons, List.sum_cons, hcat]; omega) hlocks
  obtain ⟨f1, f2⟩ := vx_frame hsame
  rw [hhp] at f1 f2
  have hWs : s.WarmedH U.vm := State.WarmedH.trans hW0 hW
  have hcl : s.vm.findClass cls = some ce.cls := by
    have h9 := hO.cls
    rw [hvm] at h9
    exact h9
  have hall : s.sameButNew ({ U with vm := s.vm } : State) locs mc ms := by
    subst hA
    obtain ⟨e1, e2⟩ := hsame
    rw [State.setFrames_setFrames] at e1
    have h2 : (T.setVm s.vm).sameButNew ({ U with vm := s.vm } : State) [] (0 + 1) (0 + 6) := ⟨e1, e2⟩
    have h3 := X.same.trans h2
    rw [List.append_nil] at h3
    exact h3.mono hc hs
  refine ⟨U, ?_, .threw T.heap.size, hrun, hend, Or.inr ⟨T.heap.size, rfl, cls, ce, locs, hx U hWs.alike f1 (fun q hq => f2 q hq (fun z hz => nomatch hz)), hce, hO.vm, hcl, hWs, hall, hf⟩⟩
  refine st1 _ ?_
  show Steps p.tables e below (T1.setTop { method := m, pc := pc + 3, locals := ls, stack := .ref T.heap.size :: rest, locked := none }) _
  jvm_step X₁.here [X₁.here.top, hexec, d3', Value.category]
  exact hsteps
end Ends
section Bodies
variable {l : Launch}
theorem vx_ofW {y : MethodName} {ws ws' : List Cond} {rm : Room} {Pc : Array Value → State → Prop} {Qc : Array Value → State → Outcome → State → Prop} {XC : String → State → State → Prop} {mc ms : Nat} {free : Addr → Prop} {cc : ByteArray} {maxL : Nat} {ret : Option FieldType}
    (hy : plainName y.cls = true) (hw : ws = Cond.code y cc maxL ret :: ws')
    (body : ∀ p e s m args below meth c s₁, BodyLoose p l y (headSpec ws rm) cc maxL ret e s m args below meth c s₁ → c.maxLocals = maxL → (∀ x ∈ c.exceptionTable.toList, False) → Pc args s →
      W p l e (headSpec ws rm).room s m args below meth c s.heap [] 0 0 (vx_MQ below Qc XC args s mc ms free) (entryFrame m args maxL)) : vx_Met l y ws rm Pc Qc XC mc ms free := by
  refine MetFree.of_bodyS (code := cc) (maxLocals := maxL) (ret := ret) hy ?_ ?_
  · intro args s m h hn
    obtain ⟨meth, c, h1, h2, h3, h4, h5, h6, -, -⟩ := Cond.code_spec hn (atoms_spec (ws := ws) h _ (by rw [hw]; exact List.mem_cons_self))
    exact ⟨meth, c, h1, h2, h3, h4, h5, h6⟩
  · intro p e s m args below meth c s₁ B hml hP _
    have hh0 : s₁.heap = s.heap := by rw [B.state]; rfl
    have ht : ∀ x ∈ c.exceptionTable.toList, False := by
      obtain ⟨meth9, c9, h1, h2, -, -, -, -, h7, -⟩ := Cond.code_spec B.named (atoms_spec (ws := ws) B.pre _ (by rw [hw]; exact List.mem_cons_self))
      cases Option.some.inj (h1.symm.trans B.method)
      cases Option.some.inj (h2.symm.trans (Stand.of_body B).code)
      intro x hx
      rw [Array.isEmpty_iff.mp h7] at hx
      cases hx
    obtain ⟨t, a1, o, b1, b2, b3⟩ := body p e s m args below meth c s₁ B hml ht hP s₁ hh0 (Stand.of_body B)
    exact ⟨t, o, a1, b1, b2, b3⟩
/-- the table of a body with handlers -/
theorem vx_table {p : Program} {x y : MethodName} {S : Spec} {cc bytes : ByteArray} {maxL maxL' : Nat} {ret ret' : Option FieldType} {e : Env} {s s₁ : State} {m : MethodId} {args : Array Value} {below : List Frame} {meth : Method} {c : Code} {hh : List (Nat × Nat × Nat × Nat)}
    (B : BodyLoose p l y S cc maxL ret e s m args below meth c s₁) (h : (Cond.codeWith y bytes maxL' ret' hh).before args s = true) : c.exceptionTable.toList = tableOf hh := by
  obtain ⟨m9, meth9, c9, hn9, h1, h2, -, -, h6, -⟩ := Cond.codeWith_spec h
  cases Option.some.inj (hn9.symm.trans B.named)
  cases Option.some.inj (h1.symm.trans B.method)
  cases Option.some.inj (h2.symm.trans (Stand.of_body B).code)
  rw [← h6, table_eq]
end Bodies
end VXA
/-! ===== END ===== -/
/-! ===== BEGIN a static call of a method with an exception table ===== -/
section VXS
variable {p : Program} {l : Launch} {e : Env} {R : Room} {s : State} {m : MethodId} {args : Array Value} {below : List Frame} {meth : Method} {c : Code} {T : State} {H : Heap} {locs : List Loc} {cells slots : Nat}
abbrev vx_CSW (R : Room) (s : State) (args : Array Value) (own : String) (index : Nat) (y : MethodName) (bytes : ByteArray) (maxL : Nat) (ret : Option FieldType) (hh : List (Nat × Nat × Nat × Nat)) (ws : List Cond) (rm : Room) (mc ms n : Nat) : Prop :=
  (rm.cells = mc ∧ rm.slots = ms ∧ rm.frames + 1 ≤ R.frames ∧ 8 + (maxL + 11) + rm.locals ≤ R.locals ∧ (∀ w ∈ ws, ∀ (a' : Array Value) (U : State), s.WarmedH U.vm → w.before a' U = true) ∧ Cond.codeWith y bytes maxL ret hh ∈ ws) ∧
  (Cond.codeWith y bytes maxL ret hh).before args s = true ∧ (Cond.initialized y.cls).before args s = true ∧ (y.cls ≠ "java/lang/invoke/MethodHandle" ∧ y.cls ≠ "java/lang/invoke/VarHandle") ∧
  (∀ sig, parseMethodDescriptor y.desc = some sig → n = sig.parameters.length) ∧ (Cond.methodLink own index y).before args s = true ∧ (Cond.static y).before args s = true
theorem vx_cwSW {own : String} {index maxL mc ms : Nat} {y : MethodName} {bytes : ByteArray} {ret : Option FieldType} {hh : List (Nat × Nat × Nat × Nat)} {Ts ws ws' : List Cond} {rm : Room} (n : Nat) (ht : ∀ w ∈ Ts, w.before args s = true) (hT : GoodIn Ts (va_wsS own index y ws)) (hw : ws = Cond.codeWith y bytes maxL ret hh :: ws') (hrc : rm.cells = mc) (hrs : rm.slots = ms)
    (hd : y.cls ≠ "java/lang/invoke/MethodHandle" ∧ y.cls ≠ "java/lang/invoke/VarHandle" ∧ (parseMethodDescriptor y.desc).map (fun d => d.parameters.length) = some n) (hR : rm.frames + 1 ≤ R.frames ∧ 8 + (maxL + 11) + rm.locals ≤ R.locals) :
    vx_CSW R s args own index y bytes maxL ret hh ws rm mc ms n := by
  have ok : ∀ w ∈ va_wsS own index y ws, w.before args s = true := fun w h => ht w (hT w h).1
  have hG : GoodIn Ts ws := fun w h => hT w (by unfold va_wsS; exact List.mem_append_right _ h)
  have hc : Cond.codeWith y bytes maxL ret hh ∈ ws := by rw [hw]; exact List.mem_cons_self
  refine ⟨⟨hrc, hrs, hR.1, hR.2, pay_in ht hG, hc⟩, ht _ (hG _ hc).1, ok _ (by simp [va_wsS]), ⟨hd.1, hd.2.1⟩, fun sig h => ?_, ok _ (by simp [va_wsS]), ok _ (by simp [va_wsS])⟩
  have h2 := hd.2.2
  rw [h] at h2
  exact (Option.some.inj h2).symm
theorem vx_callSW (X : Stand p l e R s m args below meth c T locs cells slots) (hexec : p.tables.exec = Jvm.exec) {own : String} {index : Nat} {y : MethodName} {bytes : ByteArray} {maxL : Nat} {ret : Option FieldType} {hh : List (Nat × Nat × Nat × Nat)}
    (hown : s.vm.findClass own = some m.cls) (hlink : (Cond.methodLink own index y).before args s = true) (hstat : (Cond.static y).before args s = true) (hinit : (Cond.initialized y.cls).before args s = true)
    (hcode : (Cond.codeWith y bytes maxL ret hh).before args s = true) (hy : y.cls ≠ "java/lang/invoke/MethodHandle" ∧ y.cls ≠ "java/lang/invoke/VarHandle")
    {W9 : Nat} {Pre : Pt → Array Value → Prop} {Post : Pt → Array Value → Option Value → Pt → Prop} (hK : Back l R p e below s args y 3 W9 Pre Post)
    {g : JFrame} (hg : g.method = m) (hsize : g.locals.size = c.maxLocals) {argsL rest : List Value} (hlen : ∀ sig, parseMethodDescriptor y.desc = some sig → argsL.length = sig.parameters.length)
    (hstack : g.stack = argsL.reverse ++ rest) (hW : 2 * g.monitorRoom + (rest.map fun v => v.category).sum ≤ W9) (hdg : decode c.code g.pc = .ok (.invokestatic index, 3))
    (hpre : ∀ vm₁, s.WarmedH vm₁ → Pre ⟨T.setVm vm₁, locs, cells, slots⟩ argsL.toArray) :
    ∃ (v : Option Value) (vm₁ : Vm) (B : Pt), s.WarmedH vm₁ ∧ Stand p l e R s m args below meth c B.U B.locs B.cells B.slots ∧ Post ⟨T.setVm vm₁, locs, cells, slots⟩ argsL.toArray v B ∧
      ∀ target, Steps p.tables e below (B.U.setTop { g with pc := g.pc + 3, stack := v.toList ++ rest }) target → Steps p.tables e below (T.setTop g) target := by
  obtain ⟨mk, methM, cM, hnamed, hmethM, -, -, -, -, -, -, hsigM⟩ := Cond.codeWith_spec hcode
  have hstatic : methM.isStatic = true := Cond.static_spec hnamed hmethM hstat
  obtain ⟨kP, hkP, -⟩ := className_of_methodNamed hnamed
  have hinitP : kP.init = .initialized := Cond.initialized_spec (findClass_of_methodNamed hnamed) hkP hinit
  obtain ⟨vm₁, X₁, hstep₁⟩ := X.invokestatic hexec hown hlink hnamed hmethM hstatic hkP hinitP hy (g := g) hg (argsL := argsL) (rest := rest) (hlen _ hsigM) hstack hdg
  obtain ⟨v, B, X', hpost, hsteps⟩ := hK m meth c ⟨T.setVm vm₁, locs, cells, slots⟩ { g with stack := rest } (.invokestatic index) mk argsL.toArray X₁ hg hsize hdg hW (X₁.named hnamed) (hpre vm₁ X₁.warmed)
  exact ⟨v, vm₁, B, X₁.warmed, X', hpost, fun target h => hstep₁ _ fun acts => by rw [doInvoke_state]; exact hsteps.trans h⟩
theorem vx_runSW {y : MethodName} {bytes cc : ByteArray} {maxL nL mc ms n index : Nat} {ret : Option FieldType} {hh : List (Nat × Nat × Nat × Nat)} {ws : List Cond} {rm : Room} {Pc : Array Value → State → Prop} {Qc : Array Value → State → Outcome → State → Prop} {free : Addr → Prop} {Ts : List Cond} {own : String} {As rest : List Value} {g : JFrame}
    (S : CallFix p m c cc nL s args Ts own) (hM : Met l y ws rm Pc Qc mc ms free) (cw : vx_CSW R s args own index y bytes maxL ret hh ws rm mc ms n) (hp : PreS s H Pc As)
    (hg : g.method = m) (hn : As.length = n) (hsize : g.locals.size = nL) (hstack : g.stack = As.reverse ++ rest) (hW : 2 * g.monitorRoom + (rest.map fun v => v.category).sum ≤ 8) (hdg : decode cc g.pc = .ok (.invokestatic index, 3)) (hf : cells + mc ≤ R.cells ∧ slots + ms ≤ R.slots) :
    va_Run p l e R s m args below meth c H locs cells slots mc ms g rest (Qc As.toArray) (free) := by
  obtain ⟨⟨hrc, hrs, hfr, hlo, hws, hcw⟩, hcode, hini, hy, hlen, hl, hstt⟩ := cw
  have hK : Back l R p e below s args y 3 8 (PreOf R mc ms Pc) (PostOf Qc mc ms free) := va_backW (hh := hh) (bytes := bytes) (maxL := maxL) (ret := ret) hM hp.1 hrc hrs hfr hlo hws hcw (fun a' U hW => word_at hW (Or.inl (by first | rfl | simp [Cond.onTables, Cond.keeps, Cond.steady])) hini)
  obtain ⟨hx, hb, hml, ho, -⟩ := S
  intro T hT X
  obtain ⟨v, vm₁, ⟨U', l2, c2, s2⟩, hW₁, X', ⟨g', mk, t, L, e1, e2, hq, h1, hL, h2, h3⟩, st⟩ := vx_callSW X hx (hh := hh) (bytes := bytes) (maxL := maxL) (ret := ret) ho hl hstt hini hcode hy hK hg (hsize.trans hml.symm) (argsL := As) (rest := rest) (fun sig h => hn.trans (hlen sig h)) hstack hW (by rw [hb]; exact hdg)
    (fun vm₁ hW₁ => ⟨hf.1, hf.2, hp.2 (T.setVm vm₁) hT hW₁⟩)
  dsimp only [Pt.U, Pt.locs, Pt.cells, Pt.slots] at X' e1 e2 h1 h2 h3 st
  subst h1; subst h2; subst h3
  exact ⟨v, (T.setVm vm₁).calling g' mk As.toArray, t, U', L, hT, X', hL, e1, e2, hq, st⟩
end VXS
/-! ===== END ===== -/
end
section
/-! ===== what the class throws, and the law catches ===== -/
/-- words of a throw that calls don't hand on by themselves -/
def aw_nw (U : State) : Prop := va_Nw (.castable "java/util/NoSuchElementException" "java/util/NoSuchElementException") U ∧ va_Nw (.declares ⟨"java/lang/RuntimeException", "<init>", "()V"⟩) U ∧ va_Nw (.declares ⟨"java/lang/Exception", "<init>", "()V"⟩) U ∧ va_Nw (.declares ⟨"java/lang/Throwable", "<init>", "()V"⟩) U
/-- what throwing asks of the things that are there: two statics of Throwable, and the words -/
def aw_Th (ι : ak_I) (U : State) (H : Heap) : Prop := vx_Zq Bundle.tN "UNASSIGNED_STACK" Bundle.steD (ak_A ι) U H ∧ vx_Zq Bundle.tN "SUPPRESSED_SENTINEL" Bundle.listD (ak_A ι) U H ∧ aw_nw U
theorem aw_Th.moved {ι : ak_I} {u U : State} {H : Heap} (hW : u.WarmedH U.vm) (h : aw_Th ι u H) : aw_Th ι U H := ⟨h.1.moved hW.alike, h.2.1.moved hW.alike, va_Nw.warmC hW h.2.2.1, va_Nw.warmD hW h.2.2.2.1, va_Nw.warmD hW h.2.2.2.2.1, va_Nw.warmD hW h.2.2.2.2.2⟩
theorem aw_Th.kept {ι : ak_I} {U : State} {H H1 : Heap} (h : aw_Th ι U H) (hq : ∀ q : Nat, q < H.size → ¬ ak_A ι q → H1[q]? = H[q]?) : aw_Th ι U H1 := ⟨h.1.kept hq, h.2.1.kept hq, h.2.2⟩
def aw_Pc (ι : ak_I) (ws : va_W) (avs : List Value) : Array Value → State → Prop := fun a U => ak_Pc ι ws avs a U ∧ aw_Th ι U U.heap
theorem aw_blind (ι : ak_I) (ws : va_W) (avs : List Value) : FrameBlind (aw_Pc ι ws avs) := by
  intro a U g mk ⟨h1, h2, h3, h4⟩
  have al : U.vm.Alike (U.calling g mk a).vm := Vm.Alike.refl U.vm
  exact ⟨ak_blind ι ws avs a U g mk h1, h2.moved al, h3.moved al, va_Nw.same rfl rfl h4.1, va_Nw.same rfl rfl h4.2.1, va_Nw.same rfl rfl h4.2.2.1, va_Nw.same rfl rfl h4.2.2.2⟩
theorem aw_pre {ι : ak_I} {s : State} {ws : va_W} {H : Heap} {locs : List Loc} (hK : va_K ι.2.1 vwCl (ak_T ι) s) (hE : ak_S ι s s.heap) (hb : ι.1 ≤ s.heap.size) (hN : ak_Nw s) (hT : aw_Th ι s s.heap) (hP : va_P ι.2.1 vwCl ws H) (hD : va_D (ak_A ι) ws) (hS : va_S (ak_A ι) s.heap H locs) (avs : List Value) (U : State) (hU : U.heap = H) (hW : s.WarmedH U.vm) : aw_Pc ι ws avs avs.toArray U :=
  ⟨ak_pre hK hE hb hN hP hD hS avs U hU hW, by rw [hU]; exact (hT.moved hW).kept hS.2.1⟩
theorem aw_w1 : Cond.classLink "SpanCopier" 206 "java/util/NoSuchElementException" ∈ ak_W := ak_W_of (by decide +kernel) rfl
theorem aw_w2 : Cond.initialized "java/util/NoSuchElementException" ∈ ak_W := ak_W_of (by decide +kernel) rfl
theorem aw_w3 : ∀ w ∈ (vx_at0 "SpanCopier" 208 "java/util/NoSuchElementException" ["java/lang/RuntimeException", "java/lang/Exception"]).filter goodWord, w ∈ lw_tbl := by decide +kernel
theorem aw_w4 : ∀ w ∈ (vx_at0 "SpanCopier" 208 "java/util/NoSuchElementException" ["java/lang/RuntimeException", "java/lang/Exception"]).filter (fun w => !goodWord w), w ∈ [Cond.castable "java/util/NoSuchElementException" "java/util/NoSuchElementException", Cond.declares ⟨"java/lang/RuntimeException", "<init>", "()V"⟩, Cond.declares ⟨"java/lang/Exception", "<init>", "()V"⟩, Cond.declares ⟨"java/lang/Throwable", "<init>", "()V"⟩] := by decide +kernel
theorem aw_w5 : ∀ w ∈ Cond.classLink "SpanCopier" 206 "java/util/NoSuchElementException" :: Cond.initialized "java/util/NoSuchElementException" :: vx_at0 "SpanCopier" 208 "java/util/NoSuchElementException" ["java/lang/RuntimeException", "java/lang/Exception"], vx_ot w = true := by decide +kernel
/-- thrown: the cells and the bounds then -/
def aw_XC (ι : ak_I) (ws : va_W) (o : ai_O) : String → State → State → Prop := fun E st t => E = "java/util/NoSuchElementException" ∧ (∃ u : va_W, ws.map Prod.fst <+: u.map Prod.fst ∧ ak_h ι o.2.1 o.2.2.1 u ∧ ak_e ι o.2.2.2 ∧ va_P ι.2.1 vwCl u t.heap ∧ va_D (ak_A ι) u) ∧ va_F (ak_A ι) st t
theorem aw_v8 {ι : ak_I} {ads : List Nat} {k : Nat} {x : Value} (h : ak_v ι ads (8, k) x) : False := by
  rcases h with ⟨h, -⟩ | ⟨h, -⟩ | ⟨h, -⟩ | ⟨h, -⟩ | ⟨h, -⟩ | ⟨h, -⟩ | ⟨h, -⟩ | ⟨h, -⟩ <;> simp at h
/-- the contract of a method that comes to 'throw new NoSuchElementException()' at k -/
theorem aw_met {d mid k n : Nat} {M : ai_M} {q : MethodName × ByteArray × Option FieldType × Nat} (hT : ai_tab[mid]? = some M) (hq : ak_mt[mid]? = some q) (hcl : q.1.cls = "SpanCopier") {a : List ai_V} {hp : ai_H} {env : ai_E} {o : ai_O} {loc : ai_L} (hl1 : loc.length = M.1) (hl2 : a.length ≤ M.1) (hl3 : ∀ v ∈ a, ai_in 3 4 v = false) (hl4 : ∀ (i : Nat) (v : ai_V), loc[i]? = some v → v.1 ≤ 7 → a[i]? = some v) (hF : ak_F n d mid 0 (loc, [], n, hp, env, 0, 0) [o]) (ho : o.1 = some (8, k)) (hM1 : M.2.2.1 = 1) (hM2 : M.2.2.2 = 6) (hd : 5 ≤ d) (d0 : decode q.2.1 k = .ok (.new 206, 3)) (d3 : decode q.2.1 (k + 3) = .ok (.dup, 1)) (d4 : decode q.2.1 (k + 4) = .ok (.invokespecial 208, 3)) (d7 : decode q.2.1 (k + 7) = .ok (.athrow, 1)) (l : Launch) (hl : l.stackTraces = false) (ι : ak_I) (ws : va_W) (avs : List Value) (hh : ak_h ι n hp ws) (hs : ak_s ι (ws.map Prod.fst) a avs) (he : ak_e ι env) : vx_Met l q.1 (ak_Wd q.1 q.2.1 M.1 q.2.2.1) (ak_rm d M.2.2.1 M.2.2.2) (aw_Pc ι ws avs) (fun _ _ _ _ => False) (aw_XC ι ws o) M.2.2.1 M.2.2.2 (ak_A ι) := by
  refine vx_ofW (cc := q.2.1) (maxL := M.1) (ret := q.2.2.1) (by rw [hcl]; decide) rfl ?_
  intro p e s m args below meth c s₁ B hml htab hv
  obtain ⟨⟨rfl, hb, hP, hD, hK, hE, hN⟩, hTh⟩ := hv
  have hts := atoms_spec (ws := ak_Wd q.1 q.2.1 M.1 q.2.2.1) B.pre
  have C : ak_C (ι.1, ι.2.1, ι.2.2.1, ι.2.2.2.1, ι.2.2.2.2.1, ws.map Prod.fst) q.1 q.2.1 q.2.2.1 M d p l e (headSpec (ak_Wd q.1 q.2.1 M.1 q.2.2.1) (ak_rm d M.2.2.1 M.2.2.2)).room s m avs.toArray below meth c :=
    ⟨⟨B.exec, B.bytes, B.returns, hml⟩, ⟨findClass_of_methodNamed B.named, fun w hw => hts w (List.mem_cons_of_mem _ hw), B.notSynchronized, (name_of_methodNamed B.named B.method).1⟩, ⟨hK, hE, hb, hN⟩, Nat.le_refl _, Nat.le_refl _, rfl, rfl⟩
  have hcat := ak_s_cat hs hl3
  obtain ⟨g1, g2⟩ := lg_sl_one hcat
  obtain ⟨g3, g4⟩ := ak_s_at hs
  have hlv := lv_entry avs (n := M.1) (by rw [g1, ← g3]; exact hl2)
  rw [lg_entry_eq]
  generalize (lg_sl avs ++ List.replicate (M.1 - (lg_sl avs).length) Slot.unset).toArray = ls at hlv ⊢
  refine hF M q hT hq (ι.1, ι.2.1, ι.2.2.1, ι.2.2.2.1, ι.2.2.2.2.1, ws.map Prod.fst) p l e _ s m _ below meth c (by show (ws.map Prod.fst).length ≤ n; rw [List.length_map, hh.2.1]; exact Nat.le_refl _) C _ ?_ ws ls [] s.heap [] ⟨hP, ⟨hD, List.prefix_rfl⟩, va_S.rf, hh, ⟨Nat.le_of_eq hl1, lv_args 0 avs, hlv, fun i u hu h7 => ?_⟩, trivial, he⟩
  · intro o' ho'
    rw [List.mem_singleton] at ho'
    subst ho'
    intro ws' ls' H' locs' pc' nc ns v r1 r2 hP' hD' hpre hS' hh' he' hcase
    rcases hcase with ⟨h1, -⟩ | ⟨u, x, h1, -, h3, -⟩ | ⟨u, x, h1, -, -, h3, -⟩ | ⟨k', h1, rfl, rfl, hsz, rfl, rfl⟩
    · rw [ho] at h1; cases h1
    · rw [ho] at h1; cases h1; exact (aw_v8 h3).elim
    · rw [ho] at h1; cases h1; exact (aw_v8 h3).elim
    · rw [ho] at h1
      cases h1
      refine vx_throw0 (cc := q.2.1) (own := "SpanCopier") (cls := "java/util/NoSuchElementException") (names := ["java/lang/RuntimeException", "java/lang/Exception"]) (ik := 206) (ic := 208) (A := ak_A ι) C.1.1 C.1.2.1 hl (by rw [← hcl]; exact C.2.1.1) (by decide +kernel) (by decide +kernel) (C.2.1.2.1 _ aw_w1) (C.2.1.2.1 _ aw_w2) (vx_hat (fun w hw => C.2.1.2.1 w (ak_W_of (aw_w3 w hw) (List.mem_filter.mp hw).2)) aw_w4 (vx_c (va_Nw.use rfl hTh.2.2.1) (vx_c (va_Nw.use rfl hTh.2.2.2.1) (vx_c (va_Nw.use rfl hTh.2.2.2.2.1) (vx_c (va_Nw.use rfl hTh.2.2.2.2.2) vx_n))))) aw_w5 hTh.1 hTh.2.1 hS' (hsz.trans hml.symm) d0 d3 d4 d7 (fun x hx => (htab x hx).elim) ?_ ?_ ?_ ?_ B.notSynchronized ?_ hS'.2.2 ?_ ?_
      · show 2 + 3 < d + 1; omega
      · show 0 + (13 * (2 + 1) + 42) ≤ 64 * (d + 1); omega
      · show 0 + 1 ≤ M.2.2.1; omega
      · show 0 + 6 ≤ M.2.2.2; omega
      · intro t hal hz hk
        refine ⟨rfl, ⟨ws', hpre, hh', he', hP'.kept (fun j r hj => hk _ (hP' j r hj).lt), hD'⟩, Nat.le_trans hS'.1 hz, fun j h1 h2 => ?_⟩
        rw [hk _ (Nat.lt_of_lt_of_le h1 hS'.1)]
        exact hS'.2.1 _ h1 h2
      · show 0 + 1 ≤ M.2.2.1; omega
      · show 0 + 6 ≤ M.2.2.2; omega
  · obtain ⟨v, v1, v2⟩ := g4 i u (hl4 i u hu h7)
    have := g2 0 i v v1
    rw [Nat.zero_add] at this
    exact ⟨v, this, v2, hcat v (List.mem_of_getElem? v1)⟩
/-- where throwing can be followed: no traces, the statics, the method's own table -/
def aw_G (hh : List (Nat × Nat × Nat × Nat)) : ak_I → ak_Fr → Prop := fun ι φ => φ.2.1.stackTraces = false ∧ aw_Th ι φ.2.2.2.2.1 φ.2.2.2.2.1.heap ∧ φ.2.2.2.2.2.2.2.2.2.exceptionTable.toList = tableOf hh
/-- the law's own -/
def aw_GL : ak_I → ak_Fr → Prop := fun ι φ => φ.2.1.stackTraces = false ∧ aw_Th ι φ.2.2.2.2.1 φ.2.2.2.2.1.heap
theorem aw_split {ι : ak_I} {ads : List Nat} {stk : List ai_V} : ∀ {as : List ai_V} {st : List Value}, ak_s ι ads (as ++ stk) st → ∃ xs rest : List Value, st = xs ++ rest ∧ ak_s ι ads as xs ∧ ak_s ι ads stk rest := by
  intro as
  induction as with
  | nil => intro st h; exact ⟨[], st, rfl, trivial, h⟩
  | cons a as ih =>
    intro st h
    obtain ⟨x, st, rfl, hx, h⟩ := ak_s_cons h
    obtain ⟨xs, rest, rfl, h1, h2⟩ := ih h
    exact ⟨x :: xs, rest, rfl, ⟨hx, h1⟩, h2⟩
theorem aw_rev {ι : ak_I} {ads : List Nat} : ∀ {as bs : List ai_V} {xs zs : List Value}, ak_s ι ads as xs → ak_s ι ads bs zs → ak_s ι ads (as.reverse ++ bs) (xs.reverse ++ zs) := by
  intro as
  induction as with
  | nil => intro bs xs zs h1 h2; rw [ak_s_nil h1]; exact h2
  | cons a as ih =>
    intro bs xs zs h1 h2
    obtain ⟨x, xs, rfl, hx, h1⟩ := ak_s_cons h1
    have := ih (bs := a :: bs) (zs := x :: zs) h1 ⟨hx, h2⟩
    simpa using this
theorem aw_slen {ι : ak_I} {ads : List Nat} : ∀ {l : List ai_V} {k : List Value}, ak_s ι ads l k → k.length = l.length := by
  intro l
  induction l with
  | nil => intro k h; rw [ak_s_nil h]; rfl
  | cons a l ih => intro k h; obtain ⟨x, k, rfl, -, h⟩ := ak_s_cons h; simp [ih h]
/-- a call of a method that throws, caught by the one row of the table -/
theorem aw_thr {r d mid mid' pc idx n nc ns k i hpc hp2 rc lo hi ct : Nat} {M M' : ai_M} {q q' : MethodName × ByteArray × Option FieldType × Nat} {hp : ai_H} {env : ai_E} {as1 stk : List ai_V} {loc loc' : ai_L} {o : ai_O} {ps : List ai_O} {c0 : ai_C} {qc : vw_C}
    (hT : ai_tab[mid]? = some M) (hq : ak_mt[mid]? = some q) (hT' : ai_tab[mid']? = some M') (hq' : ak_mt[mid']? = some q') (hy : ak_ym q'.1 q'.2.1 M'.1 q'.2.2.1) (hcl : q'.1.cls = "SpanCopier")
    (hlink : Cond.methodLink q.1.cls idx q'.1 ∈ ak_W) (hins : Cond.instanceMethod q'.1 ∈ ak_W) (hsel : Cond.selects "SpanCopier" q'.1 q'.1 ∈ ak_W) (hlk : Cond.classLink q.1.cls ct "java/util/NoSuchElementException" ∈ ak_W)
    (hpd : (parseMethodDescriptor q'.1.desc).map (fun d => d.parameters.length) = some as1.length) (hdg : decode q.2.1 pc = .ok (.invokevirtual idx, 3))
    (hrc : rc < n) (hcell : hp[n - (rc + 1)]? = some c0) (hc0 : c0.1 = 0) (hci : vwCl[c0.2.1]? = some qc) (hqc : qc.1 = "SpanCopier")
    (hl1 : loc'.length = M'.1) (hl2 : as1.length + 1 ≤ M'.1) (hl3 : ∀ v ∈ (6, rc) :: as1.reverse, ai_in 3 4 v = false) (hl4 : ∀ (i : Nat) (v : ai_V), loc'[i]? = some v → v.1 ≤ 7 → ((6, rc) :: as1.reverse)[i]? = some v)
    (hF : ak_F n d mid' 0 (loc', [], n, hp, env, 0, 0) [o]) (ho : o.1 = some (8, k)) (hM1 : M'.2.2.1 = 1) (hM2 : M'.2.2.2 = 6) (hd : 5 ≤ d) (d0 : decode q'.2.1 k = .ok (.new 206, 3)) (d3 : decode q'.2.1 (k + 3) = .ok (.dup, 1)) (d4 : decode q'.2.1 (k + 4) = .ok (.invokespecial 208, 3)) (d7 : decode q'.2.1 (k + 7) = .ok (.athrow, 1))
    (hcov : lo ≤ pc ∧ pc < hi) (hct : ct ≠ 0) (hst : (decode q.2.1 hpc = .ok (.astore i, 2) ∧ hp2 = hpc + 2) ∨ ∃ j : Fin 4, decode q.2.1 hpc = .ok (.astore_n j, 1) ∧ (j : Nat) = i ∧ hp2 = hpc + 1) (hi4 : i < M.1)
    (hsum : ai_sum stk ≤ 8) (hnc : nc + 1 ≤ M.2.2.1) (hns : ns + 6 ≤ M.2.2.2)
    (hA : ak_FG (aw_G [(lo, hi, hpc, ct)]) r (d + 1) mid hp2 (List.replicate M.1 (9, 0), [], o.2.1, o.2.2.1, o.2.2.2, nc + 1, ns + 6) ps) :
    ak_FG (aw_G [(lo, hi, hpc, ct)]) r (d + 1) mid pc (loc, as1 ++ (6, rc) :: stk, n, hp, env, nc, ns) ps := by
  intro M0 q0 hT0 hq0 ι p l e R s m args below meth c hG hn C Q hQ ws ls st H locs hM
  cases hT.symm.trans hT0
  cases hq.symm.trans hq0
  have hA2 := hA M q hT hq ι p l e R s m args below meth c hG hn C Q hQ
  obtain ⟨hl, hTh, htab⟩ := hG
  obtain ⟨m1, m2, m3, m4, m5, m6, m7⟩ := hM
  obtain ⟨xs, rest0, rfl, s1, s2⟩ := aw_split m6
  obtain ⟨b0, rest, rfl, hb0, s3⟩ := ak_s_cons s2
  obtain ⟨qa, hqa, rfl⟩ := ak_v_cell hb0 rfl
  obtain ⟨⟨qa', ee⟩, hw, hcc⟩ := m4.2.2 rc c0 hrc hcell
  have hqa' : qa' = qa := by
    rw [List.getElem?_map, hw] at hqa
    exact Option.some.inj hqa
  subst hqa'
  obtain ⟨fs, rfl, -, -⟩ := ak_c_obj hcc hc0
  have hs' : ak_s ι (ws.map Prod.fst) ((6, rc) :: as1.reverse) (.ref qa' :: xs.reverse) := ⟨hb0, by
    have := aw_rev s1 (show ak_s ι (ws.map Prod.fst) [] [] from trivial)
    simpa using this⟩
  have hMet := aw_met hT' hq' hcl hl1 (by simpa using hl2) hl3 hl4 hF ho hM1 hM2 hd d0 d3 d4 d7 l hl ι ws (.ref qa' :: xs.reverse) m4 hs' m7
  have hfix : CallFix p m c q.2.1 M.1 s args ak_W q.1.cls := ⟨C.1.1, C.1.2.1, C.1.2.2.2, C.2.1.1, C.2.1.2.1⟩
  have hR : (ak_rm d M'.2.2.1 M'.2.2.2).frames + 1 ≤ R.frames ∧ 8 + (M'.1 + 11) + (ak_rm d M'.2.2.1 M'.2.2.2).locals ≤ R.locals := by
    have r1 := C.2.2.2.1
    have r2 := C.2.2.2.2.1
    have r3 := hy.2.2.2.2.1
    exact ⟨r1, by show 8 + (M'.1 + 11) + 64 * (d + 1) ≤ R.locals; omega⟩
  have hls : ls.size = M.1 := by obtain ⟨-, lv, hl, -⟩ := m5; exact hl.1
  have hf : nc + M'.2.2.1 ≤ R.cells ∧ ns + M'.2.2.2 ≤ R.slots := ⟨by rw [C.2.2.2.2.2.1, hM1]; exact hnc, by rw [C.2.2.2.2.2.2, hM2]; exact hns⟩
  have hrest : (rest.map fun v => v.category).sum ≤ 8 := by rw [ak_s_sum s3]; exact hsum
  have hxl : xs.reverse.length = as1.length := by rw [List.length_reverse]; exact aw_slen s1
  have hrun := vx_runV (g := F0 m pc ls (xs ++ .ref qa' :: rest)) (H := H) (locs := locs) (cells := nc) (slots := ns) (below := below) (meth := meth) (e := e) (As := xs.reverse) (n := as1.length) (C := "SpanCopier") (index := idx) (b := qa') (rest := rest) hfix hMet ⟨callB_of as1.length C.2.1.2.1 (ak_good hy.1) rfl rfl rfl (C.2.1.2.1 _ hy.2.1) (C.2.1.2.1 _ hlink) ⟨hy.2.2.1, hy.2.2.2.1, hpd⟩ hR, C.2.1.2.1 _ hins, C.2.1.2.1 _ hsel⟩ ⟨aw_blind ι ws _, by rw [← hqc]; exact va_recv C.2.2.1.1 m1 hci hw, aw_pre C.2.2.1.1 C.2.2.1.2.1 C.2.2.1.2.2.1 C.2.2.1.2.2.2 hTh m1 m2.1 m3 _⟩ rfl hxl hls (by show xs ++ _ = _; rw [List.reverse_reverse]) (lv_room hrest) hdg hf
  intro T hT9 X
  rcases hrun T hT9 X with ⟨v, st₀, t, T', L, h0, X', hL, e1, e2, hbad, stp⟩ | ⟨q9, st₀, t, T', L, E, ce, h0, X', hL, e1, e2, ⟨rfl, ⟨u, u1, u2, u3, u4, u5⟩, hz, hk⟩, hce, hcv, hcl9, stp⟩
  · exact hbad.elim
  · rw [h0] at hz hk
    have hS1 : va_S (ak_A ι) s.heap T'.heap (locs ++ L) := ⟨by rw [e1]; exact Nat.le_trans m3.1 hz, fun j z1 z2 => by rw [e1, hk j (Nat.lt_of_lt_of_le z1 m3.1) z2]; exact m3.2.1 j z1 z2, fun j hj => by
      rcases List.mem_append.mp hj with hj | hj
      · exact m3.2.2 j hj
      · exact hL j hj⟩
    have hW : vx_W p l e R s m args below meth c T'.heap (locs ++ L) (nc + M'.2.2.1) (ns + M'.2.2.2) Q (F0 m pc ls rest) q9 := by
      refine vx_catch (own := q.1.cls) (name := "java/util/NoSuchElementException") (E := "java/util/NoSuchElementException") (ce := ce) C.2.1.1 ⟨lo, hi, hpc, ct⟩ htab (by simp [covers, hcov.1, hcov.2]) hct (C.2.1.2.1 _ hlk) (va_Nw.use rfl hTh.2.2.1) (by rw [e1]; exact hce) hcv hcl9 ?_
      have fin : ∀ ls' : Array Slot, ∀ lv, lv_has ls' M.1 lv → W p l e R s m args below meth c T'.heap (locs ++ L) (nc + M'.2.2.1) (ns + M'.2.2.2) Q (F0 m hp2 ls' []) := by
        intro ls' lv hlv
        rw [hM1, hM2]
        refine hA2 u ls' [] T'.heap (locs ++ L) ⟨by rw [e1]; exact u4, ⟨u5, m2.2.trans u1⟩, hS1, u2, ⟨by simp, lv, hlv, fun j a ha h7 => ?_⟩, trivial, u3⟩
        rw [List.getElem?_replicate] at ha
        split at ha
        · cases ha; simp at h7
        · cases ha
      obtain ⟨-, lv, hlv, -⟩ := m5
      rcases hst with ⟨g1, g2⟩ | ⟨j, g1, g3, g2⟩
      · subst g2
        exact lv_astore C.1.1 C.1.2.1 g1 hlv hi4 rfl (fun ls' h => fin ls' _ h)
      · subst g2
        exact lv_astore_n C.1.1 C.1.2.1 g1 g3 hlv hi4 rfl (fun ls' h => fin ls' _ h)
    obtain ⟨t2, a1, b1⟩ := hW T' rfl X'
    exact ⟨t2, stp.trans a1, b1⟩
/-- the words of a method with a table -/
def aw_Wd (y : MethodName) (b : ByteArray) (nL : Nat) (rt : Option FieldType) (hh : List (Nat × Nat × Nat × Nat)) : List Cond := .codeWith y b nL rt hh :: ak_W
theorem aw_ofW {l : Launch} {y : MethodName} {ws ws' : List Cond} {rm : Room} {Pc : Array Value → State → Prop} {Qc : Array Value → State → Outcome → State → Prop} {mc ms : Nat} {free : Addr → Prop} {cc : ByteArray} {maxL : Nat} {ret : Option FieldType} {hh : List (Nat × Nat × Nat × Nat)} (hy : plainFor y = true) (hw : ws = Cond.codeWith y cc maxL ret hh :: ws') (body : ∀ p e s m args below meth c s₁, BodyLoose p l y (headSpec ws rm) cc maxL ret e s m args below meth c s₁ → c.maxLocals = maxL → c.exceptionTable.toList = tableOf hh → Pc args s → W p l e (headSpec ws rm).room s m args below meth c s.heap [] 0 0 (MQ below Qc args s mc ms free) (entryFrame m args maxL)) : Met l y ws rm Pc Qc mc ms free := by
  refine Jvm.Free.MetFree.of_bodySF (code := cc) (maxLocals := maxL) (ret := ret) hy ?_ ?_
  · intro args s m h hn
    obtain ⟨m9, meth, c, hn9, h1, h2, h3, h4, -, h5, h6, -⟩ := Cond.codeWith_spec (atoms_spec (ws := ws) h _ (by rw [hw]; exact List.mem_cons_self))
    cases hn.symm.trans hn9
    exact ⟨meth, c, h1, h2, h3, h4, h5, h6⟩
  · intro p e s m args below meth c s₁ B hml hP _
    have hh0 : s₁.heap = s.heap := by rw [B.state]; rfl
    have ht : c.exceptionTable.toList = tableOf hh := vx_table (x := y) B (atoms_spec (ws := ws) B.pre _ (by rw [hw]; exact List.mem_cons_self))
    obtain ⟨t, a1, o, b1, b2, b3⟩ := body p e s m args below meth c s₁ B hml ht hP s₁ hh0 (Stand.of_body B)
    exact ⟨t, o, a1, b1, b2, ⟨b3.1, b3.2⟩⟩
/-- the contract of a method with a table, out of what is known of its beginning -/
theorem aw_metW {d mid n : Nat} {M : ai_M} {q : MethodName × ByteArray × Option FieldType × Nat} {hh : List (Nat × Nat × Nat × Nat)} (hT : ai_tab[mid]? = some M) (hq : ak_mt[mid]? = some q) (hpl : plainFor q.1 = true) {a : List ai_V} {hp : ai_H} {env : ai_E} {os : List ai_O} {loc : ai_L} (hl1 : loc.length = M.1) (hl2 : a.length ≤ M.1) (hl3 : ∀ v ∈ a, ai_in 3 4 v = false) (hl4 : ∀ (i : Nat) (v : ai_V), loc[i]? = some v → v.1 ≤ 7 → a[i]? = some v) (hF : ak_FG (aw_G hh) n d mid 0 (loc, [], n, hp, env, 0, 0) os) (h8 : ∀ o ∈ os, ∀ k : Nat, o.1 ≠ some (8, k)) (l : Launch) (hl : l.stackTraces = false) (ι : ak_I) (ws : va_W) (avs : List Value) (hhp : ak_h ι n hp ws) (hs : ak_s ι (ws.map Prod.fst) a avs) (he : ak_e ι env) : Met l q.1 (aw_Wd q.1 q.2.1 M.1 q.2.2.1 hh) (ak_rm d M.2.2.1 M.2.2.2) (aw_Pc ι ws avs) (ak_Q ι ws os) M.2.2.1 M.2.2.2 (ak_A ι) := by
  refine aw_ofW (cc := q.2.1) (maxL := M.1) (ret := q.2.2.1) (hh := hh) hpl rfl ?_
  intro p e s m args below meth c s₁ B hml htab hv
  obtain ⟨⟨rfl, hb, hP, hD, hK, hE, hN⟩, hTh⟩ := hv
  have hts := atoms_spec (ws := aw_Wd q.1 q.2.1 M.1 q.2.2.1 hh) B.pre
  have C : ak_C (ι.1, ι.2.1, ι.2.2.1, ι.2.2.2.1, ι.2.2.2.2.1, ws.map Prod.fst) q.1 q.2.1 q.2.2.1 M d p l e (headSpec (aw_Wd q.1 q.2.1 M.1 q.2.2.1 hh) (ak_rm d M.2.2.1 M.2.2.2)).room s m avs.toArray below meth c :=
    ⟨⟨B.exec, B.bytes, B.returns, hml⟩, ⟨findClass_of_methodNamed B.named, fun w hw => hts w (List.mem_cons_of_mem _ hw), B.notSynchronized, (name_of_methodNamed B.named B.method).1⟩, ⟨hK, hE, hb, hN⟩, Nat.le_refl _, Nat.le_refl _, rfl, rfl⟩
  have hcat := ak_s_cat hs hl3
  obtain ⟨g1, g2⟩ := lg_sl_one hcat
  obtain ⟨g3, g4⟩ := ak_s_at hs
  have hlv := lv_entry avs (n := M.1) (by rw [g1, ← g3]; exact hl2)
  rw [lg_entry_eq]
  generalize (lg_sl avs ++ List.replicate (M.1 - (lg_sl avs).length) Slot.unset).toArray = ls at hlv ⊢
  refine hF M q hT hq (ι.1, ι.2.1, ι.2.2.1, ι.2.2.2.1, ι.2.2.2.2.1, ws.map Prod.fst) p l e _ s m _ below meth c ⟨hl, hTh, htab⟩ (by show (ws.map Prod.fst).length ≤ n; rw [List.length_map, hhp.2.1]; exact Nat.le_refl _) C _ ?_ ws ls [] s.heap [] ⟨hP, ⟨hD, List.prefix_rfl⟩, va_S.rf, hhp, ⟨Nat.le_of_eq hl1, lv_args 0 avs, hlv, fun i u hu h7 => ?_⟩, trivial, he⟩
  · intro o ho
    exact ak_end_of ho (h8 o ho) C
  · obtain ⟨v, v1, v2⟩ := g4 i u (hl4 i u hu h7)
    have := g2 0 i v v1
    rw [Nat.zero_add] at this
    exact ⟨v, this, v2, hcat v (List.mem_of_getElem? v1)⟩
/-- the law's call of such a method -/
theorem aw_law {r d mid mid' pc idx n nc ns : Nat} {M M' : ai_M} {q q' : MethodName × ByteArray × Option FieldType × Nat} {hp : ai_H} {env : ai_E} {as stk : List ai_V} {loc loc' : ai_L} {os ps : List ai_O} {hh : List (Nat × Nat × Nat × Nat)}
    (hT : ai_tab[mid]? = some M) (hq : ak_mt[mid]? = some q) (hT' : ai_tab[mid']? = some M') (hq' : ak_mt[mid']? = some q') (hy : Cond.codeWith q'.1 q'.2.1 M'.1 q'.2.2.1 hh ∈ ak_W ∧ Cond.initialized q'.1.cls ∈ ak_W ∧ q'.1.cls ≠ "java/lang/invoke/MethodHandle" ∧ q'.1.cls ≠ "java/lang/invoke/VarHandle" ∧ M'.1 ≤ 45 ∧ plainFor q'.1 = true)
    (hlink : Cond.methodLink q.1.cls idx q'.1 ∈ ak_W) (hstt : Cond.static q'.1 ∈ ak_W) (hpd : (parseMethodDescriptor q'.1.desc).map (fun d => d.parameters.length) = some as.length) (hdg : decode q.2.1 pc = .ok (.invokestatic idx, 3))
    (hl1 : loc'.length = M'.1) (hl2 : as.length ≤ M'.1) (hl3 : ∀ v ∈ as.reverse, ai_in 3 4 v = false) (hl4 : ∀ (i : Nat) (v : ai_V), loc'[i]? = some v → v.1 ≤ 7 → as.reverse[i]? = some v)
    (hF : ak_FG (aw_G hh) n d mid' 0 (loc', [], n, hp, env, 0, 0) os) (h8 : ai_no8 os = true) (hsum : ai_sum stk ≤ 8) (hnc : nc + M'.2.2.1 ≤ M.2.2.1) (hns : ns + M'.2.2.2 ≤ M.2.2.2)
    (hA : ∀ o ∈ os, ∃ a, o.1 = some a ∧ ak_FG aw_GL r (d + 1) mid (pc + 3) (loc, a :: stk, o.2.1, o.2.2.1, o.2.2.2, nc + M'.2.2.1, ns + M'.2.2.2) ps) :
    ak_FG aw_GL r (d + 1) mid pc (loc, as ++ stk, n, hp, env, nc, ns) ps := by
  intro M0 q0 hT0 hq0 ι p l e R s m args below meth c hG hn C Q hQ ws ls st H locs hM
  cases hT.symm.trans hT0
  cases hq.symm.trans hq0
  obtain ⟨hl, hTh⟩ := id hG
  obtain ⟨m1, m2, m3, m4, m5, m6, m7⟩ := id hM
  obtain ⟨xs, rest, rfl, s1, s2⟩ := aw_split m6
  have s3 : ak_s ι (ws.map Prod.fst) as.reverse xs.reverse := by
    have := aw_rev s1 (show ak_s ι (ws.map Prod.fst) [] [] from trivial)
    simpa using this
  have hMet := aw_metW hT' hq' hy.2.2.2.2.2 hl1 (by simpa using hl2) hl3 hl4 hF (ai_no8_ok h8) l hl ι ws xs.reverse m4 s3 m7
  have hfix : CallFix p m c q.2.1 M.1 s args ak_W q.1.cls := ⟨C.1.1, C.1.2.1, C.1.2.2.2, C.2.1.1, C.2.1.2.1⟩
  have hR : (ak_rm d M'.2.2.1 M'.2.2.2).frames + 1 ≤ R.frames ∧ 8 + (M'.1 + 11) + (ak_rm d M'.2.2.1 M'.2.2.2).locals ≤ R.locals := by
    have r1 := C.2.2.2.1
    have r2 := C.2.2.2.2.1
    have r3 := hy.2.2.2.2.1
    exact ⟨r1, by show 8 + (M'.1 + 11) + 64 * (d + 1) ≤ R.locals; omega⟩
  have hls : ls.size = M.1 := by obtain ⟨-, lv, hl, -⟩ := m5; exact hl.1
  have hf : nc + M'.2.2.1 ≤ R.cells ∧ ns + M'.2.2.2 ≤ R.slots := ⟨by rw [C.2.2.2.2.2.1]; exact hnc, by rw [C.2.2.2.2.2.2]; exact hns⟩
  have hrest : (rest.map fun v => v.category).sum ≤ 8 := by rw [ak_s_sum s2]; exact hsum
  have hxl : xs.reverse.length = as.length := by rw [List.length_reverse]; exact aw_slen s1
  have gW : ∀ w ∈ ak_W, w ∈ ak_W ∧ ((w.onTables && w.keeps) = true ∨ ∃ ty, w = .arrayClass ty) := fun w hw => ⟨hw, good_of_word (List.mem_filter.mp hw).2⟩
  have hgood : GoodIn ak_W (va_wsS q.1.cls idx q'.1 (aw_Wd q'.1 q'.2.1 M'.1 q'.2.2.1 hh)) := by
    intro w hw
    rcases List.mem_append.mp hw with hw | hw
    · simp only [List.mem_cons, List.not_mem_nil, or_false] at hw
      rcases hw with rfl | rfl | rfl
      · exact gW _ hlink
      · exact gW _ hstt
      · exact gW _ hy.2.1
    · rcases List.mem_cons.mp hw with rfl | hw
      · exact gW _ hy.1
      · exact gW _ hw
  have hrun := vx_runSW (g := F0 m pc ls (xs ++ rest)) (H := H) (locs := locs) (cells := nc) (slots := ns) (below := below) (meth := meth) (e := e) (As := xs.reverse) (n := as.length) (index := idx) (rest := rest) hfix hMet (vx_cwSW as.length C.2.1.2.1 hgood rfl rfl rfl ⟨hy.2.2.1, hy.2.2.2.1, hpd⟩ hR) ⟨aw_blind ι ws _, aw_pre C.2.2.1.1 C.2.2.1.2.1 C.2.2.1.2.2.1 C.2.2.1.2.2.2 hTh m1 m2.1 m3 _⟩ rfl hxl hls (by show xs ++ _ = _; rw [List.reverse_reverse]) (lv_room hrest) hdg hf
  refine ak_go hrun m3 (fun o v u H1 locs1 ho q1 q2 q3 q4 q5 q6 q7 => ?_)
  obtain ⟨a, ha, hA1⟩ := hA o ho
  rcases q1 with ⟨e1, -⟩ | ⟨a', z, e1, rfl, e3⟩
  · rw [ha] at e1; cases e1
  · rw [ha] at e1
    cases e1
    exact hA1 M q hT hq ι p l e R s m args below meth c hG hn C Q hQ u ls _ H1 locs1 ⟨q5, ⟨q6, m2.2.trans q4⟩, q7, q2, ak_l_mono q4 m5, ⟨e3, ak_s_mono q4 s2⟩, q3⟩
end
section
def az_x : ai_C := (9, 0, (0, 0), [])
/-- nothing is said of n cells -/
def az_dd (n : Nat) : ai_H := @Nat.rec (fun _ => ai_H) [] (fun _ ih => az_x :: ih) n
theorem ak_ts0 {r d mid : Nat} : ∀ t ∈ ([] : List ai_T), ak_F r d mid t.1 t.2.1 t.2.2 := fun t h => by cases h
theorem ak_ts1 {r d mid pc : Nat} {z : ai_Z} {o : List ai_O} {ts : List ai_T} (h : ak_F r d mid pc z o) (hs : ∀ t ∈ ts, ak_F r d mid t.1 t.2.1 t.2.2) : ∀ t ∈ ((pc, z, o) :: ts), ak_F r d mid t.1 t.2.1 t.2.2 := by
  intro t ht
  rcases List.mem_cons.mp ht with rfl | ht
  · exact h
  · exact hs t ht
/-- the law answers true -/
def az_o : List ai_O := [(some (0, 1), 76, az_dd 76, [(0, 4294967295), (0, 4294967295), (0, 4294967295), (0, 4294967295), (0, 4294967295), (0, 4294967295), (2147483648, 2147483711), (2147483648, 2147483654)])]
def ai_M179 : ai_M := (7, ai_k179, 600002, 7302232)
theorem ak_t179 : ai_tab[179]? = some ai_M179 := rfl
def az_0 : ai_C := (4, 1, (3, 0), [])
def az_1 : ai_C := (1, 240, (0, 0), [])
def az_2 : ai_C := (1, 4, (0, 0), [])
def az_3 : ai_C := (1, 120, (0, 0), [])
def az_4 : ai_C := (1, 3, (0, 0), [])
def az_5 : ai_C := (1, 38, (0, 0), [])
def az_6 : ai_C := (3, 7, (0, 0), [])
def az_7 : ai_C := (3, 2, (0, 0), [])
def az_8 : ai_C := (4, 20, (3, 0), [])
def az_9 : ai_C := (4, 10, (3, 0), [])
def az_10 : ai_C := (1, 2996, (0, 0), [])
def az_11 : ai_C := (1, 23968, (0, 0), [])
def az_12 : ai_C := (1, 6532, (0, 0), [])
def az_13 : ai_C := (1, 28, (0, 0), [(0, (0, 8)), (1, (0, 1)), (2, (0, 2)), (3, (0, 12)), (4, (0, 3)), (5, (0, 1)), (6, (0, 4294967295))])
def az_14 : ai_C := (1, 3266, (0, 0), [(0, (0, 8)), (1, (0, 1)), (2, (0, 2)), (3, (0, 12)), (4, (0, 3)), (5, (0, 1)), (6, (0, 4294967295)), (53, (0, 4294967295)), (37, (0, 4294967295)), (38, (0, 4294967295)), (39, (0, 4294967295)), (40, (0, 4294967295)), (41, (0, 4294967295)), (42, (0, 4294967295)), (542, (0, 4294967295))])
def az_15 : ai_C := (1, 940, (0, 0), [])
def az_16 : ai_C := (0, 11, (5, 0), [(14, (6, 59)), (0, (0, 0)), (1, (6, 58)), (2, (0, 0)), (3, (0, 0)), (4, (0, 0)), (5, (0, 0)), (6, (0, 0)), (7, (0, 0)), (8, (0, 0)), (9, (0, 0)), (10, (0, 0)), (11, (0, 0)), (12, (3, 0)), (13, (0, 0)), (15, (6, 60)), (16, (6, 61)), (17, (6, 62)), (18, (6, 63)), (19, (6, 64)), (20, (6, 65)), (21, (6, 66)), (22, (6, 67)), (23, (6, 68)), (24, (6, 69)), (25, (0, 0)), (26, (6, 70)), (27, (6, 71)), (28, (0, 0)), (29, (0, 0)), (30, (6, 72)), (31, (6, 73)), (32, (0, 0)), (33, (0, 0)), (34, (6, 74)), (35, (0, 0)), (36, (0, 0)), (37, (0, 0)), (38, (0, 0))])
def az_17 : ai_C := (1, 6, (0, 0), [])
def az_18 : ai_C := (5, 6, (5, 0), [(0, (7, 0)), (1, (7, 0)), (2, (7, 0)), (3, (7, 0)), (4, (7, 0)), (5, (7, 0))])
def az_19 : ai_C := (1, 6, (0, 0), [(0, (0, 8)), (1, (0, 1)), (2, (0, 2)), (3, (0, 12)), (4, (0, 3)), (5, (0, 1))])
def az_20 : ai_C := (0, 2, (5, 0), [(0, (6, 52)), (1, (6, 53)), (2, (6, 54)), (3, (6, 55)), (4, (6, 56)), (5, (0, 4294967295)), (6, (0, 0)), (7, (0, 0)), (8, (0, 0)), (9, (0, 0)), (10, (0, 0))])
def az_21 : ai_C := (0, 6, (5, 0), [(0, (6, 50)), (1, (0, 0)), (2, (0, 0)), (3, (0, 0)), (4, (0, 0))])
def az_22 : ai_C := (2, 240, (0, 0), [])
def az_23 : ai_C := (0, 3, (5, 0), [(0, (6, 47)), (1, (0, 0))])
def az_24 : ai_C := (0, 7, (5, 0), [(0, (6, 46)), (1, (6, 48)), (2, (0, 0)), (3, (0, 0)), (4, (0, 0)), (5, (0, 0)), (6, (0, 0)), (7, (0, 0)), (8, (0, 4294967295))])
def az_25 : ai_C := (0, 3, (5, 0), [(0, (6, 43)), (1, (0, 0))])
def az_26 : ai_C := (0, 7, (5, 0), [(0, (6, 42)), (1, (6, 44)), (2, (0, 0)), (3, (0, 0)), (4, (0, 0)), (5, (0, 0)), (6, (0, 0)), (7, (0, 0)), (8, (0, 4294967295))])
def az_27 : ai_C := (0, 3, (5, 0), [(0, (6, 40)), (1, (0, 0))])
def az_28 : ai_C := (0, 4, (5, 0), [(0, (6, 39)), (1, (0, 0)), (2, (0, 0)), (3, (0, 0)), (4, (0, 0)), (5, (0, 0))])
def az_29 : ai_C := (1, 13, (0, 0), [])
def az_30 : ai_C := (1, 520, (0, 0), [])
def az_31 : ai_C := (0, 1, (5, 0), [(0, (6, 36)), (1, (6, 37)), (2, (0, 0)), (3, (0, 0)), (4, (0, 0))])
def az_32 : ai_C := (0, 9, (5, 0), [(0, (6, 35)), (1, (6, 38)), (2, (6, 41)), (3, (6, 45)), (4, (6, 49)), (5, (6, 51)), (6, (5, 0)), (7, (7, 42)), (8, (0, 0)), (9, (0, 0)), (10, (0, 0))])
def az_33 : ai_C := (1, 4, (0, 0), [(0, (0, 4294967295)), (1, (0, 4294967295)), (2, (0, 4294967295)), (3, (0, 4294967295))])
def az_34 : ai_C := (1, 3, (0, 0), [(0, (0, 4294967295)), (1, (0, 4294967295)), (2, (0, 4294967295))])
def az_35 : ai_C := (6, 8, (5, 0), [])
def az_36 : ai_C := (6, 2, (5, 0), [])
def az_37 : ai_C := (0, 2, (5, 0), [(0, (6, 25)), (1, (6, 26)), (2, (6, 27)), (3, (6, 28)), (4, (6, 29)), (5, (0, 4294967295)), (6, (0, 0)), (7, (0, 0)), (8, (0, 0)), (9, (0, 0)), (10, (0, 0))])
def az_38 : ai_C := (0, 6, (5, 0), [(0, (6, 23)), (1, (0, 0)), (2, (0, 0)), (3, (0, 0)), (4, (0, 0))])
def az_39 : ai_C := (0, 3, (5, 0), [(0, (6, 20)), (1, (0, 0))])
def az_40 : ai_C := (0, 7, (5, 0), [(0, (6, 19)), (1, (6, 21)), (2, (0, 0)), (3, (0, 0)), (4, (0, 0)), (5, (0, 0)), (6, (0, 0)), (7, (0, 0)), (8, (0, 4294967295))])
def az_41 : ai_C := (0, 3, (5, 0), [(0, (6, 16)), (1, (0, 0))])
def az_42 : ai_C := (0, 7, (5, 0), [(0, (6, 15)), (1, (6, 17)), (2, (0, 0)), (3, (0, 0)), (4, (0, 0)), (5, (0, 0)), (6, (0, 0)), (7, (0, 0)), (8, (0, 4294967295))])
def az_43 : ai_C := (0, 3, (5, 0), [(0, (6, 13)), (1, (0, 0))])
def az_44 : ai_C := (0, 4, (5, 0), [(0, (6, 12)), (1, (0, 0)), (2, (0, 0)), (3, (0, 0)), (4, (0, 0)), (5, (0, 0))])
def az_45 : ai_C := (0, 1, (5, 0), [(0, (6, 9)), (1, (6, 10)), (2, (0, 0)), (3, (0, 0)), (4, (0, 0))])
def az_46 : ai_C := (0, 9, (5, 0), [(0, (6, 8)), (1, (6, 11)), (2, (6, 14)), (3, (6, 18)), (4, (6, 22)), (5, (6, 24)), (6, (5, 0)), (7, (7, 42)), (8, (0, 0)), (9, (0, 0)), (10, (0, 0))])
def az_47 : ai_C := (1, 40, (0, 0), [])
def az_48 : ai_C := (5, 40, (5, 0), [(0, (7, 0)), (1, (7, 0)), (2, (7, 0)), (3, (7, 0)), (4, (7, 0)), (5, (7, 0)), (6, (7, 0)), (7, (7, 0)), (8, (7, 0)), (9, (7, 0)), (10, (7, 0)), (11, (7, 0)), (12, (7, 0)), (13, (7, 0)), (14, (7, 0)), (15, (7, 0)), (16, (7, 0)), (17, (7, 0)), (18, (7, 0)), (19, (7, 0)), (20, (7, 0)), (21, (7, 0)), (22, (7, 0)), (23, (7, 0)), (24, (7, 0)), (25, (7, 0)), (26, (7, 0)), (27, (7, 0)), (28, (7, 0)), (29, (7, 0)), (30, (7, 0)), (31, (7, 0)), (32, (7, 0)), (33, (7, 0)), (34, (7, 0)), (35, (7, 0)), (36, (7, 0)), (37, (7, 0)), (38, (7, 0)), (39, (7, 0))])
def az_49 : ai_C := (0, 0, (5, 0), [(0, (6, 4)), (1, (6, 5)), (2, (6, 6)), (3, (0, 0))])
def az_50 : ai_C := (2, 940, (0, 0), [])
def az_51 : ai_C := (0, 8, (5, 0), [(0, (6, 2)), (1, (0, 0)), (2, (0, 0)), (3, (0, 0)), (4, (0, 0)), (5, (0, 0)), (6, (0, 0)), (7, (3, 0)), (8, (7, 0)), (9, (0, 0)), (10, (0, 0))])
def az_52 : ai_C := (0, 10, (5, 0), [(2, (6, 7)), (0, (6, 1)), (1, (6, 3)), (3, (6, 30)), (4, (6, 31)), (5, (6, 32)), (6, (6, 33)), (7, (6, 34)), (8, (5, 0)), (9, (0, 0)), (10, (0, 0)), (11, (0, 0))])
def az_c0 : ai_Z := ([(7, 45), (6, 0), (6, 57), (6, 75), (0, 0), (9, 0), (9, 0)], [], 76, [az_0, az_1, az_2, az_3, az_4, az_5, az_6, az_7, az_8, az_9, az_9, az_10, az_10, az_11, az_12, az_13, az_14, az_15, az_16, az_9, az_17, az_17, az_18, az_19, az_20, az_17, az_21, az_22, az_22, az_23, az_24, az_22, az_22, az_25, az_26, az_22, az_27, az_28, az_29, az_30, az_31, az_32, az_33, az_34, az_35, az_36, az_9, az_17, az_17, az_18, az_19, az_37, az_17, az_38, az_22, az_22, az_39, az_40, az_22, az_22, az_41, az_42, az_22, az_43, az_44, az_29, az_30, az_45, az_46, az_47, az_47, az_48, az_49, az_50, az_51, az_52], [(0, 4294967295), (0, 4294967295), (0, 4294967295), (0, 4294967295), (0, 4294967295), (0, 4294967295), (2147483648, 2147483648), (2147483654, 2147483654)], 76, 45994)
def az_c1 : ai_Z := ([(7, 45), (6, 0), (6, 57), (6, 75), (0, 0), (9, 0), (9, 0)], [], 76, [az_0, az_1, az_2, az_3, az_4, az_5, az_6, az_7, az_8, az_9, az_9, az_10, az_10, az_11, az_12, az_13, az_14, az_15, az_16, az_9, az_17, az_17, az_18, az_19, az_20, az_17, az_21, az_22, az_22, az_23, az_24, az_22, az_22, az_25, az_26, az_22, az_27, az_28, az_29, az_30, az_31, az_32, az_33, az_34, az_35, az_36, az_9, az_17, az_17, az_18, az_19, az_37, az_17, az_38, az_22, az_22, az_39, az_40, az_22, az_22, az_41, az_42, az_22, az_43, az_44, az_29, az_30, az_45, az_46, az_47, az_47, az_48, az_49, az_50, az_51, az_52], [(0, 4294967295), (0, 4294967295), (0, 4294967295), (0, 4294967295), (0, 4294967295), (0, 4294967295), (2147483649, 2147483649), (2147483654, 2147483654)], 76, 45994)
def az_c3 : ai_Z := ([(7, 45), (6, 0), (6, 57), (6, 75), (0, 0), (9, 0), (9, 0)], [], 76, [az_0, az_1, az_2, az_3, az_4, az_5, az_6, az_7, az_8, az_9, az_9, az_10, az_10, az_11, az_12, az_13, az_14, az_15, az_16, az_9, az_17, az_17, az_18, az_19, az_20, az_17, az_21, az_22, az_22, az_23, az_24, az_22, az_22, az_25, az_26, az_22, az_27, az_28, az_29, az_30, az_31, az_32, az_33, az_34, az_35, az_36, az_9, az_17, az_17, az_18, az_19, az_37, az_17, az_38, az_22, az_22, az_39, az_40, az_22, az_22, az_41, az_42, az_22, az_43, az_44, az_29, az_30, az_45, az_46, az_47, az_47, az_48, az_49, az_50, az_51, az_52], [(0, 4294967295), (0, 4294967295), (0, 4294967295), (0, 4294967295), (0, 4294967295), (0, 4294967295), (2147483651, 2147483651), (2147483654, 2147483654)], 76, 45994)
def az_c4 : ai_Z := ([(7, 45), (6, 0), (6, 57), (6, 75), (0, 0), (9, 0), (9, 0)], [], 76, [az_0, az_1, az_2, az_3, az_4, az_5, az_6, az_7, az_8, az_9, az_9, az_10, az_10, az_11, az_12, az_13, az_14, az_15, az_16, az_9, az_17, az_17, az_18, az_19, az_20, az_17, az_21, az_22, az_22, az_23, az_24, az_22, az_22, az_25, az_26, az_22, az_27, az_28, az_29, az_30, az_31, az_32, az_33, az_34, az_35, az_36, az_9, az_17, az_17, az_18, az_19, az_37, az_17, az_38, az_22, az_22, az_39, az_40, az_22, az_22, az_41, az_42, az_22, az_43, az_44, az_29, az_30, az_45, az_46, az_47, az_47, az_48, az_49, az_50, az_51, az_52], [(0, 4294967295), (0, 4294967295), (0, 4294967295), (0, 4294967295), (0, 4294967295), (0, 4294967295), (2147483652, 2147483652), (2147483654, 2147483654)], 76, 45994)
def az_c6 : ai_Z := ([(7, 45), (6, 0), (6, 57), (6, 75), (0, 0), (9, 0), (9, 0)], [], 76, [az_0, az_1, az_2, az_3, az_4, az_5, az_6, az_7, az_8, az_9, az_9, az_10, az_10, az_11, az_12, az_13, az_14, az_15, az_16, az_9, az_17, az_17, az_18, az_19, az_20, az_17, az_21, az_22, az_22, az_23, az_24, az_22, az_22, az_25, az_26, az_22, az_27, az_28, az_29, az_30, az_31, az_32, az_33, az_34, az_35, az_36, az_9, az_17, az_17, az_18, az_19, az_37, az_17, az_38, az_22, az_22, az_39, az_40, az_22, az_22, az_41, az_42, az_22, az_43, az_44, az_29, az_30, az_45, az_46, az_47, az_47, az_48, az_49, az_50, az_51, az_52], [(0, 4294967295), (0, 4294967295), (0, 4294967295), (0, 4294967295), (0, 4294967295), (0, 4294967295), (2147483654, 2147483654), (2147483654, 2147483654)], 76, 45994)
def az_c7 : ai_Z := ([(7, 45), (6, 0), (6, 57), (6, 75), (0, 0), (9, 0), (9, 0)], [], 76, [az_0, az_1, az_2, az_3, az_4, az_5, az_6, az_7, az_8, az_9, az_9, az_10, az_10, az_11, az_12, az_13, az_14, az_15, az_16, az_9, az_17, az_17, az_18, az_19, az_20, az_17, az_21, az_22, az_22, az_23, az_24, az_22, az_22, az_25, az_26, az_22, az_27, az_28, az_29, az_30, az_31, az_32, az_33, az_34, az_35, az_36, az_9, az_17, az_17, az_18, az_19, az_37, az_17, az_38, az_22, az_22, az_39, az_40, az_22, az_22, az_41, az_42, az_22, az_43, az_44, az_29, az_30, az_45, az_46, az_47, az_47, az_48, az_49, az_50, az_51, az_52], [(0, 4294967295), (0, 4294967295), (0, 4294967295), (0, 4294967295), (0, 4294967295), (0, 4294967295), (2147483655, 2147483655), (2147483654, 2147483654)], 76, 45994)
def az_c8 : ai_Z := ([(7, 45), (6, 0), (6, 57), (6, 75), (0, 0), (9, 0), (9, 0)], [], 76, [az_0, az_1, az_2, az_3, az_4, az_5, az_6, az_7, az_8, az_9, az_9, az_10, az_10, az_11, az_12, az_13, az_14, az_15, az_16, az_9, az_17, az_17, az_18, az_19, az_20, az_17, az_21, az_22, az_22, az_23, az_24, az_22, az_22, az_25, az_26, az_22, az_27, az_28, az_29, az_30, az_31, az_32, az_33, az_34, az_35, az_36, az_9, az_17, az_17, az_18, az_19, az_37, az_17, az_38, az_22, az_22, az_39, az_40, az_22, az_22, az_41, az_42, az_22, az_43, az_44, az_29, az_30, az_45, az_46, az_47, az_47, az_48, az_49, az_50, az_51, az_52], [(0, 4294967295), (0, 4294967295), (0, 4294967295), (0, 4294967295), (0, 4294967295), (0, 4294967295), (2147483656, 2147483656), (2147483654, 2147483654)], 76, 45994)
def az_c9 : ai_Z := ([(7, 45), (6, 0), (6, 57), (6, 75), (0, 0), (9, 0), (9, 0)], [], 76, [az_0, az_1, az_2, az_3, az_4, az_5, az_6, az_7, az_8, az_9, az_9, az_10, az_10, az_11, az_12, az_13, az_14, az_15, az_16, az_9, az_17, az_17, az_18, az_19, az_20, az_17, az_21, az_22, az_22, az_23, az_24, az_22, az_22, az_25, az_26, az_22, az_27, az_28, az_29, az_30, az_31, az_32, az_33, az_34, az_35, az_36, az_9, az_17, az_17, az_18, az_19, az_37, az_17, az_38, az_22, az_22, az_39, az_40, az_22, az_22, az_41, az_42, az_22, az_43, az_44, az_29, az_30, az_45, az_46, az_47, az_47, az_48, az_49, az_50, az_51, az_52], [(0, 4294967295), (0, 4294967295), (0, 4294967295), (0, 4294967295), (0, 4294967295), (0, 4294967295), (2147483657, 2147483657), (2147483654, 2147483654)], 76, 45994)
def az_c10 : ai_Z := ([(7, 45), (6, 0), (6, 57), (6, 75), (0, 0), (9, 0), (9, 0)], [], 76, [az_0, az_1, az_2, az_3, az_4, az_5, az_6, az_7, az_8, az_9, az_9, az_10, az_10, az_11, az_12, az_13, az_14, az_15, az_16, az_9, az_17, az_17, az_18, az_19, az_20, az_17, az_21, az_22, az_22, az_23, az_24, az_22, az_22, az_25, az_26, az_22, az_27, az_28, az_29, az_30, az_31, az_32, az_33, az_34, az_35, az_36, az_9, az_17, az_17, az_18, az_19, az_37, az_17, az_38, az_22, az_22, az_39, az_40, az_22, az_22, az_41, az_42, az_22, az_43, az_44, az_29, az_30, az_45, az_46, az_47, az_47, az_48, az_49, az_50, az_51, az_52], [(0, 4294967295), (0, 4294967295), (0, 4294967295), (0, 4294967295), (0, 4294967295), (0, 4294967295), (2147483658, 2147483658), (2147483654, 2147483654)], 76, 45994)
def az_c11 : ai_Z := ([(7, 45), (6, 0), (6, 57), (6, 75), (0, 0), (9, 0), (9, 0)], [], 76, [az_0, az_1, az_2, az_3, az_4, az_5, az_6, az_7, az_8, az_9, az_9, az_10, az_10, az_11, az_12, az_13, az_14, az_15, az_16, az_9, az_17, az_17, az_18, az_19, az_20, az_17, az_21, az_22, az_22, az_23, az_24, az_22, az_22, az_25, az_26, az_22, az_27, az_28, az_29, az_30, az_31, az_32, az_33, az_34, az_35, az_36, az_9, az_17, az_17, az_18, az_19, az_37, az_17, az_38, az_22, az_22, az_39, az_40, az_22, az_22, az_41, az_42, az_22, az_43, az_44, az_29, az_30, az_45, az_46, az_47, az_47, az_48, az_49, az_50, az_51, az_52], [(0, 4294967295), (0, 4294967295), (0, 4294967295), (0, 4294967295), (0, 4294967295), (0, 4294967295), (2147483659, 2147483659), (2147483654, 2147483654)], 76, 45994)
def az_c12 : ai_Z := ([(7, 45), (6, 0), (6, 57), (6, 75), (0, 0), (9, 0), (9, 0)], [], 76, [az_0, az_1, az_2, az_3, az_4, az_5, az_6, az_7, az_8, az_9, az_9, az_10, az_10, az_11, az_12, az_13, az_14, az_15, az_16, az_9, az_17, az_17, az_18, az_19, az_20, az_17, az_21, az_22, az_22, az_23, az_24, az_22, az_22, az_25, az_26, az_22, az_27, az_28, az_29, az_30, az_31, az_32, az_33, az_34, az_35, az_36, az_9, az_17, az_17, az_18, az_19, az_37, az_17, az_38, az_22, az_22, az_39, az_40, az_22, az_22, az_41, az_42, az_22, az_43, az_44, az_29, az_30, az_45, az_46, az_47, az_47, az_48, az_49, az_50, az_51, az_52], [(0, 4294967295), (0, 4294967295), (0, 4294967295), (0, 4294967295), (0, 4294967295), (0, 4294967295), (2147483660, 2147483660), (2147483654, 2147483654)], 76, 45994)
def az_c15 : ai_Z := ([(7, 45), (6, 0), (6, 57), (6, 75), (0, 0), (9, 0), (9, 0)], [], 76, [az_0, az_1, az_2, az_3, az_4, az_5, az_6, az_7, az_8, az_9, az_9, az_10, az_10, az_11, az_12, az_13, az_14, az_15, az_16, az_9, az_17, az_17, az_18, az_19, az_20, az_17, az_21, az_22, az_22, az_23, az_24, az_22, az_22, az_25, az_26, az_22, az_27, az_28, az_29, az_30, az_31, az_32, az_33, az_34, az_35, az_36, az_9, az_17, az_17, az_18, az_19, az_37, az_17, az_38, az_22, az_22, az_39, az_40, az_22, az_22, az_41, az_42, az_22, az_43, az_44, az_29, az_30, az_45, az_46, az_47, az_47, az_48, az_49, az_50, az_51, az_52], [(0, 4294967295), (0, 4294967295), (0, 4294967295), (0, 4294967295), (0, 4294967295), (0, 4294967295), (2147483663, 2147483663), (2147483654, 2147483654)], 76, 45994)
def az_c18 : ai_Z := ([(7, 45), (6, 0), (6, 57), (6, 75), (0, 0), (9, 0), (9, 0)], [], 76, [az_0, az_1, az_2, az_3, az_4, az_5, az_6, az_7, az_8, az_9, az_9, az_10, az_10, az_11, az_12, az_13, az_14, az_15, az_16, az_9, az_17, az_17, az_18, az_19, az_20, az_17, az_21, az_22, az_22, az_23, az_24, az_22, az_22, az_25, az_26, az_22, az_27, az_28, az_29, az_30, az_31, az_32, az_33, az_34, az_35, az_36, az_9, az_17, az_17, az_18, az_19, az_37, az_17, az_38, az_22, az_22, az_39, az_40, az_22, az_22, az_41, az_42, az_22, az_43, az_44, az_29, az_30, az_45, az_46, az_47, az_47, az_48, az_49, az_50, az_51, az_52], [(0, 4294967295), (0, 4294967295), (0, 4294967295), (0, 4294967295), (0, 4294967295), (0, 4294967295), (2147483666, 2147483666), (2147483654, 2147483654)], 76, 45994)
def az_c20 : ai_Z := ([(7, 45), (6, 0), (6, 57), (6, 75), (0, 0), (9, 0), (9, 0)], [], 76, [az_0, az_1, az_2, az_3, az_4, az_5, az_6, az_7, az_8, az_9, az_9, az_10, az_10, az_11, az_12, az_13, az_14, az_15, az_16, az_9, az_17, az_17, az_18, az_19, az_20, az_17, az_21, az_22, az_22, az_23, az_24, az_22, az_22, az_25, az_26, az_22, az_27, az_28, az_29, az_30, az_31, az_32, az_33, az_34, az_35, az_36, az_9, az_17, az_17, az_18, az_19, az_37, az_17, az_38, az_22, az_22, az_39, az_40, az_22, az_22, az_41, az_42, az_22, az_43, az_44, az_29, az_30, az_45, az_46, az_47, az_47, az_48, az_49, az_50, az_51, az_52], [(0, 4294967295), (0, 4294967295), (0, 4294967295), (0, 4294967295), (0, 4294967295), (0, 4294967295), (2147483668, 2147483668), (2147483654, 2147483654)], 76, 45994)
def az_c21 : ai_Z := ([(7, 45), (6, 0), (6, 57), (6, 75), (0, 0), (9, 0), (9, 0)], [], 76, [az_0, az_1, az_2, az_3, az_4, az_5, az_6, az_7, az_8, az_9, az_9, az_10, az_10, az_11, az_12, az_13, az_14, az_15, az_16, az_9, az_17, az_17, az_18, az_19, az_20, az_17, az_21, az_22, az_22, az_23, az_24, az_22, az_22, az_25, az_26, az_22, az_27, az_28, az_29, az_30, az_31, az_32, az_33, az_34, az_35, az_36, az_9, az_17, az_17, az_18, az_19, az_37, az_17, az_38, az_22, az_22, az_39, az_40, az_22, az_22, az_41, az_42, az_22, az_43, az_44, az_29, az_30, az_45, az_46, az_47, az_47, az_48, az_49, az_50, az_51, az_52], [(0, 4294967295), (0, 4294967295), (0, 4294967295), (0, 4294967295), (0, 4294967295), (0, 4294967295), (2147483669, 2147483669), (2147483654, 2147483654)], 76, 45994)
def az_c22 : ai_Z := ([(7, 45), (6, 0), (6, 57), (6, 75), (0, 0), (9, 0), (9, 0)], [], 76, [az_0, az_1, az_2, az_3, az_4, az_5, az_6, az_7, az_8, az_9, az_9, az_10, az_10, az_11, az_12, az_13, az_14, az_15, az_16, az_9, az_17, az_17, az_18, az_19, az_20, az_17, az_21, az_22, az_22, az_23, az_24, az_22, az_22, az_25, az_26, az_22, az_27, az_28, az_29, az_30, az_31, az_32, az_33, az_34, az_35, az_36, az_9, az_17, az_17, az_18, az_19, az_37, az_17, az_38, az_22, az_22, az_39, az_40, az_22, az_22, az_41, az_42, az_22, az_43, az_44, az_29, az_30, az_45, az_46, az_47, az_47, az_48, az_49, az_50, az_51, az_52], [(0, 4294967295), (0, 4294967295), (0, 4294967295), (0, 4294967295), (0, 4294967295), (0, 4294967295), (2147483670, 2147483670), (2147483654, 2147483654)], 76, 45994)
def az_c23 : ai_Z := ([(7, 45), (6, 0), (6, 57), (6, 75), (0, 0), (9, 0), (9, 0)], [], 76, [az_0, az_1, az_2, az_3, az_4, az_5, az_6, az_7, az_8, az_9, az_9, az_10, az_10, az_11, az_12, az_13, az_14, az_15, az_16, az_9, az_17, az_17, az_18, az_19, az_20, az_17, az_21, az_22, az_22, az_23, az_24, az_22, az_22, az_25, az_26, az_22, az_27, az_28, az_29, az_30, az_31, az_32, az_33, az_34, az_35, az_36, az_9, az_17, az_17, az_18, az_19, az_37, az_17, az_38, az_22, az_22, az_39, az_40, az_22, az_22, az_41, az_42, az_22, az_43, az_44, az_29, az_30, az_45, az_46, az_47, az_47, az_48, az_49, az_50, az_51, az_52], [(0, 4294967295), (0, 4294967295), (0, 4294967295), (0, 4294967295), (0, 4294967295), (0, 4294967295), (2147483671, 2147483671), (2147483654, 2147483654)], 76, 45994)
def az_c24 : ai_Z := ([(7, 45), (6, 0), (6, 57), (6, 75), (0, 0), (9, 0), (9, 0)], [], 76, [az_0, az_1, az_2, az_3, az_4, az_5, az_6, az_7, az_8, az_9, az_9, az_10, az_10, az_11, az_12, az_13, az_14, az_15, az_16, az_9, az_17, az_17, az_18, az_19, az_20, az_17, az_21, az_22, az_22, az_23, az_24, az_22, az_22, az_25, az_26, az_22, az_27, az_28, az_29, az_30, az_31, az_32, az_33, az_34, az_35, az_36, az_9, az_17, az_17, az_18, az_19, az_37, az_17, az_38, az_22, az_22, az_39, az_40, az_22, az_22, az_41, az_42, az_22, az_43, az_44, az_29, az_30, az_45, az_46, az_47, az_47, az_48, az_49, az_50, az_51, az_52], [(0, 4294967295), (0, 4294967295), (0, 4294967295), (0, 4294967295), (0, 4294967295), (0, 4294967295), (2147483672, 2147483672), (2147483654, 2147483654)], 76, 45994)
def az_c26 : ai_Z := ([(7, 45), (6, 0), (6, 57), (6, 75), (0, 0), (9, 0), (9, 0)], [], 76, [az_0, az_1, az_2, az_3, az_4, az_5, az_6, az_7, az_8, az_9, az_9, az_10, az_10, az_11, az_12, az_13, az_14, az_15, az_16, az_9, az_17, az_17, az_18, az_19, az_20, az_17, az_21, az_22, az_22, az_23, az_24, az_22, az_22, az_25, az_26, az_22, az_27, az_28, az_29, az_30, az_31, az_32, az_33, az_34, az_35, az_36, az_9, az_17, az_17, az_18, az_19, az_37, az_17, az_38, az_22, az_22, az_39, az_40, az_22, az_22, az_41, az_42, az_22, az_43, az_44, az_29, az_30, az_45, az_46, az_47, az_47, az_48, az_49, az_50, az_51, az_52], [(0, 4294967295), (0, 4294967295), (0, 4294967295), (0, 4294967295), (0, 4294967295), (0, 4294967295), (2147483674, 2147483674), (2147483654, 2147483654)], 76, 45994)
def az_c28 : ai_Z := ([(7, 45), (6, 0), (6, 57), (6, 75), (0, 0), (9, 0), (9, 0)], [], 76, [az_0, az_1, az_2, az_3, az_4, az_5, az_6, az_7, az_8, az_9, az_9, az_10, az_10, az_11, az_12, az_13, az_14, az_15, az_16, az_9, az_17, az_17, az_18, az_19, az_20, az_17, az_21, az_22, az_22, az_23, az_24, az_22, az_22, az_25, az_26, az_22, az_27, az_28, az_29, az_30, az_31, az_32, az_33, az_34, az_35, az_36, az_9, az_17, az_17, az_18, az_19, az_37, az_17, az_38, az_22, az_22, az_39, az_40, az_22, az_22, az_41, az_42, az_22, az_43, az_44, az_29, az_30, az_45, az_46, az_47, az_47, az_48, az_49, az_50, az_51, az_52], [(0, 4294967295), (0, 4294967295), (0, 4294967295), (0, 4294967295), (0, 4294967295), (0, 4294967295), (2147483676, 2147483676), (2147483654, 2147483654)], 76, 45994)
def az_c29 : ai_Z := ([(7, 45), (6, 0), (6, 57), (6, 75), (0, 0), (9, 0), (9, 0)], [], 76, [az_0, az_1, az_2, az_3, az_4, az_5, az_6, az_7, az_8, az_9, az_9, az_10, az_10, az_11, az_12, az_13, az_14, az_15, az_16, az_9, az_17, az_17, az_18, az_19, az_20, az_17, az_21, az_22, az_22, az_23, az_24, az_22, az_22, az_25, az_26, az_22, az_27, az_28, az_29, az_30, az_31, az_32, az_33, az_34, az_35, az_36, az_9, az_17, az_17, az_18, az_19, az_37, az_17, az_38, az_22, az_22, az_39, az_40, az_22, az_22, az_41, az_42, az_22, az_43, az_44, az_29, az_30, az_45, az_46, az_47, az_47, az_48, az_49, az_50, az_51, az_52], [(0, 4294967295), (0, 4294967295), (0, 4294967295), (0, 4294967295), (0, 4294967295), (0, 4294967295), (2147483677, 2147483677), (2147483654, 2147483654)], 76, 45994)
def az_c30 : ai_Z := ([(7, 45), (6, 0), (6, 57), (6, 75), (0, 0), (9, 0), (9, 0)], [], 76, [az_0, az_1, az_2, az_3, az_4, az_5, az_6, az_7, az_8, az_9, az_9, az_10, az_10, az_11, az_12, az_13, az_14, az_15, az_16, az_9, az_17, az_17, az_18, az_19, az_20, az_17, az_21, az_22, az_22, az_23, az_24, az_22, az_22, az_25, az_26, az_22, az_27, az_28, az_29, az_30, az_31, az_32, az_33, az_34, az_35, az_36, az_9, az_17, az_17, az_18, az_19, az_37, az_17, az_38, az_22, az_22, az_39, az_40, az_22, az_22, az_41, az_42, az_22, az_43, az_44, az_29, az_30, az_45, az_46, az_47, az_47, az_48, az_49, az_50, az_51, az_52], [(0, 4294967295), (0, 4294967295), (0, 4294967295), (0, 4294967295), (0, 4294967295), (0, 4294967295), (2147483678, 2147483678), (2147483654, 2147483654)], 76, 45994)
def az_c32 : ai_Z := ([(7, 45), (6, 0), (6, 57), (6, 75), (0, 0), (9, 0), (9, 0)], [], 76, [az_0, az_1, az_2, az_3, az_4, az_5, az_6, az_7, az_8, az_9, az_9, az_10, az_10, az_11, az_12, az_13, az_14, az_15, az_16, az_9, az_17, az_17, az_18, az_19, az_20, az_17, az_21, az_22, az_22, az_23, az_24, az_22, az_22, az_25, az_26, az_22, az_27, az_28, az_29, az_30, az_31, az_32, az_33, az_34, az_35, az_36, az_9, az_17, az_17, az_18, az_19, az_37, az_17, az_38, az_22, az_22, az_39, az_40, az_22, az_22, az_41, az_42, az_22, az_43, az_44, az_29, az_30, az_45, az_46, az_47, az_47, az_48, az_49, az_50, az_51, az_52], [(0, 4294967295), (0, 4294967295), (0, 4294967295), (0, 4294967295), (0, 4294967295), (0, 4294967295), (2147483680, 2147483680), (2147483654, 2147483654)], 76, 45994)
def az_c33 : ai_Z := ([(7, 45), (6, 0), (6, 57), (6, 75), (0, 0), (9, 0), (9, 0)], [], 76, [az_0, az_1, az_2, az_3, az_4, az_5, az_6, az_7, az_8, az_9, az_9, az_10, az_10, az_11, az_12, az_13, az_14, az_15, az_16, az_9, az_17, az_17, az_18, az_19, az_20, az_17, az_21, az_22, az_22, az_23, az_24, az_22, az_22, az_25, az_26, az_22, az_27, az_28, az_29, az_30, az_31, az_32, az_33, az_34, az_35, az_36, az_9, az_17, az_17, az_18, az_19, az_37, az_17, az_38, az_22, az_22, az_39, az_40, az_22, az_22, az_41, az_42, az_22, az_43, az_44, az_29, az_30, az_45, az_46, az_47, az_47, az_48, az_49, az_50, az_51, az_52], [(0, 4294967295), (0, 4294967295), (0, 4294967295), (0, 4294967295), (0, 4294967295), (0, 4294967295), (2147483681, 2147483681), (2147483654, 2147483654)], 76, 45994)
def az_cd : ai_Z := ([(7, 45), (6, 0), (6, 57), (6, 75), (0, 0), (9, 0), (9, 0)], [], 76, [az_0, az_1, az_2, az_3, az_4, az_5, az_6, az_7, az_8, az_9, az_9, az_10, az_10, az_11, az_12, az_13, az_14, az_15, az_16, az_9, az_17, az_17, az_18, az_19, az_20, az_17, az_21, az_22, az_22, az_23, az_24, az_22, az_22, az_25, az_26, az_22, az_27, az_28, az_29, az_30, az_31, az_32, az_33, az_34, az_35, az_36, az_9, az_17, az_17, az_18, az_19, az_37, az_17, az_38, az_22, az_22, az_39, az_40, az_22, az_22, az_41, az_42, az_22, az_43, az_44, az_29, az_30, az_45, az_46, az_47, az_47, az_48, az_49, az_50, az_51, az_52], [(0, 4294967295), (0, 4294967295), (0, 4294967295), (0, 4294967295), (0, 4294967295), (0, 4294967295), (2147483682, 2147483711), (2147483654, 2147483654)], 76, 45994)
theorem aG_c0 : ai_go (ai_run 1000000) [] 1000 0 8 ai_M179 192 az_c0 az_o = true := by decide +kernel
theorem aF_c0 : ak_F 0 8 179 192 az_c0 az_o := ak_cut (ak_all _) ak_t179 ak_ts0 aG_c0
theorem aG_c1 : ai_go (ai_run 1000000) [] 1000 0 8 ai_M179 265 az_c1 az_o = true := by decide +kernel
theorem aF_c1 : ak_F 0 8 179 265 az_c1 az_o := ak_cut (ak_all _) ak_t179 ak_ts0 aG_c1
theorem aG_c3 : ai_go (ai_run 1000000) [] 1000 0 8 ai_M179 303 az_c3 az_o = true := by decide +kernel
theorem aF_c3 : ak_F 0 8 179 303 az_c3 az_o := ak_cut (ak_all _) ak_t179 ak_ts0 aG_c3
theorem aG_c4 : ai_go (ai_run 1000000) [] 1000 0 8 ai_M179 316 az_c4 az_o = true := by decide +kernel
theorem aF_c4 : ak_F 0 8 179 316 az_c4 az_o := ak_cut (ak_all _) ak_t179 ak_ts0 aG_c4
theorem aG_c6 : ai_go (ai_run 1000000) [] 1000 0 8 ai_M179 354 az_c6 az_o = true := by decide +kernel
theorem aF_c6 : ak_F 0 8 179 354 az_c6 az_o := ak_cut (ak_all _) ak_t179 ak_ts0 aG_c6
theorem aG_c7 : ai_go (ai_run 1000000) [] 1000 0 8 ai_M179 379 az_c7 az_o = true := by decide +kernel
theorem aF_c7 : ak_F 0 8 179 379 az_c7 az_o := ak_cut (ak_all _) ak_t179 ak_ts0 aG_c7
theorem aG_c8 : ai_go (ai_run 1000000) [] 1000 0 8 ai_M179 404 az_c8 az_o = true := by decide +kernel
theorem aF_c8 : ak_F 0 8 179 404 az_c8 az_o := ak_cut (ak_all _) ak_t179 ak_ts0 aG_c8
theorem aG_c9 : ai_go (ai_run 1000000) [] 1000 0 8 ai_M179 441 az_c9 az_o = true := by decide +kernel
theorem aF_c9 : ak_F 0 8 179 441 az_c9 az_o := ak_cut (ak_all _) ak_t179 ak_ts0 aG_c9
theorem aG_c10 : ai_go (ai_run 1000000) [] 1000 0 8 ai_M179 466 az_c10 az_o = true := by decide +kernel
theorem aF_c10 : ak_F 0 8 179 466 az_c10 az_o := ak_cut (ak_all _) ak_t179 ak_ts0 aG_c10
theorem aG_c11 : ai_go (ai_run 1000000) [] 1000 0 8 ai_M179 479 az_c11 az_o = true := by decide +kernel
theorem aF_c11 : ak_F 0 8 179 479 az_c11 az_o := ak_cut (ak_all _) ak_t179 ak_ts0 aG_c11
theorem aG_c12 : ai_go (ai_run 1000000) [] 1000 0 8 ai_M179 492 az_c12 az_o = true := by decide +kernel
theorem aF_c12 : ak_F 0 8 179 492 az_c12 az_o := ak_cut (ak_all _) ak_t179 ak_ts0 aG_c12
theorem aG_c15 : ai_go (ai_run 1000000) [] 1000 0 8 ai_M179 598 az_c15 az_o = true := by decide +kernel
theorem aF_c15 : ak_F 0 8 179 598 az_c15 az_o := ak_cut (ak_all _) ak_t179 ak_ts0 aG_c15
theorem aG_c18 : ai_go (ai_run 1000000) [] 1000 0 8 ai_M179 721 az_c18 az_o = true := by decide +kernel
theorem aF_c18 : ak_F 0 8 179 721 az_c18 az_o := ak_cut (ak_all _) ak_t179 ak_ts0 aG_c18
theorem aG_c20 : ai_go (ai_run 1000000) [] 1000 0 8 ai_M179 802 az_c20 az_o = true := by decide +kernel
theorem aF_c20 : ak_F 0 8 179 802 az_c20 az_o := ak_cut (ak_all _) ak_t179 ak_ts0 aG_c20
theorem aG_c21 : ai_go (ai_run 1000000) [] 1000 0 8 ai_M179 815 az_c21 az_o = true := by decide +kernel
theorem aF_c21 : ak_F 0 8 179 815 az_c21 az_o := ak_cut (ak_all _) ak_t179 ak_ts0 aG_c21
theorem aG_c22 : ai_go (ai_run 1000000) [] 1000 0 8 ai_M179 840 az_c22 az_o = true := by decide +kernel
theorem aF_c22 : ak_F 0 8 179 840 az_c22 az_o := ak_cut (ak_all _) ak_t179 ak_ts0 aG_c22
theorem aG_c23 : ai_go (ai_run 1000000) [] 1000 0 8 ai_M179 853 az_c23 az_o = true := by decide +kernel
theorem aF_c23 : ak_F 0 8 179 853 az_c23 az_o := ak_cut (ak_all _) ak_t179 ak_ts0 aG_c23
theorem aG_c24 : ai_go (ai_run 1000000) [] 1000 0 8 ai_M179 866 az_c24 az_o = true := by decide +kernel
theorem aF_c24 : ak_F 0 8 179 866 az_c24 az_o := ak_cut (ak_all _) ak_t179 ak_ts0 aG_c24
theorem aG_c26 : ai_go (ai_run 1000000) [] 1000 0 8 ai_M179 928 az_c26 az_o = true := by decide +kernel
theorem aF_c26 : ak_F 0 8 179 928 az_c26 az_o := ak_cut (ak_all _) ak_t179 ak_ts0 aG_c26
theorem aG_c28 : ai_go (ai_run 1000000) [] 1000 0 8 ai_M179 990 az_c28 az_o = true := by decide +kernel
theorem aF_c28 : ak_F 0 8 179 990 az_c28 az_o := ak_cut (ak_all _) ak_t179 ak_ts0 aG_c28
theorem aG_c29 : ai_go (ai_run 1000000) [] 1000 0 8 ai_M179 1015 az_c29 az_o = true := by decide +kernel
theorem aF_c29 : ak_F 0 8 179 1015 az_c29 az_o := ak_cut (ak_all _) ak_t179 ak_ts0 aG_c29
theorem aG_c30 : ai_go (ai_run 1000000) [] 1000 0 8 ai_M179 1028 az_c30 az_o = true := by decide +kernel
theorem aF_c30 : ak_F 0 8 179 1028 az_c30 az_o := ak_cut (ak_all _) ak_t179 ak_ts0 aG_c30
theorem aG_c32 : ai_go (ai_run 1000000) [] 1000 0 8 ai_M179 1078 az_c32 az_o = true := by decide +kernel
theorem aF_c32 : ak_F 0 8 179 1078 az_c32 az_o := ak_cut (ak_all _) ak_t179 ak_ts0 aG_c32
theorem aG_c33 : ai_go (ai_run 1000000) [] 1000 0 8 ai_M179 1103 az_c33 az_o = true := by decide +kernel
theorem aF_c33 : ak_F 0 8 179 1103 az_c33 az_o := ak_cut (ak_all _) ak_t179 ak_ts0 aG_c33
theorem aG_cd : ai_go (ai_run 1000000) [] 1000 0 8 ai_M179 1128 az_cd az_o = true := by decide +kernel
theorem aF_cd : ak_F 0 8 179 1128 az_cd az_o := ak_cut (ak_all _) ak_t179 ak_ts0 aG_cd
end
section
def az_c2 : ai_Z := ([(7, 45), (6, 0), (6, 57), (6, 75), (0, 0), (9, 0), (9, 0)], [], 76, [az_0, az_1, az_2, az_3, az_4, az_5, az_6, az_7, az_8, az_9, az_9, az_10, az_10, az_11, az_12, az_13, az_14, az_15, az_16, az_9, az_17, az_17, az_18, az_19, az_20, az_17, az_21, az_22, az_22, az_23, az_24, az_22, az_22, az_25, az_26, az_22, az_27, az_28, az_29, az_30, az_31, az_32, az_33, az_34, az_35, az_36, az_9, az_17, az_17, az_18, az_19, az_37, az_17, az_38, az_22, az_22, az_39, az_40, az_22, az_22, az_41, az_42, az_22, az_43, az_44, az_29, az_30, az_45, az_46, az_47, az_47, az_48, az_49, az_50, az_51, az_52], [(0, 4294967295), (0, 4294967295), (0, 4294967295), (0, 4294967295), (0, 4294967295), (0, 4294967295), (2147483650, 2147483650), (2147483654, 2147483654)], 76, 45994)
def az_c13 : ai_Z := ([(7, 45), (6, 0), (6, 57), (6, 75), (0, 0), (9, 0), (9, 0)], [], 76, [az_0, az_1, az_2, az_3, az_4, az_5, az_6, az_7, az_8, az_9, az_9, az_10, az_10, az_11, az_12, az_13, az_14, az_15, az_16, az_9, az_17, az_17, az_18, az_19, az_20, az_17, az_21, az_22, az_22, az_23, az_24, az_22, az_22, az_25, az_26, az_22, az_27, az_28, az_29, az_30, az_31, az_32, az_33, az_34, az_35, az_36, az_9, az_17, az_17, az_18, az_19, az_37, az_17, az_38, az_22, az_22, az_39, az_40, az_22, az_22, az_41, az_42, az_22, az_43, az_44, az_29, az_30, az_45, az_46, az_47, az_47, az_48, az_49, az_50, az_51, az_52], [(0, 4294967295), (0, 4294967295), (0, 4294967295), (0, 4294967295), (0, 4294967295), (0, 4294967295), (2147483661, 2147483661), (2147483654, 2147483654)], 76, 45994)
theorem aG_c2 : ai_go (ai_run 1000000) [] 1000 0 8 ai_M179 290 az_c2 az_o = true := by decide +kernel
theorem aF_c2 : ak_F 0 8 179 290 az_c2 az_o := ak_cut (ak_all _) ak_t179 ak_ts0 aG_c2
theorem aG_c13 : ai_go (ai_run 1000000) [] 1000 0 8 ai_M179 505 az_c13 az_o = true := by decide +kernel
theorem aF_c13 : ak_F 0 8 179 505 az_c13 az_o := ak_cut (ak_all _) ak_t179 ak_ts0 aG_c13
end
section
def az_c16 : ai_Z := ([(7, 45), (6, 0), (6, 57), (6, 75), (0, 0), (9, 0), (9, 0)], [], 76, [az_0, az_1, az_2, az_3, az_4, az_5, az_6, az_7, az_8, az_9, az_9, az_10, az_10, az_11, az_12, az_13, az_14, az_15, az_16, az_9, az_17, az_17, az_18, az_19, az_20, az_17, az_21, az_22, az_22, az_23, az_24, az_22, az_22, az_25, az_26, az_22, az_27, az_28, az_29, az_30, az_31, az_32, az_33, az_34, az_35, az_36, az_9, az_17, az_17, az_18, az_19, az_37, az_17, az_38, az_22, az_22, az_39, az_40, az_22, az_22, az_41, az_42, az_22, az_43, az_44, az_29, az_30, az_45, az_46, az_47, az_47, az_48, az_49, az_50, az_51, az_52], [(0, 4294967295), (0, 4294967295), (0, 4294967295), (0, 4294967295), (0, 4294967295), (0, 4294967295), (2147483664, 2147483664), (2147483654, 2147483654)], 76, 45994)
def az_c17 : ai_Z := ([(7, 45), (6, 0), (6, 57), (6, 75), (0, 0), (9, 0), (9, 0)], [], 76, [az_0, az_1, az_2, az_3, az_4, az_5, az_6, az_7, az_8, az_9, az_9, az_10, az_10, az_11, az_12, az_13, az_14, az_15, az_16, az_9, az_17, az_17, az_18, az_19, az_20, az_17, az_21, az_22, az_22, az_23, az_24, az_22, az_22, az_25, az_26, az_22, az_27, az_28, az_29, az_30, az_31, az_32, az_33, az_34, az_35, az_36, az_9, az_17, az_17, az_18, az_19, az_37, az_17, az_38, az_22, az_22, az_39, az_40, az_22, az_22, az_41, az_42, az_22, az_43, az_44, az_29, az_30, az_45, az_46, az_47, az_47, az_48, az_49, az_50, az_51, az_52], [(0, 4294967295), (0, 4294967295), (0, 4294967295), (0, 4294967295), (0, 4294967295), (0, 4294967295), (2147483665, 2147483665), (2147483654, 2147483654)], 76, 45994)
theorem aG_c16 : ai_go (ai_run 1000000) [] 1000 0 8 ai_M179 647 az_c16 az_o = true := by decide +kernel
theorem aF_c16 : ak_F 0 8 179 647 az_c16 az_o := ak_cut (ak_all _) ak_t179 ak_ts0 aG_c16
theorem aG_c17 : ai_go (ai_run 1000000) [] 1000 0 8 ai_M179 684 az_c17 az_o = true := by decide +kernel
theorem aF_c17 : ak_F 0 8 179 684 az_c17 az_o := ak_cut (ak_all _) ak_t179 ak_ts0 aG_c17
end
section
def az_c31_0 : ai_Z := ([(7, 45), (9, 0), (6, 57), (6, 75), (0, 0), (9, 0), (9, 0)], [(0, 0)], 76, [az_0, az_1, az_2, az_3, az_4, az_5, az_6, az_7, az_8, az_9, az_9, az_10, az_10, az_11, az_12, az_13, az_14, az_15, az_16, az_x, az_x, az_x, az_x, az_x, az_x, az_x, az_x, az_x, az_x, az_x, az_x, az_x, az_x, az_x, az_x, az_x, az_x, az_x, az_x, az_x, az_x, az_x, az_x, az_x, az_x, az_x, az_x, az_x, az_x, az_x, az_x, az_x, az_x, az_x, az_x, az_x, az_x, az_x, az_x, az_x, az_x, az_x, az_x, az_x, az_x, az_x, az_x, az_x, az_x, az_x, az_x, az_x, az_x, az_x, az_x, az_x], [(0, 4294967295), (0, 2147483647), (0, 4294967295), (0, 4294967295), (0, 4294967295), (0, 4294967295), (2147483679, 2147483679), (2147483654, 2147483654)], 99, 47829)
def az_c31_1 : ai_Z := ([(7, 45), (9, 0), (6, 57), (6, 75), (0, 0), (9, 0), (9, 0)], [(0, 0)], 76, [az_0, az_1, az_2, az_3, az_4, az_5, az_6, az_7, az_8, az_9, az_9, az_10, az_10, az_11, az_12, az_13, az_14, az_15, az_16, az_x, az_x, az_x, az_x, az_x, az_x, az_x, az_x, az_x, az_x, az_x, az_x, az_x, az_x, az_x, az_x, az_x, az_x, az_x, az_x, az_x, az_x, az_x, az_x, az_x, az_x, az_x, az_x, az_x, az_x, az_x, az_x, az_x, az_x, az_x, az_x, az_x, az_x, az_x, az_x, az_x, az_x, az_x, az_x, az_x, az_x, az_x, az_x, az_x, az_x, az_x, az_x, az_x, az_x, az_x, az_x, az_x], [(0, 4294967295), (2147483650, 4294967295), (0, 4294967295), (0, 4294967295), (0, 4294967295), (0, 4294967295), (2147483679, 2147483679), (2147483654, 2147483654)], 99, 47829)
def az_c31_2 : ai_Z := ([(7, 45), (9, 0), (6, 57), (6, 75), (0, 0), (9, 0), (9, 0)], [(0, 1)], 99, [az_x, az_x, az_x, az_x, az_x, az_x, az_x, az_x, az_x, az_x, az_x, az_x, az_x, az_x, az_x, az_x, az_x, az_x, az_x, az_x, az_x, az_x, az_x, az_0, az_1, az_2, az_3, az_4, az_5, az_6, az_7, az_8, az_9, az_9, az_10, az_10, az_11, az_12, az_13, az_14, az_15, az_16, az_x, az_x, az_x, az_x, az_x, az_x, az_x, az_x, az_x, az_x, az_x, az_x, az_x, az_x, az_x, az_x, az_x, az_x, az_x, az_x, az_x, az_x, az_x, az_x, az_x, az_x, az_x, az_x, az_x, az_x, az_x, az_x, az_x, az_x, az_x, az_x, az_x, az_x, az_x, az_x, az_x, az_x, az_x, az_x, az_x, az_x, az_x, az_x, az_x, az_x, az_x, az_x, az_x, az_x, az_x, az_x, az_x], [(0, 4294967295), (2147483649, 2147483649), (0, 4294967295), (0, 4294967295), (0, 4294967295), (0, 4294967295), (2147483679, 2147483679), (2147483654, 2147483654)], 99, 47829)
def az_c31_3 : ai_Z := ([(7, 45), (9, 0), (6, 57), (6, 75), (0, 0), (9, 0), (9, 0)], [(0, 1)], 99, [az_x, az_x, az_x, az_x, az_x, az_x, az_x, az_x, az_x, az_x, az_x, az_x, az_x, az_x, az_x, az_x, az_x, az_x, az_x, az_x, az_x, az_x, az_x, az_0, az_1, az_2, az_3, az_4, az_5, az_6, az_7, az_8, az_9, az_9, az_10, az_10, az_11, az_12, az_13, az_14, az_15, az_16, az_x, az_x, az_x, az_x, az_x, az_x, az_x, az_x, az_x, az_x, az_x, az_x, az_x, az_x, az_x, az_x, az_x, az_x, az_x, az_x, az_x, az_x, az_x, az_x, az_x, az_x, az_x, az_x, az_x, az_x, az_x, az_x, az_x, az_x, az_x, az_x, az_x, az_x, az_x, az_x, az_x, az_x, az_x, az_x, az_x, az_x, az_x, az_x, az_x, az_x, az_x, az_x, az_x, az_x, az_x, az_x, az_x], [(0, 4294967295), (2147483648, 2147483648), (0, 4294967295), (0, 4294967295), (0, 4294967295), (0, 4294967295), (2147483679, 2147483679), (2147483654, 2147483654)], 99, 47829)
def az_c31 : ai_Z := ([(7, 45), (6, 0), (6, 57), (6, 75), (0, 0), (9, 0), (9, 0)], [], 76, [az_0, az_1, az_2, az_3, az_4, az_5, az_6, az_7, az_8, az_9, az_9, az_10, az_10, az_11, az_12, az_13, az_14, az_15, az_16, az_9, az_17, az_17, az_18, az_19, az_20, az_17, az_21, az_22, az_22, az_23, az_24, az_22, az_22, az_25, az_26, az_22, az_27, az_28, az_29, az_30, az_31, az_32, az_33, az_34, az_35, az_36, az_9, az_17, az_17, az_18, az_19, az_37, az_17, az_38, az_22, az_22, az_39, az_40, az_22, az_22, az_41, az_42, az_22, az_43, az_44, az_29, az_30, az_45, az_46, az_47, az_47, az_48, az_49, az_50, az_51, az_52], [(0, 4294967295), (0, 4294967295), (0, 4294967295), (0, 4294967295), (0, 4294967295), (0, 4294967295), (2147483679, 2147483679), (2147483654, 2147483654)], 76, 45994)
theorem aG_c31_0 : ai_go (ai_run 1000000) [] 1000 0 8 ai_M179 1063 az_c31_0 az_o = true := by decide +kernel
theorem aF_c31_0 : ak_F 0 8 179 1063 az_c31_0 az_o := ak_cut (ak_all _) ak_t179 ak_ts0 aG_c31_0
theorem aG_c31_1 : ai_go (ai_run 1000000) [] 1000 0 8 ai_M179 1063 az_c31_1 az_o = true := by decide +kernel
theorem aF_c31_1 : ak_F 0 8 179 1063 az_c31_1 az_o := ak_cut (ak_all _) ak_t179 ak_ts0 aG_c31_1
theorem aG_c31_2 : ai_go (ai_run 1000000) [] 1000 0 8 ai_M179 1063 az_c31_2 az_o = true := by decide +kernel
theorem aF_c31_2 : ak_F 0 8 179 1063 az_c31_2 az_o := ak_cut (ak_all _) ak_t179 ak_ts0 aG_c31_2
theorem aG_c31_3 : ai_go (ai_run 1000000) [] 1000 0 8 ai_M179 1063 az_c31_3 az_o = true := by decide +kernel
theorem aF_c31_3 : ak_F 0 8 179 1063 az_c31_3 az_o := ak_cut (ak_all _) ak_t179 ak_ts0 aG_c31_3
theorem aG_c31 : ai_go (ai_run 1000000) [(1063, az_c31_0, az_o), (1063, az_c31_1, az_o), (1063, az_c31_2, az_o), (1063, az_c31_3, az_o)] 1000 0 8 ai_M179 1053 az_c31 az_o = true := by decide +kernel
theorem aF_c31 : ak_F 0 8 179 1053 az_c31 az_o := ak_cut (ak_all _) ak_t179 (ak_ts1 aF_c31_0 (ak_ts1 aF_c31_1 (ak_ts1 aF_c31_2 (ak_ts1 aF_c31_3 ak_ts0)))) aG_c31
end
section
def az_53 : ai_C := (1, 2996, (0, 0), [(9, (0, 4294967295)), (10, (0, 4294967295)), (11, (0, 4294967295)), (12, (0, 4294967295)), (13, (0, 4294967295)), (14, (0, 4294967295)), (25, (0, 4294967295)), (514, (0, 4294967295))])
def az_54 : ai_C := (0, 11, (5, 0), [(14, (6, 59)), (0, (0, 0)), (1, (6, 58)), (2, (0, 0)), (3, (0, 0)), (4, (0, 400)), (5, (0, 0)), (6, (0, 0)), (7, (0, 0)), (8, (0, 0)), (9, (0, 0)), (10, (0, 0)), (11, (0, 0)), (12, (3, 0)), (13, (0, 0)), (15, (6, 60)), (16, (6, 61)), (17, (6, 62)), (18, (6, 63)), (19, (6, 64)), (20, (6, 65)), (21, (6, 66)), (22, (6, 67)), (23, (6, 68)), (24, (6, 69)), (25, (0, 0)), (26, (6, 70)), (27, (6, 71)), (28, (0, 0)), (29, (0, 0)), (30, (6, 72)), (31, (6, 73)), (32, (0, 0)), (33, (0, 0)), (34, (6, 74)), (35, (0, 0)), (36, (0, 0)), (37, (0, 0)), (38, (0, 0))])
def az_c27_0 : ai_Z := ([(7, 45), (9, 0), (6, 57), (6, 75), (0, 0), (9, 0), (9, 0)], [(0, 4294967295)], 99, [az_x, az_x, az_x, az_x, az_x, az_x, az_x, az_x, az_x, az_x, az_x, az_x, az_x, az_x, az_x, az_x, az_x, az_x, az_x, az_x, az_x, az_x, az_x, az_0, az_1, az_2, az_3, az_4, az_5, az_6, az_7, az_8, az_9, az_9, az_10, az_10, az_11, az_12, az_13, az_14, az_15, az_16, az_x, az_x, az_x, az_x, az_x, az_x, az_x, az_x, az_x, az_x, az_x, az_x, az_x, az_x, az_x, az_x, az_x, az_x, az_x, az_x, az_x, az_x, az_x, az_x, az_x, az_x, az_x, az_x, az_x, az_x, az_x, az_x, az_x, az_x, az_x, az_x, az_x, az_x, az_x, az_x, az_x, az_x, az_x, az_x, az_x, az_x, az_x, az_x, az_x, az_x, az_x, az_x, az_x, az_x, az_x, az_x, az_x], [(0, 4294967295), (2147483648, 2147483648), (0, 4294967295), (0, 4294967295), (0, 4294967295), (0, 4294967295), (2147483675, 2147483675), (2147483654, 2147483654)], 122, 49664)
def az_bc27_0 : ai_Z := ([(6, 57), (1, 1), (9, 0), (9, 0)], [], 99, [az_x, az_x, az_x, az_x, az_x, az_x, az_x, az_x, az_x, az_x, az_x, az_x, az_x, az_x, az_x, az_x, az_x, az_x, az_x, az_x, az_x, az_x, az_x, az_0, az_1, az_2, az_3, az_4, az_5, az_6, az_7, az_8, az_9, az_9, az_53, az_10, az_11, az_12, az_13, az_14, az_15, az_54, az_x, az_x, az_x, az_x, az_x, az_x, az_x, az_x, az_x, az_x, az_x, az_x, az_x, az_x, az_x, az_x, az_x, az_x, az_x, az_x, az_x, az_x, az_x, az_x, az_x, az_x, az_x, az_x, az_x, az_x, az_x, az_x, az_x, az_x, az_x, az_x, az_x, az_x, az_x, az_x, az_x, az_x, az_x, az_x, az_x, az_x, az_x, az_x, az_x, az_x, az_x, az_x, az_x, az_x, az_x, az_x, az_x], [(0, 4294967295), (2147483648, 2147483648), (0, 4294967295), (0, 4294967295), (0, 4294967295), (0, 4294967295), (2147483675, 2147483675), (2147483654, 2147483654)], 0, 0)
def az_ec27_0_l : ai_L := [(6, 57), (1, 1), (9, 0), (9, 0)]
def az_ec27_0_w : ai_W := (99, [az_x, az_x, az_x, az_x, az_x, az_x, az_x, az_x, az_x, az_x, az_x, az_x, az_x, az_x, az_x, az_x, az_x, az_x, az_x, az_x, az_x, az_x, az_x, az_0, az_1, az_2, az_3, az_4, az_5, az_6, az_7, az_8, az_9, az_9, az_10, az_10, az_11, az_12, az_13, az_14, az_15, az_16, az_x, az_x, az_x, az_x, az_x, az_x, az_x, az_x, az_x, az_x, az_x, az_x, az_x, az_x, az_x, az_x, az_x, az_x, az_x, az_x, az_x, az_x, az_x, az_x, az_x, az_x, az_x, az_x, az_x, az_x, az_x, az_x, az_x, az_x, az_x, az_x, az_x, az_x, az_x, az_x, az_x, az_x, az_x, az_x, az_x, az_x, az_x, az_x, az_x, az_x, az_x, az_x, az_x, az_x, az_x, az_x, az_x], [(0, 4294967295), (2147483648, 2147483648), (0, 4294967295), (0, 4294967295), (0, 4294967295), (0, 4294967295), (2147483675, 2147483675), (2147483654, 2147483654)], 0, 0)
def az_c27_1 : ai_Z := ([(7, 45), (9, 0), (6, 57), (6, 75), (0, 0), (9, 0), (9, 0)], [(0, 4294966296)], 76, [az_0, az_1, az_2, az_3, az_4, az_5, az_6, az_7, az_8, az_9, az_9, az_10, az_10, az_11, az_12, az_13, az_14, az_15, az_16, az_x, az_x, az_x, az_x, az_x, az_x, az_x, az_x, az_x, az_x, az_x, az_x, az_x, az_x, az_x, az_x, az_x, az_x, az_x, az_x, az_x, az_x, az_x, az_x, az_x, az_x, az_x, az_x, az_x, az_x, az_x, az_x, az_x, az_x, az_x, az_x, az_x, az_x, az_x, az_x, az_x, az_x, az_x, az_x, az_x, az_x, az_x, az_x, az_x, az_x, az_x, az_x, az_x, az_x, az_x, az_x, az_x], [(0, 4294967295), (0, 2147483647), (0, 4294967295), (0, 4294967295), (0, 4294967295), (0, 4294967295), (2147483675, 2147483675), (2147483654, 2147483654)], 122, 49664)
def az_c27_2 : ai_Z := ([(7, 45), (9, 0), (6, 57), (6, 75), (0, 0), (9, 0), (9, 0)], [(0, 4294966296)], 76, [az_0, az_1, az_2, az_3, az_4, az_5, az_6, az_7, az_8, az_9, az_9, az_10, az_10, az_11, az_12, az_13, az_14, az_15, az_16, az_x, az_x, az_x, az_x, az_x, az_x, az_x, az_x, az_x, az_x, az_x, az_x, az_x, az_x, az_x, az_x, az_x, az_x, az_x, az_x, az_x, az_x, az_x, az_x, az_x, az_x, az_x, az_x, az_x, az_x, az_x, az_x, az_x, az_x, az_x, az_x, az_x, az_x, az_x, az_x, az_x, az_x, az_x, az_x, az_x, az_x, az_x, az_x, az_x, az_x, az_x, az_x, az_x, az_x, az_x, az_x, az_x], [(0, 4294967295), (2147483650, 4294967295), (0, 4294967295), (0, 4294967295), (0, 4294967295), (0, 4294967295), (2147483675, 2147483675), (2147483654, 2147483654)], 122, 49664)
def az_c27_3 : ai_Z := ([(7, 45), (9, 0), (6, 57), (6, 75), (0, 0), (9, 0), (9, 0)], [(0, 4294967295)], 76, [az_0, az_1, az_2, az_3, az_4, az_5, az_6, az_7, az_8, az_9, az_9, az_10, az_10, az_11, az_12, az_13, az_14, az_15, az_16, az_x, az_x, az_x, az_x, az_x, az_x, az_x, az_x, az_x, az_x, az_x, az_x, az_x, az_x, az_x, az_x, az_x, az_x, az_x, az_x, az_x, az_x, az_x, az_x, az_x, az_x, az_x, az_x, az_x, az_x, az_x, az_x, az_x, az_x, az_x, az_x, az_x, az_x, az_x, az_x, az_x, az_x, az_x, az_x, az_x, az_x, az_x, az_x, az_x, az_x, az_x, az_x, az_x, az_x, az_x, az_x, az_x], [(0, 4294967295), (2147483649, 2147483649), (0, 4294967295), (0, 4294967295), (0, 4294967295), (0, 4294967295), (2147483675, 2147483675), (2147483654, 2147483654)], 122, 49664)
def az_bc27_3 : ai_Z := ([(6, 57), (1, 1), (9, 0), (9, 0)], [], 76, [az_0, az_1, az_2, az_3, az_4, az_5, az_6, az_7, az_8, az_9, az_9, az_53, az_10, az_11, az_12, az_13, az_14, az_15, az_54, az_x, az_x, az_x, az_x, az_x, az_x, az_x, az_x, az_x, az_x, az_x, az_x, az_x, az_x, az_x, az_x, az_x, az_x, az_x, az_x, az_x, az_x, az_x, az_x, az_x, az_x, az_x, az_x, az_x, az_x, az_x, az_x, az_x, az_x, az_x, az_x, az_x, az_x, az_x, az_x, az_x, az_x, az_x, az_x, az_x, az_x, az_x, az_x, az_x, az_x, az_x, az_x, az_x, az_x, az_x, az_x, az_x], [(0, 4294967295), (2147483649, 2147483649), (0, 4294967295), (0, 4294967295), (0, 4294967295), (0, 4294967295), (2147483675, 2147483675), (2147483654, 2147483654)], 0, 0)
def az_ec27_3_l : ai_L := [(6, 57), (1, 1), (9, 0), (9, 0)]
def az_ec27_3_w : ai_W := (76, [az_0, az_1, az_2, az_3, az_4, az_5, az_6, az_7, az_8, az_9, az_9, az_10, az_10, az_11, az_12, az_13, az_14, az_15, az_16, az_x, az_x, az_x, az_x, az_x, az_x, az_x, az_x, az_x, az_x, az_x, az_x, az_x, az_x, az_x, az_x, az_x, az_x, az_x, az_x, az_x, az_x, az_x, az_x, az_x, az_x, az_x, az_x, az_x, az_x, az_x, az_x, az_x, az_x, az_x, az_x, az_x, az_x, az_x, az_x, az_x, az_x, az_x, az_x, az_x, az_x, az_x, az_x, az_x, az_x, az_x, az_x, az_x, az_x, az_x, az_x, az_x], [(0, 4294967295), (2147483649, 2147483649), (0, 4294967295), (0, 4294967295), (0, 4294967295), (0, 4294967295), (2147483675, 2147483675), (2147483654, 2147483654)], 0, 0)
def az_c27 : ai_Z := ([(7, 45), (6, 0), (6, 57), (6, 75), (0, 0), (9, 0), (9, 0)], [], 76, [az_0, az_1, az_2, az_3, az_4, az_5, az_6, az_7, az_8, az_9, az_9, az_10, az_10, az_11, az_12, az_13, az_14, az_15, az_16, az_9, az_17, az_17, az_18, az_19, az_20, az_17, az_21, az_22, az_22, az_23, az_24, az_22, az_22, az_25, az_26, az_22, az_27, az_28, az_29, az_30, az_31, az_32, az_33, az_34, az_35, az_36, az_9, az_17, az_17, az_18, az_19, az_37, az_17, az_38, az_22, az_22, az_39, az_40, az_22, az_22, az_41, az_42, az_22, az_43, az_44, az_29, az_30, az_45, az_46, az_47, az_47, az_48, az_49, az_50, az_51, az_52], [(0, 4294967295), (0, 4294967295), (0, 4294967295), (0, 4294967295), (0, 4294967295), (0, 4294967295), (2147483675, 2147483675), (2147483654, 2147483654)], 76, 45994)
def ai_M104 : ai_M := (4, ai_k104, 0, 0)
theorem ak_t104 : ai_tab[104]? = some ai_M104 := rfl
theorem aG_bc27_0 : ai_go (ai_run 1000000) [] 1000 99 7 ai_M104 74 az_bc27_0 [(some (0, 4294967295), 99, (az_dd 99), [(0, 4294967295), (2147483648, 2147483648), (0, 4294967295), (0, 4294967295), (0, 4294967295), (0, 4294967295), (2147483675, 2147483675), (2147483654, 2147483654)])] = true := by decide +kernel
theorem aF_bc27_0 : ak_F 99 7 104 74 az_bc27_0 [(some (0, 4294967295), 99, (az_dd 99), [(0, 4294967295), (2147483648, 2147483648), (0, 4294967295), (0, 4294967295), (0, 4294967295), (0, 4294967295), (2147483675, 2147483675), (2147483654, 2147483654)])] := ak_cut (ak_all _) ak_t104 ak_ts0 aG_bc27_0
theorem aG_ec27_0 : ai_go (ai_run 1000000) [(74, az_bc27_0, [(some (0, 4294967295), 99, (az_dd 99), [(0, 4294967295), (2147483648, 2147483648), (0, 4294967295), (0, 4294967295), (0, 4294967295), (0, 4294967295), (2147483675, 2147483675), (2147483654, 2147483654)])])] 1000 99 7 ai_M104 0 (az_ec27_0_l, [], az_ec27_0_w) [(some (0, 4294967295), 99, (az_dd 99), [(0, 4294967295), (2147483648, 2147483648), (0, 4294967295), (0, 4294967295), (0, 4294967295), (0, 4294967295), (2147483675, 2147483675), (2147483654, 2147483654)])] = true := by decide +kernel
theorem aF_ec27_0 : ak_F 99 7 104 0 (az_ec27_0_l, [], az_ec27_0_w) [(some (0, 4294967295), 99, (az_dd 99), [(0, 4294967295), (2147483648, 2147483648), (0, 4294967295), (0, 4294967295), (0, 4294967295), (0, 4294967295), (2147483675, 2147483675), (2147483654, 2147483654)])] := ak_cut (ak_all _) ak_t104 (ak_ts1 aF_bc27_0 ak_ts0) aG_ec27_0
theorem ak_k104_aF_ec27_0 : ∀ i, i < 182 → ak_kone (4, 0, 0, 101751) 104 i = true := by decide +kernel
theorem aG_c27_0 : ai_go (ai_orc [((4, 0, 0, 101751), 7, az_ec27_0_l, az_ec27_0_w, [(some (0, 4294967295), 99, (az_dd 99), [(0, 4294967295), (2147483648, 2147483648), (0, 4294967295), (0, 4294967295), (0, 4294967295), (0, 4294967295), (2147483675, 2147483675), (2147483654, 2147483654)])])] (ai_run 1000000)) [] 1000 0 8 ai_M179 975 az_c27_0 az_o = true := by decide +kernel
theorem aF_c27_0 : ak_F 0 8 179 975 az_c27_0 az_o := ak_cut (ai_orc_ok (ak_all _) (ak_us1 (ak_U_of ak_k104_aF_ec27_0 aF_ec27_0) ak_us0)) ak_t179 ak_ts0 aG_c27_0
theorem aG_c27_1 : ai_go (ai_run 1000000) [] 1000 0 8 ai_M179 975 az_c27_1 az_o = true := by decide +kernel
theorem aF_c27_1 : ak_F 0 8 179 975 az_c27_1 az_o := ak_cut (ak_all _) ak_t179 ak_ts0 aG_c27_1
theorem aG_c27_2 : ai_go (ai_run 1000000) [] 1000 0 8 ai_M179 975 az_c27_2 az_o = true := by decide +kernel
theorem aF_c27_2 : ak_F 0 8 179 975 az_c27_2 az_o := ak_cut (ak_all _) ak_t179 ak_ts0 aG_c27_2
theorem aG_bc27_3 : ai_go (ai_run 1000000) [] 1000 76 7 ai_M104 74 az_bc27_3 [(some (0, 4294967295), 76, (az_dd 76), [(0, 4294967295), (2147483649, 2147483649), (0, 4294967295), (0, 4294967295), (0, 4294967295), (0, 4294967295), (2147483675, 2147483675), (2147483654, 2147483654)])] = true := by decide +kernel
theorem aF_bc27_3 : ak_F 76 7 104 74 az_bc27_3 [(some (0, 4294967295), 76, (az_dd 76), [(0, 4294967295), (2147483649, 2147483649), (0, 4294967295), (0, 4294967295), (0, 4294967295), (0, 4294967295), (2147483675, 2147483675), (2147483654, 2147483654)])] := ak_cut (ak_all _) ak_t104 ak_ts0 aG_bc27_3
theorem aG_ec27_3 : ai_go (ai_run 1000000) [(74, az_bc27_3, [(some (0, 4294967295), 76, (az_dd 76), [(0, 4294967295), (2147483649, 2147483649), (0, 4294967295), (0, 4294967295), (0, 4294967295), (0, 4294967295), (2147483675, 2147483675), (2147483654, 2147483654)])])] 1000 76 7 ai_M104 0 (az_ec27_3_l, [], az_ec27_3_w) [(some (0, 4294967295), 76, (az_dd 76), [(0, 4294967295), (2147483649, 2147483649), (0, 4294967295), (0, 4294967295), (0, 4294967295), (0, 4294967295), (2147483675, 2147483675), (2147483654, 2147483654)])] = true := by decide +kernel
theorem aF_ec27_3 : ak_F 76 7 104 0 (az_ec27_3_l, [], az_ec27_3_w) [(some (0, 4294967295), 76, (az_dd 76), [(0, 4294967295), (2147483649, 2147483649), (0, 4294967295), (0, 4294967295), (0, 4294967295), (0, 4294967295), (2147483675, 2147483675), (2147483654, 2147483654)])] := ak_cut (ak_all _) ak_t104 (ak_ts1 aF_bc27_3 ak_ts0) aG_ec27_3
theorem ak_k104_aF_ec27_3 : ∀ i, i < 182 → ak_kone (4, 0, 0, 101751) 104 i = true := by decide +kernel
theorem aG_c27_3 : ai_go (ai_orc [((4, 0, 0, 101751), 7, az_ec27_3_l, az_ec27_3_w, [(some (0, 4294967295), 76, (az_dd 76), [(0, 4294967295), (2147483649, 2147483649), (0, 4294967295), (0, 4294967295), (0, 4294967295), (0, 4294967295), (2147483675, 2147483675), (2147483654, 2147483654)])])] (ai_run 1000000)) [] 1000 0 8 ai_M179 975 az_c27_3 az_o = true := by decide +kernel
theorem aF_c27_3 : ak_F 0 8 179 975 az_c27_3 az_o := ak_cut (ai_orc_ok (ak_all _) (ak_us1 (ak_U_of ak_k104_aF_ec27_3 aF_ec27_3) ak_us0)) ak_t179 ak_ts0 aG_c27_3
theorem aG_c27 : ai_go (ai_run 1000000) [(975, az_c27_0, az_o), (975, az_c27_1, az_o), (975, az_c27_2, az_o), (975, az_c27_3, az_o)] 1000 0 8 ai_M179 965 az_c27 az_o = true := by decide +kernel
theorem aF_c27 : ak_F 0 8 179 965 az_c27 az_o := ak_cut (ak_all _) ak_t179 (ak_ts1 aF_c27_0 (ak_ts1 aF_c27_1 (ak_ts1 aF_c27_2 (ak_ts1 aF_c27_3 ak_ts0)))) aG_c27
end
section
def ai_M170 : ai_M := (2, ai_k170, 0, 0)
theorem ak_t170 : ai_tab[170]? = some ai_M170 := rfl
def ai_M142 : ai_M := (4, ai_k142, 0, 0)
theorem ak_t142 : ai_tab[142]? = some ai_M142 := rfl
def az_55 : ai_C := (1, 23968, (0, 0), [(9, (0, 4294967295)), (10, (0, 4294967295)), (11, (0, 4294967295)), (12, (0, 4294967295)), (13, (0, 4294967295)), (14, (0, 4294967295)), (25, (0, 4294967295)), (514, (0, 4294967295))])
def az_56 : ai_C := (1, 3266, (0, 0), [(0, (0, 8)), (1, (0, 1)), (2, (0, 2)), (3, (0, 12)), (4, (0, 3)), (5, (0, 1)), (6, (0, 4294967295)), (53, (0, 4294967295)), (37, (0, 4294967295)), (38, (0, 4294967295)), (39, (0, 4294967295)), (40, (0, 4294967295)), (41, (0, 4294967295)), (42, (0, 4294967295)), (542, (0, 4294967295)), (28, (0, 56))])
def az_57 : ai_C := (0, 11, (5, 0), [(14, (6, 59)), (0, (0, 0)), (1, (6, 58)), (2, (0, 0)), (3, (0, 0)), (4, (0, 0)), (5, (0, 0)), (6, (0, 0)), (7, (0, 0)), (8, (0, 0)), (9, (0, 0)), (10, (0, 0)), (11, (0, 0)), (12, (3, 0)), (13, (0, 0)), (15, (6, 60)), (16, (6, 61)), (17, (6, 62)), (18, (6, 63)), (19, (6, 64)), (20, (6, 65)), (21, (6, 66)), (22, (6, 67)), (23, (6, 68)), (24, (6, 69)), (25, (0, 1)), (26, (6, 70)), (27, (6, 71)), (28, (0, 0)), (29, (0, 0)), (30, (6, 72)), (31, (6, 73)), (32, (0, 0)), (33, (0, 0)), (34, (6, 74)), (35, (0, 0)), (36, (0, 0)), (37, (0, 0)), (38, (0, 0))])
def az_58 : ai_C := (1, 3266, (0, 0), [(0, (0, 8)), (1, (0, 1)), (2, (0, 2)), (3, (0, 12)), (4, (0, 3)), (5, (0, 1)), (6, (0, 4294967295)), (53, (0, 4294967295)), (37, (0, 4294967295)), (38, (0, 4294967295)), (39, (0, 4294967295)), (40, (0, 4294967295)), (41, (0, 4294967295)), (42, (0, 4294967295)), (542, (0, 4294967295)), (28, (0, 48))])
def az_59 : ai_C := (1, 3266, (0, 0), [(0, (0, 8)), (1, (0, 1)), (2, (0, 2)), (3, (0, 12)), (4, (0, 3)), (5, (0, 1)), (6, (0, 4294967295)), (53, (0, 4294967295)), (37, (0, 4294967295)), (38, (0, 4294967295)), (39, (0, 4294967295)), (40, (0, 4294967295)), (41, (0, 4294967295)), (42, (0, 4294967295)), (542, (0, 4294967295)), (28, (0, 40))])
def az_60 : ai_C := (1, 3266, (0, 0), [(0, (0, 8)), (1, (0, 1)), (2, (0, 2)), (3, (0, 12)), (4, (0, 3)), (5, (0, 1)), (6, (0, 4294967295)), (53, (0, 4294967295)), (37, (0, 4294967295)), (38, (0, 4294967295)), (39, (0, 4294967295)), (40, (0, 4294967295)), (41, (0, 4294967295)), (42, (0, 4294967295)), (542, (0, 4294967295)), (28, (0, 32))])
def az_61 : ai_C := (1, 3266, (0, 0), [(0, (0, 8)), (1, (0, 1)), (2, (0, 2)), (3, (0, 12)), (4, (0, 3)), (5, (0, 1)), (6, (0, 4294967295)), (53, (0, 4294967295)), (37, (0, 4294967295)), (38, (0, 4294967295)), (39, (0, 4294967295)), (40, (0, 4294967295)), (41, (0, 4294967295)), (42, (0, 4294967295)), (542, (0, 4294967295)), (28, (0, 24))])
def az_62 : ai_C := (1, 3266, (0, 0), [(0, (0, 8)), (1, (0, 1)), (2, (0, 2)), (3, (0, 12)), (4, (0, 3)), (5, (0, 1)), (6, (0, 4294967295)), (53, (0, 4294967295)), (37, (0, 4294967295)), (38, (0, 4294967295)), (39, (0, 4294967295)), (40, (0, 4294967295)), (41, (0, 4294967295)), (42, (0, 4294967295)), (542, (0, 4294967295)), (28, (0, 16))])
def az_63 : ai_C := (1, 3266, (0, 0), [(0, (0, 8)), (1, (0, 1)), (2, (0, 2)), (3, (0, 12)), (4, (0, 3)), (5, (0, 1)), (6, (0, 4294967295)), (53, (0, 4294967295)), (37, (0, 4294967295)), (38, (0, 4294967295)), (39, (0, 4294967295)), (40, (0, 4294967295)), (41, (0, 4294967295)), (42, (0, 4294967295)), (542, (0, 4294967295)), (28, (0, 8))])
def az_to7 : List ai_O := (some (0, 56), 99, (az_dd 99), [(0, 4294967295), (2147483704, 2147483704), (0, 4294967295), (0, 4294967295), (0, 4294967295), (0, 4294967295), (2147483653, 2147483653), (2147483654, 2147483654)]) :: (some (0, 57), 99, (az_dd 99), [(0, 4294967295), (2147483705, 2147483705), (0, 4294967295), (0, 4294967295), (0, 4294967295), (0, 4294967295), (2147483653, 2147483653), (2147483654, 2147483654)]) :: (some (0, 58), 99, (az_dd 99), [(0, 4294967295), (2147483706, 2147483706), (0, 4294967295), (0, 4294967295), (0, 4294967295), (0, 4294967295), (2147483653, 2147483653), (2147483654, 2147483654)]) :: (some (0, 59), 99, (az_dd 99), [(0, 4294967295), (2147483707, 2147483707), (0, 4294967295), (0, 4294967295), (0, 4294967295), (0, 4294967295), (2147483653, 2147483653), (2147483654, 2147483654)]) :: (some (0, 60), 99, (az_dd 99), [(0, 4294967295), (2147483708, 2147483708), (0, 4294967295), (0, 4294967295), (0, 4294967295), (0, 4294967295), (2147483653, 2147483653), (2147483654, 2147483654)]) :: []
def az_to6 : List ai_O := (some (0, 48), 99, (az_dd 99), [(0, 4294967295), (2147483696, 2147483696), (0, 4294967295), (0, 4294967295), (0, 4294967295), (0, 4294967295), (2147483653, 2147483653), (2147483654, 2147483654)]) :: (some (0, 49), 99, (az_dd 99), [(0, 4294967295), (2147483697, 2147483697), (0, 4294967295), (0, 4294967295), (0, 4294967295), (0, 4294967295), (2147483653, 2147483653), (2147483654, 2147483654)]) :: (some (0, 50), 99, (az_dd 99), [(0, 4294967295), (2147483698, 2147483698), (0, 4294967295), (0, 4294967295), (0, 4294967295), (0, 4294967295), (2147483653, 2147483653), (2147483654, 2147483654)]) :: (some (0, 51), 99, (az_dd 99), [(0, 4294967295), (2147483699, 2147483699), (0, 4294967295), (0, 4294967295), (0, 4294967295), (0, 4294967295), (2147483653, 2147483653), (2147483654, 2147483654)]) :: (some (0, 52), 99, (az_dd 99), [(0, 4294967295), (2147483700, 2147483700), (0, 4294967295), (0, 4294967295), (0, 4294967295), (0, 4294967295), (2147483653, 2147483653), (2147483654, 2147483654)]) :: (some (0, 53), 99, (az_dd 99), [(0, 4294967295), (2147483701, 2147483701), (0, 4294967295), (0, 4294967295), (0, 4294967295), (0, 4294967295), (2147483653, 2147483653), (2147483654, 2147483654)]) :: (some (0, 54), 99, (az_dd 99), [(0, 4294967295), (2147483702, 2147483702), (0, 4294967295), (0, 4294967295), (0, 4294967295), (0, 4294967295), (2147483653, 2147483653), (2147483654, 2147483654)]) :: (some (0, 55), 99, (az_dd 99), [(0, 4294967295), (2147483703, 2147483703), (0, 4294967295), (0, 4294967295), (0, 4294967295), (0, 4294967295), (2147483653, 2147483653), (2147483654, 2147483654)]) :: az_to7
def az_to5 : List ai_O := (some (0, 40), 99, (az_dd 99), [(0, 4294967295), (2147483688, 2147483688), (0, 4294967295), (0, 4294967295), (0, 4294967295), (0, 4294967295), (2147483653, 2147483653), (2147483654, 2147483654)]) :: (some (0, 41), 99, (az_dd 99), [(0, 4294967295), (2147483689, 2147483689), (0, 4294967295), (0, 4294967295), (0, 4294967295), (0, 4294967295), (2147483653, 2147483653), (2147483654, 2147483654)]) :: (some (0, 42), 99, (az_dd 99), [(0, 4294967295), (2147483690, 2147483690), (0, 4294967295), (0, 4294967295), (0, 4294967295), (0, 4294967295), (2147483653, 2147483653), (2147483654, 2147483654)]) :: (some (0, 43), 99, (az_dd 99), [(0, 4294967295), (2147483691, 2147483691), (0, 4294967295), (0, 4294967295), (0, 4294967295), (0, 4294967295), (2147483653, 2147483653), (2147483654, 2147483654)]) :: (some (0, 44), 99, (az_dd 99), [(0, 4294967295), (2147483692, 2147483692), (0, 4294967295), (0, 4294967295), (0, 4294967295), (0, 4294967295), (2147483653, 2147483653), (2147483654, 2147483654)]) :: (some (0, 45), 99, (az_dd 99), [(0, 4294967295), (2147483693, 2147483693), (0, 4294967295), (0, 4294967295), (0, 4294967295), (0, 4294967295), (2147483653, 2147483653), (2147483654, 2147483654)]) :: (some (0, 46), 99, (az_dd 99), [(0, 4294967295), (2147483694, 2147483694), (0, 4294967295), (0, 4294967295), (0, 4294967295), (0, 4294967295), (2147483653, 2147483653), (2147483654, 2147483654)]) :: (some (0, 47), 99, (az_dd 99), [(0, 4294967295), (2147483695, 2147483695), (0, 4294967295), (0, 4294967295), (0, 4294967295), (0, 4294967295), (2147483653, 2147483653), (2147483654, 2147483654)]) :: az_to6
def az_to4 : List ai_O := (some (0, 32), 99, (az_dd 99), [(0, 4294967295), (2147483680, 2147483680), (0, 4294967295), (0, 4294967295), (0, 4294967295), (0, 4294967295), (2147483653, 2147483653), (2147483654, 2147483654)]) :: (some (0, 33), 99, (az_dd 99), [(0, 4294967295), (2147483681, 2147483681), (0, 4294967295), (0, 4294967295), (0, 4294967295), (0, 4294967295), (2147483653, 2147483653), (2147483654, 2147483654)]) :: (some (0, 34), 99, (az_dd 99), [(0, 4294967295), (2147483682, 2147483682), (0, 4294967295), (0, 4294967295), (0, 4294967295), (0, 4294967295), (2147483653, 2147483653), (2147483654, 2147483654)]) :: (some (0, 35), 99, (az_dd 99), [(0, 4294967295), (2147483683, 2147483683), (0, 4294967295), (0, 4294967295), (0, 4294967295), (0, 4294967295), (2147483653, 2147483653), (2147483654, 2147483654)]) :: (some (0, 36), 99, (az_dd 99), [(0, 4294967295), (2147483684, 2147483684), (0, 4294967295), (0, 4294967295), (0, 4294967295), (0, 4294967295), (2147483653, 2147483653), (2147483654, 2147483654)]) :: (some (0, 37), 99, (az_dd 99), [(0, 4294967295), (2147483685, 2147483685), (0, 4294967295), (0, 4294967295), (0, 4294967295), (0, 4294967295), (2147483653, 2147483653), (2147483654, 2147483654)]) :: (some (0, 38), 99, (az_dd 99), [(0, 4294967295), (2147483686, 2147483686), (0, 4294967295), (0, 4294967295), (0, 4294967295), (0, 4294967295), (2147483653, 2147483653), (2147483654, 2147483654)]) :: (some (0, 39), 99, (az_dd 99), [(0, 4294967295), (2147483687, 2147483687), (0, 4294967295), (0, 4294967295), (0, 4294967295), (0, 4294967295), (2147483653, 2147483653), (2147483654, 2147483654)]) :: az_to5
def az_to3 : List ai_O := (some (0, 24), 99, (az_dd 99), [(0, 4294967295), (2147483672, 2147483672), (0, 4294967295), (0, 4294967295), (0, 4294967295), (0, 4294967295), (2147483653, 2147483653), (2147483654, 2147483654)]) :: (some (0, 25), 99, (az_dd 99), [(0, 4294967295), (2147483673, 2147483673), (0, 4294967295), (0, 4294967295), (0, 4294967295), (0, 4294967295), (2147483653, 2147483653), (2147483654, 2147483654)]) :: (some (0, 26), 99, (az_dd 99), [(0, 4294967295), (2147483674, 2147483674), (0, 4294967295), (0, 4294967295), (0, 4294967295), (0, 4294967295), (2147483653, 2147483653), (2147483654, 2147483654)]) :: (some (0, 27), 99, (az_dd 99), [(0, 4294967295), (2147483675, 2147483675), (0, 4294967295), (0, 4294967295), (0, 4294967295), (0, 4294967295), (2147483653, 2147483653), (2147483654, 2147483654)]) :: (some (0, 28), 99, (az_dd 99), [(0, 4294967295), (2147483676, 2147483676), (0, 4294967295), (0, 4294967295), (0, 4294967295), (0, 4294967295), (2147483653, 2147483653), (2147483654, 2147483654)]) :: (some (0, 29), 99, (az_dd 99), [(0, 4294967295), (2147483677, 2147483677), (0, 4294967295), (0, 4294967295), (0, 4294967295), (0, 4294967295), (2147483653, 2147483653), (2147483654, 2147483654)]) :: (some (0, 30), 99, (az_dd 99), [(0, 4294967295), (2147483678, 2147483678), (0, 4294967295), (0, 4294967295), (0, 4294967295), (0, 4294967295), (2147483653, 2147483653), (2147483654, 2147483654)]) :: (some (0, 31), 99, (az_dd 99), [(0, 4294967295), (2147483679, 2147483679), (0, 4294967295), (0, 4294967295), (0, 4294967295), (0, 4294967295), (2147483653, 2147483653), (2147483654, 2147483654)]) :: az_to4
def az_to2 : List ai_O := (some (0, 16), 99, (az_dd 99), [(0, 4294967295), (2147483664, 2147483664), (0, 4294967295), (0, 4294967295), (0, 4294967295), (0, 4294967295), (2147483653, 2147483653), (2147483654, 2147483654)]) :: (some (0, 17), 99, (az_dd 99), [(0, 4294967295), (2147483665, 2147483665), (0, 4294967295), (0, 4294967295), (0, 4294967295), (0, 4294967295), (2147483653, 2147483653), (2147483654, 2147483654)]) :: (some (0, 18), 99, (az_dd 99), [(0, 4294967295), (2147483666, 2147483666), (0, 4294967295), (0, 4294967295), (0, 4294967295), (0, 4294967295), (2147483653, 2147483653), (2147483654, 2147483654)]) :: (some (0, 19), 99, (az_dd 99), [(0, 4294967295), (2147483667, 2147483667), (0, 4294967295), (0, 4294967295), (0, 4294967295), (0, 4294967295), (2147483653, 2147483653), (2147483654, 2147483654)]) :: (some (0, 20), 99, (az_dd 99), [(0, 4294967295), (2147483668, 2147483668), (0, 4294967295), (0, 4294967295), (0, 4294967295), (0, 4294967295), (2147483653, 2147483653), (2147483654, 2147483654)]) :: (some (0, 21), 99, (az_dd 99), [(0, 4294967295), (2147483669, 2147483669), (0, 4294967295), (0, 4294967295), (0, 4294967295), (0, 4294967295), (2147483653, 2147483653), (2147483654, 2147483654)]) :: (some (0, 22), 99, (az_dd 99), [(0, 4294967295), (2147483670, 2147483670), (0, 4294967295), (0, 4294967295), (0, 4294967295), (0, 4294967295), (2147483653, 2147483653), (2147483654, 2147483654)]) :: (some (0, 23), 99, (az_dd 99), [(0, 4294967295), (2147483671, 2147483671), (0, 4294967295), (0, 4294967295), (0, 4294967295), (0, 4294967295), (2147483653, 2147483653), (2147483654, 2147483654)]) :: az_to3
def az_to1 : List ai_O := (some (0, 8), 99, (az_dd 99), [(0, 4294967295), (2147483656, 2147483656), (0, 4294967295), (0, 4294967295), (0, 4294967295), (0, 4294967295), (2147483653, 2147483653), (2147483654, 2147483654)]) :: (some (0, 9), 99, (az_dd 99), [(0, 4294967295), (2147483657, 2147483657), (0, 4294967295), (0, 4294967295), (0, 4294967295), (0, 4294967295), (2147483653, 2147483653), (2147483654, 2147483654)]) :: (some (0, 10), 99, (az_dd 99), [(0, 4294967295), (2147483658, 2147483658), (0, 4294967295), (0, 4294967295), (0, 4294967295), (0, 4294967295), (2147483653, 2147483653), (2147483654, 2147483654)]) :: (some (0, 11), 99, (az_dd 99), [(0, 4294967295), (2147483659, 2147483659), (0, 4294967295), (0, 4294967295), (0, 4294967295), (0, 4294967295), (2147483653, 2147483653), (2147483654, 2147483654)]) :: (some (0, 12), 99, (az_dd 99), [(0, 4294967295), (2147483660, 2147483660), (0, 4294967295), (0, 4294967295), (0, 4294967295), (0, 4294967295), (2147483653, 2147483653), (2147483654, 2147483654)]) :: (some (0, 13), 99, (az_dd 99), [(0, 4294967295), (2147483661, 2147483661), (0, 4294967295), (0, 4294967295), (0, 4294967295), (0, 4294967295), (2147483653, 2147483653), (2147483654, 2147483654)]) :: (some (0, 14), 99, (az_dd 99), [(0, 4294967295), (2147483662, 2147483662), (0, 4294967295), (0, 4294967295), (0, 4294967295), (0, 4294967295), (2147483653, 2147483653), (2147483654, 2147483654)]) :: (some (0, 15), 99, (az_dd 99), [(0, 4294967295), (2147483663, 2147483663), (0, 4294967295), (0, 4294967295), (0, 4294967295), (0, 4294967295), (2147483653, 2147483653), (2147483654, 2147483654)]) :: az_to2
def az_to0 : List ai_O := (some (0, 1), 99, (az_dd 99), [(0, 4294967295), (2147483649, 2147483649), (0, 4294967295), (0, 4294967295), (0, 4294967295), (0, 4294967295), (2147483653, 2147483653), (2147483654, 2147483654)]) :: (some (0, 2), 99, (az_dd 99), [(0, 4294967295), (2147483650, 2147483650), (0, 4294967295), (0, 4294967295), (0, 4294967295), (0, 4294967295), (2147483653, 2147483653), (2147483654, 2147483654)]) :: (some (0, 3), 99, (az_dd 99), [(0, 4294967295), (2147483651, 2147483651), (0, 4294967295), (0, 4294967295), (0, 4294967295), (0, 4294967295), (2147483653, 2147483653), (2147483654, 2147483654)]) :: (some (0, 4), 99, (az_dd 99), [(0, 4294967295), (2147483652, 2147483652), (0, 4294967295), (0, 4294967295), (0, 4294967295), (0, 4294967295), (2147483653, 2147483653), (2147483654, 2147483654)]) :: (some (0, 5), 99, (az_dd 99), [(0, 4294967295), (2147483653, 2147483653), (0, 4294967295), (0, 4294967295), (0, 4294967295), (0, 4294967295), (2147483653, 2147483653), (2147483654, 2147483654)]) :: (some (0, 6), 99, (az_dd 99), [(0, 4294967295), (2147483654, 2147483654), (0, 4294967295), (0, 4294967295), (0, 4294967295), (0, 4294967295), (2147483653, 2147483653), (2147483654, 2147483654)]) :: (some (0, 7), 99, (az_dd 99), [(0, 4294967295), (2147483655, 2147483655), (0, 4294967295), (0, 4294967295), (0, 4294967295), (0, 4294967295), (2147483653, 2147483653), (2147483654, 2147483654)]) :: az_to1
def az_tl7 : ai_Z := ([(6, 57), (1, 1), (1, 1), (0, 56)], [], 99, [az_x, az_x, az_x, az_x, az_x, az_x, az_x, az_x, az_x, az_x, az_x, az_x, az_x, az_x, az_x, az_x, az_x, az_x, az_x, az_x, az_x, az_x, az_x, az_0, az_1, az_2, az_3, az_4, az_5, az_6, az_7, az_8, az_9, az_9, az_10, az_10, az_55, az_12, az_13, az_56, az_15, az_57, az_x, az_x, az_x, az_x, az_x, az_x, az_x, az_x, az_x, az_x, az_x, az_x, az_x, az_x, az_x, az_x, az_x, az_x, az_x, az_x, az_x, az_x, az_x, az_x, az_x, az_x, az_x, az_x, az_x, az_x, az_x, az_x, az_x, az_x, az_x, az_x, az_x, az_x, az_x, az_x, az_x, az_x, az_x, az_x, az_x, az_x, az_x, az_x, az_x, az_x, az_x, az_x, az_x, az_x, az_x, az_x, az_x], [(0, 4294967295), (2147483704, 2147483708), (0, 4294967295), (0, 4294967295), (0, 4294967295), (0, 4294967295), (2147483653, 2147483653), (2147483654, 2147483654)], 0, 0)
def az_tl6 : ai_Z := ([(6, 57), (1, 1), (1, 1), (0, 48)], [], 99, [az_x, az_x, az_x, az_x, az_x, az_x, az_x, az_x, az_x, az_x, az_x, az_x, az_x, az_x, az_x, az_x, az_x, az_x, az_x, az_x, az_x, az_x, az_x, az_0, az_1, az_2, az_3, az_4, az_5, az_6, az_7, az_8, az_9, az_9, az_10, az_10, az_55, az_12, az_13, az_58, az_15, az_57, az_x, az_x, az_x, az_x, az_x, az_x, az_x, az_x, az_x, az_x, az_x, az_x, az_x, az_x, az_x, az_x, az_x, az_x, az_x, az_x, az_x, az_x, az_x, az_x, az_x, az_x, az_x, az_x, az_x, az_x, az_x, az_x, az_x, az_x, az_x, az_x, az_x, az_x, az_x, az_x, az_x, az_x, az_x, az_x, az_x, az_x, az_x, az_x, az_x, az_x, az_x, az_x, az_x, az_x, az_x, az_x, az_x], [(0, 4294967295), (2147483696, 2147483708), (0, 4294967295), (0, 4294967295), (0, 4294967295), (0, 4294967295), (2147483653, 2147483653), (2147483654, 2147483654)], 0, 0)
def az_tl5 : ai_Z := ([(6, 57), (1, 1), (1, 1), (0, 40)], [], 99, [az_x, az_x, az_x, az_x, az_x, az_x, az_x, az_x, az_x, az_x, az_x, az_x, az_x, az_x, az_x, az_x, az_x, az_x, az_x, az_x, az_x, az_x, az_x, az_0, az_1, az_2, az_3, az_4, az_5, az_6, az_7, az_8, az_9, az_9, az_10, az_10, az_55, az_12, az_13, az_59, az_15, az_57, az_x, az_x, az_x, az_x, az_x, az_x, az_x, az_x, az_x, az_x, az_x, az_x, az_x, az_x, az_x, az_x, az_x, az_x, az_x, az_x, az_x, az_x, az_x, az_x, az_x, az_x, az_x, az_x, az_x, az_x, az_x, az_x, az_x, az_x, az_x, az_x, az_x, az_x, az_x, az_x, az_x, az_x, az_x, az_x, az_x, az_x, az_x, az_x, az_x, az_x, az_x, az_x, az_x, az_x, az_x, az_x, az_x], [(0, 4294967295), (2147483688, 2147483708), (0, 4294967295), (0, 4294967295), (0, 4294967295), (0, 4294967295), (2147483653, 2147483653), (2147483654, 2147483654)], 0, 0)
def az_tl4 : ai_Z := ([(6, 57), (1, 1), (1, 1), (0, 32)], [], 99, [az_x, az_x, az_x, az_x, az_x, az_x, az_x, az_x, az_x, az_x, az_x, az_x, az_x, az_x, az_x, az_x, az_x, az_x, az_x, az_x, az_x, az_x, az_x, az_0, az_1, az_2, az_3, az_4, az_5, az_6, az_7, az_8, az_9, az_9, az_10, az_10, az_55, az_12, az_13, az_60, az_15, az_57, az_x, az_x, az_x, az_x, az_x, az_x, az_x, az_x, az_x, az_x, az_x, az_x, az_x, az_x, az_x, az_x, az_x, az_x, az_x, az_x, az_x, az_x, az_x, az_x, az_x, az_x, az_x, az_x, az_x, az_x, az_x, az_x, az_x, az_x, az_x, az_x, az_x, az_x, az_x, az_x, az_x, az_x, az_x, az_x, az_x, az_x, az_x, az_x, az_x, az_x, az_x, az_x, az_x, az_x, az_x, az_x, az_x], [(0, 4294967295), (2147483680, 2147483708), (0, 4294967295), (0, 4294967295), (0, 4294967295), (0, 4294967295), (2147483653, 2147483653), (2147483654, 2147483654)], 0, 0)
def az_tl3 : ai_Z := ([(6, 57), (1, 1), (1, 1), (0, 24)], [], 99, [az_x, az_x, az_x, az_x, az_x, az_x, az_x, az_x, az_x, az_x, az_x, az_x, az_x, az_x, az_x, az_x, az_x, az_x, az_x, az_x, az_x, az_x, az_x, az_0, az_1, az_2, az_3, az_4, az_5, az_6, az_7, az_8, az_9, az_9, az_10, az_10, az_55, az_12, az_13, az_61, az_15, az_57, az_x, az_x, az_x, az_x, az_x, az_x, az_x, az_x, az_x, az_x, az_x, az_x, az_x, az_x, az_x, az_x, az_x, az_x, az_x, az_x, az_x, az_x, az_x, az_x, az_x, az_x, az_x, az_x, az_x, az_x, az_x, az_x, az_x, az_x, az_x, az_x, az_x, az_x, az_x, az_x, az_x, az_x, az_x, az_x, az_x, az_x, az_x, az_x, az_x, az_x, az_x, az_x, az_x, az_x, az_x, az_x, az_x], [(0, 4294967295), (2147483672, 2147483708), (0, 4294967295), (0, 4294967295), (0, 4294967295), (0, 4294967295), (2147483653, 2147483653), (2147483654, 2147483654)], 0, 0)
def az_tl2 : ai_Z := ([(6, 57), (1, 1), (1, 1), (0, 16)], [], 99, [az_x, az_x, az_x, az_x, az_x, az_x, az_x, az_x, az_x, az_x, az_x, az_x, az_x, az_x, az_x, az_x, az_x, az_x, az_x, az_x, az_x, az_x, az_x, az_0, az_1, az_2, az_3, az_4, az_5, az_6, az_7, az_8, az_9, az_9, az_10, az_10, az_55, az_12, az_13, az_62, az_15, az_57, az_x, az_x, az_x, az_x, az_x, az_x, az_x, az_x, az_x, az_x, az_x, az_x, az_x, az_x, az_x, az_x, az_x, az_x, az_x, az_x, az_x, az_x, az_x, az_x, az_x, az_x, az_x, az_x, az_x, az_x, az_x, az_x, az_x, az_x, az_x, az_x, az_x, az_x, az_x, az_x, az_x, az_x, az_x, az_x, az_x, az_x, az_x, az_x, az_x, az_x, az_x, az_x, az_x, az_x, az_x, az_x, az_x], [(0, 4294967295), (2147483664, 2147483708), (0, 4294967295), (0, 4294967295), (0, 4294967295), (0, 4294967295), (2147483653, 2147483653), (2147483654, 2147483654)], 0, 0)
def az_tl1 : ai_Z := ([(6, 57), (1, 1), (1, 1), (0, 8)], [], 99, [az_x, az_x, az_x, az_x, az_x, az_x, az_x, az_x, az_x, az_x, az_x, az_x, az_x, az_x, az_x, az_x, az_x, az_x, az_x, az_x, az_x, az_x, az_x, az_0, az_1, az_2, az_3, az_4, az_5, az_6, az_7, az_8, az_9, az_9, az_10, az_10, az_55, az_12, az_13, az_63, az_15, az_57, az_x, az_x, az_x, az_x, az_x, az_x, az_x, az_x, az_x, az_x, az_x, az_x, az_x, az_x, az_x, az_x, az_x, az_x, az_x, az_x, az_x, az_x, az_x, az_x, az_x, az_x, az_x, az_x, az_x, az_x, az_x, az_x, az_x, az_x, az_x, az_x, az_x, az_x, az_x, az_x, az_x, az_x, az_x, az_x, az_x, az_x, az_x, az_x, az_x, az_x, az_x, az_x, az_x, az_x, az_x, az_x, az_x], [(0, 4294967295), (2147483656, 2147483708), (0, 4294967295), (0, 4294967295), (0, 4294967295), (0, 4294967295), (2147483653, 2147483653), (2147483654, 2147483654)], 0, 0)
def az_tl0 : ai_Z := ([(6, 57), (1, 1), (1, 1), (0, 0)], [], 99, [az_x, az_x, az_x, az_x, az_x, az_x, az_x, az_x, az_x, az_x, az_x, az_x, az_x, az_x, az_x, az_x, az_x, az_x, az_x, az_x, az_x, az_x, az_x, az_0, az_1, az_2, az_3, az_4, az_5, az_6, az_7, az_8, az_9, az_9, az_10, az_10, az_55, az_12, az_13, az_14, az_15, az_57, az_x, az_x, az_x, az_x, az_x, az_x, az_x, az_x, az_x, az_x, az_x, az_x, az_x, az_x, az_x, az_x, az_x, az_x, az_x, az_x, az_x, az_x, az_x, az_x, az_x, az_x, az_x, az_x, az_x, az_x, az_x, az_x, az_x, az_x, az_x, az_x, az_x, az_x, az_x, az_x, az_x, az_x, az_x, az_x, az_x, az_x, az_x, az_x, az_x, az_x, az_x, az_x, az_x, az_x, az_x, az_x, az_x], [(0, 4294967295), (2147483649, 2147483708), (0, 4294967295), (0, 4294967295), (0, 4294967295), (0, 4294967295), (2147483653, 2147483653), (2147483654, 2147483654)], 0, 0)
def az_tp_l : ai_L := [(6, 57), (1, 1), (9, 0), (9, 0)]
def az_tp_w : ai_W := (99, [az_x, az_x, az_x, az_x, az_x, az_x, az_x, az_x, az_x, az_x, az_x, az_x, az_x, az_x, az_x, az_x, az_x, az_x, az_x, az_x, az_x, az_x, az_x, az_0, az_1, az_2, az_3, az_4, az_5, az_6, az_7, az_8, az_9, az_9, az_10, az_10, az_55, az_12, az_13, az_14, az_15, az_57, az_x, az_x, az_x, az_x, az_x, az_x, az_x, az_x, az_x, az_x, az_x, az_x, az_x, az_x, az_x, az_x, az_x, az_x, az_x, az_x, az_x, az_x, az_x, az_x, az_x, az_x, az_x, az_x, az_x, az_x, az_x, az_x, az_x, az_x, az_x, az_x, az_x, az_x, az_x, az_x, az_x, az_x, az_x, az_x, az_x, az_x, az_x, az_x, az_x, az_x, az_x, az_x, az_x, az_x, az_x, az_x, az_x], [(0, 4294967295), (2147483649, 2147483708), (0, 4294967295), (0, 4294967295), (0, 4294967295), (0, 4294967295), (2147483653, 2147483653), (2147483654, 2147483654)], 0, 0)
def az_tm : ai_Z := ([(6, 57), (1, 1)], [], 99, [az_x, az_x, az_x, az_x, az_x, az_x, az_x, az_x, az_x, az_x, az_x, az_x, az_x, az_x, az_x, az_x, az_x, az_x, az_x, az_x, az_x, az_x, az_x, az_0, az_1, az_2, az_3, az_4, az_5, az_6, az_7, az_8, az_9, az_9, az_10, az_10, az_55, az_12, az_13, az_14, az_15, az_57, az_x, az_x, az_x, az_x, az_x, az_x, az_x, az_x, az_x, az_x, az_x, az_x, az_x, az_x, az_x, az_x, az_x, az_x, az_x, az_x, az_x, az_x, az_x, az_x, az_x, az_x, az_x, az_x, az_x, az_x, az_x, az_x, az_x, az_x, az_x, az_x, az_x, az_x, az_x, az_x, az_x, az_x, az_x, az_x, az_x, az_x, az_x, az_x, az_x, az_x, az_x, az_x, az_x, az_x, az_x, az_x, az_x], [(0, 4294967295), (2147483649, 2147483708), (0, 4294967295), (0, 4294967295), (0, 4294967295), (0, 4294967295), (2147483653, 2147483653), (2147483654, 2147483654)], 0, 0)
def az_te_l : ai_L := [(6, 57), (1, 1)]
def az_te_w : ai_W := (99, [az_x, az_x, az_x, az_x, az_x, az_x, az_x, az_x, az_x, az_x, az_x, az_x, az_x, az_x, az_x, az_x, az_x, az_x, az_x, az_x, az_x, az_x, az_x, az_0, az_1, az_2, az_3, az_4, az_5, az_6, az_7, az_8, az_9, az_9, az_10, az_10, az_11, az_12, az_13, az_14, az_15, az_16, az_x, az_x, az_x, az_x, az_x, az_x, az_x, az_x, az_x, az_x, az_x, az_x, az_x, az_x, az_x, az_x, az_x, az_x, az_x, az_x, az_x, az_x, az_x, az_x, az_x, az_x, az_x, az_x, az_x, az_x, az_x, az_x, az_x, az_x, az_x, az_x, az_x, az_x, az_x, az_x, az_x, az_x, az_x, az_x, az_x, az_x, az_x, az_x, az_x, az_x, az_x, az_x, az_x, az_x, az_x, az_x, az_x], [(0, 4294967295), (2147483649, 2147483708), (0, 4294967295), (0, 4294967295), (0, 4294967295), (0, 4294967295), (2147483653, 2147483653), (2147483654, 2147483654)], 0, 0)
def az_c5_0 : ai_Z := ([(7, 45), (9, 0), (6, 57), (6, 75), (0, 0), (9, 0), (9, 0)], [(0, 4294967295)], 76, [az_0, az_1, az_2, az_3, az_4, az_5, az_6, az_7, az_8, az_9, az_9, az_10, az_10, az_11, az_12, az_13, az_14, az_15, az_16, az_x, az_x, az_x, az_x, az_x, az_x, az_x, az_x, az_x, az_x, az_x, az_x, az_x, az_x, az_x, az_x, az_x, az_x, az_x, az_x, az_x, az_x, az_x, az_x, az_x, az_x, az_x, az_x, az_x, az_x, az_x, az_x, az_x, az_x, az_x, az_x, az_x, az_x, az_x, az_x, az_x, az_x, az_x, az_x, az_x, az_x, az_x, az_x, az_x, az_x, az_x, az_x, az_x, az_x, az_x, az_x, az_x], [(0, 4294967295), (0, 2147483648), (0, 4294967295), (0, 4294967295), (0, 4294967295), (0, 4294967295), (2147483653, 2147483653), (2147483654, 2147483654)], 99, 47829)
def az_c5_1 : ai_Z := ([(7, 45), (9, 0), (6, 57), (6, 75), (0, 0), (9, 0), (9, 0)], [(0, 4294967295)], 76, [az_0, az_1, az_2, az_3, az_4, az_5, az_6, az_7, az_8, az_9, az_9, az_10, az_10, az_11, az_12, az_13, az_14, az_15, az_16, az_x, az_x, az_x, az_x, az_x, az_x, az_x, az_x, az_x, az_x, az_x, az_x, az_x, az_x, az_x, az_x, az_x, az_x, az_x, az_x, az_x, az_x, az_x, az_x, az_x, az_x, az_x, az_x, az_x, az_x, az_x, az_x, az_x, az_x, az_x, az_x, az_x, az_x, az_x, az_x, az_x, az_x, az_x, az_x, az_x, az_x, az_x, az_x, az_x, az_x, az_x, az_x, az_x, az_x, az_x, az_x, az_x], [(0, 4294967295), (2147483709, 4294967295), (0, 4294967295), (0, 4294967295), (0, 4294967295), (0, 4294967295), (2147483653, 2147483653), (2147483654, 2147483654)], 99, 47829)
def az_c5_x : ai_Z := ([(7, 45), (9, 0), (6, 57), (6, 75), (0, 0), (9, 0), (9, 0)], [(1, 1)], 99, [az_x, az_x, az_x, az_x, az_x, az_x, az_x, az_x, az_x, az_x, az_x, az_x, az_x, az_x, az_x, az_x, az_x, az_x, az_x, az_x, az_x, az_x, az_x, az_0, az_1, az_2, az_3, az_4, az_5, az_6, az_7, az_8, az_9, az_9, az_10, az_10, az_11, az_12, az_13, az_14, az_15, az_16, az_x, az_x, az_x, az_x, az_x, az_x, az_x, az_x, az_x, az_x, az_x, az_x, az_x, az_x, az_x, az_x, az_x, az_x, az_x, az_x, az_x, az_x, az_x, az_x, az_x, az_x, az_x, az_x, az_x, az_x, az_x, az_x, az_x, az_x, az_x, az_x, az_x, az_x, az_x, az_x, az_x, az_x, az_x, az_x, az_x, az_x, az_x, az_x, az_x, az_x, az_x, az_x, az_x, az_x, az_x, az_x, az_x], [(0, 4294967295), (2147483649, 2147483708), (0, 4294967295), (0, 4294967295), (0, 4294967295), (0, 4294967295), (2147483653, 2147483653), (2147483654, 2147483654)], 99, 47829)
def az_c5 : ai_Z := ([(7, 45), (6, 0), (6, 57), (6, 75), (0, 0), (9, 0), (9, 0)], [], 76, [az_0, az_1, az_2, az_3, az_4, az_5, az_6, az_7, az_8, az_9, az_9, az_10, az_10, az_11, az_12, az_13, az_14, az_15, az_16, az_9, az_17, az_17, az_18, az_19, az_20, az_17, az_21, az_22, az_22, az_23, az_24, az_22, az_22, az_25, az_26, az_22, az_27, az_28, az_29, az_30, az_31, az_32, az_33, az_34, az_35, az_36, az_9, az_17, az_17, az_18, az_19, az_37, az_17, az_38, az_22, az_22, az_39, az_40, az_22, az_22, az_41, az_42, az_22, az_43, az_44, az_29, az_30, az_45, az_46, az_47, az_47, az_48, az_49, az_50, az_51, az_52], [(0, 4294967295), (0, 4294967295), (0, 4294967295), (0, 4294967295), (0, 4294967295), (0, 4294967295), (2147483653, 2147483653), (2147483654, 2147483654)], 76, 45994)
theorem aG_tl7 : ai_go (ai_run 1000000) [] 1000 99 6 ai_M142 18 az_tl7 az_to7 = true := by decide +kernel
theorem aF_tl7 : ak_F 99 6 142 18 az_tl7 az_to7 := ak_cut (ak_all _) ak_t142 ak_ts0 aG_tl7
theorem aG_tl6 : ai_go (ai_run 1000000) [(18, az_tl7, az_to7)] 1000 99 6 ai_M142 18 az_tl6 az_to6 = true := by decide +kernel
theorem aF_tl6 : ak_F 99 6 142 18 az_tl6 az_to6 := ak_cut (ak_all _) ak_t142 (ak_ts1 aF_tl7 ak_ts0) aG_tl6
theorem aG_tl5 : ai_go (ai_run 1000000) [(18, az_tl6, az_to6)] 1000 99 6 ai_M142 18 az_tl5 az_to5 = true := by decide +kernel
theorem aF_tl5 : ak_F 99 6 142 18 az_tl5 az_to5 := ak_cut (ak_all _) ak_t142 (ak_ts1 aF_tl6 ak_ts0) aG_tl5
end
section
theorem aG_tl4 : ai_go (ai_run 1000000) [(18, az_tl5, az_to5)] 1000 99 6 ai_M142 18 az_tl4 az_to4 = true := by decide +kernel
theorem aF_tl4 : ak_F 99 6 142 18 az_tl4 az_to4 := ak_cut (ak_all _) ak_t142 (ak_ts1 aF_tl5 ak_ts0) aG_tl4
theorem aG_tl3 : ai_go (ai_run 1000000) [(18, az_tl4, az_to4)] 1000 99 6 ai_M142 18 az_tl3 az_to3 = true := by decide +kernel
theorem aF_tl3 : ak_F 99 6 142 18 az_tl3 az_to3 := ak_cut (ak_all _) ak_t142 (ak_ts1 aF_tl4 ak_ts0) aG_tl3
theorem aG_tl2 : ai_go (ai_run 1000000) [(18, az_tl3, az_to3)] 1000 99 6 ai_M142 18 az_tl2 az_to2 = true := by decide +kernel
theorem aF_tl2 : ak_F 99 6 142 18 az_tl2 az_to2 := ak_cut (ak_all _) ak_t142 (ak_ts1 aF_tl3 ak_ts0) aG_tl2
end
section
theorem aG_tl1 : ai_go (ai_run 1000000) [(18, az_tl2, az_to2)] 1000 99 6 ai_M142 18 az_tl1 az_to1 = true := by decide +kernel
theorem aF_tl1 : ak_F 99 6 142 18 az_tl1 az_to1 := ak_cut (ak_all _) ak_t142 (ak_ts1 aF_tl2 ak_ts0) aG_tl1
theorem aG_tl0 : ai_go (ai_run 1000000) [(18, az_tl1, az_to1)] 1000 99 6 ai_M142 18 az_tl0 az_to0 = true := by decide +kernel
theorem aF_tl0 : ak_F 99 6 142 18 az_tl0 az_to0 := ak_cut (ak_all _) ak_t142 (ak_ts1 aF_tl1 ak_ts0) aG_tl0
theorem aG_tp : ai_go (ai_run 1000000) [(18, az_tl0, az_to0)] 1000 99 6 ai_M142 0 (az_tp_l, [], az_tp_w) az_to0 = true := by decide +kernel
theorem aF_tp : ak_F 99 6 142 0 (az_tp_l, [], az_tp_w) az_to0 := ak_cut (ak_all _) ak_t142 (ak_ts1 aF_tl0 ak_ts0) aG_tp
end
section
theorem ak_k142_aF_tp : ∀ i, i < 182 → ak_kone (4, 0, 0, 20305) 142 i = true := by decide +kernel
theorem aG_tm : ai_go (ai_orc [((4, 0, 0, 20305), 6, az_tp_l, az_tp_w, az_to0)] (ai_run 1000000)) [] 1000 99 7 ai_M170 36 az_tm az_to0 = true := by decide +kernel
theorem aF_tm : ak_F 99 7 170 36 az_tm az_to0 := ak_cut (ai_orc_ok (ak_all _) (ak_us1 (ak_U_of ak_k142_aF_tp aF_tp) ak_us0)) ak_t170 ak_ts0 aG_tm
theorem aG_te : ai_go (ai_run 1000000) [(36, az_tm, az_to0)] 1000 99 7 ai_M170 0 (az_te_l, [], az_te_w) az_to0 = true := by decide +kernel
theorem aF_te : ak_F 99 7 170 0 (az_te_l, [], az_te_w) az_to0 := ak_cut (ak_all _) ak_t170 (ak_ts1 aF_tm ak_ts0) aG_te
theorem ak_k170_aF_te : ∀ i, i < 182 → ak_kone (2, 0, 0, 33377) 170 i = true := by decide +kernel
theorem aG_c5_0 : ai_go (ai_run 1000000) [] 1000 0 8 ai_M179 339 az_c5_0 az_o = true := by decide +kernel
theorem aF_c5_0 : ak_F 0 8 179 339 az_c5_0 az_o := ak_cut (ak_all _) ak_t179 ak_ts0 aG_c5_0
end
section
theorem aG_c5_1 : ai_go (ai_run 1000000) [] 1000 0 8 ai_M179 339 az_c5_1 az_o = true := by decide +kernel
theorem aF_c5_1 : ak_F 0 8 179 339 az_c5_1 az_o := ak_cut (ak_all _) ak_t179 ak_ts0 aG_c5_1
theorem aG_c5_x : ai_go (ai_orc [((2, 0, 0, 33377), 7, az_te_l, az_te_w, az_to0)] (ai_run 1000000)) [] 1000 0 8 ai_M179 339 az_c5_x az_o = true := by decide +kernel
theorem aF_c5_x : ak_F 0 8 179 339 az_c5_x az_o := ak_cut (ai_orc_ok (ak_all _) (ak_us1 (ak_U_of ak_k170_aF_te aF_te) ak_us0)) ak_t179 ak_ts0 aG_c5_x
theorem aG_c5 : ai_go (ai_run 1000000) [(339, az_c5_0, az_o), (339, az_c5_1, az_o), (339, az_c5_x, az_o)] 1000 0 8 ai_M179 329 az_c5 az_o = true := by decide +kernel
theorem aF_c5 : ak_F 0 8 179 329 az_c5 az_o := ak_cut (ak_all _) ak_t179 (ak_ts1 aF_c5_0 (ak_ts1 aF_c5_1 (ak_ts1 aF_c5_x ak_ts0))) aG_c5
end
section
def ai_M112 : ai_M := (3, ai_k112, 0, 0)
theorem ak_t112 : ai_tab[112]? = some ai_M112 := rfl
def ai_M111 : ai_M := (5, ai_k111, 0, 0)
theorem ak_t111 : ai_tab[111]? = some ai_M111 := rfl
def az_64 : ai_C := (0, 11, (5, 0), [(14, (6, 59)), (0, (0, 0)), (1, (6, 58)), (2, (0, 0)), (3, (0, 0)), (4, (0, 0)), (5, (0, 0)), (6, (0, 0)), (7, (0, 0)), (8, (0, 0)), (9, (0, 0)), (10, (0, 0)), (11, (0, 0)), (12, (3, 0)), (13, (0, 0)), (15, (6, 60)), (16, (6, 61)), (17, (6, 62)), (18, (6, 63)), (19, (6, 64)), (20, (6, 65)), (21, (6, 66)), (22, (6, 67)), (23, (6, 68)), (24, (6, 69)), (25, (0, 1)), (26, (6, 70)), (27, (6, 71)), (28, (0, 0)), (29, (2, 0)), (30, (6, 72)), (31, (6, 73)), (32, (0, 0)), (33, (0, 0)), (34, (6, 74)), (35, (0, 0)), (36, (0, 0)), (37, (0, 0)), (38, (0, 0))])
def az_65 : ai_C := (0, 11, (5, 0), [(14, (6, 59)), (0, (0, 0)), (1, (6, 58)), (2, (0, 0)), (3, (0, 0)), (4, (0, 0)), (5, (0, 0)), (6, (0, 0)), (7, (0, 0)), (8, (0, 0)), (9, (0, 0)), (10, (0, 0)), (11, (0, 0)), (12, (3, 0)), (13, (0, 0)), (15, (6, 60)), (16, (6, 61)), (17, (6, 62)), (18, (6, 63)), (19, (6, 64)), (20, (6, 65)), (21, (6, 66)), (22, (6, 67)), (23, (6, 68)), (24, (6, 69)), (25, (0, 1)), (26, (6, 70)), (27, (6, 71)), (28, (0, 0)), (29, (1, 2)), (30, (6, 72)), (31, (6, 73)), (32, (0, 0)), (33, (0, 0)), (34, (6, 74)), (35, (0, 0)), (36, (0, 0)), (37, (0, 0)), (38, (0, 0))])
def az_do7 : List ai_O := (some (0, 56), 99, (az_dd 99), [(0, 4294967295), (2147483704, 2147483704), (0, 4294967295), (0, 4294967295), (0, 4294967295), (0, 4294967295), (2147483673, 2147483673), (2147483654, 2147483654)]) :: (some (0, 57), 99, (az_dd 99), [(0, 4294967295), (2147483705, 2147483705), (0, 4294967295), (0, 4294967295), (0, 4294967295), (0, 4294967295), (2147483673, 2147483673), (2147483654, 2147483654)]) :: (some (0, 58), 99, (az_dd 99), [(0, 4294967295), (2147483706, 2147483706), (0, 4294967295), (0, 4294967295), (0, 4294967295), (0, 4294967295), (2147483673, 2147483673), (2147483654, 2147483654)]) :: (some (0, 59), 99, (az_dd 99), [(0, 4294967295), (2147483707, 2147483707), (0, 4294967295), (0, 4294967295), (0, 4294967295), (0, 4294967295), (2147483673, 2147483673), (2147483654, 2147483654)]) :: (some (0, 60), 99, (az_dd 99), [(0, 4294967295), (2147483708, 2147483708), (0, 4294967295), (0, 4294967295), (0, 4294967295), (0, 4294967295), (2147483673, 2147483673), (2147483654, 2147483654)]) :: []
def az_do6 : List ai_O := (some (0, 48), 99, (az_dd 99), [(0, 4294967295), (2147483696, 2147483696), (0, 4294967295), (0, 4294967295), (0, 4294967295), (0, 4294967295), (2147483673, 2147483673), (2147483654, 2147483654)]) :: (some (0, 49), 99, (az_dd 99), [(0, 4294967295), (2147483697, 2147483697), (0, 4294967295), (0, 4294967295), (0, 4294967295), (0, 4294967295), (2147483673, 2147483673), (2147483654, 2147483654)]) :: (some (0, 50), 99, (az_dd 99), [(0, 4294967295), (2147483698, 2147483698), (0, 4294967295), (0, 4294967295), (0, 4294967295), (0, 4294967295), (2147483673, 2147483673), (2147483654, 2147483654)]) :: (some (0, 51), 99, (az_dd 99), [(0, 4294967295), (2147483699, 2147483699), (0, 4294967295), (0, 4294967295), (0, 4294967295), (0, 4294967295), (2147483673, 2147483673), (2147483654, 2147483654)]) :: (some (0, 52), 99, (az_dd 99), [(0, 4294967295), (2147483700, 2147483700), (0, 4294967295), (0, 4294967295), (0, 4294967295), (0, 4294967295), (2147483673, 2147483673), (2147483654, 2147483654)]) :: (some (0, 53), 99, (az_dd 99), [(0, 4294967295), (2147483701, 2147483701), (0, 4294967295), (0, 4294967295), (0, 4294967295), (0, 4294967295), (2147483673, 2147483673), (2147483654, 2147483654)]) :: (some (0, 54), 99, (az_dd 99), [(0, 4294967295), (2147483702, 2147483702), (0, 4294967295), (0, 4294967295), (0, 4294967295), (0, 4294967295), (2147483673, 2147483673), (2147483654, 2147483654)]) :: (some (0, 55), 99, (az_dd 99), [(0, 4294967295), (2147483703, 2147483703), (0, 4294967295), (0, 4294967295), (0, 4294967295), (0, 4294967295), (2147483673, 2147483673), (2147483654, 2147483654)]) :: az_do7
def az_do5 : List ai_O := (some (0, 40), 99, (az_dd 99), [(0, 4294967295), (2147483688, 2147483688), (0, 4294967295), (0, 4294967295), (0, 4294967295), (0, 4294967295), (2147483673, 2147483673), (2147483654, 2147483654)]) :: (some (0, 41), 99, (az_dd 99), [(0, 4294967295), (2147483689, 2147483689), (0, 4294967295), (0, 4294967295), (0, 4294967295), (0, 4294967295), (2147483673, 2147483673), (2147483654, 2147483654)]) :: (some (0, 42), 99, (az_dd 99), [(0, 4294967295), (2147483690, 2147483690), (0, 4294967295), (0, 4294967295), (0, 4294967295), (0, 4294967295), (2147483673, 2147483673), (2147483654, 2147483654)]) :: (some (0, 43), 99, (az_dd 99), [(0, 4294967295), (2147483691, 2147483691), (0, 4294967295), (0, 4294967295), (0, 4294967295), (0, 4294967295), (2147483673, 2147483673), (2147483654, 2147483654)]) :: (some (0, 44), 99, (az_dd 99), [(0, 4294967295), (2147483692, 2147483692), (0, 4294967295), (0, 4294967295), (0, 4294967295), (0, 4294967295), (2147483673, 2147483673), (2147483654, 2147483654)]) :: (some (0, 45), 99, (az_dd 99), [(0, 4294967295), (2147483693, 2147483693), (0, 4294967295), (0, 4294967295), (0, 4294967295), (0, 4294967295), (2147483673, 2147483673), (2147483654, 2147483654)]) :: (some (0, 46), 99, (az_dd 99), [(0, 4294967295), (2147483694, 2147483694), (0, 4294967295), (0, 4294967295), (0, 4294967295), (0, 4294967295), (2147483673, 2147483673), (2147483654, 2147483654)]) :: (some (0, 47), 99, (az_dd 99), [(0, 4294967295), (2147483695, 2147483695), (0, 4294967295), (0, 4294967295), (0, 4294967295), (0, 4294967295), (2147483673, 2147483673), (2147483654, 2147483654)]) :: az_do6
def az_do4 : List ai_O := (some (0, 32), 99, (az_dd 99), [(0, 4294967295), (2147483680, 2147483680), (0, 4294967295), (0, 4294967295), (0, 4294967295), (0, 4294967295), (2147483673, 2147483673), (2147483654, 2147483654)]) :: (some (0, 33), 99, (az_dd 99), [(0, 4294967295), (2147483681, 2147483681), (0, 4294967295), (0, 4294967295), (0, 4294967295), (0, 4294967295), (2147483673, 2147483673), (2147483654, 2147483654)]) :: (some (0, 34), 99, (az_dd 99), [(0, 4294967295), (2147483682, 2147483682), (0, 4294967295), (0, 4294967295), (0, 4294967295), (0, 4294967295), (2147483673, 2147483673), (2147483654, 2147483654)]) :: (some (0, 35), 99, (az_dd 99), [(0, 4294967295), (2147483683, 2147483683), (0, 4294967295), (0, 4294967295), (0, 4294967295), (0, 4294967295), (2147483673, 2147483673), (2147483654, 2147483654)]) :: (some (0, 36), 99, (az_dd 99), [(0, 4294967295), (2147483684, 2147483684), (0, 4294967295), (0, 4294967295), (0, 4294967295), (0, 4294967295), (2147483673, 2147483673), (2147483654, 2147483654)]) :: (some (0, 37), 99, (az_dd 99), [(0, 4294967295), (2147483685, 2147483685), (0, 4294967295), (0, 4294967295), (0, 4294967295), (0, 4294967295), (2147483673, 2147483673), (2147483654, 2147483654)]) :: (some (0, 38), 99, (az_dd 99), [(0, 4294967295), (2147483686, 2147483686), (0, 4294967295), (0, 4294967295), (0, 4294967295), (0, 4294967295), (2147483673, 2147483673), (2147483654, 2147483654)]) :: (some (0, 39), 99, (az_dd 99), [(0, 4294967295), (2147483687, 2147483687), (0, 4294967295), (0, 4294967295), (0, 4294967295), (0, 4294967295), (2147483673, 2147483673), (2147483654, 2147483654)]) :: az_do5
def az_do3 : List ai_O := (some (0, 24), 99, (az_dd 99), [(0, 4294967295), (2147483672, 2147483672), (0, 4294967295), (0, 4294967295), (0, 4294967295), (0, 4294967295), (2147483673, 2147483673), (2147483654, 2147483654)]) :: (some (0, 25), 99, (az_dd 99), [(0, 4294967295), (2147483673, 2147483673), (0, 4294967295), (0, 4294967295), (0, 4294967295), (0, 4294967295), (2147483673, 2147483673), (2147483654, 2147483654)]) :: (some (0, 26), 99, (az_dd 99), [(0, 4294967295), (2147483674, 2147483674), (0, 4294967295), (0, 4294967295), (0, 4294967295), (0, 4294967295), (2147483673, 2147483673), (2147483654, 2147483654)]) :: (some (0, 27), 99, (az_dd 99), [(0, 4294967295), (2147483675, 2147483675), (0, 4294967295), (0, 4294967295), (0, 4294967295), (0, 4294967295), (2147483673, 2147483673), (2147483654, 2147483654)]) :: (some (0, 28), 99, (az_dd 99), [(0, 4294967295), (2147483676, 2147483676), (0, 4294967295), (0, 4294967295), (0, 4294967295), (0, 4294967295), (2147483673, 2147483673), (2147483654, 2147483654)]) :: (some (0, 29), 99, (az_dd 99), [(0, 4294967295), (2147483677, 2147483677), (0, 4294967295), (0, 4294967295), (0, 4294967295), (0, 4294967295), (2147483673, 2147483673), (2147483654, 2147483654)]) :: (some (0, 30), 99, (az_dd 99), [(0, 4294967295), (2147483678, 2147483678), (0, 4294967295), (0, 4294967295), (0, 4294967295), (0, 4294967295), (2147483673, 2147483673), (2147483654, 2147483654)]) :: (some (0, 31), 99, (az_dd 99), [(0, 4294967295), (2147483679, 2147483679), (0, 4294967295), (0, 4294967295), (0, 4294967295), (0, 4294967295), (2147483673, 2147483673), (2147483654, 2147483654)]) :: az_do4
def az_do2 : List ai_O := (some (0, 16), 99, (az_dd 99), [(0, 4294967295), (2147483664, 2147483664), (0, 4294967295), (0, 4294967295), (0, 4294967295), (0, 4294967295), (2147483673, 2147483673), (2147483654, 2147483654)]) :: (some (0, 17), 99, (az_dd 99), [(0, 4294967295), (2147483665, 2147483665), (0, 4294967295), (0, 4294967295), (0, 4294967295), (0, 4294967295), (2147483673, 2147483673), (2147483654, 2147483654)]) :: (some (0, 18), 99, (az_dd 99), [(0, 4294967295), (2147483666, 2147483666), (0, 4294967295), (0, 4294967295), (0, 4294967295), (0, 4294967295), (2147483673, 2147483673), (2147483654, 2147483654)]) :: (some (0, 19), 99, (az_dd 99), [(0, 4294967295), (2147483667, 2147483667), (0, 4294967295), (0, 4294967295), (0, 4294967295), (0, 4294967295), (2147483673, 2147483673), (2147483654, 2147483654)]) :: (some (0, 20), 99, (az_dd 99), [(0, 4294967295), (2147483668, 2147483668), (0, 4294967295), (0, 4294967295), (0, 4294967295), (0, 4294967295), (2147483673, 2147483673), (2147483654, 2147483654)]) :: (some (0, 21), 99, (az_dd 99), [(0, 4294967295), (2147483669, 2147483669), (0, 4294967295), (0, 4294967295), (0, 4294967295), (0, 4294967295), (2147483673, 2147483673), (2147483654, 2147483654)]) :: (some (0, 22), 99, (az_dd 99), [(0, 4294967295), (2147483670, 2147483670), (0, 4294967295), (0, 4294967295), (0, 4294967295), (0, 4294967295), (2147483673, 2147483673), (2147483654, 2147483654)]) :: (some (0, 23), 99, (az_dd 99), [(0, 4294967295), (2147483671, 2147483671), (0, 4294967295), (0, 4294967295), (0, 4294967295), (0, 4294967295), (2147483673, 2147483673), (2147483654, 2147483654)]) :: az_do3
def az_do1 : List ai_O := (some (0, 8), 99, (az_dd 99), [(0, 4294967295), (2147483656, 2147483656), (0, 4294967295), (0, 4294967295), (0, 4294967295), (0, 4294967295), (2147483673, 2147483673), (2147483654, 2147483654)]) :: (some (0, 9), 99, (az_dd 99), [(0, 4294967295), (2147483657, 2147483657), (0, 4294967295), (0, 4294967295), (0, 4294967295), (0, 4294967295), (2147483673, 2147483673), (2147483654, 2147483654)]) :: (some (0, 10), 99, (az_dd 99), [(0, 4294967295), (2147483658, 2147483658), (0, 4294967295), (0, 4294967295), (0, 4294967295), (0, 4294967295), (2147483673, 2147483673), (2147483654, 2147483654)]) :: (some (0, 11), 99, (az_dd 99), [(0, 4294967295), (2147483659, 2147483659), (0, 4294967295), (0, 4294967295), (0, 4294967295), (0, 4294967295), (2147483673, 2147483673), (2147483654, 2147483654)]) :: (some (0, 12), 99, (az_dd 99), [(0, 4294967295), (2147483660, 2147483660), (0, 4294967295), (0, 4294967295), (0, 4294967295), (0, 4294967295), (2147483673, 2147483673), (2147483654, 2147483654)]) :: (some (0, 13), 99, (az_dd 99), [(0, 4294967295), (2147483661, 2147483661), (0, 4294967295), (0, 4294967295), (0, 4294967295), (0, 4294967295), (2147483673, 2147483673), (2147483654, 2147483654)]) :: (some (0, 14), 99, (az_dd 99), [(0, 4294967295), (2147483662, 2147483662), (0, 4294967295), (0, 4294967295), (0, 4294967295), (0, 4294967295), (2147483673, 2147483673), (2147483654, 2147483654)]) :: (some (0, 15), 99, (az_dd 99), [(0, 4294967295), (2147483663, 2147483663), (0, 4294967295), (0, 4294967295), (0, 4294967295), (0, 4294967295), (2147483673, 2147483673), (2147483654, 2147483654)]) :: az_do2
def az_do0 : List ai_O := (some (0, 1), 99, (az_dd 99), [(0, 4294967295), (2147483649, 2147483649), (0, 4294967295), (0, 4294967295), (0, 4294967295), (0, 4294967295), (2147483673, 2147483673), (2147483654, 2147483654)]) :: (some (0, 2), 99, (az_dd 99), [(0, 4294967295), (2147483650, 2147483650), (0, 4294967295), (0, 4294967295), (0, 4294967295), (0, 4294967295), (2147483673, 2147483673), (2147483654, 2147483654)]) :: (some (0, 3), 99, (az_dd 99), [(0, 4294967295), (2147483651, 2147483651), (0, 4294967295), (0, 4294967295), (0, 4294967295), (0, 4294967295), (2147483673, 2147483673), (2147483654, 2147483654)]) :: (some (0, 4), 99, (az_dd 99), [(0, 4294967295), (2147483652, 2147483652), (0, 4294967295), (0, 4294967295), (0, 4294967295), (0, 4294967295), (2147483673, 2147483673), (2147483654, 2147483654)]) :: (some (0, 5), 99, (az_dd 99), [(0, 4294967295), (2147483653, 2147483653), (0, 4294967295), (0, 4294967295), (0, 4294967295), (0, 4294967295), (2147483673, 2147483673), (2147483654, 2147483654)]) :: (some (0, 6), 99, (az_dd 99), [(0, 4294967295), (2147483654, 2147483654), (0, 4294967295), (0, 4294967295), (0, 4294967295), (0, 4294967295), (2147483673, 2147483673), (2147483654, 2147483654)]) :: (some (0, 7), 99, (az_dd 99), [(0, 4294967295), (2147483655, 2147483655), (0, 4294967295), (0, 4294967295), (0, 4294967295), (0, 4294967295), (2147483673, 2147483673), (2147483654, 2147483654)]) :: az_do1
def az_dl7 : ai_Z := ([(6, 57), (1, 1), (1, 2), (1, 1), (0, 56)], [], 99, [az_x, az_x, az_x, az_x, az_x, az_x, az_x, az_x, az_x, az_x, az_x, az_x, az_x, az_x, az_x, az_x, az_x, az_x, az_x, az_x, az_x, az_x, az_x, az_0, az_1, az_2, az_3, az_4, az_5, az_6, az_7, az_8, az_9, az_9, az_10, az_10, az_55, az_12, az_13, az_56, az_15, az_64, az_x, az_x, az_x, az_x, az_x, az_x, az_x, az_x, az_x, az_x, az_x, az_x, az_x, az_x, az_x, az_x, az_x, az_x, az_x, az_x, az_x, az_x, az_x, az_x, az_x, az_x, az_x, az_x, az_x, az_x, az_x, az_x, az_x, az_x, az_x, az_x, az_x, az_x, az_x, az_x, az_x, az_x, az_x, az_x, az_x, az_x, az_x, az_x, az_x, az_x, az_x, az_x, az_x, az_x, az_x, az_x, az_x], [(0, 4294967295), (2147483704, 2147483708), (0, 4294967295), (0, 4294967295), (0, 4294967295), (0, 4294967295), (2147483673, 2147483673), (2147483654, 2147483654)], 0, 0)
def az_dl6 : ai_Z := ([(6, 57), (1, 1), (1, 2), (1, 1), (0, 48)], [], 99, [az_x, az_x, az_x, az_x, az_x, az_x, az_x, az_x, az_x, az_x, az_x, az_x, az_x, az_x, az_x, az_x, az_x, az_x, az_x, az_x, az_x, az_x, az_x, az_0, az_1, az_2, az_3, az_4, az_5, az_6, az_7, az_8, az_9, az_9, az_10, az_10, az_55, az_12, az_13, az_58, az_15, az_64, az_x, az_x, az_x, az_x, az_x, az_x, az_x, az_x, az_x, az_x, az_x, az_x, az_x, az_x, az_x, az_x, az_x, az_x, az_x, az_x, az_x, az_x, az_x, az_x, az_x, az_x, az_x, az_x, az_x, az_x, az_x, az_x, az_x, az_x, az_x, az_x, az_x, az_x, az_x, az_x, az_x, az_x, az_x, az_x, az_x, az_x, az_x, az_x, az_x, az_x, az_x, az_x, az_x, az_x, az_x, az_x, az_x], [(0, 4294967295), (2147483696, 2147483708), (0, 4294967295), (0, 4294967295), (0, 4294967295), (0, 4294967295), (2147483673, 2147483673), (2147483654, 2147483654)], 0, 0)
def az_dl5 : ai_Z := ([(6, 57), (1, 1), (1, 2), (1, 1), (0, 40)], [], 99, [az_x, az_x, az_x, az_x, az_x, az_x, az_x, az_x, az_x, az_x, az_x, az_x, az_x, az_x, az_x, az_x, az_x, az_x, az_x, az_x, az_x, az_x, az_x, az_0, az_1, az_2, az_3, az_4, az_5, az_6, az_7, az_8, az_9, az_9, az_10, az_10, az_55, az_12, az_13, az_59, az_15, az_64, az_x, az_x, az_x, az_x, az_x, az_x, az_x, az_x, az_x, az_x, az_x, az_x, az_x, az_x, az_x, az_x, az_x, az_x, az_x, az_x, az_x, az_x, az_x, az_x, az_x, az_x, az_x, az_x, az_x, az_x, az_x, az_x, az_x, az_x, az_x, az_x, az_x, az_x, az_x, az_x, az_x, az_x, az_x, az_x, az_x, az_x, az_x, az_x, az_x, az_x, az_x, az_x, az_x, az_x, az_x, az_x, az_x], [(0, 4294967295), (2147483688, 2147483708), (0, 4294967295), (0, 4294967295), (0, 4294967295), (0, 4294967295), (2147483673, 2147483673), (2147483654, 2147483654)], 0, 0)
def az_dl4 : ai_Z := ([(6, 57), (1, 1), (1, 2), (1, 1), (0, 32)], [], 99, [az_x, az_x, az_x, az_x, az_x, az_x, az_x, az_x, az_x, az_x, az_x, az_x, az_x, az_x, az_x, az_x, az_x, az_x, az_x, az_x, az_x, az_x, az_x, az_0, az_1, az_2, az_3, az_4, az_5, az_6, az_7, az_8, az_9, az_9, az_10, az_10, az_55, az_12, az_13, az_60, az_15, az_64, az_x, az_x, az_x, az_x, az_x, az_x, az_x, az_x, az_x, az_x, az_x, az_x, az_x, az_x, az_x, az_x, az_x, az_x, az_x, az_x, az_x, az_x, az_x, az_x, az_x, az_x, az_x, az_x, az_x, az_x, az_x, az_x, az_x, az_x, az_x, az_x, az_x, az_x, az_x, az_x, az_x, az_x, az_x, az_x, az_x, az_x, az_x, az_x, az_x, az_x, az_x, az_x, az_x, az_x, az_x, az_x, az_x], [(0, 4294967295), (2147483680, 2147483708), (0, 4294967295), (0, 4294967295), (0, 4294967295), (0, 4294967295), (2147483673, 2147483673), (2147483654, 2147483654)], 0, 0)
def az_dl3 : ai_Z := ([(6, 57), (1, 1), (1, 2), (1, 1), (0, 24)], [], 99, [az_x, az_x, az_x, az_x, az_x, az_x, az_x, az_x, az_x, az_x, az_x, az_x, az_x, az_x, az_x, az_x, az_x, az_x, az_x, az_x, az_x, az_x, az_x, az_0, az_1, az_2, az_3, az_4, az_5, az_6, az_7, az_8, az_9, az_9, az_10, az_10, az_55, az_12, az_13, az_61, az_15, az_64, az_x, az_x, az_x, az_x, az_x, az_x, az_x, az_x, az_x, az_x, az_x, az_x, az_x, az_x, az_x, az_x, az_x, az_x, az_x, az_x, az_x, az_x, az_x, az_x, az_x, az_x, az_x, az_x, az_x, az_x, az_x, az_x, az_x, az_x, az_x, az_x, az_x, az_x, az_x, az_x, az_x, az_x, az_x, az_x, az_x, az_x, az_x, az_x, az_x, az_x, az_x, az_x, az_x, az_x, az_x, az_x, az_x], [(0, 4294967295), (2147483672, 2147483708), (0, 4294967295), (0, 4294967295), (0, 4294967295), (0, 4294967295), (2147483673, 2147483673), (2147483654, 2147483654)], 0, 0)
def az_dl2 : ai_Z := ([(6, 57), (1, 1), (1, 2), (1, 1), (0, 16)], [], 99, [az_x, az_x, az_x, az_x, az_x, az_x, az_x, az_x, az_x, az_x, az_x, az_x, az_x, az_x, az_x, az_x, az_x, az_x, az_x, az_x, az_x, az_x, az_x, az_0, az_1, az_2, az_3, az_4, az_5, az_6, az_7, az_8, az_9, az_9, az_10, az_10, az_55, az_12, az_13, az_62, az_15, az_64, az_x, az_x, az_x, az_x, az_x, az_x, az_x, az_x, az_x, az_x, az_x, az_x, az_x, az_x, az_x, az_x, az_x, az_x, az_x, az_x, az_x, az_x, az_x, az_x, az_x, az_x, az_x, az_x, az_x, az_x, az_x, az_x, az_x, az_x, az_x, az_x, az_x, az_x, az_x, az_x, az_x, az_x, az_x, az_x, az_x, az_x, az_x, az_x, az_x, az_x, az_x, az_x, az_x, az_x, az_x, az_x, az_x], [(0, 4294967295), (2147483664, 2147483708), (0, 4294967295), (0, 4294967295), (0, 4294967295), (0, 4294967295), (2147483673, 2147483673), (2147483654, 2147483654)], 0, 0)
def az_dl1 : ai_Z := ([(6, 57), (1, 1), (1, 2), (1, 1), (0, 8)], [], 99, [az_x, az_x, az_x, az_x, az_x, az_x, az_x, az_x, az_x, az_x, az_x, az_x, az_x, az_x, az_x, az_x, az_x, az_x, az_x, az_x, az_x, az_x, az_x, az_0, az_1, az_2, az_3, az_4, az_5, az_6, az_7, az_8, az_9, az_9, az_10, az_10, az_55, az_12, az_13, az_63, az_15, az_64, az_x, az_x, az_x, az_x, az_x, az_x, az_x, az_x, az_x, az_x, az_x, az_x, az_x, az_x, az_x, az_x, az_x, az_x, az_x, az_x, az_x, az_x, az_x, az_x, az_x, az_x, az_x, az_x, az_x, az_x, az_x, az_x, az_x, az_x, az_x, az_x, az_x, az_x, az_x, az_x, az_x, az_x, az_x, az_x, az_x, az_x, az_x, az_x, az_x, az_x, az_x, az_x, az_x, az_x, az_x, az_x, az_x], [(0, 4294967295), (2147483656, 2147483708), (0, 4294967295), (0, 4294967295), (0, 4294967295), (0, 4294967295), (2147483673, 2147483673), (2147483654, 2147483654)], 0, 0)
def az_dl0 : ai_Z := ([(6, 57), (1, 1), (1, 2), (1, 1), (0, 0)], [], 99, [az_x, az_x, az_x, az_x, az_x, az_x, az_x, az_x, az_x, az_x, az_x, az_x, az_x, az_x, az_x, az_x, az_x, az_x, az_x, az_x, az_x, az_x, az_x, az_0, az_1, az_2, az_3, az_4, az_5, az_6, az_7, az_8, az_9, az_9, az_10, az_10, az_55, az_12, az_13, az_14, az_15, az_65, az_x, az_x, az_x, az_x, az_x, az_x, az_x, az_x, az_x, az_x, az_x, az_x, az_x, az_x, az_x, az_x, az_x, az_x, az_x, az_x, az_x, az_x, az_x, az_x, az_x, az_x, az_x, az_x, az_x, az_x, az_x, az_x, az_x, az_x, az_x, az_x, az_x, az_x, az_x, az_x, az_x, az_x, az_x, az_x, az_x, az_x, az_x, az_x, az_x, az_x, az_x, az_x, az_x, az_x, az_x, az_x, az_x], [(0, 4294967295), (2147483649, 2147483708), (0, 4294967295), (0, 4294967295), (0, 4294967295), (0, 4294967295), (2147483673, 2147483673), (2147483654, 2147483654)], 0, 0)
def az_dp_l : ai_L := [(6, 57), (1, 1), (1, 2), (9, 0), (9, 0)]
def az_dp_w : ai_W := (99, [az_x, az_x, az_x, az_x, az_x, az_x, az_x, az_x, az_x, az_x, az_x, az_x, az_x, az_x, az_x, az_x, az_x, az_x, az_x, az_x, az_x, az_x, az_x, az_0, az_1, az_2, az_3, az_4, az_5, az_6, az_7, az_8, az_9, az_9, az_10, az_10, az_55, az_12, az_13, az_14, az_15, az_57, az_x, az_x, az_x, az_x, az_x, az_x, az_x, az_x, az_x, az_x, az_x, az_x, az_x, az_x, az_x, az_x, az_x, az_x, az_x, az_x, az_x, az_x, az_x, az_x, az_x, az_x, az_x, az_x, az_x, az_x, az_x, az_x, az_x, az_x, az_x, az_x, az_x, az_x, az_x, az_x, az_x, az_x, az_x, az_x, az_x, az_x, az_x, az_x, az_x, az_x, az_x, az_x, az_x, az_x, az_x, az_x, az_x], [(0, 4294967295), (2147483649, 2147483708), (0, 4294967295), (0, 4294967295), (0, 4294967295), (0, 4294967295), (2147483673, 2147483673), (2147483654, 2147483654)], 0, 0)
def az_dm : ai_Z := ([(6, 57), (1, 1), (1, 2)], [], 99, [az_x, az_x, az_x, az_x, az_x, az_x, az_x, az_x, az_x, az_x, az_x, az_x, az_x, az_x, az_x, az_x, az_x, az_x, az_x, az_x, az_x, az_x, az_x, az_0, az_1, az_2, az_3, az_4, az_5, az_6, az_7, az_8, az_9, az_9, az_10, az_10, az_55, az_12, az_13, az_14, az_15, az_57, az_x, az_x, az_x, az_x, az_x, az_x, az_x, az_x, az_x, az_x, az_x, az_x, az_x, az_x, az_x, az_x, az_x, az_x, az_x, az_x, az_x, az_x, az_x, az_x, az_x, az_x, az_x, az_x, az_x, az_x, az_x, az_x, az_x, az_x, az_x, az_x, az_x, az_x, az_x, az_x, az_x, az_x, az_x, az_x, az_x, az_x, az_x, az_x, az_x, az_x, az_x, az_x, az_x, az_x, az_x, az_x, az_x], [(0, 4294967295), (2147483649, 2147483708), (0, 4294967295), (0, 4294967295), (0, 4294967295), (0, 4294967295), (2147483673, 2147483673), (2147483654, 2147483654)], 0, 0)
def az_de_l : ai_L := [(6, 57), (1, 1), (1, 2)]
def az_de_w : ai_W := (99, [az_x, az_x, az_x, az_x, az_x, az_x, az_x, az_x, az_x, az_x, az_x, az_x, az_x, az_x, az_x, az_x, az_x, az_x, az_x, az_x, az_x, az_x, az_x, az_0, az_1, az_2, az_3, az_4, az_5, az_6, az_7, az_8, az_9, az_9, az_10, az_10, az_11, az_12, az_13, az_14, az_15, az_16, az_x, az_x, az_x, az_x, az_x, az_x, az_x, az_x, az_x, az_x, az_x, az_x, az_x, az_x, az_x, az_x, az_x, az_x, az_x, az_x, az_x, az_x, az_x, az_x, az_x, az_x, az_x, az_x, az_x, az_x, az_x, az_x, az_x, az_x, az_x, az_x, az_x, az_x, az_x, az_x, az_x, az_x, az_x, az_x, az_x, az_x, az_x, az_x, az_x, az_x, az_x, az_x, az_x, az_x, az_x, az_x, az_x], [(0, 4294967295), (2147483649, 2147483708), (0, 4294967295), (0, 4294967295), (0, 4294967295), (0, 4294967295), (2147483673, 2147483673), (2147483654, 2147483654)], 0, 0)
def az_c25_0 : ai_Z := ([(7, 45), (9, 0), (6, 57), (6, 75), (0, 0), (9, 0), (9, 0)], [(0, 4294967295)], 76, [az_0, az_1, az_2, az_3, az_4, az_5, az_6, az_7, az_8, az_9, az_9, az_10, az_10, az_11, az_12, az_13, az_14, az_15, az_16, az_x, az_x, az_x, az_x, az_x, az_x, az_x, az_x, az_x, az_x, az_x, az_x, az_x, az_x, az_x, az_x, az_x, az_x, az_x, az_x, az_x, az_x, az_x, az_x, az_x, az_x, az_x, az_x, az_x, az_x, az_x, az_x, az_x, az_x, az_x, az_x, az_x, az_x, az_x, az_x, az_x, az_x, az_x, az_x, az_x, az_x, az_x, az_x, az_x, az_x, az_x, az_x, az_x, az_x, az_x, az_x, az_x], [(0, 4294967295), (0, 2147483648), (0, 4294967295), (0, 4294967295), (0, 4294967295), (0, 4294967295), (2147483673, 2147483673), (2147483654, 2147483654)], 99, 47829)
def az_c25_1 : ai_Z := ([(7, 45), (9, 0), (6, 57), (6, 75), (0, 0), (9, 0), (9, 0)], [(0, 4294967295)], 76, [az_0, az_1, az_2, az_3, az_4, az_5, az_6, az_7, az_8, az_9, az_9, az_10, az_10, az_11, az_12, az_13, az_14, az_15, az_16, az_x, az_x, az_x, az_x, az_x, az_x, az_x, az_x, az_x, az_x, az_x, az_x, az_x, az_x, az_x, az_x, az_x, az_x, az_x, az_x, az_x, az_x, az_x, az_x, az_x, az_x, az_x, az_x, az_x, az_x, az_x, az_x, az_x, az_x, az_x, az_x, az_x, az_x, az_x, az_x, az_x, az_x, az_x, az_x, az_x, az_x, az_x, az_x, az_x, az_x, az_x, az_x, az_x, az_x, az_x, az_x, az_x], [(0, 4294967295), (2147483709, 4294967295), (0, 4294967295), (0, 4294967295), (0, 4294967295), (0, 4294967295), (2147483673, 2147483673), (2147483654, 2147483654)], 99, 47829)
def az_c25_x : ai_Z := ([(7, 45), (9, 0), (6, 57), (6, 75), (0, 0), (9, 0), (9, 0)], [(1, 1)], 99, [az_x, az_x, az_x, az_x, az_x, az_x, az_x, az_x, az_x, az_x, az_x, az_x, az_x, az_x, az_x, az_x, az_x, az_x, az_x, az_x, az_x, az_x, az_x, az_0, az_1, az_2, az_3, az_4, az_5, az_6, az_7, az_8, az_9, az_9, az_10, az_10, az_11, az_12, az_13, az_14, az_15, az_16, az_x, az_x, az_x, az_x, az_x, az_x, az_x, az_x, az_x, az_x, az_x, az_x, az_x, az_x, az_x, az_x, az_x, az_x, az_x, az_x, az_x, az_x, az_x, az_x, az_x, az_x, az_x, az_x, az_x, az_x, az_x, az_x, az_x, az_x, az_x, az_x, az_x, az_x, az_x, az_x, az_x, az_x, az_x, az_x, az_x, az_x, az_x, az_x, az_x, az_x, az_x, az_x, az_x, az_x, az_x, az_x, az_x], [(0, 4294967295), (2147483649, 2147483708), (0, 4294967295), (0, 4294967295), (0, 4294967295), (0, 4294967295), (2147483673, 2147483673), (2147483654, 2147483654)], 99, 47829)
def az_c25 : ai_Z := ([(7, 45), (6, 0), (6, 57), (6, 75), (0, 0), (9, 0), (9, 0)], [], 76, [az_0, az_1, az_2, az_3, az_4, az_5, az_6, az_7, az_8, az_9, az_9, az_10, az_10, az_11, az_12, az_13, az_14, az_15, az_16, az_9, az_17, az_17, az_18, az_19, az_20, az_17, az_21, az_22, az_22, az_23, az_24, az_22, az_22, az_25, az_26, az_22, az_27, az_28, az_29, az_30, az_31, az_32, az_33, az_34, az_35, az_36, az_9, az_17, az_17, az_18, az_19, az_37, az_17, az_38, az_22, az_22, az_39, az_40, az_22, az_22, az_41, az_42, az_22, az_43, az_44, az_29, az_30, az_45, az_46, az_47, az_47, az_48, az_49, az_50, az_51, az_52], [(0, 4294967295), (0, 4294967295), (0, 4294967295), (0, 4294967295), (0, 4294967295), (0, 4294967295), (2147483673, 2147483673), (2147483654, 2147483654)], 76, 45994)
theorem aG_dl7 : ai_go (ai_run 1000000) [] 1000 99 6 ai_M111 24 az_dl7 az_do7 = true := by decide +kernel
theorem aF_dl7 : ak_F 99 6 111 24 az_dl7 az_do7 := ak_cut (ak_all _) ak_t111 ak_ts0 aG_dl7
theorem aG_dl6 : ai_go (ai_run 1000000) [(24, az_dl7, az_do7)] 1000 99 6 ai_M111 24 az_dl6 az_do6 = true := by decide +kernel
theorem aF_dl6 : ak_F 99 6 111 24 az_dl6 az_do6 := ak_cut (ak_all _) ak_t111 (ak_ts1 aF_dl7 ak_ts0) aG_dl6
theorem aG_dl5 : ai_go (ai_run 1000000) [(24, az_dl6, az_do6)] 1000 99 6 ai_M111 24 az_dl5 az_do5 = true := by decide +kernel
theorem aF_dl5 : ak_F 99 6 111 24 az_dl5 az_do5 := ak_cut (ak_all _) ak_t111 (ak_ts1 aF_dl6 ak_ts0) aG_dl5
end
section
theorem aG_dl4 : ai_go (ai_run 1000000) [(24, az_dl5, az_do5)] 1000 99 6 ai_M111 24 az_dl4 az_do4 = true := by decide +kernel
theorem aF_dl4 : ak_F 99 6 111 24 az_dl4 az_do4 := ak_cut (ak_all _) ak_t111 (ak_ts1 aF_dl5 ak_ts0) aG_dl4
theorem aG_dl3 : ai_go (ai_run 1000000) [(24, az_dl4, az_do4)] 1000 99 6 ai_M111 24 az_dl3 az_do3 = true := by decide +kernel
theorem aF_dl3 : ak_F 99 6 111 24 az_dl3 az_do3 := ak_cut (ak_all _) ak_t111 (ak_ts1 aF_dl4 ak_ts0) aG_dl3
theorem aG_dl2 : ai_go (ai_run 1000000) [(24, az_dl3, az_do3)] 1000 99 6 ai_M111 24 az_dl2 az_do2 = true := by decide +kernel
theorem aF_dl2 : ak_F 99 6 111 24 az_dl2 az_do2 := ak_cut (ak_all _) ak_t111 (ak_ts1 aF_dl3 ak_ts0) aG_dl2
end
section
theorem aG_dl1 : ai_go (ai_run 1000000) [(24, az_dl2, az_do2)] 1000 99 6 ai_M111 24 az_dl1 az_do1 = true := by decide +kernel
theorem aF_dl1 : ak_F 99 6 111 24 az_dl1 az_do1 := ak_cut (ak_all _) ak_t111 (ak_ts1 aF_dl2 ak_ts0) aG_dl1
theorem aG_dl0 : ai_go (ai_run 1000000) [(24, az_dl1, az_do1)] 1000 99 6 ai_M111 24 az_dl0 az_do0 = true := by decide +kernel
theorem aF_dl0 : ak_F 99 6 111 24 az_dl0 az_do0 := ak_cut (ak_all _) ak_t111 (ak_ts1 aF_dl1 ak_ts0) aG_dl0
theorem aG_dp : ai_go (ai_run 1000000) [(24, az_dl0, az_do0)] 1000 99 6 ai_M111 0 (az_dp_l, [], az_dp_w) az_do0 = true := by decide +kernel
theorem aF_dp : ak_F 99 6 111 0 (az_dp_l, [], az_dp_w) az_do0 := ak_cut (ak_all _) ak_t111 (ak_ts1 aF_dl0 ak_ts0) aG_dp
end
section
theorem ak_k111_aF_dp : ∀ i, i < 182 → ak_kone (5, 0, 0, 34526) 111 i = true := by decide +kernel
theorem aG_dm : ai_go (ai_orc [((5, 0, 0, 34526), 6, az_dp_l, az_dp_w, az_do0)] (ai_run 1000000)) [] 1000 99 7 ai_M112 36 az_dm az_do0 = true := by decide +kernel
theorem aF_dm : ak_F 99 7 112 36 az_dm az_do0 := ak_cut (ai_orc_ok (ak_all _) (ak_us1 (ak_U_of ak_k111_aF_dp aF_dp) ak_us0)) ak_t112 ak_ts0 aG_dm
theorem aG_de : ai_go (ai_run 1000000) [(36, az_dm, az_do0)] 1000 99 7 ai_M112 0 (az_de_l, [], az_de_w) az_do0 = true := by decide +kernel
theorem aF_de : ak_F 99 7 112 0 (az_de_l, [], az_de_w) az_do0 := ak_cut (ak_all _) ak_t112 (ak_ts1 aF_dm ak_ts0) aG_de
theorem ak_k112_aF_de : ∀ i, i < 182 → ak_kone (3, 0, 0, 34391) 112 i = true := by decide +kernel
theorem aG_c25_0 : ai_go (ai_run 1000000) [] 1000 0 8 ai_M179 907 az_c25_0 az_o = true := by decide +kernel
theorem aF_c25_0 : ak_F 0 8 179 907 az_c25_0 az_o := ak_cut (ak_all _) ak_t179 ak_ts0 aG_c25_0
end
section
theorem aG_c25_1 : ai_go (ai_run 1000000) [] 1000 0 8 ai_M179 907 az_c25_1 az_o = true := by decide +kernel
theorem aF_c25_1 : ak_F 0 8 179 907 az_c25_1 az_o := ak_cut (ak_all _) ak_t179 ak_ts0 aG_c25_1
theorem aG_c25_x : ai_go (ai_orc [((3, 0, 0, 34391), 7, az_de_l, az_de_w, az_do0)] (ai_run 1000000)) [] 1000 0 8 ai_M179 907 az_c25_x az_o = true := by decide +kernel
theorem aF_c25_x : ak_F 0 8 179 907 az_c25_x az_o := ak_cut (ai_orc_ok (ak_all _) (ak_us1 (ak_U_of ak_k112_aF_de aF_de) ak_us0)) ak_t179 ak_ts0 aG_c25_x
theorem aG_c25 : ai_go (ai_run 1000000) [(907, az_c25_0, az_o), (907, az_c25_1, az_o), (907, az_c25_x, az_o)] 1000 0 8 ai_M179 891 az_c25 az_o = true := by decide +kernel
theorem aF_c25 : ak_F 0 8 179 891 az_c25 az_o := ak_cut (ak_all _) ak_t179 (ak_ts1 aF_c25_0 (ak_ts1 aF_c25_1 (ak_ts1 aF_c25_x ak_ts0))) aG_c25
end
section
theorem aw_tg0 {G : ak_I → ak_Fr → Prop} {r d mid : Nat} : ∀ t ∈ ([] : List ai_T), ak_FG G r d mid t.1 t.2.1 t.2.2 := fun t h => by cases h
theorem aw_tg1 {G : ak_I → ak_Fr → Prop} {r d mid pc : Nat} {z : ai_Z} {o : List ai_O} {ts : List ai_T} (h : ak_FG G r d mid pc z o) (hs : ∀ t ∈ ts, ak_FG G r d mid t.1 t.2.1 t.2.2) : ∀ t ∈ ((pc, z, o) :: ts), ak_FG G r d mid t.1 t.2.1 t.2.2 := by
  intro t ht
  rcases List.mem_cons.mp ht with rfl | ht
  · exact h
  · exact hs t ht
theorem aw_loc {l a : List ai_V} (h : ∀ i, i < l.length → (l.getD i (9, 0)).1 ≤ 7 → a[i]? = some (l.getD i (9, 0))) (i : Nat) (v : ai_V) (hi : l[i]? = some v) (h7 : v.1 ≤ 7) : a[i]? = some v := by
  have h1 : i < l.length := (List.getElem?_eq_some_iff.mp hi).1
  have h2 : l.getD i (9, 0) = v := by rw [List.getD_eq_getElem?_getD, hi]; rfl
  have := h i h1
  rw [h2] at this
  exact this h7
theorem aw_env1 {ι : ak_I} {e0 : Nat × Nat} {lo hi : Nat} (m : Nat) {tl : ai_E} (h : ak_e ι (e0 :: (lo, hi) :: tl)) : ak_e ι (e0 :: (lo, m) :: tl) ∨ ak_e ι (e0 :: (m + 1, hi) :: tl) := by
  obtain ⟨b1, b2⟩ := h 1 (lo, hi) rfl
  by_cases hm : ak_b (ι.2.2.2.2.1 1) ≤ m
  · refine Or.inl (fun k q hq => ?_)
    match k with
    | 0 => exact h 0 q hq
    | 1 => cases hq; exact ⟨b1, hm⟩
    | k + 2 => exact h (k + 2) q hq
  · refine Or.inr (fun k q hq => ?_)
    match k with
    | 0 => exact h 0 q hq
    | 1 => cases hq; exact ⟨by show m + 1 ≤ _; omega, b2⟩
    | k + 2 => exact h (k + 2) q hq
theorem aw_or {G : ak_I → ak_Fr → Prop} {r d mid pc n nc ns : Nat} {l : ai_L} {stk : List ai_V} {h : ai_H} {e e1 e2 : ai_E} {ps : List ai_O} (hs : ∀ ι : ak_I, ak_e ι e → ak_e ι e1 ∨ ak_e ι e2) (h1 : ak_FG G r d mid pc (l, stk, n, h, e1, nc, ns) ps) (h2 : ak_FG G r d mid pc (l, stk, n, h, e2, nc, ns) ps) : ak_FG G r d mid pc (l, stk, n, h, e, nc, ns) ps := by
  intro M q hT hq ι p l e R s m args below meth c hG hn C Q hQ ws ls st H locs ⟨m1, m2, m3, m4, m5, m6, m7⟩
  rcases hs ι m7 with k | k
  · exact h1 M q hT hq ι p l e R s m args below meth c hG hn C Q hQ ws ls st H locs ⟨m1, m2, m3, m4, m5, m6, k⟩
  · exact h2 M q hT hq ι p l e R s m args below meth c hG hn C Q hQ ws ls st H locs ⟨m1, m2, m3, m4, m5, m6, k⟩
def ai_M41 : ai_M := (4, ai_k41, 1, 6)
theorem ak_t41 : ai_tab[41]? = some ai_M41 := rfl
def ai_M180 : ai_M := (5, ai_k180, 1, 6)
theorem ak_t180 : ai_tab[180]? = some ai_M180 := rfl
def ai_M33 : ai_M := (2, ai_k33, 1, 6)
theorem ak_t33 : ai_tab[33]? = some ai_M33 := rfl
def ai_M181 : ai_M := (4, ai_k181, 1, 6)
theorem ak_t181 : ai_tab[181]? = some ai_M181 := rfl
theorem ak_q179 : ak_mt[179]? = some (⟨"SpanCopierLaw", "law", "([I)Z"⟩, code, ret, 0) := rfl
theorem ak_q41 : ak_mt[41]? = some (⟨"SpanCopier", "unit", "(II)I"⟩, prog_1_method_21_code, (Option.some Jvm.ClassFile.FieldType.int), 0) := rfl
theorem ak_q180 : ak_mt[180]? = some (⟨"SpanCopierLaw", "unit", "(LSpanCopier;II[J)I"⟩, method_3_code, (Option.some Jvm.ClassFile.FieldType.int), 2) := rfl
theorem ak_q33 : ak_mt[33]? = some (⟨"SpanCopier", "sum", "(I)I"⟩, prog_1_method_26_code, (Option.some Jvm.ClassFile.FieldType.int), 0) := rfl
theorem ak_q181 : ak_mt[181]? = some (⟨"SpanCopierLaw", "sum", "(LSpanCopier;I[J)I"⟩, method_4_code, (Option.some Jvm.ClassFile.FieldType.int), 2) := rfl
def az_Uh : ai_H := [az_0, az_1, az_2, az_3, az_4, az_5, az_6, az_7, az_8, az_9, az_9, az_10, az_10, az_11, az_12, az_13, az_14, az_15, az_16, az_9, az_17, az_17, az_18, az_19, az_20, az_17, az_21, az_22, az_22, az_23, az_24, az_22, az_22, az_25, az_26, az_22, az_27, az_28, az_29, az_30, az_31, az_32, az_33, az_34, az_35, az_36, az_9, az_17, az_17, az_18, az_19, az_37, az_17, az_38, az_22, az_22, az_39, az_40, az_22, az_22, az_41, az_42, az_22, az_43, az_44, az_29, az_30, az_45, az_46, az_47, az_47, az_48, az_49, az_50, az_51, az_52]
def az_Ue : ai_E := [(0, 4294967295), (0, 4294967295), (0, 4294967295), (0, 4294967295), (0, 4294967295), (0, 4294967295), (2147483662, 2147483662), (2147483654, 2147483654)]
def az_c14 : ai_Z := ([(7, 45), (6, 0), (6, 57), (6, 75), (0, 0), (9, 0), (9, 0)], [], 76, [az_0, az_1, az_2, az_3, az_4, az_5, az_6, az_7, az_8, az_9, az_9, az_10, az_10, az_11, az_12, az_13, az_14, az_15, az_16, az_9, az_17, az_17, az_18, az_19, az_20, az_17, az_21, az_22, az_22, az_23, az_24, az_22, az_22, az_25, az_26, az_22, az_27, az_28, az_29, az_30, az_31, az_32, az_33, az_34, az_35, az_36, az_9, az_17, az_17, az_18, az_19, az_37, az_17, az_38, az_22, az_22, az_39, az_40, az_22, az_22, az_41, az_42, az_22, az_43, az_44, az_29, az_30, az_45, az_46, az_47, az_47, az_48, az_49, az_50, az_51, az_52], [(0, 4294967295), (0, 4294967295), (0, 4294967295), (0, 4294967295), (0, 4294967295), (0, 4294967295), (2147483662, 2147483662), (2147483654, 2147483654)], 76, 45994)
def az_Sah : ai_H := [az_0, az_1, az_2, az_3, az_4, az_5, az_6, az_7, az_8, az_9, az_9, az_10, az_10, az_11, az_12, az_13, az_14, az_15, az_16, az_9, az_17, az_17, az_18, az_19, az_20, az_17, az_21, az_22, az_22, az_23, az_24, az_22, az_22, az_25, az_26, az_22, az_27, az_28, az_29, az_30, az_31, az_32, az_33, az_34, az_35, az_36, az_9, az_17, az_17, az_18, az_19, az_37, az_17, az_38, az_22, az_22, az_39, az_40, az_22, az_22, az_41, az_42, az_22, az_43, az_44, az_29, az_30, az_45, az_46, az_47, az_47, az_48, az_49, az_50, az_51, az_52]
def az_Sae : ai_E := [(0, 4294967295), (0, 2147483647), (0, 4294967295), (0, 4294967295), (0, 4294967295), (0, 4294967295), (2147483667, 2147483667), (2147483654, 2147483654)]
def az_Sbh : ai_H := [az_0, az_1, az_2, az_3, az_4, az_5, az_6, az_7, az_8, az_9, az_9, az_10, az_10, az_11, az_12, az_13, az_14, az_15, az_16, az_9, az_17, az_17, az_18, az_19, az_20, az_17, az_21, az_22, az_22, az_23, az_24, az_22, az_22, az_25, az_26, az_22, az_27, az_28, az_29, az_30, az_31, az_32, az_33, az_34, az_35, az_36, az_9, az_17, az_17, az_18, az_19, az_37, az_17, az_38, az_22, az_22, az_39, az_40, az_22, az_22, az_41, az_42, az_22, az_43, az_44, az_29, az_30, az_45, az_46, az_47, az_47, az_48, az_49, az_50, az_51, az_52]
def az_Sbe : ai_E := [(0, 4294967295), (2147483648, 2147483648), (0, 4294967295), (0, 4294967295), (0, 4294967295), (0, 4294967295), (2147483667, 2147483667), (2147483654, 2147483654)]
def az_Sch : ai_H := [az_0, az_1, az_2, az_3, az_4, az_5, az_6, az_7, az_8, az_9, az_9, az_10, az_10, az_11, az_12, az_13, az_14, az_15, az_16, az_9, az_17, az_17, az_18, az_19, az_20, az_17, az_21, az_22, az_22, az_23, az_24, az_22, az_22, az_25, az_26, az_22, az_27, az_28, az_29, az_30, az_31, az_32, az_33, az_34, az_35, az_36, az_9, az_17, az_17, az_18, az_19, az_37, az_17, az_38, az_22, az_22, az_39, az_40, az_22, az_22, az_41, az_42, az_22, az_43, az_44, az_29, az_30, az_45, az_46, az_47, az_47, az_48, az_49, az_50, az_51, az_52]
def az_Sce : ai_E := [(0, 4294967295), (2147483649, 2147483649), (0, 4294967295), (0, 4294967295), (0, 4294967295), (0, 4294967295), (2147483667, 2147483667), (2147483654, 2147483654)]
def az_Sdh : ai_H := [az_0, az_1, az_2, az_3, az_4, az_5, az_6, az_7, az_8, az_9, az_9, az_10, az_10, az_11, az_12, az_13, az_14, az_15, az_16, az_9, az_17, az_17, az_18, az_19, az_20, az_17, az_21, az_22, az_22, az_23, az_24, az_22, az_22, az_25, az_26, az_22, az_27, az_28, az_29, az_30, az_31, az_32, az_33, az_34, az_35, az_36, az_9, az_17, az_17, az_18, az_19, az_37, az_17, az_38, az_22, az_22, az_39, az_40, az_22, az_22, az_41, az_42, az_22, az_43, az_44, az_29, az_30, az_45, az_46, az_47, az_47, az_48, az_49, az_50, az_51, az_52]
def az_Sde : ai_E := [(0, 4294967295), (2147483650, 4294967295), (0, 4294967295), (0, 4294967295), (0, 4294967295), (0, 4294967295), (2147483667, 2147483667), (2147483654, 2147483654)]
def az_c19 : ai_Z := ([(7, 45), (6, 0), (6, 57), (6, 75), (0, 0), (9, 0), (9, 0)], [], 76, [az_0, az_1, az_2, az_3, az_4, az_5, az_6, az_7, az_8, az_9, az_9, az_10, az_10, az_11, az_12, az_13, az_14, az_15, az_16, az_9, az_17, az_17, az_18, az_19, az_20, az_17, az_21, az_22, az_22, az_23, az_24, az_22, az_22, az_25, az_26, az_22, az_27, az_28, az_29, az_30, az_31, az_32, az_33, az_34, az_35, az_36, az_9, az_17, az_17, az_18, az_19, az_37, az_17, az_38, az_22, az_22, az_39, az_40, az_22, az_22, az_41, az_42, az_22, az_43, az_44, az_29, az_30, az_45, az_46, az_47, az_47, az_48, az_49, az_50, az_51, az_52], [(0, 4294967295), (0, 4294967295), (0, 4294967295), (0, 4294967295), (0, 4294967295), (0, 4294967295), (2147483667, 2147483667), (2147483654, 2147483654)], 76, 45994)
theorem aG_xU : ai_go (ai_run 1000000) [(25, ((List.replicate 4 (9, 0)), [], (76, az_Uh, az_Ue, 0, 0)), [(some (8, 25), 76, az_Uh, az_Ue)])] 1000 76 6 ai_M41 0 ([(6, 0), (1, 1), (1, 2), (9, 0)], [], (76, az_Uh, az_Ue, 0, 0)) [(some (8, 25), 76, az_Uh, az_Ue)] = true := by decide +kernel
theorem aF_xU : ak_F 76 6 41 0 ([(6, 0), (1, 1), (1, 2), (9, 0)], [], (76, az_Uh, az_Ue, 0, 0)) [(some (8, 25), 76, az_Uh, az_Ue)] := ak_cut (ak_all _) ak_t41 (ak_ts1 ak_hook ak_ts0) aG_xU
theorem aG_hU : ai_go (ai_run 1000000) [] 1000 76 7 ai_M180 15 ((List.replicate 5 (9, 0)), [], (76, az_Uh, az_Ue, 1, 6)) [(some (0, 1), 76, az_Uh, az_Ue)] = true := by decide +kernel
theorem aF_hU : ak_F 76 7 180 15 ((List.replicate 5 (9, 0)), [], (76, az_Uh, az_Ue, 1, 6)) [(some (0, 1), 76, az_Uh, az_Ue)] := ak_cut (ak_all _) ak_t180 ak_ts0 aG_hU
theorem aw_l4_U : ∀ (i : Nat) (v : ai_V), ([(6, 0), (1, 1), (1, 2), (9, 0)] : ai_L)[i]? = some v → v.1 ≤ 7 → ((6, 0) :: ([(1, 2), (1, 1)] : List ai_V).reverse)[i]? = some v := aw_loc (by decide)
theorem aF_tU : ak_FG (aw_G [(0, 10, 13, 13)]) 76 7 180 5 ([(6, 0), (1, 1), (1, 2), (6, 75), (9, 0)], [(1, 2), (1, 1), (6, 0), (0, 0), (6, 75)], (76, az_Uh, az_Ue, 0, 0)) [(some (0, 1), 76, az_Uh, az_Ue)] :=
  aw_thr (d := 6) (mid' := 41) (idx := 7) (k := 25) (i := 4) (rc := 0) (as1 := [(1, 2), (1, 1)]) (stk := [(0, 0), (6, 75)]) (qc := (RX12, TX12, 12)) (hp2 := 15) ak_t180 ak_q180 ak_t41 ak_q41 ak_mp41.1 rfl (ak_W_of (by decide +kernel) rfl) (ak_W_of (by decide +kernel) rfl) (ak_W_of (by decide +kernel) rfl) (ak_W_of (by decide +kernel) rfl) (by decide +kernel) (by decide +kernel) (by decide) rfl rfl rfl rfl rfl (by decide) (by decide) aw_l4_U aF_xU rfl rfl rfl (by decide) (by decide +kernel) (by decide +kernel) (by decide +kernel) (by decide +kernel) ⟨by decide, by decide⟩ (by decide) (Or.inl ⟨by decide +kernel, rfl⟩) (by decide) (by decide) (by decide) (by decide) aF_hU.g
theorem aG_lU : ai_go (ai_run 1000000) [(5, ([(6, 0), (1, 1), (1, 2), (6, 75), (9, 0)], [(1, 2), (1, 1), (6, 0), (0, 0), (6, 75)], (76, az_Uh, az_Ue, 0, 0)), [(some (0, 1), 76, az_Uh, az_Ue)])] 1000 76 7 ai_M180 0 ([(6, 0), (1, 1), (1, 2), (6, 75), (9, 0)], [], (76, az_Uh, az_Ue, 0, 0)) [(some (0, 1), 76, az_Uh, az_Ue)] = true := by decide +kernel
theorem aF_lU : ak_FG (aw_G [(0, 10, 13, 13)]) 76 7 180 0 ([(6, 0), (1, 1), (1, 2), (6, 75), (9, 0)], [], (76, az_Uh, az_Ue, 0, 0)) [(some (0, 1), 76, az_Uh, az_Ue)] := ak_cutG (ak_all _) ak_t180 (aw_tg1 aF_tU aw_tg0) aG_lU
theorem aG_aU : ai_go (ai_run 1000000) [] 1000 0 8 ai_M179 547 ([(7, 45), (6, 0), (6, 57), (6, 75), (0, 0), (9, 0), (9, 0)], [(0, 1)], (76, az_Uh, az_Ue, 77, 46000)) az_o = true := by decide +kernel
theorem aF_aU : ak_F 0 8 179 547 ([(7, 45), (6, 0), (6, 57), (6, 75), (0, 0), (9, 0), (9, 0)], [(0, 1)], (76, az_Uh, az_Ue, 77, 46000)) az_o := ak_cut (ak_all _) ak_t179 ak_ts0 aG_aU
theorem aw_m4_U : ∀ (i : Nat) (v : ai_V), ([(6, 0), (1, 1), (1, 2), (6, 75), (9, 0)] : ai_L)[i]? = some v → v.1 ≤ 7 → ([(6, 75), (1, 2), (1, 1), (6, 0)] : List ai_V).reverse[i]? = some v := aw_loc (by decide)
theorem aF_wU : ak_FG aw_GL 0 8 179 544 ([(7, 45), (6, 0), (6, 57), (6, 75), (0, 0), (9, 0), (9, 0)], [(6, 75), (1, 2), (1, 1), (6, 0)], 76, az_Uh, az_Ue, 76, 45994) az_o :=
  aw_law (d := 7) (mid' := 180) (idx := 82) (as := [(6, 75), (1, 2), (1, 1), (6, 0)]) (stk := []) (os := [(some (0, 1), 76, az_Uh, az_Ue)]) ak_t179 ak_q179 ak_t180 ak_q180 ⟨(ak_W_of (by decide +kernel) rfl), (ak_W_of (by decide +kernel) rfl), by decide, by decide, by decide, by decide +kernel⟩ (ak_W_of (by decide +kernel) rfl) (ak_W_of (by decide +kernel) rfl) (by decide +kernel) (by decide +kernel) rfl (by decide) (by decide) aw_m4_U aF_lU rfl (by decide) (by decide) (by decide) (by
    intro o ho
    rw [List.mem_singleton] at ho
    subst ho
    exact ⟨(0, 1), rfl, aF_aU.g⟩)
theorem aG_c14 : ai_go (ai_run 1000000) [(544, ([(7, 45), (6, 0), (6, 57), (6, 75), (0, 0), (9, 0), (9, 0)], [(6, 75), (1, 2), (1, 1), (6, 0)], 76, az_Uh, az_Ue, 76, 45994), az_o)] 1000 0 8 ai_M179 530 az_c14 az_o = true := by decide +kernel
theorem aF_c14 : ak_FG aw_GL 0 8 179 530 az_c14 az_o := ak_cutG (ak_all _) ak_t179 (aw_tg1 aF_wU aw_tg0) aG_c14
theorem aG_xSa : ai_go (ai_run 1000000) [(9, ((List.replicate 2 (9, 0)), [], (76, az_Sah, az_Sae, 0, 0)), [(some (8, 9), 76, az_Sah, az_Sae)])] 1000 76 6 ai_M33 0 ([(6, 0), (1, 1)], [], (76, az_Sah, az_Sae, 0, 0)) [(some (8, 9), 76, az_Sah, az_Sae)] = true := by decide +kernel
theorem aF_xSa : ak_F 76 6 33 0 ([(6, 0), (1, 1)], [], (76, az_Sah, az_Sae, 0, 0)) [(some (8, 9), 76, az_Sah, az_Sae)] := ak_cut (ak_all _) ak_t33 (ak_ts1 ak_hook ak_ts0) aG_xSa
theorem aG_hSa : ai_go (ai_run 1000000) [] 1000 76 7 ai_M181 13 ((List.replicate 4 (9, 0)), [], (76, az_Sah, az_Sae, 1, 6)) [(some (0, 1), 76, az_Sah, az_Sae)] = true := by decide +kernel
theorem aF_hSa : ak_F 76 7 181 13 ((List.replicate 4 (9, 0)), [], (76, az_Sah, az_Sae, 1, 6)) [(some (0, 1), 76, az_Sah, az_Sae)] := ak_cut (ak_all _) ak_t181 ak_ts0 aG_hSa
theorem aw_l4_Sa : ∀ (i : Nat) (v : ai_V), ([(6, 0), (1, 1)] : ai_L)[i]? = some v → v.1 ≤ 7 → ((6, 0) :: ([(1, 1)] : List ai_V).reverse)[i]? = some v := aw_loc (by decide)
theorem aF_tSa : ak_FG (aw_G [(0, 9, 12, 13)]) 76 7 181 4 ([(6, 0), (1, 1), (6, 75), (9, 0)], [(1, 1), (6, 0), (0, 0), (6, 75)], (76, az_Sah, az_Sae, 0, 0)) [(some (0, 1), 76, az_Sah, az_Sae)] :=
  aw_thr (d := 6) (mid' := 33) (idx := 15) (k := 9) (i := 3) (rc := 0) (as1 := [(1, 1)]) (stk := [(0, 0), (6, 75)]) (qc := (RX12, TX12, 12)) (hp2 := 13) ak_t181 ak_q181 ak_t33 ak_q33 ak_mp33.1 rfl (ak_W_of (by decide +kernel) rfl) (ak_W_of (by decide +kernel) rfl) (ak_W_of (by decide +kernel) rfl) (ak_W_of (by decide +kernel) rfl) (by decide +kernel) (by decide +kernel) (by decide) rfl rfl rfl rfl rfl (by decide) (by decide) aw_l4_Sa aF_xSa rfl rfl rfl (by decide) (by decide +kernel) (by decide +kernel) (by decide +kernel) (by decide +kernel) ⟨by decide, by decide⟩ (by decide) (Or.inr ⟨3, by decide +kernel, rfl, rfl⟩) (by decide) (by decide) (by decide) (by decide) aF_hSa.g
theorem aG_lSa : ai_go (ai_run 1000000) [(4, ([(6, 0), (1, 1), (6, 75), (9, 0)], [(1, 1), (6, 0), (0, 0), (6, 75)], (76, az_Sah, az_Sae, 0, 0)), [(some (0, 1), 76, az_Sah, az_Sae)])] 1000 76 7 ai_M181 0 ([(6, 0), (1, 1), (6, 75), (9, 0)], [], (76, az_Sah, az_Sae, 0, 0)) [(some (0, 1), 76, az_Sah, az_Sae)] = true := by decide +kernel
theorem aF_lSa : ak_FG (aw_G [(0, 9, 12, 13)]) 76 7 181 0 ([(6, 0), (1, 1), (6, 75), (9, 0)], [], (76, az_Sah, az_Sae, 0, 0)) [(some (0, 1), 76, az_Sah, az_Sae)] := ak_cutG (ak_all _) ak_t181 (aw_tg1 aF_tSa aw_tg0) aG_lSa
theorem aG_aSa : ai_go (ai_run 1000000) [] 1000 0 8 ai_M179 757 ([(7, 45), (6, 0), (6, 57), (6, 75), (0, 0), (9, 0), (9, 0)], [(0, 1)], (76, az_Sah, az_Sae, 77, 46000)) az_o = true := by decide +kernel
theorem aF_aSa : ak_F 0 8 179 757 ([(7, 45), (6, 0), (6, 57), (6, 75), (0, 0), (9, 0), (9, 0)], [(0, 1)], (76, az_Sah, az_Sae, 77, 46000)) az_o := ak_cut (ak_all _) ak_t179 ak_ts0 aG_aSa
theorem aw_m4_Sa : ∀ (i : Nat) (v : ai_V), ([(6, 0), (1, 1), (6, 75), (9, 0)] : ai_L)[i]? = some v → v.1 ≤ 7 → ([(6, 75), (1, 1), (6, 0)] : List ai_V).reverse[i]? = some v := aw_loc (by decide)
theorem aF_wSa : ak_FG aw_GL 0 8 179 754 ([(7, 45), (6, 0), (6, 57), (6, 75), (0, 0), (9, 0), (9, 0)], [(6, 75), (1, 1), (6, 0)], 76, az_Sah, az_Sae, 76, 45994) az_o :=
  aw_law (d := 7) (mid' := 181) (idx := 108) (as := [(6, 75), (1, 1), (6, 0)]) (stk := []) (os := [(some (0, 1), 76, az_Sah, az_Sae)]) ak_t179 ak_q179 ak_t181 ak_q181 ⟨(ak_W_of (by decide +kernel) rfl), (ak_W_of (by decide +kernel) rfl), by decide, by decide, by decide, by decide +kernel⟩ (ak_W_of (by decide +kernel) rfl) (ak_W_of (by decide +kernel) rfl) (by decide +kernel) (by decide +kernel) rfl (by decide) (by decide) aw_m4_Sa aF_lSa rfl (by decide) (by decide) (by decide) (by
    intro o ho
    rw [List.mem_singleton] at ho
    subst ho
    exact ⟨(0, 1), rfl, aF_aSa.g⟩)
theorem aG_lSb : ai_go (ai_run 1000000) [] 1000 76 7 ai_M181 0 ([(6, 0), (1, 1), (6, 75), (9, 0)], [], (76, az_Sbh, az_Sbe, 0, 0)) [(some (0, 0), 76, az_Sbh, az_Sbe)] = true := by decide +kernel
theorem aF_lSb : ak_FG (aw_G [(0, 9, 12, 13)]) 76 7 181 0 ([(6, 0), (1, 1), (6, 75), (9, 0)], [], (76, az_Sbh, az_Sbe, 0, 0)) [(some (0, 0), 76, az_Sbh, az_Sbe)] := (ak_cut (ak_all _) ak_t181 ak_ts0 aG_lSb).g
theorem aG_aSb : ai_go (ai_run 1000000) [] 1000 0 8 ai_M179 757 ([(7, 45), (6, 0), (6, 57), (6, 75), (0, 0), (9, 0), (9, 0)], [(0, 0)], (76, az_Sbh, az_Sbe, 77, 46000)) az_o = true := by decide +kernel
theorem aF_aSb : ak_F 0 8 179 757 ([(7, 45), (6, 0), (6, 57), (6, 75), (0, 0), (9, 0), (9, 0)], [(0, 0)], (76, az_Sbh, az_Sbe, 77, 46000)) az_o := ak_cut (ak_all _) ak_t179 ak_ts0 aG_aSb
theorem aw_m4_Sb : ∀ (i : Nat) (v : ai_V), ([(6, 0), (1, 1), (6, 75), (9, 0)] : ai_L)[i]? = some v → v.1 ≤ 7 → ([(6, 75), (1, 1), (6, 0)] : List ai_V).reverse[i]? = some v := aw_loc (by decide)
theorem aF_wSb : ak_FG aw_GL 0 8 179 754 ([(7, 45), (6, 0), (6, 57), (6, 75), (0, 0), (9, 0), (9, 0)], [(6, 75), (1, 1), (6, 0)], 76, az_Sbh, az_Sbe, 76, 45994) az_o :=
  aw_law (d := 7) (mid' := 181) (idx := 108) (as := [(6, 75), (1, 1), (6, 0)]) (stk := []) (os := [(some (0, 0), 76, az_Sbh, az_Sbe)]) ak_t179 ak_q179 ak_t181 ak_q181 ⟨(ak_W_of (by decide +kernel) rfl), (ak_W_of (by decide +kernel) rfl), by decide, by decide, by decide, by decide +kernel⟩ (ak_W_of (by decide +kernel) rfl) (ak_W_of (by decide +kernel) rfl) (by decide +kernel) (by decide +kernel) rfl (by decide) (by decide) aw_m4_Sb aF_lSb rfl (by decide) (by decide) (by decide) (by
    intro o ho
    rw [List.mem_singleton] at ho
    subst ho
    exact ⟨(0, 0), rfl, aF_aSb.g⟩)
theorem aG_lSc : ai_go (ai_run 1000000) [] 1000 76 7 ai_M181 0 ([(6, 0), (1, 1), (6, 75), (9, 0)], [], (76, az_Sch, az_Sce, 0, 0)) [(some (0, 0), 76, az_Sch, az_Sce)] = true := by decide +kernel
theorem aF_lSc : ak_FG (aw_G [(0, 9, 12, 13)]) 76 7 181 0 ([(6, 0), (1, 1), (6, 75), (9, 0)], [], (76, az_Sch, az_Sce, 0, 0)) [(some (0, 0), 76, az_Sch, az_Sce)] := (ak_cut (ak_all _) ak_t181 ak_ts0 aG_lSc).g
theorem aG_aSc : ai_go (ai_run 1000000) [] 1000 0 8 ai_M179 757 ([(7, 45), (6, 0), (6, 57), (6, 75), (0, 0), (9, 0), (9, 0)], [(0, 0)], (76, az_Sch, az_Sce, 77, 46000)) az_o = true := by decide +kernel
theorem aF_aSc : ak_F 0 8 179 757 ([(7, 45), (6, 0), (6, 57), (6, 75), (0, 0), (9, 0), (9, 0)], [(0, 0)], (76, az_Sch, az_Sce, 77, 46000)) az_o := ak_cut (ak_all _) ak_t179 ak_ts0 aG_aSc
theorem aw_m4_Sc : ∀ (i : Nat) (v : ai_V), ([(6, 0), (1, 1), (6, 75), (9, 0)] : ai_L)[i]? = some v → v.1 ≤ 7 → ([(6, 75), (1, 1), (6, 0)] : List ai_V).reverse[i]? = some v := aw_loc (by decide)
theorem aF_wSc : ak_FG aw_GL 0 8 179 754 ([(7, 45), (6, 0), (6, 57), (6, 75), (0, 0), (9, 0), (9, 0)], [(6, 75), (1, 1), (6, 0)], 76, az_Sch, az_Sce, 76, 45994) az_o :=
  aw_law (d := 7) (mid' := 181) (idx := 108) (as := [(6, 75), (1, 1), (6, 0)]) (stk := []) (os := [(some (0, 0), 76, az_Sch, az_Sce)]) ak_t179 ak_q179 ak_t181 ak_q181 ⟨(ak_W_of (by decide +kernel) rfl), (ak_W_of (by decide +kernel) rfl), by decide, by decide, by decide, by decide +kernel⟩ (ak_W_of (by decide +kernel) rfl) (ak_W_of (by decide +kernel) rfl) (by decide +kernel) (by decide +kernel) rfl (by decide) (by decide) aw_m4_Sc aF_lSc rfl (by decide) (by decide) (by decide) (by
    intro o ho
    rw [List.mem_singleton] at ho
    subst ho
    exact ⟨(0, 0), rfl, aF_aSc.g⟩)
theorem aG_xSd : ai_go (ai_run 1000000) [(9, ((List.replicate 2 (9, 0)), [], (76, az_Sdh, az_Sde, 0, 0)), [(some (8, 9), 76, az_Sdh, az_Sde)])] 1000 76 6 ai_M33 0 ([(6, 0), (1, 1)], [], (76, az_Sdh, az_Sde, 0, 0)) [(some (8, 9), 76, az_Sdh, az_Sde)] = true := by decide +kernel
theorem aF_xSd : ak_F 76 6 33 0 ([(6, 0), (1, 1)], [], (76, az_Sdh, az_Sde, 0, 0)) [(some (8, 9), 76, az_Sdh, az_Sde)] := ak_cut (ak_all _) ak_t33 (ak_ts1 ak_hook ak_ts0) aG_xSd
theorem aG_hSd : ai_go (ai_run 1000000) [] 1000 76 7 ai_M181 13 ((List.replicate 4 (9, 0)), [], (76, az_Sdh, az_Sde, 1, 6)) [(some (0, 1), 76, az_Sdh, az_Sde)] = true := by decide +kernel
theorem aF_hSd : ak_F 76 7 181 13 ((List.replicate 4 (9, 0)), [], (76, az_Sdh, az_Sde, 1, 6)) [(some (0, 1), 76, az_Sdh, az_Sde)] := ak_cut (ak_all _) ak_t181 ak_ts0 aG_hSd
theorem aw_l4_Sd : ∀ (i : Nat) (v : ai_V), ([(6, 0), (1, 1)] : ai_L)[i]? = some v → v.1 ≤ 7 → ((6, 0) :: ([(1, 1)] : List ai_V).reverse)[i]? = some v := aw_loc (by decide)
theorem aF_tSd : ak_FG (aw_G [(0, 9, 12, 13)]) 76 7 181 4 ([(6, 0), (1, 1), (6, 75), (9, 0)], [(1, 1), (6, 0), (0, 0), (6, 75)], (76, az_Sdh, az_Sde, 0, 0)) [(some (0, 1), 76, az_Sdh, az_Sde)] :=
  aw_thr (d := 6) (mid' := 33) (idx := 15) (k := 9) (i := 3) (rc := 0) (as1 := [(1, 1)]) (stk := [(0, 0), (6, 75)]) (qc := (RX12, TX12, 12)) (hp2 := 13) ak_t181 ak_q181 ak_t33 ak_q33 ak_mp33.1 rfl (ak_W_of (by decide +kernel) rfl) (ak_W_of (by decide +kernel) rfl) (ak_W_of (by decide +kernel) rfl) (ak_W_of (by decide +kernel) rfl) (by decide +kernel) (by decide +kernel) (by decide) rfl rfl rfl rfl rfl (by decide) (by decide) aw_l4_Sd aF_xSd rfl rfl rfl (by decide) (by decide +kernel) (by decide +kernel) (by decide +kernel) (by decide +kernel) ⟨by decide, by decide⟩ (by decide) (Or.inr ⟨3, by decide +kernel, rfl, rfl⟩) (by decide) (by decide) (by decide) (by decide) aF_hSd.g
theorem aG_lSd : ai_go (ai_run 1000000) [(4, ([(6, 0), (1, 1), (6, 75), (9, 0)], [(1, 1), (6, 0), (0, 0), (6, 75)], (76, az_Sdh, az_Sde, 0, 0)), [(some (0, 1), 76, az_Sdh, az_Sde)])] 1000 76 7 ai_M181 0 ([(6, 0), (1, 1), (6, 75), (9, 0)], [], (76, az_Sdh, az_Sde, 0, 0)) [(some (0, 1), 76, az_Sdh, az_Sde)] = true := by decide +kernel
theorem aF_lSd : ak_FG (aw_G [(0, 9, 12, 13)]) 76 7 181 0 ([(6, 0), (1, 1), (6, 75), (9, 0)], [], (76, az_Sdh, az_Sde, 0, 0)) [(some (0, 1), 76, az_Sdh, az_Sde)] := ak_cutG (ak_all _) ak_t181 (aw_tg1 aF_tSd aw_tg0) aG_lSd
theorem aG_aSd : ai_go (ai_run 1000000) [] 1000 0 8 ai_M179 757 ([(7, 45), (6, 0), (6, 57), (6, 75), (0, 0), (9, 0), (9, 0)], [(0, 1)], (76, az_Sdh, az_Sde, 77, 46000)) az_o = true := by decide +kernel
theorem aF_aSd : ak_F 0 8 179 757 ([(7, 45), (6, 0), (6, 57), (6, 75), (0, 0), (9, 0), (9, 0)], [(0, 1)], (76, az_Sdh, az_Sde, 77, 46000)) az_o := ak_cut (ak_all _) ak_t179 ak_ts0 aG_aSd
theorem aw_m4_Sd : ∀ (i : Nat) (v : ai_V), ([(6, 0), (1, 1), (6, 75), (9, 0)] : ai_L)[i]? = some v → v.1 ≤ 7 → ([(6, 75), (1, 1), (6, 0)] : List ai_V).reverse[i]? = some v := aw_loc (by decide)
theorem aF_wSd : ak_FG aw_GL 0 8 179 754 ([(7, 45), (6, 0), (6, 57), (6, 75), (0, 0), (9, 0), (9, 0)], [(6, 75), (1, 1), (6, 0)], 76, az_Sdh, az_Sde, 76, 45994) az_o :=
  aw_law (d := 7) (mid' := 181) (idx := 108) (as := [(6, 75), (1, 1), (6, 0)]) (stk := []) (os := [(some (0, 1), 76, az_Sdh, az_Sde)]) ak_t179 ak_q179 ak_t181 ak_q181 ⟨(ak_W_of (by decide +kernel) rfl), (ak_W_of (by decide +kernel) rfl), by decide, by decide, by decide, by decide +kernel⟩ (ak_W_of (by decide +kernel) rfl) (ak_W_of (by decide +kernel) rfl) (by decide +kernel) (by decide +kernel) rfl (by decide) (by decide) aw_m4_Sd aF_lSd rfl (by decide) (by decide) (by decide) (by
    intro o ho
    rw [List.mem_singleton] at ho
    subst ho
    exact ⟨(0, 1), rfl, aF_aSd.g⟩)
theorem aF_Sy : ak_FG aw_GL 0 8 179 754 ([(7, 45), (6, 0), (6, 57), (6, 75), (0, 0), (9, 0), (9, 0)], [(6, 75), (1, 1), (6, 0)], 76, az_Sah, [(0, 4294967295), (2147483649, 4294967295), (0, 4294967295), (0, 4294967295), (0, 4294967295), (0, 4294967295), (2147483667, 2147483667), (2147483654, 2147483654)], 76, 45994) az_o := aw_or (fun ι he => aw_env1 2147483649 he) aF_wSc aF_wSd
theorem aF_Sx : ak_FG aw_GL 0 8 179 754 ([(7, 45), (6, 0), (6, 57), (6, 75), (0, 0), (9, 0), (9, 0)], [(6, 75), (1, 1), (6, 0)], 76, az_Sah, [(0, 4294967295), (2147483648, 4294967295), (0, 4294967295), (0, 4294967295), (0, 4294967295), (0, 4294967295), (2147483667, 2147483667), (2147483654, 2147483654)], 76, 45994) az_o := aw_or (fun ι he => aw_env1 2147483648 he) aF_wSb aF_Sy
theorem aF_Sw : ak_FG aw_GL 0 8 179 754 ([(7, 45), (6, 0), (6, 57), (6, 75), (0, 0), (9, 0), (9, 0)], [(6, 75), (1, 1), (6, 0)], 76, az_Sah, [(0, 4294967295), (0, 4294967295), (0, 4294967295), (0, 4294967295), (0, 4294967295), (0, 4294967295), (2147483667, 2147483667), (2147483654, 2147483654)], 76, 45994) az_o := aw_or (fun ι he => aw_env1 2147483647 he) aF_wSa aF_Sx
theorem aG_c19 : ai_go (ai_run 1000000) [(754, ([(7, 45), (6, 0), (6, 57), (6, 75), (0, 0), (9, 0), (9, 0)], [(6, 75), (1, 1), (6, 0)], 76, az_Sah, [(0, 4294967295), (0, 4294967295), (0, 4294967295), (0, 4294967295), (0, 4294967295), (0, 4294967295), (2147483667, 2147483667), (2147483654, 2147483654)], 76, 45994), az_o)] 1000 0 8 ai_M179 746 az_c19 az_o = true := by decide +kernel
theorem aF_c19 : ak_FG aw_GL 0 8 179 746 az_c19 az_o := ak_cutG (ak_all _) ak_t179 (aw_tg1 aF_Sw aw_tg0) aG_c19
end
section
def az_z23 : ai_Z := ([(7, 45), (6, 0), (6, 57), (6, 75), (0, 0), (9, 0), (9, 0)], [], 76, [az_0, az_1, az_2, az_3, az_4, az_5, az_6, az_7, az_8, az_9, az_9, az_10, az_10, az_11, az_12, az_13, az_14, az_15, az_16, az_9, az_17, az_17, az_18, az_19, az_20, az_17, az_21, az_22, az_22, az_23, az_24, az_22, az_22, az_25, az_26, az_22, az_27, az_28, az_29, az_30, az_31, az_32, az_33, az_34, az_35, az_36, az_9, az_17, az_17, az_18, az_19, az_37, az_17, az_38, az_22, az_22, az_39, az_40, az_22, az_22, az_41, az_42, az_22, az_43, az_44, az_29, az_30, az_45, az_46, az_47, az_47, az_48, az_49, az_50, az_51, az_52], [(0, 4294967295), (0, 4294967295), (0, 4294967295), (0, 4294967295), (0, 4294967295), (0, 4294967295), (2147483648, 2147483711), (2147483648, 2147483654)], 76, 45994)
def az_z0 : ai_Z := ([(7, 45), (9, 0), (9, 0), (9, 0), (9, 0), (9, 0), (9, 0)], [], 0, [], [(0, 4294967295), (0, 4294967295), (0, 4294967295), (0, 4294967295), (0, 4294967295), (0, 4294967295), (2147483648, 2147483711), (2147483648, 2147483654)], 0, 0)
theorem aG_z23 : ai_go (ai_run 1000000) [(192, az_c0, az_o), (265, az_c1, az_o), (290, az_c2, az_o), (303, az_c3, az_o), (316, az_c4, az_o), (329, az_c5, az_o), (354, az_c6, az_o), (379, az_c7, az_o), (404, az_c8, az_o), (441, az_c9, az_o), (466, az_c10, az_o), (479, az_c11, az_o), (492, az_c12, az_o), (505, az_c13, az_o), (530, az_c14, az_o), (598, az_c15, az_o), (647, az_c16, az_o), (684, az_c17, az_o), (721, az_c18, az_o), (746, az_c19, az_o), (802, az_c20, az_o), (815, az_c21, az_o), (840, az_c22, az_o), (853, az_c23, az_o), (866, az_c24, az_o), (891, az_c25, az_o), (928, az_c26, az_o), (965, az_c27, az_o), (990, az_c28, az_o), (1015, az_c29, az_o), (1028, az_c30, az_o), (1053, az_c31, az_o), (1078, az_c32, az_o), (1103, az_c33, az_o), (1128, az_cd, az_o)] 1000 0 8 ai_M179 23 az_z23 az_o = true := by decide +kernel
theorem aF_z23 : ak_FG aw_GL 0 8 179 23 az_z23 az_o := ak_cutG (ak_all _) ak_t179 (aw_tg1 aF_c0.g (aw_tg1 aF_c1.g (aw_tg1 aF_c2.g (aw_tg1 aF_c3.g (aw_tg1 aF_c4.g (aw_tg1 aF_c5.g (aw_tg1 aF_c6.g (aw_tg1 aF_c7.g (aw_tg1 aF_c8.g (aw_tg1 aF_c9.g (aw_tg1 aF_c10.g (aw_tg1 aF_c11.g (aw_tg1 aF_c12.g (aw_tg1 aF_c13.g (aw_tg1 aF_c14 (aw_tg1 aF_c15.g (aw_tg1 aF_c16.g (aw_tg1 aF_c17.g (aw_tg1 aF_c18.g (aw_tg1 aF_c19 (aw_tg1 aF_c20.g (aw_tg1 aF_c21.g (aw_tg1 aF_c22.g (aw_tg1 aF_c23.g (aw_tg1 aF_c24.g (aw_tg1 aF_c25.g (aw_tg1 aF_c26.g (aw_tg1 aF_c27.g (aw_tg1 aF_c28.g (aw_tg1 aF_c29.g (aw_tg1 aF_c30.g (aw_tg1 aF_c31.g (aw_tg1 aF_c32.g (aw_tg1 aF_c33.g (aw_tg1 aF_cd.g aw_tg0))))))))))))))))))))))))))))))))))) aG_z23
theorem aG_z0 : ai_go (ai_run 1000000) [(23, az_z23, az_o)] 1000 0 8 ai_M179 0 az_z0 az_o = true := by decide +kernel
theorem aF_z0 : ak_FG aw_GL 0 8 179 0 az_z0 az_o := ak_cutG (ak_all _) ak_t179 (aw_tg1 aF_z23 aw_tg0) aG_z0
end
section
/-! ===== the things that are there at the law's start ===== -/
theorem aw_e1 : ∀ i, i < ak_nm.length → Cond.laysStatic "SpanCopier$Word" (ak_nm.getD i "") "LSpanCopier$Word;" ∈ lw_tbl := by decide +kernel
theorem aw_e2 : Cond.initialized "SpanCopier$Word" ∈ lw_tbl := by decide +kernel
theorem aw_e3 : ∀ i, i < ak_nm.length → Cond.exactly (.static "SpanCopier$Word" (ak_nm.getD i "") "LSpanCopier$Word;") "SpanCopier$Word" ∈ flatC (Jvm.Cond.and given_1 narrow_1) := by decide +kernel
theorem aw_e4 : ∀ i, i < ak_nm.length → Cond.eq (.field (.static "SpanCopier$Word" (ak_nm.getD i "") "LSpanCopier$Word;") "java/lang/Enum" "ordinal" "I") (.int (((List.range 38).map nI).getD i 0)) ∈ flatC (Jvm.Cond.and given_1 narrow_1) := by decide +kernel
theorem aw_e5 : ∀ i, i < ak_nm.length → ∀ j, j < ak_nm.length → i ≠ j → ((List.range 38).map nI).getD i 0 ≠ ((List.range 38).map nI).getD j 0 := by decide +kernel
theorem aw_ne {args : Array Value} {s : State} {t u : Term} {a b : Nat} {x y : Int32} (ht : t.eval args s none [] s = some (.ref a)) (hu : u.eval args s none [] s = some (.ref b)) (h1 : (Term.field t "java/lang/Enum" "ordinal" "I").eval args s none [] s = some (.int x)) (h2 : (Term.field u "java/lang/Enum" "ordinal" "I").eval args s none [] s = some (.int y)) (hxy : x ≠ y) : (Cond.not (.eq t u)).before args s = true := by
  have hab : a ≠ b := by
    intro e
    subst e
    rw [va_fe ht] at h1
    rw [va_fe hu, h1] at h2
    cases h2
    exact hxy rfl
  simp [Cond.before, Cond.holds, Cond.value, ht, hu, hab]
theorem aw_enum {args : Array Value} {s : State} {A : Nat → Prop} (hts : ∀ w ∈ lw_tbl, w.before args s = true) (hgv : ∀ w ∈ flatC (Jvm.Cond.and given_1 narrow_1), w.before args s = true) (hA : ∀ a : Nat, a < s.heap.size → ¬ A a) : ∃ ad : Nat → Nat, va_En "SpanCopier$Word" "LSpanCopier$Word;" ak_nm ak_ors ad A s s.heap := by
  refine va_Enof (fun i hi => hts _ (aw_e1 i hi)) (hts _ aw_e2) (fun i hi => hgv _ (aw_e3 i hi)) (fun q hq i hi => ?_) (fun i j hi hj hij => Or.inl ?_) hA
  · rw [show q = ("java/lang/Enum", "ordinal", "I", (List.range 38).map nI) from by simpa [ak_ors] using hq]
    exact hgv _ (aw_e4 i hi)
  · obtain ⟨a, c1, cell1, k1, q1, -⟩ := Cond.exactly_spec (hgv _ (aw_e3 i hi))
    obtain ⟨b, c2, cell2, k2, r1, -⟩ := Cond.exactly_spec (hgv _ (aw_e3 j hj))
    exact aw_ne q1 r1 (va_eqv (hgv _ (aw_e4 i hi)) rfl) (va_eqv (hgv _ (aw_e4 j hj)) rfl) (aw_e5 i hi j hj hij)
/-- a static array of ints -/
theorem aw_arr {args : Array Value} {s : State} {A : Nat → Prop} {C n d : String} {l : List Nat} (hts : ∀ w ∈ lw_tbl, w.before args s = true) (hgv : ∀ w ∈ flatC (Jvm.Cond.and given_1 narrow_1), w.before args s = true) (hA : ∀ a : Nat, a < s.heap.size → ¬ A a) (h31 : l.length < 2 ^ 31) (h1 : Cond.laysStatic C n d ∈ lw_tbl) (h2 : Cond.initialized C ∈ lw_tbl) (h3 : Cond.arrayOf (.static C n d) .int ∈ flatC (Jvm.Cond.and given_1 narrow_1)) (h4 : Cond.eq (.length (.static C n d)) (.int (Int32.ofNat l.length)) ∈ flatC (Jvm.Cond.and given_1 narrow_1)) (h5 : ∀ j, j < l.length → Cond.eq (.elem (.static C n d) (.int (Int32.ofNat j))) (.int (nI (l.getD j 0))) ∈ flatC (Jvm.Cond.and given_1 narrow_1)) : ∃ t : Nat, va_Z C n d (.ref t) A s s.heap ∧ va_T .int t l.length (fun i => .int (nI (l.getD i 0))) A s s.heap := by
  obtain ⟨t, e1, e2⟩ := va_Tof (f := fun i => .int (nI (l.getD i 0))) h31 (hgv _ h3) (va_eqv (hgv _ h4) rfl) (fun j hj => va_eqv (hgv _ (h5 j hj)) rfl) hA
  exact ⟨t, va_Zref (hts _ h1) (hts _ h2) e1 hA, e2⟩
theorem aw_n1 : Cond.laysStatic "SpanCopier$Order" "WITHOUT" "[I" ∈ lw_tbl ∧ Cond.laysStatic "SpanCopier$Order" "HIGHEST" "[I" ∈ lw_tbl ∧ Cond.laysStatic "SpanCopier$1" "$SwitchMap$SpanCopier$Word" "[I" ∈ lw_tbl ∧ Cond.laysStatic "SpanCopier$World" "NO_FILE" "[B" ∈ lw_tbl := by decide +kernel
theorem aw_n2 : Cond.initialized "SpanCopier$Order" ∈ lw_tbl ∧ Cond.initialized "SpanCopier$1" ∈ lw_tbl ∧ Cond.initialized "SpanCopier$World" ∈ lw_tbl := by decide +kernel
theorem aw_n3 : Cond.arrayOf (.static "SpanCopier$Order" "WITHOUT" "[I") .int ∈ flatC (Jvm.Cond.and given_1 narrow_1) ∧ Cond.arrayOf (.static "SpanCopier$Order" "HIGHEST" "[I") .int ∈ flatC (Jvm.Cond.and given_1 narrow_1) ∧ Cond.arrayOf (.static "SpanCopier$1" "$SwitchMap$SpanCopier$Word" "[I") .int ∈ flatC (Jvm.Cond.and given_1 narrow_1) ∧ Cond.arrayOf (.static "SpanCopier$World" "NO_FILE" "[B") .byte ∈ flatC (Jvm.Cond.and given_1 narrow_1) := by decide +kernel
theorem aw_n4 : Cond.eq (.length (.static "SpanCopier$Order" "WITHOUT" "[I")) (.int (Int32.ofNat 6)) ∈ flatC (Jvm.Cond.and given_1 narrow_1) ∧ Cond.eq (.length (.static "SpanCopier$Order" "HIGHEST" "[I")) (.int (Int32.ofNat 6)) ∈ flatC (Jvm.Cond.and given_1 narrow_1) ∧ Cond.eq (.length (.static "SpanCopier$1" "$SwitchMap$SpanCopier$Word" "[I")) (.int (Int32.ofNat 38)) ∈ flatC (Jvm.Cond.and given_1 narrow_1) ∧ Cond.eq (.length (.static "SpanCopier$World" "NO_FILE" "[B")) (.int (Int32.ofNat 0)) ∈ flatC (Jvm.Cond.and given_1 narrow_1) := by decide +kernel
theorem aw_n5 : ∀ j, j < 6 → Cond.eq (.elem (.static "SpanCopier$Order" "WITHOUT" "[I") (.int (Int32.ofNat j))) (.int (nI (([8, 1, 2, 12, 3, 1] : List Nat).getD j 0))) ∈ flatC (Jvm.Cond.and given_1 narrow_1) := by decide +kernel
theorem aw_n6 : ∀ j, j < 6 → Cond.eq (.elem (.static "SpanCopier$Order" "HIGHEST" "[I") (.int (Int32.ofNat j))) (.int (nI (([32, 2, 9, 60, 9, 60] : List Nat).getD j 0))) ∈ flatC (Jvm.Cond.and given_1 narrow_1) := by decide +kernel
theorem aw_n7 : ∀ j, j < 38 → Cond.eq (.elem (.static "SpanCopier$1" "$SwitchMap$SpanCopier$Word" "[I") (.int (Int32.ofNat j))) (.int (nI (ai_sw.getD j 0))) ∈ flatC (Jvm.Cond.and given_1 narrow_1) := by decide +kernel
theorem aw_n8 : Cond.arrayClass .int ∈ lw_tbl ∧ Cond.arrayClass .byte ∈ lw_tbl ∧ Cond.arrayClass .boolean ∈ lw_tbl ∧ Cond.arrayClass .long ∈ lw_tbl ∧ Cond.arrayOver (.object "SpanCopier$Word") ∈ lw_tbl ∧ Cond.arrayOver (.object "SpanCopier$World") ∈ lw_tbl := by decide +kernel
theorem aw_n9 : Cond.laysStatic "java/lang/Throwable" "UNASSIGNED_STACK" "[Ljava/lang/StackTraceElement;" ∈ lw_tbl ∧ Cond.laysStatic "java/lang/Throwable" "SUPPRESSED_SENTINEL" "Ljava/util/List;" ∈ lw_tbl ∧ Cond.initialized "java/lang/Throwable" ∈ lw_tbl ∧ Cond.isRef (.static "java/lang/Throwable" "UNASSIGNED_STACK" "[Ljava/lang/StackTraceElement;") ∈ flatC (Jvm.Cond.and given_1 narrow_1) ∧ Cond.isRef (.static "java/lang/Throwable" "SUPPRESSED_SENTINEL" "Ljava/util/List;") ∈ flatC (Jvm.Cond.and given_1 narrow_1) := by decide +kernel
theorem aw_n10 : Cond.castable "java/util/NoSuchElementException" "java/util/NoSuchElementException" ∈ lw_tbl ∧ Cond.declares ⟨"java/lang/RuntimeException", "<init>", "()V"⟩ ∈ lw_tbl ∧ Cond.declares ⟨"java/lang/Exception", "<init>", "()V"⟩ ∈ lw_tbl ∧ Cond.declares ⟨"java/lang/Throwable", "<init>", "()V"⟩ ∈ lw_tbl := by decide +kernel
theorem aw_prim {args : Array Value} {s : State} {ty : FieldType} (h : (Cond.arrayClass ty).before args s = true) (hty : ∀ C, ty ≠ .object C) : ∃ cA : ClassId, ArrOfT s cA ty ∧ va_RA s cA ty := by
  obtain ⟨cA, kA, comp, h1, h2, h3⟩ := Cond.arrayClass_spec h
  refine ⟨cA, fun N z => ⟨(fun k h => by cases h), kA, h2, comp, h3⟩, ?_⟩
  cases ty with
  | object C => exact absurd rfl (hty C)
  | _ => exact h1
theorem aw_refA {args : Array Value} {s : State} {C : String} (h : (Cond.arrayOver (.object C)).before args s = true) : ∃ cA : ClassId, ArrOfT s cA (.object C) ∧ va_RA s cA (.object C) := by
  obtain ⟨comp, cA, kA, h1, h2, h3, h4, h5⟩ := Cond.arrayOver_spec h
  exact ⟨cA, fun N z => ⟨(fun k h => by cases h), kA, h3, comp, h4⟩, kA, comp, h3, h4, h1, h5⟩
theorem aw_classes {args : Array Value} {s : State} (hW : ∀ w ∈ ak_W, w.before args s = true) : ∃ D : va_G, ∀ (k : Nat) (q : vw_C), vwCl[k]? = some q → u_Kn s q.1 q.2.1 q.2.2 (D.1 k) (D.2 k) := by
  have h : ∀ k : Nat, ∃ r : ClassId × (Nat → Nat), ∀ q : vw_C, vwCl[k]? = some q → u_Kn s q.1 q.2.1 q.2.2 r.1 r.2 := by
    intro k
    cases hk : vwCl[k]? with
    | none => exact ⟨(0, fun _ => 0), fun q hq => by cases hq⟩
    | some q =>
      have hc := ak_cls q (List.mem_of_getElem? hk)
      obtain ⟨cC, iS, hKn⟩ := u_known (C := q.1) (T := q.2.1) (N := q.2.2) (n := q.2.2) hW hc.1 (hW _ hc.2.2.2.1)
      exact ⟨(cC, iS), fun q' hq => by cases hq; exact hKn⟩
  obtain ⟨f, hf⟩ := Classical.axiomOfChoice h
  exact ⟨(fun k => (f k).1, fun k => (f k).2), hf⟩
/-- the constants' places: the enum's, the arrays', the script's -/
def aw_ad (ad : Nat → Nat) (t0 t1 t2 t3 b : Nat) : Nat → Nat := fun j => if j < 38 then ad j else if j = 40 then t0 else if j = 41 then t1 else if j = 42 then t2 else if j = 43 then t3 else b
def aw_sy (L : Nat) (xs : Nat → Int32) : Nat → Int32 := fun k => if k = 6 then xs 0 &&& 63 else if k = 7 then Int32.ofNat L else xs k
def aw_cA (c1 c2 c3 c4 c5 c6 : ClassId) : Nat → ClassId := fun k => match k with
  | 1 => c1
  | 2 => c2
  | 3 => c3
  | 4 => c4
  | 5 => c5
  | _ => c6
theorem aw_63 (x : Int32) : 2147483648 ≤ ak_b (x &&& 63) ∧ ak_b (x &&& 63) ≤ 2147483711 := by
  have h := ak_b_int (x &&& 63)
  have h1 : 0 ≤ (x &&& 63).toInt ∧ (x &&& 63).toInt ≤ 63 := by
    rw [← Int32.toInt_toBitVec, Int32.toBitVec_and]
    have h2 : (x.toBitVec &&& (63 : Int32).toBitVec).toNat ≤ 63 := by
      rw [BitVec.toNat_and]
      exact Nat.and_le_right
    rw [BitVec.toInt_eq_toNat_of_lt (by omega)]
    omega
  omega
theorem aw_Lb {L : Nat} (h : L ≤ 6) : 2147483648 ≤ ak_b (Int32.ofNat L) ∧ ak_b (Int32.ofNat L) ≤ 2147483654 := by
  have h1 := ak_b_int (Int32.ofNat L)
  have h2 : (Int32.ofNat L).toInt = L := Int32.toInt_ofNat_of_lt (by omega)
  omega
theorem aw_env {ι : ak_I} {L : Nat} {xs : Nat → Int32} (h : ι.2.2.2.2.1 = aw_sy L xs) (hL : L ≤ 6) : ak_e ι az_z0.2.2.2.2.1 := by
  have full : ∀ k, 0 ≤ ak_b (ι.2.2.2.2.1 k) ∧ ak_b (ι.2.2.2.2.1 k) ≤ 4294967295 := fun k => ⟨Nat.zero_le _, by have := ak_b_lt (ι.2.2.2.2.1 k); omega⟩
  intro k q hq
  match k, hq with
  | 0, hq => cases hq; exact full 0
  | 1, hq => cases hq; exact full 1
  | 2, hq => cases hq; exact full 2
  | 3, hq => cases hq; exact full 3
  | 4, hq => cases hq; exact full 4
  | 5, hq => cases hq; exact full 5
  | 6, hq => cases hq; rw [h]; exact aw_63 (xs 0)
  | 7, hq => cases hq; rw [h]; exact aw_Lb hL
  | k + 8, hq => simp [az_z0] at hq
theorem aw_flags {l : Launch} (h : l.flags = flags0) : l.stackTraces = false := by
  unfold Launch.stackTraces
  rw [h]
  decide +kernel
set_option maxHeartbeats 4000000 in
/-- from the entry, for every script of at most 6 ints, the law comes to its end with true -/
theorem whole_start {p : Program} {e : Env} {s : State} {m : MethodId} {below : List Frame} {meth : Method} {c : Code} (l : Launch) (hl : l.stackTraces = false) {b L : Nat} {xs : Nat → Int32} (hL : L ≤ 6) (hnm : meth.name = "law") (C0 : lw_At p s m meth c b L xs) : W p l e room_1 s m #[Value.ref b] below meth c s.heap [] 0 0 (lw_Z below #[Value.ref b] s) (entryFrame m ([Value.ref b] : List Value).toArray 7) := by
  obtain ⟨hx, hb, hr, hml, hown, hts, hX, hbl, hlk, hgv0⟩ := C0
  have hgv := flat_of_before _ hgv0
  have hA : ∀ a : Nat, a < s.heap.size → ¬ (fun q : Nat => s.heap.size ≤ q) a := fun a h => Nat.not_le.mpr h
  have hW : ∀ w ∈ ak_W, w.before #[Value.ref b] s = true := fun w hw => hts w (List.mem_filter.mp hw).1
  obtain ⟨ad, hEn⟩ := aw_enum hts hgv hA
  obtain ⟨t0, z0, a0⟩ := aw_arr (C := "SpanCopier$Order") (n := "WITHOUT") (d := "[I") (l := [8, 1, 2, 12, 3, 1]) hts hgv hA (by decide) aw_n1.1 aw_n2.1 aw_n3.1 aw_n4.1 aw_n5
  obtain ⟨t1, z1, a1⟩ := aw_arr (C := "SpanCopier$Order") (n := "HIGHEST") (d := "[I") (l := [32, 2, 9, 60, 9, 60]) hts hgv hA (by decide) aw_n1.2.1 aw_n2.1 aw_n3.2.1 aw_n4.2.1 aw_n6
  obtain ⟨t3, z3, a3⟩ := aw_arr (C := "SpanCopier$1") (n := "$SwitchMap$SpanCopier$Word") (d := "[I") (l := ai_sw) hts hgv hA (by decide) aw_n1.2.2.1 aw_n2.2.1 aw_n3.2.2.1 aw_n4.2.2.1 aw_n7
  obtain ⟨t2, e2, a2⟩ := va_Tof (f := fun _ => .int 0) (N := 0) (by decide) (hgv _ aw_n3.2.2.2) (va_eqv (hgv _ aw_n4.2.2.2) rfl) (fun j hj => absurd hj (Nat.not_lt_zero _)) hA
  have z2 := va_Zref (hts _ aw_n1.2.2.2) (hts _ aw_n2.2.2) e2 hA
  obtain ⟨D, hD⟩ := aw_classes hW
  obtain ⟨c1, k1⟩ := aw_prim (hts _ aw_n8.1) (fun C h => by cases h)
  obtain ⟨c2, k2⟩ := aw_prim (hts _ aw_n8.2.1) (fun C h => by cases h)
  obtain ⟨c3, k3⟩ := aw_prim (hts _ aw_n8.2.2.1) (fun C h => by cases h)
  obtain ⟨c4, k4⟩ := aw_prim (hts _ aw_n8.2.2.2.1) (fun C h => by cases h)
  obtain ⟨c5, k5⟩ := aw_refA (hts _ aw_n8.2.2.2.2.1)
  obtain ⟨c6, k6⟩ := aw_refA (hts _ aw_n8.2.2.2.2.2)
  obtain ⟨ι, hι⟩ : ∃ ι : ak_I, ι = (s.heap.size, D, aw_cA c1 c2 c3 c4 c5 c6, aw_ad ad t0 t1 t2 t3 b, aw_sy L xs, []) := ⟨_, rfl⟩
  have hK : va_K ι.2.1 vwCl (ak_T ι) s := by
    subst hι
    refine ⟨hD, fun k q hq => ?_⟩
    match k, hq with
    | 0, hq => cases hq; exact k1
    | 1, hq => cases hq; exact k2
    | 2, hq => cases hq; exact k3
    | 3, hq => cases hq; exact k4
    | 4, hq => cases hq; exact k5
    | 5, hq => cases hq; exact k6
    | k + 6, hq => simp [ak_T] at hq
  have hS : ak_S ι s s.heap := by
    subst hι
    refine ⟨⟨fun i hi => ?_, fun i j hi hj he => ?_⟩, fun j l hjl => ?_, ⟨z2, a2⟩, L, xs, hX, hbl, hbl, hL, rfl, fun k hk => ?_, rfl⟩
    · have e : aw_ad ad t0 t1 t2 t3 b i = ad i := if_pos hi
      show va_Z _ _ _ (.ref (aw_ad ad t0 t1 t2 t3 b i)) _ s s.heap ∧ va_O _ (aw_ad ad t0 t1 t2 t3 b i) _ s s.heap ∧ ∀ q ∈ ak_ors, va_OF q.1 q.2.1 q.2.2.1 (.int (q.2.2.2.getD i 0)) (aw_ad ad t0 t1 t2 t3 b i) _ s s.heap
      rw [e]
      exact hEn.1 i hi
    · have e1 : aw_ad ad t0 t1 t2 t3 b i = ad i := if_pos hi
      have e2 : aw_ad ad t0 t1 t2 t3 b j = ad j := if_pos hj
      have he : aw_ad ad t0 t1 t2 t3 b i = aw_ad ad t0 t1 t2 t3 b j := he
      rw [e1, e2] at he
      exact hEn.2 i j hi hj he
    · have hj : ai_sar j = if Nat.beq j 40 = true then some [8, 1, 2, 12, 3, 1] else if Nat.beq j 41 = true then some [32, 2, 9, 60, 9, 60] else if Nat.beq j 43 = true then some ai_sw else none := by
        rw [← ak_if, ← ak_if, ← ak_if]; rfl
      rw [hj] at hjl
      simp only [Nat.beq_eq] at hjl
      split at hjl
      · rename_i h0; subst h0; cases hjl; exact ⟨z0, a0⟩
      · split at hjl
        · rename_i h0; subst h0; cases hjl; exact ⟨z1, a1⟩
        · split at hjl
          · rename_i h0; subst h0; cases hjl; exact ⟨z3, a3⟩
          · cases hjl
    · show aw_sy L xs k = xs k
      unfold aw_sy
      rw [if_neg (by omega), if_neg (by omega)]
  have hN : ak_Nw s := ⟨fun a i b' n d h hm => va_Nw.of rfl (hts _ hm), fun a i x h hm => va_Nw.of rfl (hts _ hm), va_AO.of (hts _ aw_n8.2.2.2.2.1), va_AO.of (hts _ aw_n8.2.2.2.2.2)⟩
  have hTh : aw_Th ι s s.heap := by
    subst hι
    exact ⟨vx_Zqof (hts _ aw_n9.1) (hts _ aw_n9.2.2.1) (hgv _ aw_n9.2.2.2.1) hA, vx_Zqof (hts _ aw_n9.2.1) (hts _ aw_n9.2.2.1) (hgv _ aw_n9.2.2.2.2) hA, va_Nw.of rfl (hts _ aw_n10.1), va_Nw.of rfl (hts _ aw_n10.2.1), va_Nw.of rfl (hts _ aw_n10.2.2.1), va_Nw.of rfl (hts _ aw_n10.2.2.2)⟩
  have hi1 : ι.1 = s.heap.size := by rw [hι]
  have C : ak_C ι ⟨"SpanCopierLaw", "law", "([I)Z"⟩ code ret ai_M179 8 p l e room_1 s m #[Value.ref b] below meth c :=
    ⟨⟨hx, hb, hr, hml⟩, ⟨hown, hW, hlk, hnm⟩, ⟨hK, hS, Nat.le_of_eq hi1, hN⟩, by decide, by decide, rfl, rfl⟩
  have hlv := lv_entry ([.ref b]) (n := 7) (Nat.le_of_ble_eq_true rfl)
  rw [lg_entry_eq]
  generalize (lg_sl ([.ref b]) ++ List.replicate (7 - (lg_sl ([.ref b])).length) Slot.unset).toArray = ls at hlv ⊢
  have hlv : lv_has ls 7 [(0, .ref b)] := hlv
  refine aF_z0 ai_M179 _ ak_t179 ak_q179 ι p l e room_1 s m #[Value.ref b] below meth c ⟨hl, hTh⟩ (by rw [hι]; exact Nat.le_refl 0) C (lw_Z below #[Value.ref b] s) ?_ [] ls [] s.heap [] ⟨(fun k q h => by cases h), ⟨⟨(fun i j p q h => by cases h), (fun k q h => by cases h)⟩, (by rw [hι]; exact List.nil_prefix)⟩, va_S.rf, ⟨rfl, rfl, fun k c h => absurd h (Nat.not_lt_zero _)⟩, ⟨Nat.le_refl _, [(0, .ref b)], hlv, fun i a ha h7 => ?_⟩, trivial, aw_env (by rw [hι]) hL⟩
  · intro o ho
    have ho : o = (some (0, 1), 76, az_dd 76, az_z0.2.2.2.2.1) := List.mem_singleton.mp ho
    subst ho
    intro ws ls' H locs pc nc ns v r1 r2 hP hD' hpre hS' hh he hcase
    rcases hcase with ⟨h1, -⟩ | ⟨u, x, h1, rfl, h3, -, h6⟩ | ⟨u, x, h1, rfl, h2, h3, -⟩ | ⟨k, h1, -⟩
    · cases h1
    · cases h1
      have hx1 : x = 1 := by
        obtain ⟨y, hy, h0, -⟩ := ak_v_int h3 (by simp)
        cases hy
        rw [h0 rfl]
        rfl
      subst hx1
      refine va_forget (fun q hq => by have := hS'.2.2 q hq; rw [← hi1]; exact this) ?_
      refine W.widen r1 r2 ?_
      exact lw_ret hx hb hr hlk (by rw [← hb]; exact h6)
    · cases h1
      obtain ⟨y, hy, -, -⟩ := ak_v_int h3 (by simp)
      rcases h2 with rfl | ⟨q, rfl⟩ <;> cases hy
    · cases h1
  · match i, ha with
    | 0, ha => cases ha; exact ⟨.ref b, List.mem_singleton.mpr rfl, Or.inr (Or.inr (Or.inr (Or.inr (Or.inr (Or.inr (Or.inr ⟨rfl, by rw [hι]; rfl⟩)))))), rfl⟩
    | 1, ha => cases ha; simp at h7
    | 2, ha => cases ha; simp at h7
    | 3, ha => cases ha; simp at h7
    | 4, ha => cases ha; simp at h7
    | 5, ha => cases ha; simp at h7
    | 6, ha => cases ha; simp at h7
    | i + 7, ha => simp [az_z0] at ha
end
section
set_option maxHeartbeats 4000000 in
theorem lw_walk (l : Launch) (hl : l.stackTraces = false) (b : Addr) (xs : List Int32) : MetFree l x (headSpec (Jvm.Cond.code x code maxLocals ret :: tables_1) room_1) (lw_P b xs) (fun _ _ _ _ _ => True) lw_Q := by
  refine MetFree.of_bodyS (code := code) (maxLocals := maxLocals) (ret := ret) (by decide) ?_ ?_
  · intro args s m h hn
    obtain ⟨meth, c, h1, h2, h3, h4, h5, h6, -, -⟩ := Cond.code_spec hn (atoms_spec (ws := Jvm.Cond.code x code maxLocals ret :: tables_1) h _ List.mem_cons_self)
    exact ⟨meth, c, h1, h2, h3, h4, h5, h6⟩
  · intro p e s m args below meth c s₁ B hml0 hP _
    obtain ⟨rfl, hx, hbd, hgv⟩ := hP
    obtain ⟨scr, harrAt, hlist, hof, hsmall⟩ := hx
    obtain ⟨hcb, hkn, -, -⟩ := State.arrayAt?_spec harrAt
    have hown : s.vm.findClass R_law = some m.cls := findClass_of_methodNamed B.named
    have hts0 : ∀ c ∈ (Jvm.Cond.code x code maxLocals ret :: tables_1), c.before #[Value.ref b] s = true := atoms_spec (ws := Jvm.Cond.code x code maxLocals ret :: tables_1) B.pre
    have hts : ∀ w ∈ lw_tbl, w.before #[Value.ref b] s = true := k2_hts_sels lw_privs (fun w hw => hts0 w (List.mem_cons_of_mem _ hw)) lw_privs_ok
    have hml : c.maxLocals = 7 := B.maxLocals_eq (hts0 _ List.mem_cons_self)
    have X₀ : Stand p l e room_1 s m #[Value.ref b] below meth c s₁ [] 0 0 := Stand.of_body B
    have hh0 : s₁.heap = s.heap := by rw [B.state]; rfl
    have hsz : scr.slots.size = xs.length := by rw [← Array.length_toList, hlist, List.length_map]
    have hval : ∀ j : Nat, j < xs.length → scr.slots[j]? = some (.int (xs.getD j 0)) := fun j hj => by
      rw [← Array.getElem?_toList, hlist]
      simp [hj]
    have hbl : b < s.heap.size := (Array.getElem?_eq_some_iff.mp hcb).1
    have hX : va_X b xs.length (fun j => xs.getD j 0) s s.heap := ⟨scr, hcb, hof, hkn, hsz, hval⟩
    have K : W p l e room_1 s m #[Value.ref b] below meth c s₁.heap [] 0 0 (lw_Z below #[Value.ref b] s) (entryFrame m ([Value.ref b] : List Value).toArray 7) := by
      rw [hh0]
      exact whole_start l hl hbd (name_of_methodNamed B.named B.method).1 ⟨B.exec, B.bytes, B.returns, hml, hown, hts, hX, hbl, B.notSynchronized, hgv⟩
    obtain ⟨t, a1, o, b1, b2, b3⟩ := K s₁ rfl X₀
    exact ⟨t, o, a1, b1, b2, b3⟩
theorem lw_pre_spec {args : Array Value} {s : State} (h : (Jvm.Cond.and given_1 narrow_1).before args s = true) (hr : rest_1_c.before args s = true) : ∃ (b : Addr) (xs : List Int32), lw_P b xs args s := by
  have hs := flat_of_before _ h
  have hq := flat_of_before _ hr
  have hc : (Cond.count 1).before args s = true := hs _ (by decide +kernel)
  have harr : (Cond.arrayOf (.arg 0) .int).before args s = true := hs _ (by decide +kernel)
  have hle : (Cond.le (.length (.arg 0)) (.int 6)).before args s = true := hs _ (by decide +kernel)
  have hlen : (Cond.isInt (.length (.arg 0))).before args s = true := hq _ (by decide +kernel)
  have hall : (Cond.all (.arg 0) (.isInt (.elem (.arg 0) (.index 0)))).before args s = true := hq _ (by decide +kernel)
  obtain ⟨b, xs, hb, hx⟩ := State.ints_of_pre rfl harr hlen hall
  have hsm : xs.length < 2 ^ 31 := hx.choose_spec.2.2.2
  have hev : (Term.length (.arg 0)).eval args s none [] s = some (.int xs.length.toInt32) := hx.length_eval hb
  have hv := Cond.le_ints hev (show (Term.int 6).eval args s none [] s = some (.int 6) from rfl)
  have hd : xs.length.toInt32 ≤ 6 := by
    simpa [Cond.before, Cond.holds, hv] using hle
  have hN : xs.length ≤ 6 := (Int32.ofNat_le_ofNat hsm (by decide)).mp (show Int32.ofNat xs.length ≤ Int32.ofNat 6 from hd)
  exact ⟨b, xs, Cond.one_arg hc (show args[0]? = some (.ref b) from hb), hx, hN, h⟩
theorem lw_comes (l : Launch) (hl : l.stackTraces = false) : Comes l x (Jvm.Cond.code x code maxLocals ret :: tables_1) room_1 (fun tb e args s => Calls_1 tb e args s ∧ rest_1 tb e args s ∧ Pre_1 tb e args s)
    (fun _ _ args s o t => lw_Q args s o t) := by
  intro p e ha hc hk s m args below hf hfit hheap happ hpre
  obtain ⟨b, xs, hP⟩ := lw_pre_spec hpre.2.2 hpre.2.1
  obtain ⟨k, o, h1, h2, h3, hQ⟩ := lw_walk l hl b xs p e ha hc hk s m args below hf ((Spec.applies_iff_loose hf).mp happ).1 hP trivial
  exact ⟨k, o, h1, h2, h3, hQ⟩
theorem lw_frame {s t : State} {o : Outcome} {args : Array Value} (h : Framed s o t [] 600002 7302232) :
    Framed s o t (fieldLocs frame_1_writes args s ++ arrayLocs frame_1_arrays args s ++ staticLocs frame_1_statics s) 600002 7302232 := h
theorem lw_limb (L : Cond) (hL : ∀ (args : Array Value) (s t : State), L.after args s (.returned (some (.int 1))) t = true) :
    ArmFor flags0 classFile x code maxLocals ret World_1 tables_1 room_1 Calls_1 rest_1 Pre_1
      (fun tb e a s o t => postC L tb e a s o t ∧ Framed s o t (fieldLocs frame_1_writes a s ++ arrayLocs frame_1_arrays a s ++ staticLocs frame_1_statics s) 600002 7302232) := by
  intro l hfl _ _ p e ha hc hk s m args below hf hfit hheap happ hpre
  obtain ⟨k, o, h1, h2, h3, rfl, hF⟩ := lw_comes l (aw_flags hfl) p e ha hc hk s m args below hf hfit hheap happ hpre
  exact ⟨k, _, h1, h2, h3, hL args s _, lw_frame hF⟩
theorem i_vc : Claimed_1_1 ∧ Claimed_1_2 := ⟨lw_limb limb_1_1 (fun args s t => by simp [limb_1_1, Cond.after, Cond.holds, Cond.value]), lw_limb limb_1_2 (fun args s t => Cond.after_iff.mpr (by
  first | (rw [show limb_1_2 = Cond.eq .result (.int 1) from rfl, Cond.eq_ints (x := 1) (y := 1) rfl rfl]; simp; done) | (simp [limb_1_2, Cond.value, Term.eval]; done)))⟩
end
