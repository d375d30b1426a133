section
-- ===== PART A: goes FIRST, ahead of the names: the tables' words, and 'selects' of the private methods out of them =====
/-- a private method of a class that the tables say can be made, by its rows of tables_1 -/
def lw_okq (q : MethodName × Nat) : Prop := (q.1.cls ≠ "java/lang/invoke/MethodHandle" ∧ q.1.cls ≠ "java/lang/invoke/VarHandle") ∧ Cond.instantiable q.1.cls q.2 ∈ tables_1 ∧ Cond.privateMethod q.1 ∈ tables_1 ∧ Cond.instanceMethod q.1 ∈ tables_1
theorem lw_p0 : lw_okq (⟨"TreeCarrier", "slotOf", "(II)LTreeCarrier$StoredFile;"⟩, 12) := ⟨⟨by decide +kernel, by decide +kernel⟩, List.mem_of_getElem? (i := 12) (by decide +kernel), List.mem_of_getElem? (i := 256) (by decide +kernel), List.mem_of_getElem? (i := 257) (by decide +kernel)⟩
theorem lw_p1 : lw_okq (⟨"TreeCarrier", "tick", "()I"⟩, 12) := ⟨⟨by decide +kernel, by decide +kernel⟩, List.mem_of_getElem? (i := 12) (by decide +kernel), List.mem_of_getElem? (i := 274) (by decide +kernel), List.mem_of_getElem? (i := 275) (by decide +kernel)⟩
theorem lw_p2 : lw_okq (⟨"TreeCarrier", "fileOf", "(II)LTreeCarrier$StoredFile;"⟩, 12) := ⟨⟨by decide +kernel, by decide +kernel⟩, List.mem_of_getElem? (i := 12) (by decide +kernel), List.mem_of_getElem? (i := 282) (by decide +kernel), List.mem_of_getElem? (i := 283) (by decide +kernel)⟩
theorem lw_p3 : lw_okq (⟨"TreeCarrier", "doAllRecords", "()V"⟩, 12) := ⟨⟨by decide +kernel, by decide +kernel⟩, List.mem_of_getElem? (i := 12) (by decide +kernel), List.mem_of_getElem? (i := 311) (by decide +kernel), List.mem_of_getElem? (i := 312) (by decide +kernel)⟩
theorem lw_p4 : lw_okq (⟨"TreeCarrier", "doOldestRecord", "()V"⟩, 12) := ⟨⟨by decide +kernel, by decide +kernel⟩, List.mem_of_getElem? (i := 12) (by decide +kernel), List.mem_of_getElem? (i := 315) (by decide +kernel), List.mem_of_getElem? (i := 316) (by decide +kernel)⟩
theorem lw_p5 : lw_okq (⟨"TreeCarrier", "sendEntries", "()V"⟩, 12) := ⟨⟨by decide +kernel, by decide +kernel⟩, List.mem_of_getElem? (i := 12) (by decide +kernel), List.mem_of_getElem? (i := 327) (by decide +kernel), List.mem_of_getElem? (i := 328) (by decide +kernel)⟩
theorem lw_p6 : lw_okq (⟨"TreeCarrier", "lineOf", "(I)LTreeCarrier$Line;"⟩, 12) := ⟨⟨by decide +kernel, by decide +kernel⟩, List.mem_of_getElem? (i := 12) (by decide +kernel), List.mem_of_getElem? (i := 347) (by decide +kernel), List.mem_of_getElem? (i := 348) (by decide +kernel)⟩
theorem lw_p7 : lw_okq (⟨"TreeCarrier", "receive", "(LTreeCarrier$Message;)V"⟩, 12) := ⟨⟨by decide +kernel, by decide +kernel⟩, List.mem_of_getElem? (i := 12) (by decide +kernel), List.mem_of_getElem? (i := 355) (by decide +kernel), List.mem_of_getElem? (i := 356) (by decide +kernel)⟩
theorem lw_p8 : lw_okq (⟨"TreeCarrier", "noteEntry", "(LTreeCarrier$Message;)V"⟩, 12) := ⟨⟨by decide +kernel, by decide +kernel⟩, List.mem_of_getElem? (i := 12) (by decide +kernel), List.mem_of_getElem? (i := 359) (by decide +kernel), List.mem_of_getElem? (i := 360) (by decide +kernel)⟩
theorem lw_p9 : lw_okq (⟨"TreeCarrier", "entryOf", "(I)LTreeCarrier$Entry;"⟩, 12) := ⟨⟨by decide +kernel, by decide +kernel⟩, List.mem_of_getElem? (i := 12) (by decide +kernel), List.mem_of_getElem? (i := 363) (by decide +kernel), List.mem_of_getElem? (i := 364) (by decide +kernel)⟩
theorem lw_p10 : lw_okq (⟨"TreeCarrier", "openEntries", "()V"⟩, 12) := ⟨⟨by decide +kernel, by decide +kernel⟩, List.mem_of_getElem? (i := 12) (by decide +kernel), List.mem_of_getElem? (i := 367) (by decide +kernel), List.mem_of_getElem? (i := 368) (by decide +kernel)⟩
theorem lw_p11 : lw_okq (⟨"TreeCarrier", "sendSignature", "(II)V"⟩, 12) := ⟨⟨by decide +kernel, by decide +kernel⟩, List.mem_of_getElem? (i := 12) (by decide +kernel), List.mem_of_getElem? (i := 375) (by decide +kernel), List.mem_of_getElem? (i := 376) (by decide +kernel)⟩
theorem lw_p12 : lw_okq (⟨"TreeCarrier$Row", "strongSum", "(II)I"⟩, 2) := ⟨⟨by decide +kernel, by decide +kernel⟩, List.mem_of_getElem? (i := 116) (by decide +kernel), List.mem_of_getElem? (i := 383) (by decide +kernel), List.mem_of_getElem? (i := 384) (by decide +kernel)⟩
theorem lw_p13 : lw_okq (⟨"TreeCarrier$Row", "weakSum", "(II)I"⟩, 2) := ⟨⟨by decide +kernel, by decide +kernel⟩, List.mem_of_getElem? (i := 116) (by decide +kernel), List.mem_of_getElem? (i := 392) (by decide +kernel), List.mem_of_getElem? (i := 393) (by decide +kernel)⟩
theorem lw_p14 : lw_okq (⟨"TreeCarrier", "receiveDelta", "(LTreeCarrier$Message;)V"⟩, 12) := ⟨⟨by decide +kernel, by decide +kernel⟩, List.mem_of_getElem? (i := 12) (by decide +kernel), List.mem_of_getElem? (i := 400) (by decide +kernel), List.mem_of_getElem? (i := 401) (by decide +kernel)⟩
theorem lw_p15 : lw_okq (⟨"TreeCarrier", "rebuild", "(LTreeCarrier$Row;LTreeCarrier$Message;)V"⟩, 12) := ⟨⟨by decide +kernel, by decide +kernel⟩, List.mem_of_getElem? (i := 12) (by decide +kernel), List.mem_of_getElem? (i := 404) (by decide +kernel), List.mem_of_getElem? (i := 405) (by decide +kernel)⟩
def lw_privs_1 : List (MethodName × Nat) := [(⟨"TreeCarrier", "slotOf", "(II)LTreeCarrier$StoredFile;"⟩, 12), (⟨"TreeCarrier", "tick", "()I"⟩, 12), (⟨"TreeCarrier", "fileOf", "(II)LTreeCarrier$StoredFile;"⟩, 12), (⟨"TreeCarrier", "doAllRecords", "()V"⟩, 12), (⟨"TreeCarrier", "doOldestRecord", "()V"⟩, 12), (⟨"TreeCarrier", "sendEntries", "()V"⟩, 12), (⟨"TreeCarrier", "lineOf", "(I)LTreeCarrier$Line;"⟩, 12), (⟨"TreeCarrier", "receive", "(LTreeCarrier$Message;)V"⟩, 12), (⟨"TreeCarrier", "noteEntry", "(LTreeCarrier$Message;)V"⟩, 12), (⟨"TreeCarrier", "entryOf", "(I)LTreeCarrier$Entry;"⟩, 12), (⟨"TreeCarrier", "openEntries", "()V"⟩, 12), (⟨"TreeCarrier", "sendSignature", "(II)V"⟩, 12), (⟨"TreeCarrier$Row", "strongSum", "(II)I"⟩, 2), (⟨"TreeCarrier$Row", "weakSum", "(II)I"⟩, 2), (⟨"TreeCarrier", "receiveDelta", "(LTreeCarrier$Message;)V"⟩, 12), (⟨"TreeCarrier", "rebuild", "(LTreeCarrier$Row;LTreeCarrier$Message;)V"⟩, 12)]
theorem lw_r1 : ∀ q ∈ lw_privs_1, lw_okq q := List.forall_mem_cons.mpr ⟨lw_p0, List.forall_mem_cons.mpr ⟨lw_p1, List.forall_mem_cons.mpr ⟨lw_p2, List.forall_mem_cons.mpr ⟨lw_p3, List.forall_mem_cons.mpr ⟨lw_p4, List.forall_mem_cons.mpr ⟨lw_p5, List.forall_mem_cons.mpr ⟨lw_p6, List.forall_mem_cons.mpr ⟨lw_p7, List.forall_mem_cons.mpr ⟨lw_p8, List.forall_mem_cons.mpr ⟨lw_p9, List.forall_mem_cons.mpr ⟨lw_p10, List.forall_mem_cons.mpr ⟨lw_p11, List.forall_mem_cons.mpr ⟨lw_p12, List.forall_mem_cons.mpr ⟨lw_p13, List.forall_mem_cons.mpr ⟨lw_p14, List.forall_mem_cons.mpr ⟨lw_p15, fun _ h => absurd h List.not_mem_nil⟩⟩⟩⟩⟩⟩⟩⟩⟩⟩⟩⟩⟩⟩⟩⟩
theorem lw_p16 : lw_okq (⟨"TreeCarrier", "failEntry", "(I)V"⟩, 12) := ⟨⟨by decide +kernel, by decide +kernel⟩, List.mem_of_getElem? (i := 12) (by decide +kernel), List.mem_of_getElem? (i := 425) (by decide +kernel), List.mem_of_getElem? (i := 426) (by decide +kernel)⟩
theorem lw_p17 : lw_okq (⟨"TreeCarrier", "hasOpenEntry", "()Z"⟩, 12) := ⟨⟨by decide +kernel, by decide +kernel⟩, List.mem_of_getElem? (i := 12) (by decide +kernel), List.mem_of_getElem? (i := 429) (by decide +kernel), List.mem_of_getElem? (i := 430) (by decide +kernel)⟩
theorem lw_p18 : lw_okq (⟨"TreeCarrier", "concludeSession", "()V"⟩, 12) := ⟨⟨by decide +kernel, by decide +kernel⟩, List.mem_of_getElem? (i := 12) (by decide +kernel), List.mem_of_getElem? (i := 433) (by decide +kernel), List.mem_of_getElem? (i := 434) (by decide +kernel)⟩
theorem lw_p19 : lw_okq (⟨"TreeCarrier", "deleteUnlisted", "()V"⟩, 12) := ⟨⟨by decide +kernel, by decide +kernel⟩, List.mem_of_getElem? (i := 12) (by decide +kernel), List.mem_of_getElem? (i := 437) (by decide +kernel), List.mem_of_getElem? (i := 438) (by decide +kernel)⟩
theorem lw_p20 : lw_okq (⟨"TreeCarrier", "endSession", "()V"⟩, 12) := ⟨⟨by decide +kernel, by decide +kernel⟩, List.mem_of_getElem? (i := 12) (by decide +kernel), List.mem_of_getElem? (i := 441) (by decide +kernel), List.mem_of_getElem? (i := 442) (by decide +kernel)⟩
theorem lw_p21 : lw_okq (⟨"TreeCarrier", "answerSignature", "(LTreeCarrier$Message;)V"⟩, 12) := ⟨⟨by decide +kernel, by decide +kernel⟩, List.mem_of_getElem? (i := 12) (by decide +kernel), List.mem_of_getElem? (i := 453) (by decide +kernel), List.mem_of_getElem? (i := 454) (by decide +kernel)⟩
theorem lw_p22 : lw_okq (⟨"TreeCarrier", "fillDelta", "(LTreeCarrier$Message;LTreeCarrier$Row;LTreeCarrier$Message;)V"⟩, 12) := ⟨⟨by decide +kernel, by decide +kernel⟩, List.mem_of_getElem? (i := 12) (by decide +kernel), List.mem_of_getElem? (i := 457) (by decide +kernel), List.mem_of_getElem? (i := 458) (by decide +kernel)⟩
theorem lw_p23 : lw_okq (⟨"TreeCarrier", "findBlock", "(LTreeCarrier$Row;ILTreeCarrier$Message;)I"⟩, 12) := ⟨⟨by decide +kernel, by decide +kernel⟩, List.mem_of_getElem? (i := 12) (by decide +kernel), List.mem_of_getElem? (i := 461) (by decide +kernel), List.mem_of_getElem? (i := 462) (by decide +kernel)⟩
theorem lw_p24 : lw_okq (⟨"TreeCarrierModel", "isSelected", "(I)Z"⟩, 28) := ⟨⟨by decide +kernel, by decide +kernel⟩, List.mem_of_getElem? (i := 510) (by decide +kernel), List.mem_of_getElem? (i := 612) (by decide +kernel), List.mem_of_getElem? (i := 613) (by decide +kernel)⟩
theorem lw_p25 : lw_okq (⟨"TreeCarrierModel", "touch", "(I)V"⟩, 28) := ⟨⟨by decide +kernel, by decide +kernel⟩, List.mem_of_getElem? (i := 510) (by decide +kernel), List.mem_of_getElem? (i := 620) (by decide +kernel), List.mem_of_getElem? (i := 621) (by decide +kernel)⟩
theorem lw_p26 : lw_okq (⟨"TreeCarrierModel", "file", "(II)I"⟩, 28) := ⟨⟨by decide +kernel, by decide +kernel⟩, List.mem_of_getElem? (i := 510) (by decide +kernel), List.mem_of_getElem? (i := 628) (by decide +kernel), List.mem_of_getElem? (i := 629) (by decide +kernel)⟩
theorem lw_p27 : lw_okq (⟨"TreeCarrierModel", "finishAll", "()V"⟩, 28) := ⟨⟨by decide +kernel, by decide +kernel⟩, List.mem_of_getElem? (i := 510) (by decide +kernel), List.mem_of_getElem? (i := 652) (by decide +kernel), List.mem_of_getElem? (i := 653) (by decide +kernel)⟩
theorem lw_p28 : lw_okq (⟨"TreeCarrierModel", "finishRecord", "()V"⟩, 28) := ⟨⟨by decide +kernel, by decide +kernel⟩, List.mem_of_getElem? (i := 510) (by decide +kernel), List.mem_of_getElem? (i := 656) (by decide +kernel), List.mem_of_getElem? (i := 657) (by decide +kernel)⟩
theorem lw_p29 : lw_okq (⟨"TreeCarrierModel", "add", "(I)V"⟩, 28) := ⟨⟨by decide +kernel, by decide +kernel⟩, List.mem_of_getElem? (i := 510) (by decide +kernel), List.mem_of_getElem? (i := 660) (by decide +kernel), List.mem_of_getElem? (i := 661) (by decide +kernel)⟩
theorem lw_p30 : lw_okq (⟨"TreeCarrierModel", "message", "(IIIIII)V"⟩, 28) := ⟨⟨by decide +kernel, by decide +kernel⟩, List.mem_of_getElem? (i := 510) (by decide +kernel), List.mem_of_getElem? (i := 664) (by decide +kernel), List.mem_of_getElem? (i := 665) (by decide +kernel)⟩
theorem lw_p31 : lw_okq (⟨"TreeCarrierModel", "over", "()V"⟩, 28) := ⟨⟨by decide +kernel, by decide +kernel⟩, List.mem_of_getElem? (i := 510) (by decide +kernel), List.mem_of_getElem? (i := 672) (by decide +kernel), List.mem_of_getElem? (i := 673) (by decide +kernel)⟩
def lw_privs_2 : List (MethodName × Nat) := [(⟨"TreeCarrier", "failEntry", "(I)V"⟩, 12), (⟨"TreeCarrier", "hasOpenEntry", "()Z"⟩, 12), (⟨"TreeCarrier", "concludeSession", "()V"⟩, 12), (⟨"TreeCarrier", "deleteUnlisted", "()V"⟩, 12), (⟨"TreeCarrier", "endSession", "()V"⟩, 12), (⟨"TreeCarrier", "answerSignature", "(LTreeCarrier$Message;)V"⟩, 12), (⟨"TreeCarrier", "fillDelta", "(LTreeCarrier$Message;LTreeCarrier$Row;LTreeCarrier$Message;)V"⟩, 12), (⟨"TreeCarrier", "findBlock", "(LTreeCarrier$Row;ILTreeCarrier$Message;)I"⟩, 12), (⟨"TreeCarrierModel", "isSelected", "(I)Z"⟩, 28), (⟨"TreeCarrierModel", "touch", "(I)V"⟩, 28), (⟨"TreeCarrierModel", "file", "(II)I"⟩, 28), (⟨"TreeCarrierModel", "finishAll", "()V"⟩, 28), (⟨"TreeCarrierModel", "finishRecord", "()V"⟩, 28), (⟨"TreeCarrierModel", "add", "(I)V"⟩, 28), (⟨"TreeCarrierModel", "message", "(IIIIII)V"⟩, 28), (⟨"TreeCarrierModel", "over", "()V"⟩, 28)]
theorem lw_r2 : ∀ q ∈ lw_privs_2, lw_okq q := List.forall_mem_cons.mpr ⟨lw_p16, List.forall_mem_cons.mpr ⟨lw_p17, List.forall_mem_cons.mpr ⟨lw_p18, List.forall_mem_cons.mpr ⟨lw_p19, List.forall_mem_cons.mpr ⟨lw_p20, List.forall_mem_cons.mpr ⟨lw_p21, List.forall_mem_cons.mpr ⟨lw_p22, List.forall_mem_cons.mpr ⟨lw_p23, List.forall_mem_cons.mpr ⟨lw_p24, List.forall_mem_cons.mpr ⟨lw_p25, List.forall_mem_cons.mpr ⟨lw_p26, List.forall_mem_cons.mpr ⟨lw_p27, List.forall_mem_cons.mpr ⟨lw_p28, List.forall_mem_cons.mpr ⟨lw_p29, List.forall_mem_cons.mpr ⟨lw_p30, List.forall_mem_cons.mpr ⟨lw_p31, fun _ h => absurd h List.not_mem_nil⟩⟩⟩⟩⟩⟩⟩⟩⟩⟩⟩⟩⟩⟩⟩⟩
theorem lw_p32 : lw_okq (⟨"TreeCarrierModel", "take", "(I)I"⟩, 28) := ⟨⟨by decide +kernel, by decide +kernel⟩, List.mem_of_getElem? (i := 510) (by decide +kernel), List.mem_of_getElem? (i := 680) (by decide +kernel), List.mem_of_getElem? (i := 681) (by decide +kernel)⟩
theorem lw_p33 : lw_okq (⟨"TreeCarrierModel", "note", "(I)V"⟩, 28) := ⟨⟨by decide +kernel, by decide +kernel⟩, List.mem_of_getElem? (i := 510) (by decide +kernel), List.mem_of_getElem? (i := 684) (by decide +kernel), List.mem_of_getElem? (i := 685) (by decide +kernel)⟩
theorem lw_p34 : lw_okq (⟨"TreeCarrierModel", "end", "()V"⟩, 28) := ⟨⟨by decide +kernel, by decide +kernel⟩, List.mem_of_getElem? (i := 510) (by decide +kernel), List.mem_of_getElem? (i := 688) (by decide +kernel), List.mem_of_getElem? (i := 689) (by decide +kernel)⟩
theorem lw_p35 : lw_okq (⟨"TreeCarrierModel", "sendSignature", "(II)V"⟩, 28) := ⟨⟨by decide +kernel, by decide +kernel⟩, List.mem_of_getElem? (i := 510) (by decide +kernel), List.mem_of_getElem? (i := 692) (by decide +kernel), List.mem_of_getElem? (i := 693) (by decide +kernel)⟩
theorem lw_p36 : lw_okq (⟨"TreeCarrierModel", "weak", "(II)I"⟩, 28) := ⟨⟨by decide +kernel, by decide +kernel⟩, List.mem_of_getElem? (i := 510) (by decide +kernel), List.mem_of_getElem? (i := 696) (by decide +kernel), List.mem_of_getElem? (i := 697) (by decide +kernel)⟩
theorem lw_p37 : lw_okq (⟨"TreeCarrierModel", "more", "(I)V"⟩, 28) := ⟨⟨by decide +kernel, by decide +kernel⟩, List.mem_of_getElem? (i := 510) (by decide +kernel), List.mem_of_getElem? (i := 700) (by decide +kernel), List.mem_of_getElem? (i := 701) (by decide +kernel)⟩
theorem lw_p38 : lw_okq (⟨"TreeCarrierModel", "strong", "(III)I"⟩, 28) := ⟨⟨by decide +kernel, by decide +kernel⟩, List.mem_of_getElem? (i := 510) (by decide +kernel), List.mem_of_getElem? (i := 704) (by decide +kernel), List.mem_of_getElem? (i := 705) (by decide +kernel)⟩
theorem lw_p39 : lw_okq (⟨"TreeCarrierModel", "concludeIfDone", "()V"⟩, 28) := ⟨⟨by decide +kernel, by decide +kernel⟩, List.mem_of_getElem? (i := 510) (by decide +kernel), List.mem_of_getElem? (i := 709) (by decide +kernel), List.mem_of_getElem? (i := 710) (by decide +kernel)⟩
theorem lw_p40 : lw_okq (⟨"TreeCarrierModel", "answer", "(I)V"⟩, 28) := ⟨⟨by decide +kernel, by decide +kernel⟩, List.mem_of_getElem? (i := 510) (by decide +kernel), List.mem_of_getElem? (i := 713) (by decide +kernel), List.mem_of_getElem? (i := 714) (by decide +kernel)⟩
theorem lw_p41 : lw_okq (⟨"TreeCarrierModel", "match", "(III)I"⟩, 28) := ⟨⟨by decide +kernel, by decide +kernel⟩, List.mem_of_getElem? (i := 510) (by decide +kernel), List.mem_of_getElem? (i := 719) (by decide +kernel), List.mem_of_getElem? (i := 720) (by decide +kernel)⟩
theorem lw_p42 : lw_okq (⟨"TreeCarrierModel", "delta", "(I)V"⟩, 28) := ⟨⟨by decide +kernel, by decide +kernel⟩, List.mem_of_getElem? (i := 510) (by decide +kernel), List.mem_of_getElem? (i := 723) (by decide +kernel), List.mem_of_getElem? (i := 724) (by decide +kernel)⟩
theorem lw_p43 : lw_okq (⟨"TreeCarrierModel", "entryOf", "(I)I"⟩, 28) := ⟨⟨by decide +kernel, by decide +kernel⟩, List.mem_of_getElem? (i := 510) (by decide +kernel), List.mem_of_getElem? (i := 727) (by decide +kernel), List.mem_of_getElem? (i := 728) (by decide +kernel)⟩
theorem lw_p44 : lw_okq (⟨"TreeCarrierModel", "rebuild", "(I)I"⟩, 28) := ⟨⟨by decide +kernel, by decide +kernel⟩, List.mem_of_getElem? (i := 510) (by decide +kernel), List.mem_of_getElem? (i := 731) (by decide +kernel), List.mem_of_getElem? (i := 732) (by decide +kernel)⟩
def lw_privs_3 : List (MethodName × Nat) := [(⟨"TreeCarrierModel", "take", "(I)I"⟩, 28), (⟨"TreeCarrierModel", "note", "(I)V"⟩, 28), (⟨"TreeCarrierModel", "end", "()V"⟩, 28), (⟨"TreeCarrierModel", "sendSignature", "(II)V"⟩, 28), (⟨"TreeCarrierModel", "weak", "(II)I"⟩, 28), (⟨"TreeCarrierModel", "more", "(I)V"⟩, 28), (⟨"TreeCarrierModel", "strong", "(III)I"⟩, 28), (⟨"TreeCarrierModel", "concludeIfDone", "()V"⟩, 28), (⟨"TreeCarrierModel", "answer", "(I)V"⟩, 28), (⟨"TreeCarrierModel", "match", "(III)I"⟩, 28), (⟨"TreeCarrierModel", "delta", "(I)V"⟩, 28), (⟨"TreeCarrierModel", "entryOf", "(I)I"⟩, 28), (⟨"TreeCarrierModel", "rebuild", "(I)I"⟩, 28)]
theorem lw_r3 : ∀ q ∈ lw_privs_3, lw_okq q := List.forall_mem_cons.mpr ⟨lw_p32, List.forall_mem_cons.mpr ⟨lw_p33, List.forall_mem_cons.mpr ⟨lw_p34, List.forall_mem_cons.mpr ⟨lw_p35, List.forall_mem_cons.mpr ⟨lw_p36, List.forall_mem_cons.mpr ⟨lw_p37, List.forall_mem_cons.mpr ⟨lw_p38, List.forall_mem_cons.mpr ⟨lw_p39, List.forall_mem_cons.mpr ⟨lw_p40, List.forall_mem_cons.mpr ⟨lw_p41, List.forall_mem_cons.mpr ⟨lw_p42, List.forall_mem_cons.mpr ⟨lw_p43, List.forall_mem_cons.mpr ⟨lw_p44, fun _ h => absurd h List.not_mem_nil⟩⟩⟩⟩⟩⟩⟩⟩⟩⟩⟩⟩⟩
def lw_privs : List (MethodName × Nat) := lw_privs_1 ++ (lw_privs_2 ++ (lw_privs_3))
def lw_tbl : List Cond := k2_sels lw_privs ++ tables_1
theorem lw_privs_ok : ∀ q ∈ lw_privs, lw_okq q := by
  show ∀ q ∈ lw_privs_1 ++ (lw_privs_2 ++ (lw_privs_3)), lw_okq q
  exact List.forall_mem_append.mpr ⟨lw_r1, List.forall_mem_append.mpr ⟨lw_r2, lw_r3⟩⟩
end
section
def R_En : String := "TreeCarrier$Entry"
def F_En : u_T := fun k => match k with
  | 0 => ("TreeCarrier$Entry", "noted", "Z", false)
  | 1 => ("TreeCarrier$Entry", "open", "Z", false)
  | 2 => ("TreeCarrier$Entry", "fileSize", "I", false)
  | _ => ("TreeCarrier$Entry", "fileStamp", "I", false)
def t_En : Nat → FieldType := fun k => match k with
  | 0 => .boolean
  | 1 => .boolean
  | 2 => .int
  | _ => .int
theorem n_En : ∀ a, a < 4 → ∀ b, b < 4 → a ≠ b → (F_En a).2.1 ≠ (F_En b).2.1 := by decide +kernel
theorem t_En_ok : ∀ k, k < 4 → parseFieldDescriptor (F_En k).2.2.1 = some (t_En k) := by decide +kernel
def R_Jo : String := "TreeCarrier$Journal"
def F_Jo : u_T := fun k => match k with
  | 0 => ("TreeCarrier$Journal", "ring", "[LTreeCarrier$JournalRecord;", true)
  | 1 => ("TreeCarrier$Journal", "oldest", "I", false)
  | _ => ("TreeCarrier$Journal", "length", "I", false)
def t_Jo : Nat → FieldType := fun k => match k with
  | 0 => .array (.object "TreeCarrier$JournalRecord")
  | 1 => .int
  | _ => .int
theorem n_Jo : ∀ a, a < 3 → ∀ b, b < 3 → a ≠ b → (F_Jo a).2.1 ≠ (F_Jo b).2.1 := by decide +kernel
theorem t_Jo_ok : ∀ k, k < 3 → parseFieldDescriptor (F_Jo k).2.2.1 = some (t_Jo k) := by decide +kernel
def R_Jr : String := "TreeCarrier$JournalRecord"
def F_Jr : u_T := fun k => match k with
  | 0 => ("TreeCarrier$JournalRecord", "row", "LTreeCarrier$Row;", true)
  | 1 => ("TreeCarrier$JournalRecord", "name", "I", false)
  | _ => ("TreeCarrier$JournalRecord", "stamp", "I", false)
def t_Jr : Nat → FieldType := fun k => match k with
  | 0 => .object "TreeCarrier$Row"
  | 1 => .int
  | _ => .int
theorem n_Jr : ∀ a, a < 3 → ∀ b, b < 3 → a ≠ b → (F_Jr a).2.1 ≠ (F_Jr b).2.1 := by decide +kernel
theorem t_Jr_ok : ∀ k, k < 3 → parseFieldDescriptor (F_Jr k).2.2.1 = some (t_Jr k) := by decide +kernel
def R_Li : String := "TreeCarrier$Line"
def F_Li : u_T := fun k => match k with
  | 0 => ("TreeCarrier$Line", "ring", "[LTreeCarrier$Message;", true)
  | 1 => ("TreeCarrier$Line", "oldest", "I", false)
  | _ => ("TreeCarrier$Line", "length", "I", false)
def t_Li : Nat → FieldType := fun k => match k with
  | 0 => .array (.object "TreeCarrier$Message")
  | 1 => .int
  | _ => .int
theorem n_Li : ∀ a, a < 3 → ∀ b, b < 3 → a ≠ b → (F_Li a).2.1 ≠ (F_Li b).2.1 := by decide +kernel
theorem t_Li_ok : ∀ k, k < 3 → parseFieldDescriptor (F_Li k).2.2.1 = some (t_Li k) := by decide +kernel
def R_Ms : String := "TreeCarrier$Message"
def F_Ms : u_T := fun k => match k with
  | 0 => ("TreeCarrier$Message", "kind", "I", false)
  | 1 => ("TreeCarrier$Message", "name", "I", false)
  | 2 => ("TreeCarrier$Message", "fileSize", "I", false)
  | 3 => ("TreeCarrier$Message", "fileStamp", "I", false)
  | 4 => ("TreeCarrier$Message", "attempt", "I", false)
  | 5 => ("TreeCarrier$Message", "digest", "I", false)
  | 6 => ("TreeCarrier$Message", "itemCount", "I", false)
  | _ => ("TreeCarrier$Message", "items", "[I", true)
def t_Ms : Nat → FieldType := fun k => match k with
  | 0 => .int
  | 1 => .int
  | 2 => .int
  | 3 => .int
  | 4 => .int
  | 5 => .int
  | 6 => .int
  | _ => .array (.int)
theorem n_Ms : ∀ a, a < 8 → ∀ b, b < 8 → a ≠ b → (F_Ms a).2.1 ≠ (F_Ms b).2.1 := by decide +kernel
theorem t_Ms_ok : ∀ k, k < 8 → parseFieldDescriptor (F_Ms k).2.2.1 = some (t_Ms k) := by decide +kernel
def R_Ro : String := "TreeCarrier$Row"
def F_Ro : u_T := fun k => match k with
  | 0 => ("TreeCarrier$Row", "bytes", "[I", true)
  | _ => ("TreeCarrier$Row", "length", "I", false)
def t_Ro : Nat → FieldType := fun k => match k with
  | 0 => .array (.int)
  | _ => .int
theorem n_Ro : ∀ a, a < 2 → ∀ b, b < 2 → a ≠ b → (F_Ro a).2.1 ≠ (F_Ro b).2.1 := by decide +kernel
theorem t_Ro_ok : ∀ k, k < 2 → parseFieldDescriptor (F_Ro k).2.2.1 = some (t_Ro k) := by decide +kernel
def R_Ru : String := "TreeCarrier$Rules"
def F_Ru : u_T := fun k => match k with
  | 0 => ("TreeCarrier$Rules", "includes", "[Z", true)
  | 1 => ("TreeCarrier$Rules", "masks", "[I", true)
  | 2 => ("TreeCarrier$Rules", "values", "[I", true)
  | _ => ("TreeCarrier$Rules", "length", "I", false)
def t_Ru : Nat → FieldType := fun k => match k with
  | 0 => .array (.boolean)
  | 1 => .array (.int)
  | 2 => .array (.int)
  | _ => .int
theorem n_Ru : ∀ a, a < 4 → ∀ b, b < 4 → a ≠ b → (F_Ru a).2.1 ≠ (F_Ru b).2.1 := by decide +kernel
theorem t_Ru_ok : ∀ k, k < 4 → parseFieldDescriptor (F_Ru k).2.2.1 = some (t_Ru k) := by decide +kernel
def R_Sf : String := "TreeCarrier$StoredFile"
def F_Sf : u_T := fun k => match k with
  | 0 => ("TreeCarrier$StoredFile", "row", "LTreeCarrier$Row;", true)
  | 1 => ("TreeCarrier$StoredFile", "exists", "Z", false)
  | _ => ("TreeCarrier$StoredFile", "stamp", "I", false)
def t_Sf : Nat → FieldType := fun k => match k with
  | 0 => .object "TreeCarrier$Row"
  | 1 => .boolean
  | _ => .int
theorem n_Sf : ∀ a, a < 3 → ∀ b, b < 3 → a ≠ b → (F_Sf a).2.1 ≠ (F_Sf b).2.1 := by decide +kernel
theorem t_Sf_ok : ∀ k, k < 3 → parseFieldDescriptor (F_Sf k).2.2.1 = some (t_Sf k) := by decide +kernel
def R_TC : String := "TreeCarrier"
def F_TC : u_T := fun k => match k with
  | 0 => ("TreeCarrier", "files", "[LTreeCarrier$StoredFile;", true)
  | 1 => ("TreeCarrier", "rules", "LTreeCarrier$Rules;", true)
  | 2 => ("TreeCarrier", "toSender", "LTreeCarrier$Line;", true)
  | 3 => ("TreeCarrier", "toReceiver", "LTreeCarrier$Line;", true)
  | 4 => ("TreeCarrier", "list", "[LTreeCarrier$Entry;", true)
  | 5 => ("TreeCarrier", "records", "LTreeCarrier$Journal;", true)
  | 6 => ("TreeCarrier", "rebuilt", "LTreeCarrier$Row;", true)
  | 7 => ("TreeCarrier", "counts", "[I", true)
  | 8 => ("TreeCarrier", "clock", "I", false)
  | 9 => ("TreeCarrier", "sessionOn", "Z", false)
  | 10 => ("TreeCarrier", "sessionDeletes", "Z", false)
  | _ => ("TreeCarrier", "blockSize", "I", false)
def t_TC : Nat → FieldType := fun k => match k with
  | 0 => .array (.object "TreeCarrier$StoredFile")
  | 1 => .object "TreeCarrier$Rules"
  | 2 => .object "TreeCarrier$Line"
  | 3 => .object "TreeCarrier$Line"
  | 4 => .array (.object "TreeCarrier$Entry")
  | 5 => .object "TreeCarrier$Journal"
  | 6 => .object "TreeCarrier$Row"
  | 7 => .array (.int)
  | 8 => .int
  | 9 => .boolean
  | 10 => .boolean
  | _ => .int
theorem n_TC : ∀ a, a < 12 → ∀ b, b < 12 → a ≠ b → (F_TC a).2.1 ≠ (F_TC b).2.1 := by decide +kernel
theorem t_TC_ok : ∀ k, k < 12 → parseFieldDescriptor (F_TC k).2.2.1 = some (t_TC k) := by decide +kernel
def R_MD : String := "TreeCarrierModel"
def F_MD : u_T := fun k => match k with
  | 0 => ("TreeCarrierModel", "there", "[Z", false)
  | 1 => ("TreeCarrierModel", "size", "[I", false)
  | 2 => ("TreeCarrierModel", "time", "[I", false)
  | 3 => ("TreeCarrierModel", "bytes", "[I", false)
  | 4 => ("TreeCarrierModel", "clock", "I", false)
  | 5 => ("TreeCarrierModel", "rules", "I", false)
  | 6 => ("TreeCarrierModel", "include", "[Z", false)
  | 7 => ("TreeCarrierModel", "mask", "[I", false)
  | 8 => ("TreeCarrierModel", "value", "[I", false)
  | 9 => ("TreeCarrierModel", "on", "Z", false)
  | 10 => ("TreeCarrierModel", "block", "I", false)
  | 11 => ("TreeCarrierModel", "deletes", "Z", false)
  | 12 => ("TreeCarrierModel", "noted", "I", false)
  | 13 => ("TreeCarrierModel", "listName", "[I", false)
  | 14 => ("TreeCarrierModel", "listSize", "[I", false)
  | 15 => ("TreeCarrierModel", "listTime", "[I", false)
  | 16 => ("TreeCarrierModel", "open", "[Z", false)
  | 17 => ("TreeCarrierModel", "waits", "[I", false)
  | 18 => ("TreeCarrierModel", "cells", "[I", false)
  | 19 => ("TreeCarrierModel", "used", "I", false)
  | 20 => ("TreeCarrierModel", "records", "I", false)
  | 21 => ("TreeCarrierModel", "recordName", "[I", false)
  | 22 => ("TreeCarrierModel", "recordTime", "[I", false)
  | 23 => ("TreeCarrierModel", "recordSize", "[I", false)
  | 24 => ("TreeCarrierModel", "recordBytes", "[I", false)
  | 25 => ("TreeCarrierModel", "rebuilt", "[I", false)
  | 26 => ("TreeCarrierModel", "rebuiltSize", "I", false)
  | _ => ("TreeCarrierModel", "counts", "[I", false)
def t_MD : Nat → FieldType := fun k => match k with
  | 0 => .array (.boolean)
  | 1 => .array (.int)
  | 2 => .array (.int)
  | 3 => .array (.int)
  | 4 => .int
  | 5 => .int
  | 6 => .array (.boolean)
  | 7 => .array (.int)
  | 8 => .array (.int)
  | 9 => .boolean
  | 10 => .int
  | 11 => .boolean
  | 12 => .int
  | 13 => .array (.int)
  | 14 => .array (.int)
  | 15 => .array (.int)
  | 16 => .array (.boolean)
  | 17 => .array (.int)
  | 18 => .array (.int)
  | 19 => .int
  | 20 => .int
  | 21 => .array (.int)
  | 22 => .array (.int)
  | 23 => .array (.int)
  | 24 => .array (.int)
  | 25 => .array (.int)
  | 26 => .int
  | _ => .array (.int)
theorem n_MD : ∀ a, a < 28 → ∀ b, b < 28 → a ≠ b → (F_MD a).2.1 ≠ (F_MD b).2.1 := by decide +kernel
theorem t_MD_ok : ∀ k, k < 28 → parseFieldDescriptor (F_MD k).2.2.1 = some (t_MD k) := by decide +kernel
def R_LW : String := "TreeCarrierLaw"
abbrev mCl : List vw_C := [(R_En, F_En, 4), (R_Jo, F_Jo, 3), (R_Jr, F_Jr, 3), (R_Li, F_Li, 3), (R_Ms, F_Ms, 8), (R_Ro, F_Ro, 2), (R_Ru, F_Ru, 4), (R_Sf, F_Sf, 3), (R_TC, F_TC, 12), (R_MD, F_MD, 28)]
def lw_nest : List Cond := [(Jvm.Cond.methodLinkNest "TreeCarrier" (17 : Nat) ({ cls := "TreeCarrier$Rules", name := "<init>", desc := "()V" } : Jvm.MethodName) "TreeCarrier"), (Jvm.Cond.methodLinkNest "TreeCarrier$Line" (24 : Nat) ({ cls := "TreeCarrier$Message", name := "<init>", desc := "()V" } : Jvm.MethodName) "TreeCarrier"), (Jvm.Cond.fieldLinkNest "TreeCarrier$Line" (29 : Nat) "TreeCarrier$Message" "kind" "I" "TreeCarrier"), (Jvm.Cond.fieldLinkNest "TreeCarrier" (134 : Nat) "TreeCarrier$Message" "kind" "I" "TreeCarrier"), (Jvm.Cond.fieldLinkNest "TreeCarrier" (188 : Nat) "TreeCarrier$Message" "name" "I" "TreeCarrier"), (Jvm.Cond.fieldLinkNest "TreeCarrier" (173 : Nat) "TreeCarrier$Message" "fileSize" "I" "TreeCarrier"), (Jvm.Cond.fieldLinkNest "TreeCarrier" (176 : Nat) "TreeCarrier$Message" "fileStamp" "I" "TreeCarrier"), (Jvm.Cond.fieldLinkNest "TreeCarrier" (219 : Nat) "TreeCarrier$Message" "attempt" "I" "TreeCarrier"), (Jvm.Cond.fieldLinkNest "TreeCarrier" (232 : Nat) "TreeCarrier$Message" "digest" "I" "TreeCarrier"), (Jvm.Cond.fieldLinkNest "TreeCarrier" (242 : Nat) "TreeCarrier$Message" "itemCount" "I" "TreeCarrier"), (Jvm.Cond.fieldLinkNest "TreeCarrier" (245 : Nat) "TreeCarrier$Message" "items" "[I" "TreeCarrier"), (Jvm.Cond.fieldLinkNest "TreeCarrier" (165 : Nat) "TreeCarrier$Line" "length" "I" "TreeCarrier"), (Jvm.Cond.methodLinkNest "TreeCarrier$Journal" (24 : Nat) ({ cls := "TreeCarrier$JournalRecord", name := "<init>", desc := "()V" } : Jvm.MethodName) "TreeCarrier"), (Jvm.Cond.methodLinkNest "TreeCarrier$JournalRecord" (9 : Nat) ({ cls := "TreeCarrier$Row", name := "<init>", desc := "()V" } : Jvm.MethodName) "TreeCarrier"), (Jvm.Cond.fieldLinkNest "TreeCarrier$Entry" (29 : Nat) "TreeCarrier$Row" "length" "I" "TreeCarrier"), (Jvm.Cond.fieldLinkNest "TreeCarrier" (152 : Nat) "TreeCarrier$Row" "length" "I" "TreeCarrier"), (Jvm.Cond.fieldLinkNest "TreeCarrier$Journal" (28 : Nat) "TreeCarrier$JournalRecord" "row" "LTreeCarrier$Row;" "TreeCarrier"), (Jvm.Cond.fieldLinkNest "TreeCarrier" (268 : Nat) "TreeCarrier$JournalRecord" "row" "LTreeCarrier$Row;" "TreeCarrier"), (Jvm.Cond.fieldLinkNest "TreeCarrier$Journal" (25 : Nat) "TreeCarrier$JournalRecord" "name" "I" "TreeCarrier"), (Jvm.Cond.fieldLinkNest "TreeCarrier" (265 : Nat) "TreeCarrier$JournalRecord" "name" "I" "TreeCarrier"), (Jvm.Cond.fieldLinkNest "TreeCarrier$Journal" (38 : Nat) "TreeCarrier$JournalRecord" "stamp" "I" "TreeCarrier"), (Jvm.Cond.fieldLinkNest "TreeCarrier" (273 : Nat) "TreeCarrier$JournalRecord" "stamp" "I" "TreeCarrier"), (Jvm.Cond.fieldLinkNest "TreeCarrier" (169 : Nat) "TreeCarrier$Journal" "length" "I" "TreeCarrier"), (Jvm.Cond.methodLinkNest "TreeCarrier" (47 : Nat) ({ cls := "TreeCarrier$Row", name := "<init>", desc := "()V" } : Jvm.MethodName) "TreeCarrier"), (Jvm.Cond.methodLinkNest "TreeCarrier" (70 : Nat) ({ cls := "TreeCarrier$StoredFile", name := "<init>", desc := "()V" } : Jvm.MethodName) "TreeCarrier"), (Jvm.Cond.methodLinkNest "TreeCarrier$StoredFile" (9 : Nat) ({ cls := "TreeCarrier$Row", name := "<init>", desc := "()V" } : Jvm.MethodName) "TreeCarrier"), (Jvm.Cond.fieldLinkNest "TreeCarrier$Entry" (23 : Nat) "TreeCarrier$StoredFile" "row" "LTreeCarrier$Row;" "TreeCarrier"), (Jvm.Cond.fieldLinkNest "TreeCarrier" (87 : Nat) "TreeCarrier$StoredFile" "row" "LTreeCarrier$Row;" "TreeCarrier"), (Jvm.Cond.fieldLinkNest "TreeCarrier" (94 : Nat) "TreeCarrier$StoredFile" "exists" "Z" "TreeCarrier"), (Jvm.Cond.fieldLinkNest "TreeCarrier$Entry" (34 : Nat) "TreeCarrier$StoredFile" "stamp" "I" "TreeCarrier"), (Jvm.Cond.fieldLinkNest "TreeCarrier" (104 : Nat) "TreeCarrier$StoredFile" "stamp" "I" "TreeCarrier"), (Jvm.Cond.methodLinkNest "TreeCarrier" (71 : Nat) ({ cls := "TreeCarrier$Entry", name := "<init>", desc := "()V" } : Jvm.MethodName) "TreeCarrier"), (Jvm.Cond.fieldLinkNest "TreeCarrier" (204 : Nat) "TreeCarrier$Entry" "noted" "Z" "TreeCarrier"), (Jvm.Cond.fieldLinkNest "TreeCarrier" (213 : Nat) "TreeCarrier$Entry" "open" "Z" "TreeCarrier"), (Jvm.Cond.fieldLinkNest "TreeCarrier" (207 : Nat) "TreeCarrier$Entry" "fileSize" "I" "TreeCarrier"), (Jvm.Cond.fieldLinkNest "TreeCarrier" (208 : Nat) "TreeCarrier$Entry" "fileStamp" "I" "TreeCarrier")]
abbrev c_En_init : ByteArray := prog_2_method_1_code
def y_En_init : MethodName := ⟨"TreeCarrier$Entry", "<init>", "()V"⟩
abbrev c_En_agreesWith : ByteArray := prog_2_method_2_code
def y_En_agreesWith : MethodName := ⟨"TreeCarrier$Entry", "agreesWith", "(LTreeCarrier$StoredFile;)Z"⟩
abbrev c_En_forget : ByteArray := prog_2_method_3_code
def y_En_forget : MethodName := ⟨"TreeCarrier$Entry", "forget", "()V"⟩
abbrev c_Jo_init : ByteArray := prog_3_method_1_code
def y_Jo_init : MethodName := ⟨"TreeCarrier$Journal", "<init>", "()V"⟩
abbrev c_Jo_append : ByteArray := prog_3_method_2_code
def y_Jo_append : MethodName := ⟨"TreeCarrier$Journal", "append", "(ILTreeCarrier$Row;I)V"⟩
abbrev c_Jo_take : ByteArray := prog_3_method_3_code
def y_Jo_take : MethodName := ⟨"TreeCarrier$Journal", "take", "()LTreeCarrier$JournalRecord;"⟩
abbrev c_Jr_init : ByteArray := prog_4_method_1_code
def y_Jr_init : MethodName := ⟨"TreeCarrier$JournalRecord", "<init>", "()V"⟩
abbrev c_Li_init : ByteArray := prog_5_method_1_code
def y_Li_init : MethodName := ⟨"TreeCarrier$Line", "<init>", "()V"⟩
abbrev c_Li_append : ByteArray := prog_5_method_2_code
def y_Li_append : MethodName := ⟨"TreeCarrier$Line", "append", "(II)LTreeCarrier$Message;"⟩
abbrev c_Li_take : ByteArray := prog_5_method_3_code
def y_Li_take : MethodName := ⟨"TreeCarrier$Line", "take", "()LTreeCarrier$Message;"⟩
abbrev c_Li_oldestKind : ByteArray := prog_5_method_4_code
def y_Li_oldestKind : MethodName := ⟨"TreeCarrier$Line", "oldestKind", "()I"⟩
abbrev c_Li_clear : ByteArray := prog_5_method_5_code
def y_Li_clear : MethodName := ⟨"TreeCarrier$Line", "clear", "()V"⟩
abbrev c_Ms_init : ByteArray := prog_6_method_1_code
def y_Ms_init : MethodName := ⟨"TreeCarrier$Message", "<init>", "()V"⟩
abbrev c_Ms_startAs : ByteArray := prog_6_method_2_code
def y_Ms_startAs : MethodName := ⟨"TreeCarrier$Message", "startAs", "(II)V"⟩
abbrev c_Ms_addItem : ByteArray := prog_6_method_3_code
def y_Ms_addItem : MethodName := ⟨"TreeCarrier$Message", "addItem", "(I)V"⟩
abbrev c_Ro_init : ByteArray := prog_7_method_1_code
def y_Ro_init : MethodName := ⟨"TreeCarrier$Row", "<init>", "()V"⟩
abbrev c_Ro_isFull : ByteArray := prog_7_method_2_code
def y_Ro_isFull : MethodName := ⟨"TreeCarrier$Row", "isFull", "()Z"⟩
abbrev c_Ro_holds : ByteArray := prog_7_method_3_code
def y_Ro_holds : MethodName := ⟨"TreeCarrier$Row", "holds", "(I)Z"⟩
abbrev c_Ro_byteAt : ByteArray := prog_7_method_4_code
def y_Ro_byteAt : MethodName := ⟨"TreeCarrier$Row", "byteAt", "(I)I"⟩
abbrev c_Ro_clear : ByteArray := prog_7_method_5_code
def y_Ro_clear : MethodName := ⟨"TreeCarrier$Row", "clear", "()V"⟩
abbrev c_Ro_append : ByteArray := prog_7_method_6_code
def y_Ro_append : MethodName := ⟨"TreeCarrier$Row", "append", "(I)V"⟩
abbrev c_Ro_replace : ByteArray := prog_7_method_7_code
def y_Ro_replace : MethodName := ⟨"TreeCarrier$Row", "replace", "(II)V"⟩
abbrev c_Ro_appendPart : ByteArray := prog_7_method_8_code
def y_Ro_appendPart : MethodName := ⟨"TreeCarrier$Row", "appendPart", "(LTreeCarrier$Row;II)V"⟩
abbrev c_Ro_become : ByteArray := prog_7_method_9_code
def y_Ro_become : MethodName := ⟨"TreeCarrier$Row", "become", "(LTreeCarrier$Row;)V"⟩
abbrev c_Ro_sums : ByteArray := prog_7_method_10_code
def y_Ro_sums : MethodName := ⟨"TreeCarrier$Row", "sums", "(III)I"⟩
abbrev c_Ro_weakSum : ByteArray := prog_7_method_11_code
def y_Ro_weakSum : MethodName := ⟨"TreeCarrier$Row", "weakSum", "(II)I"⟩
abbrev c_Ro_strongSum : ByteArray := prog_7_method_12_code
def y_Ro_strongSum : MethodName := ⟨"TreeCarrier$Row", "strongSum", "(II)I"⟩
abbrev c_Ro_digest : ByteArray := prog_7_method_13_code
def y_Ro_digest : MethodName := ⟨"TreeCarrier$Row", "digest", "()I"⟩
abbrev c_Ru_init : ByteArray := prog_8_method_1_code
def y_Ru_init : MethodName := ⟨"TreeCarrier$Rules", "<init>", "()V"⟩
abbrev c_Ru_append : ByteArray := prog_8_method_2_code
def y_Ru_append : MethodName := ⟨"TreeCarrier$Rules", "append", "(ZII)Z"⟩
abbrev c_Ru_select : ByteArray := prog_8_method_3_code
def y_Ru_select : MethodName := ⟨"TreeCarrier$Rules", "select", "(I)Z"⟩
abbrev c_Sf_init : ByteArray := prog_9_method_1_code
def y_Sf_init : MethodName := ⟨"TreeCarrier$StoredFile", "<init>", "()V"⟩
abbrev c_Sf_erase : ByteArray := prog_9_method_2_code
def y_Sf_erase : MethodName := ⟨"TreeCarrier$StoredFile", "erase", "()V"⟩
abbrev c_TC_init : ByteArray := prog_1_method_1_code
def y_TC_init : MethodName := ⟨"TreeCarrier", "<init>", "()V"⟩
abbrev c_TC_rule : ByteArray := prog_1_method_2_code
def y_TC_rule : MethodName := ⟨"TreeCarrier", "rule", "(ZII)Z"⟩
abbrev c_TC_put : ByteArray := prog_1_method_3_code
def y_TC_put : MethodName := ⟨"TreeCarrier", "put", "(III)Z"⟩
abbrev c_TC_set : ByteArray := prog_1_method_4_code
def y_TC_set : MethodName := ⟨"TreeCarrier", "set", "(IIII)Z"⟩
abbrev c_TC_remove : ByteArray := prog_1_method_5_code
def y_TC_remove : MethodName := ⟨"TreeCarrier", "remove", "(II)Z"⟩
abbrev c_TC_begin : ByteArray := prog_1_method_6_code
def y_TC_begin : MethodName := ⟨"TreeCarrier", "begin", "(IZ)Z"⟩
abbrev c_TC_deliver : ByteArray := prog_1_method_7_code
def y_TC_deliver : MethodName := ⟨"TreeCarrier", "deliver", "(I)I"⟩
abbrev c_TC_crash : ByteArray := prog_1_method_8_code
def y_TC_crash : MethodName := ⟨"TreeCarrier", "crash", "()Z"⟩
abbrev c_TC_on : ByteArray := prog_1_method_9_code
def y_TC_on : MethodName := ⟨"TreeCarrier", "on", "()Z"⟩
abbrev c_TC_size : ByteArray := prog_1_method_10_code
def y_TC_size : MethodName := ⟨"TreeCarrier", "size", "(II)I"⟩
abbrev c_TC_at : ByteArray := prog_1_method_11_code
def y_TC_at : MethodName := ⟨"TreeCarrier", "at", "(III)I"⟩
abbrev c_TC_time : ByteArray := prog_1_method_12_code
def y_TC_time : MethodName := ⟨"TreeCarrier", "time", "(II)I"⟩
abbrev c_TC_selected : ByteArray := prog_1_method_13_code
def y_TC_selected : MethodName := ⟨"TreeCarrier", "selected", "(I)Z"⟩
abbrev c_TC_waiting : ByteArray := prog_1_method_14_code
def y_TC_waiting : MethodName := ⟨"TreeCarrier", "waiting", "(I)I"⟩
abbrev c_TC_next : ByteArray := prog_1_method_15_code
def y_TC_next : MethodName := ⟨"TreeCarrier", "next", "(I)I"⟩
abbrev c_TC_journal : ByteArray := prog_1_method_16_code
def y_TC_journal : MethodName := ⟨"TreeCarrier", "journal", "()I"⟩
abbrev c_TC_count : ByteArray := prog_1_method_17_code
def y_TC_count : MethodName := ⟨"TreeCarrier", "count", "(I)I"⟩
abbrev c_TC_isName : ByteArray := prog_1_method_18_code
def y_TC_isName : MethodName := ⟨"TreeCarrier", "isName", "(I)Z"⟩
abbrev c_TC_isByte : ByteArray := prog_1_method_19_code
def y_TC_isByte : MethodName := ⟨"TreeCarrier", "isByte", "(I)Z"⟩
abbrev c_TC_isMask : ByteArray := prog_1_method_20_code
def y_TC_isMask : MethodName := ⟨"TreeCarrier", "isMask", "(I)Z"⟩
abbrev c_TC_slotOf : ByteArray := prog_1_method_21_code
def y_TC_slotOf : MethodName := ⟨"TreeCarrier", "slotOf", "(II)LTreeCarrier$StoredFile;"⟩
abbrev c_TC_fileOf : ByteArray := prog_1_method_22_code
def y_TC_fileOf : MethodName := ⟨"TreeCarrier", "fileOf", "(II)LTreeCarrier$StoredFile;"⟩
abbrev c_TC_lineOf : ByteArray := prog_1_method_23_code
def y_TC_lineOf : MethodName := ⟨"TreeCarrier", "lineOf", "(I)LTreeCarrier$Line;"⟩
abbrev c_TC_entryOf : ByteArray := prog_1_method_24_code
def y_TC_entryOf : MethodName := ⟨"TreeCarrier", "entryOf", "(I)LTreeCarrier$Entry;"⟩
abbrev c_TC_tick : ByteArray := prog_1_method_25_code
def y_TC_tick : MethodName := ⟨"TreeCarrier", "tick", "()I"⟩
abbrev c_TC_sendEntries : ByteArray := prog_1_method_26_code
def y_TC_sendEntries : MethodName := ⟨"TreeCarrier", "sendEntries", "()V"⟩
abbrev c_TC_receive : ByteArray := prog_1_method_27_code
def y_TC_receive : MethodName := ⟨"TreeCarrier", "receive", "(LTreeCarrier$Message;)V"⟩
abbrev c_TC_noteEntry : ByteArray := prog_1_method_28_code
def y_TC_noteEntry : MethodName := ⟨"TreeCarrier", "noteEntry", "(LTreeCarrier$Message;)V"⟩
abbrev c_TC_openEntries : ByteArray := prog_1_method_29_code
def y_TC_openEntries : MethodName := ⟨"TreeCarrier", "openEntries", "()V"⟩
abbrev c_TC_hasOpenEntry : ByteArray := prog_1_method_30_code
def y_TC_hasOpenEntry : MethodName := ⟨"TreeCarrier", "hasOpenEntry", "()Z"⟩
abbrev c_TC_sendSignature : ByteArray := prog_1_method_31_code
def y_TC_sendSignature : MethodName := ⟨"TreeCarrier", "sendSignature", "(II)V"⟩
abbrev c_TC_answerSignature : ByteArray := prog_1_method_32_code
def y_TC_answerSignature : MethodName := ⟨"TreeCarrier", "answerSignature", "(LTreeCarrier$Message;)V"⟩
abbrev c_TC_fillDelta : ByteArray := prog_1_method_33_code
def y_TC_fillDelta : MethodName := ⟨"TreeCarrier", "fillDelta", "(LTreeCarrier$Message;LTreeCarrier$Row;LTreeCarrier$Message;)V"⟩
abbrev c_TC_findBlock : ByteArray := prog_1_method_34_code
def y_TC_findBlock : MethodName := ⟨"TreeCarrier", "findBlock", "(LTreeCarrier$Row;ILTreeCarrier$Message;)I"⟩
abbrev c_TC_receiveDelta : ByteArray := prog_1_method_35_code
def y_TC_receiveDelta : MethodName := ⟨"TreeCarrier", "receiveDelta", "(LTreeCarrier$Message;)V"⟩
abbrev c_TC_rebuild : ByteArray := prog_1_method_36_code
def y_TC_rebuild : MethodName := ⟨"TreeCarrier", "rebuild", "(LTreeCarrier$Row;LTreeCarrier$Message;)V"⟩
abbrev c_TC_failEntry : ByteArray := prog_1_method_37_code
def y_TC_failEntry : MethodName := ⟨"TreeCarrier", "failEntry", "(I)V"⟩
abbrev c_TC_doOldestRecord : ByteArray := prog_1_method_38_code
def y_TC_doOldestRecord : MethodName := ⟨"TreeCarrier", "doOldestRecord", "()V"⟩
abbrev c_TC_doAllRecords : ByteArray := prog_1_method_39_code
def y_TC_doAllRecords : MethodName := ⟨"TreeCarrier", "doAllRecords", "()V"⟩
abbrev c_TC_concludeSession : ByteArray := prog_1_method_40_code
def y_TC_concludeSession : MethodName := ⟨"TreeCarrier", "concludeSession", "()V"⟩
abbrev c_TC_deleteUnlisted : ByteArray := prog_1_method_41_code
def y_TC_deleteUnlisted : MethodName := ⟨"TreeCarrier", "deleteUnlisted", "()V"⟩
abbrev c_TC_endSession : ByteArray := prog_1_method_42_code
def y_TC_endSession : MethodName := ⟨"TreeCarrier", "endSession", "()V"⟩
abbrev c_MD_init : ByteArray := prog_11_method_1_code
def y_MD_init : MethodName := ⟨"TreeCarrierModel", "<init>", "()V"⟩
abbrev c_MD_in : ByteArray := prog_11_method_2_code
def y_MD_in : MethodName := ⟨"TreeCarrierModel", "in", "(II)Z"⟩
abbrev c_MD_add : ByteArray := prog_11_method_3_code
def y_MD_add : MethodName := ⟨"TreeCarrierModel", "add", "(I)V"⟩
abbrev c_MD_rule : ByteArray := prog_11_method_4_code
def y_MD_rule : MethodName := ⟨"TreeCarrierModel", "rule", "(ZII)Z"⟩
abbrev c_MD_isSelected : ByteArray := prog_11_method_5_code
def y_MD_isSelected : MethodName := ⟨"TreeCarrierModel", "isSelected", "(I)Z"⟩
abbrev c_MD_selected : ByteArray := prog_11_method_6_code
def y_MD_selected : MethodName := ⟨"TreeCarrierModel", "selected", "(I)Z"⟩
abbrev c_MD_file : ByteArray := prog_11_method_7_code
def y_MD_file : MethodName := ⟨"TreeCarrierModel", "file", "(II)I"⟩
abbrev c_MD_touch : ByteArray := prog_11_method_8_code
def y_MD_touch : MethodName := ⟨"TreeCarrierModel", "touch", "(I)V"⟩
abbrev c_MD_put : ByteArray := prog_11_method_9_code
def y_MD_put : MethodName := ⟨"TreeCarrierModel", "put", "(III)Z"⟩
abbrev c_MD_set : ByteArray := prog_11_method_10_code
def y_MD_set : MethodName := ⟨"TreeCarrierModel", "set", "(IIII)Z"⟩
abbrev c_MD_remove : ByteArray := prog_11_method_11_code
def y_MD_remove : MethodName := ⟨"TreeCarrierModel", "remove", "(II)Z"⟩
abbrev c_MD_size : ByteArray := prog_11_method_12_code
def y_MD_size : MethodName := ⟨"TreeCarrierModel", "size", "(II)I"⟩
abbrev c_MD_at : ByteArray := prog_11_method_13_code
def y_MD_at : MethodName := ⟨"TreeCarrierModel", "at", "(III)I"⟩
abbrev c_MD_time : ByteArray := prog_11_method_14_code
def y_MD_time : MethodName := ⟨"TreeCarrierModel", "time", "(II)I"⟩
abbrev c_MD_weak : ByteArray := prog_11_method_15_code
def y_MD_weak : MethodName := ⟨"TreeCarrierModel", "weak", "(II)I"⟩
abbrev c_MD_strong : ByteArray := prog_11_method_16_code
def y_MD_strong : MethodName := ⟨"TreeCarrierModel", "strong", "(III)I"⟩
abbrev c_MD_message : ByteArray := prog_11_method_17_code
def y_MD_message : MethodName := ⟨"TreeCarrierModel", "message", "(IIIIII)V"⟩
abbrev c_MD_more : ByteArray := prog_11_method_18_code
def y_MD_more : MethodName := ⟨"TreeCarrierModel", "more", "(I)V"⟩
abbrev c_MD_sendSignature : ByteArray := prog_11_method_19_code
def y_MD_sendSignature : MethodName := ⟨"TreeCarrierModel", "sendSignature", "(II)V"⟩
abbrev c_MD_finishRecord : ByteArray := prog_11_method_20_code
def y_MD_finishRecord : MethodName := ⟨"TreeCarrierModel", "finishRecord", "()V"⟩
abbrev c_MD_finishAll : ByteArray := prog_11_method_21_code
def y_MD_finishAll : MethodName := ⟨"TreeCarrierModel", "finishAll", "()V"⟩
abbrev c_MD_begin : ByteArray := prog_11_method_22_code
def y_MD_begin : MethodName := ⟨"TreeCarrierModel", "begin", "(IZ)Z"⟩
abbrev c_MD_over : ByteArray := prog_11_method_23_code
def y_MD_over : MethodName := ⟨"TreeCarrierModel", "over", "()V"⟩
abbrev c_MD_crash : ByteArray := prog_11_method_24_code
def y_MD_crash : MethodName := ⟨"TreeCarrierModel", "crash", "()Z"⟩
abbrev c_MD_concludeIfDone : ByteArray := prog_11_method_25_code
def y_MD_concludeIfDone : MethodName := ⟨"TreeCarrierModel", "concludeIfDone", "()V"⟩
abbrev c_MD_entryOf : ByteArray := prog_11_method_26_code
def y_MD_entryOf : MethodName := ⟨"TreeCarrierModel", "entryOf", "(I)I"⟩
abbrev c_MD_end : ByteArray := prog_11_method_27_code
def y_MD_end : MethodName := ⟨"TreeCarrierModel", "end", "()V"⟩
abbrev c_MD_match : ByteArray := prog_11_method_28_code
def y_MD_match : MethodName := ⟨"TreeCarrierModel", "match", "(III)I"⟩
abbrev c_MD_answer : ByteArray := prog_11_method_29_code
def y_MD_answer : MethodName := ⟨"TreeCarrierModel", "answer", "(I)V"⟩
abbrev c_MD_rebuild : ByteArray := prog_11_method_30_code
def y_MD_rebuild : MethodName := ⟨"TreeCarrierModel", "rebuild", "(I)I"⟩
abbrev c_MD_delta : ByteArray := prog_11_method_31_code
def y_MD_delta : MethodName := ⟨"TreeCarrierModel", "delta", "(I)V"⟩
abbrev c_MD_note : ByteArray := prog_11_method_32_code
def y_MD_note : MethodName := ⟨"TreeCarrierModel", "note", "(I)V"⟩
abbrev c_MD_take : ByteArray := prog_11_method_33_code
def y_MD_take : MethodName := ⟨"TreeCarrierModel", "take", "(I)I"⟩
abbrev c_MD_deliver : ByteArray := prog_11_method_34_code
def y_MD_deliver : MethodName := ⟨"TreeCarrierModel", "deliver", "(I)I"⟩
abbrev c_MD_on : ByteArray := prog_11_method_35_code
def y_MD_on : MethodName := ⟨"TreeCarrierModel", "on", "()Z"⟩
abbrev c_MD_waiting : ByteArray := prog_11_method_36_code
def y_MD_waiting : MethodName := ⟨"TreeCarrierModel", "waiting", "(I)I"⟩
abbrev c_MD_next : ByteArray := prog_11_method_37_code
def y_MD_next : MethodName := ⟨"TreeCarrierModel", "next", "(I)I"⟩
abbrev c_MD_journal : ByteArray := prog_11_method_38_code
def y_MD_journal : MethodName := ⟨"TreeCarrierModel", "journal", "()I"⟩
abbrev c_MD_count : ByteArray := prog_11_method_39_code
def y_MD_count : MethodName := ⟨"TreeCarrierModel", "count", "(I)I"⟩
end
section
/-! The small machine: values are numbers or references, cells are objects (class number, fields) or arrays (kind, length, contents); a memory is (heap size, slots made, cells). -/
abbrev m_V : Type := Int32 ⊕ Option Nat
abbrev m_E : Type := (Nat × List m_V) ⊕ (Nat × Nat × ((Nat → Int32) ⊕ (Nat → Option Nat)))
abbrev m_M : Type := Nat × Nat × (Nat → Option m_E)
abbrev m_R : Type := Option m_V × m_M
abbrev m_C : Type := List (Option m_V) × List m_V × m_M
abbrev m_S : Type := m_C → Option m_C
abbrev m_O : Type := m_C → Option ((Nat × m_C) ⊕ m_R)
abbrev m_B : Type := Nat × List m_S × m_O
def lget : List (Option m_V) → Nat → Option m_V
  | [], _ => none
  | x :: _, 0 => x
  | _ :: t, n + 1 => lget t n
def lput : List (Option m_V) → Nat → m_V → List (Option m_V)
  | [], _, _ => []
  | _ :: t, 0, v => some v :: t
  | x :: t, n + 1, v => x :: lput t n v
def mt_l0 : Nat → List m_V → List (Option m_V)
  | 0, _ => []
  | n + 1, [] => none :: mt_l0 n []
  | n + 1, v :: t => some v :: mt_l0 n t
def mt_pop : Nat → List m_V → List m_V → Option (List m_V × List m_V)
  | 0, acc, st => some (acc, st)
  | _ + 1, _, [] => none
  | n + 1, acc, x :: st => mt_pop n (x :: acc) st
def fnth : List m_V → Nat → Option m_V
  | [], _ => none
  | x :: _, 0 => some x
  | _ :: t, n + 1 => fnth t n
def fset : List m_V → Nat → m_V → List m_V
  | [], _, _ => []
  | _ :: t, 0, v => v :: t
  | x :: t, n + 1, v => x :: fset t n v
def mt_cd : List m_B → Nat → Option (List m_S × m_O)
  | [], _ => none
  | x :: t, i => if x.1 = i then some x.2 else mt_cd t i
def mt_seq : List m_S → m_C → Option m_C
  | [], q => some q
  | o :: t, q => match o q with
    | some q' => mt_seq t q'
    | none => none
def mt_b (x : List m_S × m_O) (q : m_C) : Option ((Nat × m_C) ⊕ m_R) := match mt_seq x.1 q with
  | some q' => x.2 q'
  | none => none
def mt_run (code : List m_B) : Nat → Nat → m_C → Option m_R
  | 0, _, _ => none
  | n + 1, pc, q => match mt_cd code pc with
    | none => none
    | some x => match mt_b x q with
      | none => none
      | some (.inl y) => mt_run code n y.1 y.2
      | some (.inr r) => some r
theorem mt_run_mono {code : List m_B} {r : m_R} : ∀ (n k pc : Nat) (q : m_C), n ≤ k → mt_run code n pc q = some r → mt_run code k pc q = some r
  | 0, _, _, _, _, h => by simp [mt_run] at h
  | n + 1, 0, _, _, hk, _ => by omega
  | n + 1, k + 1, pc, q, hk, h => by
    simp only [mt_run] at h ⊢
    cases h1 : mt_cd code pc with
    | none => simp [h1] at h
    | some x =>
      simp only [h1] at h ⊢
      cases h2 : mt_b x q with
      | none => simp [h2] at h
      | some z =>
        simp only [h2] at h ⊢
        cases z with
        | inl y => exact mt_run_mono n k _ _ (by omega) h
        | inr r' => exact h
noncomputable def mt_lim (g : Nat → Option m_R) : Option m_R := @dite _ (∃ n, (g n).isSome = true) (Classical.propDecidable _) (fun h => g (Classical.choose h)) (fun _ => none)
noncomputable def mt_sem (code : List m_B) (nL : Nat) (av : List m_V) (M : m_M) : Option m_R := mt_lim (fun n => mt_run code n 0 (mt_l0 nL av, [], M))
theorem mt_lim_some {g : Nat → Option m_R} {r : m_R} (h : mt_lim g = some r) : ∃ n, g n = some r := by
  unfold mt_lim at h
  split at h
  · exact ⟨_, h⟩
  · cases h
theorem mt_sem_of {code : List m_B} {nL : Nat} {av : List m_V} {M : m_M} {r : m_R} {n : Nat} (h : mt_run code n 0 (mt_l0 nL av, [], M) = some r) : mt_sem code nL av M = some r := by
  have hx : ∃ n, ((fun n => mt_run code n 0 (mt_l0 nL av, [], M)) n).isSome = true := ⟨n, by simp only [h]; rfl⟩
  unfold mt_sem mt_lim
  rw [dif_pos hx]
  have h2 := Classical.choose_spec hx
  obtain ⟨r2, h3⟩ := Option.isSome_iff_exists.mp h2
  have h4 := mt_run_mono n (n + Classical.choose hx) 0 _ (by omega) h
  have h5 := mt_run_mono (Classical.choose hx) (n + Classical.choose hx) 0 _ (by omega) h3
  rw [h4] at h5
  rw [h5]
  exact h3
/-- from pc with q the code comes to an answer that has Q -/
def mt_T (code : List m_B) (pc : Nat) (q : m_C) (Q : m_R → Prop) : Prop := ∃ (n : Nat) (r : m_R), mt_run code n pc q = some r ∧ Q r
def mt_fin (code : List m_B) (Q : m_R → Prop) : Option ((Nat × m_C) ⊕ m_R) → Prop
  | none => False
  | some (.inl y) => mt_T code y.1 y.2 Q
  | some (.inr r) => Q r
def mt_go : List m_S → m_C → (m_C → Prop) → Prop
  | [], q, K => K q
  | o :: t, q, K => match o q with
    | some q' => mt_go t q' K
    | none => False
theorem mt_go_iff : ∀ (ops : List m_S) (q : m_C) (K : m_C → Prop), mt_go ops q K ↔ ∃ q', mt_seq ops q = some q' ∧ K q'
  | [], q, K => ⟨fun h => ⟨q, rfl, h⟩, fun ⟨q', h1, h2⟩ => by cases h1; exact h2⟩
  | o :: t, q, K => by
    simp only [mt_go, mt_seq]
    cases o q with
    | none => simp
    | some q1 => exact mt_go_iff t q1 K
def mt_kk (code : List m_B) (Q : m_R → Prop) (last : m_O) (q : m_C) : Prop := mt_fin code Q (last q)
theorem mt_blk {code : List m_B} {pc : Nat} {ops : List m_S} {last : m_O} (h : mt_cd code pc = some (ops, last)) (q : m_C) (Q : m_R → Prop) : mt_T code pc q Q = mt_go ops q (mt_kk code Q last) := by
  apply propext
  rw [mt_go_iff]
  constructor
  · rintro ⟨n, r, hr, hQ⟩
    cases n with
    | zero => simp [mt_run] at hr
    | succ n =>
      simp only [mt_run, h, mt_b] at hr
      cases hs : mt_seq ops q with
      | none => simp [hs] at hr
      | some q' =>
        refine ⟨q', rfl, ?_⟩
        simp only [hs] at hr
        show mt_fin code Q (last q')
        cases hl : last q' with
        | none => simp [hl] at hr
        | some z =>
          simp only [hl] at hr
          cases z with
          | inl y => exact ⟨n, r, hr, hQ⟩
          | inr r' => cases hr; exact hQ
  · rintro ⟨q', hs, hK⟩
    have hK : mt_fin code Q (last q') := hK
    cases hl : last q' with
    | none => rw [hl] at hK; exact hK.elim
    | some z =>
      rw [hl] at hK
      cases z with
      | inl y =>
        obtain ⟨n, r, h1, h2⟩ := hK
        exact ⟨n + 1, r, by simp only [mt_run, h, mt_b, hs, hl]; exact h1, h2⟩
      | inr r => exact ⟨1, r, by simp only [mt_run, h, mt_b, hs, hl], hK⟩
theorem mt_T_mono {code : List m_B} {pc : Nat} {q : m_C} {Q Q' : m_R → Prop} (h : mt_T code pc q Q) (hq : ∀ r, Q r → Q' r) : mt_T code pc q Q' := by
  obtain ⟨n, r, h1, h2⟩ := h
  exact ⟨n, r, h1, hq r h2⟩
/-- a method, called -/
def mt_P (sem : List m_V → m_M → Option m_R) (av : List m_V) (M : m_M) (Q : m_R → Prop) : Prop := ∃ r, sem av M = some r ∧ Q r
theorem mt_P_of {code : List m_B} {nL : Nat} {av : List m_V} {M : m_M} {Q : m_R → Prop} (h : mt_T code 0 (mt_l0 nL av, [], M) Q) : mt_P (mt_sem code nL) av M Q := by
  obtain ⟨n, r, h1, h2⟩ := h
  exact ⟨r, mt_sem_of h1, h2⟩
theorem mt_P_mono {sem : List m_V → m_M → Option m_R} {av : List m_V} {M : m_M} {Q Q' : m_R → Prop} (h : mt_P sem av M Q) (hq : ∀ r, Q r → Q' r) : mt_P sem av M Q' := by
  obtain ⟨r, h1, h2⟩ := h
  exact ⟨r, h1, hq r h2⟩
-- memory
def mup (M : m_M) (a : Nat) (e : m_E) : m_M := (M.1, M.2.1, va_up M.2.2 a (some e))
def gf (M : m_M) (ci a k : Nat) : Option m_V := match M.2.2 a with
  | some (.inl (c, fs)) => if c = ci then fnth fs k else none
  | _ => none
def pf (M : m_M) (ci a k : Nat) (x : m_V) : Option m_M := match M.2.2 a with
  | some (.inl (c, fs)) => if c = ci ∧ k < fs.length then some (mup M a (.inl (ci, fset fs k x))) else none
  | _ => none
def gi (t : Nat) (M : m_M) (a : Nat) : Option (Nat × (Nat → Int32)) := match M.2.2 a with
  | some (.inr (c, n, .inl f)) => if c = t then some (n, f) else none
  | _ => none
def ga (t : Nat) (M : m_M) (a : Nat) : Option (Nat × (Nat → Option Nat)) := match M.2.2 a with
  | some (.inr (c, n, .inr f)) => if c = t then some (n, f) else none
  | _ => none
def mt_is (M : m_M) (ci a : Nat) : Bool := match M.2.2 a with
  | some (.inl (c, _)) => c == ci
  | _ => false
def mt_ix (i : Int32) (n : Nat) : Option Nat := if i < 0 ∨ n ≤ i.toNatClampNeg then none else some i.toNatClampNeg
def mt_z (x : Int32) : Bool := x == 0 || x == 1
def mnew (M : m_M) (w : Nat) (e : m_E) : m_M := (M.1 + 1, M.2.1 + w, va_up M.2.2 M.1 (some e))
-- plain instructions
def o_const (x : Int32) (q : m_C) : Option m_C := some (q.1, .inl x :: q.2.1, q.2.2)
def o_null (q : m_C) : Option m_C := some (q.1, .inr none :: q.2.1, q.2.2)
def o_iload (i : Nat) (q : m_C) : Option m_C := match lget q.1 i with
  | some (.inl x) => some (q.1, .inl x :: q.2.1, q.2.2)
  | _ => none
def o_aload (i : Nat) (q : m_C) : Option m_C := match lget q.1 i with
  | some (.inr x) => some (q.1, .inr x :: q.2.1, q.2.2)
  | _ => none
def o_istore (i : Nat) (q : m_C) : Option m_C := match q.2.1 with
  | .inl x :: st => some (lput q.1 i (.inl x), st, q.2.2)
  | _ => none
def o_astore (i : Nat) (q : m_C) : Option m_C := match q.2.1 with
  | .inr x :: st => some (lput q.1 i (.inr x), st, q.2.2)
  | _ => none
def o_iinc (i : Nat) (d : Int32) (q : m_C) : Option m_C := match lget q.1 i with
  | some (.inl x) => some (lput q.1 i (.inl (x + d)), q.2.1, q.2.2)
  | _ => none
def o_add (q : m_C) : Option m_C := match q.2.1 with
  | .inl y :: .inl x :: st => some (q.1, .inl (x + y) :: st, q.2.2)
  | _ => none
def o_sub (q : m_C) : Option m_C := match q.2.1 with
  | .inl y :: .inl x :: st => some (q.1, .inl (x - y) :: st, q.2.2)
  | _ => none
def o_mul (q : m_C) : Option m_C := match q.2.1 with
  | .inl y :: .inl x :: st => some (q.1, .inl (x * y) :: st, q.2.2)
  | _ => none
def o_and (q : m_C) : Option m_C := match q.2.1 with
  | .inl y :: .inl x :: st => some (q.1, .inl (x &&& y) :: st, q.2.2)
  | _ => none
def o_xor (q : m_C) : Option m_C := match q.2.1 with
  | .inl y :: .inl x :: st => some (q.1, .inl (x ^^^ y) :: st, q.2.2)
  | _ => none
def o_div (q : m_C) : Option m_C := match q.2.1 with
  | .inl y :: .inl x :: st => if y = 0 then none else some (q.1, .inl (x / y) :: st, q.2.2)
  | _ => none
def o_rem (q : m_C) : Option m_C := match q.2.1 with
  | .inl y :: .inl x :: st => if y = 0 then none else some (q.1, .inl (x - x / y * y) :: st, q.2.2)
  | _ => none
def o_dup (q : m_C) : Option m_C := match q.2.1 with
  | x :: st => some (q.1, x :: x :: st, q.2.2)
  | _ => none
def o_dup2 (q : m_C) : Option m_C := match q.2.1 with
  | x :: y :: st => some (q.1, x :: y :: x :: y :: st, q.2.2)
  | _ => none
def o_pop (q : m_C) : Option m_C := match q.2.1 with
  | _ :: st => some (q.1, st, q.2.2)
  | _ => none
def o_get (ci k : Nat) (q : m_C) : Option m_C := match q.2.1 with
  | .inr (some a) :: st => (match gf q.2.2 ci a k with
    | some x => some (q.1, x :: st, q.2.2)
    | none => none)
  | _ => none
def o_putI (ci k : Nat) (q : m_C) : Option m_C := match q.2.1 with
  | .inl x :: .inr (some a) :: st => (match pf q.2.2 ci a k (.inl x) with
    | some M => some (q.1, st, M)
    | none => none)
  | _ => none
def o_putZ (ci k : Nat) (q : m_C) : Option m_C := match q.2.1 with
  | .inl x :: .inr (some a) :: st => if mt_z x = true then (match pf q.2.2 ci a k (.inl x) with
    | some M => some (q.1, st, M)
    | none => none) else none
  | _ => none
def o_putA (ci k : Nat) (q : m_C) : Option m_C := match q.2.1 with
  | .inr (some x) :: .inr (some a) :: st => (match pf q.2.2 ci a k (.inr (some x)) with
    | some M => some (q.1, st, M)
    | none => none)
  | _ => none
def o_iald (q : m_C) : Option m_C := match q.2.1 with
  | .inl i :: .inr (some a) :: st => (match gi 0 q.2.2 a with
    | some (N, f) => (match mt_ix i N with
      | some j => some (q.1, .inl (f j) :: st, q.2.2)
      | none => none)
    | none => none)
  | _ => none
def o_zald (q : m_C) : Option m_C := match q.2.1 with
  | .inl i :: .inr (some a) :: st => (match gi 1 q.2.2 a with
    | some (N, f) => (match mt_ix i N with
      | some j => some (q.1, .inl (f j) :: st, q.2.2)
      | none => none)
    | none => none)
  | _ => none
def o_iast (q : m_C) : Option m_C := match q.2.1 with
  | .inl x :: .inl i :: .inr (some a) :: st => (match gi 0 q.2.2 a with
    | some (N, f) => (match mt_ix i N with
      | some j => some (q.1, st, mup q.2.2 a (.inr (0, N, .inl (upd f j x))))
      | none => none)
    | none => none)
  | _ => none
def o_zast (q : m_C) : Option m_C := match q.2.1 with
  | .inl x :: .inl i :: .inr (some a) :: st => (match gi 1 q.2.2 a with
    | some (N, f) => (match mt_ix i N with
      | some j => if mt_z x = true then some (q.1, st, mup q.2.2 a (.inr (1, N, .inl (upd f j x)))) else none
      | none => none)
    | none => none)
  | _ => none
def o_aald (t : Nat) (q : m_C) : Option m_C := match q.2.1 with
  | .inl i :: .inr (some a) :: st => (match ga t q.2.2 a with
    | some (N, f) => (match mt_ix i N with
      | some j => some (q.1, .inr (f j) :: st, q.2.2)
      | none => none)
    | none => none)
  | _ => none
/-- the value is an object of class ci -/
def o_aast (t ci : Nat) (q : m_C) : Option m_C := match q.2.1 with
  | .inr (some x) :: .inl i :: .inr (some a) :: st => (match ga t q.2.2 a with
    | some (N, f) => (match mt_ix i N with
      | some j => if mt_is q.2.2 ci x = true then some (q.1, st, mup q.2.2 a (.inr (t, N, .inr (va_up f j (some x))))) else none
      | none => none)
    | none => none)
  | _ => none
/-- the length of an array of objects -/
def o_alen (t : Nat) (q : m_C) : Option m_C := match q.2.1 with
  | .inr (some a) :: st => (match ga t q.2.2 a with
    | some (N, _) => some (q.1, .inl (nI N) :: st, q.2.2)
    | none => none)
  | _ => none
def o_new (ci : Nat) (fs : List m_V) (q : m_C) : Option m_C := some (q.1, .inr (some q.2.2.1) :: q.2.1, mnew q.2.2 fs.length (.inl (ci, fs)))
/-- a new array of ints (t = 0) or booleans (t = 1) -/
def o_newI (t : Nat) (q : m_C) : Option m_C := match q.2.1 with
  | .inl k :: st => if k < 0 ∨ 65536 < k.toNatClampNeg then none else some (q.1, .inr (some q.2.2.1) :: st, mnew q.2.2 k.toNatClampNeg (.inr (t, k.toNatClampNeg, .inl (fun _ => 0))))
  | _ => none
def o_newA (t : Nat) (q : m_C) : Option m_C := match q.2.1 with
  | .inl k :: st => if k < 0 ∨ 65536 < k.toNatClampNeg then none else some (q.1, .inr (some q.2.2.1) :: st, mnew q.2.2 k.toNatClampNeg (.inr (t, k.toNatClampNeg, .inr (fun _ => none))))
  | _ => none
def o_objinit (q : m_C) : Option m_C := match q.2.1 with
  | .inr (some _) :: st => if st.length ≤ 8 then some (q.1, st, q.2.2) else none
  | _ => none
/-- the script, at address sb, read as an array: its length and its numbers -/
def o_slen (sb L : Nat) (q : m_C) : Option m_C := match q.2.1 with
  | .inr (some a) :: st => if a = sb then some (q.1, .inl (nI L) :: st, q.2.2) else none
  | _ => none
def o_sld (sb L : Nat) (xs : Nat → Int32) (q : m_C) : Option m_C := match q.2.1 with
  | .inl i :: .inr (some a) :: st => if a = sb then (match mt_ix i L with
    | some j => some (q.1, .inl (xs j) :: st, q.2.2)
    | none => none) else none
  | _ => none
-- last instructions of a block
def o_fall (n : Nat) (q : m_C) : Option ((Nat × m_C) ⊕ m_R) := some (.inl (n, q))
def o_ifeq (t n : Nat) (q : m_C) : Option ((Nat × m_C) ⊕ m_R) := match q.2.1 with
  | .inl x :: st => if x = 0 then some (.inl (t, q.1, st, q.2.2)) else some (.inl (n, q.1, st, q.2.2))
  | _ => none
def o_ifne (t n : Nat) (q : m_C) : Option ((Nat × m_C) ⊕ m_R) := match q.2.1 with
  | .inl x :: st => if x = 0 then some (.inl (n, q.1, st, q.2.2)) else some (.inl (t, q.1, st, q.2.2))
  | _ => none
def o_iflt (t n : Nat) (q : m_C) : Option ((Nat × m_C) ⊕ m_R) := match q.2.1 with
  | .inl x :: st => if x < 0 then some (.inl (t, q.1, st, q.2.2)) else some (.inl (n, q.1, st, q.2.2))
  | _ => none
def o_ifge (t n : Nat) (q : m_C) : Option ((Nat × m_C) ⊕ m_R) := match q.2.1 with
  | .inl x :: st => if 0 ≤ x then some (.inl (t, q.1, st, q.2.2)) else some (.inl (n, q.1, st, q.2.2))
  | _ => none
def o_ifgt (t n : Nat) (q : m_C) : Option ((Nat × m_C) ⊕ m_R) := match q.2.1 with
  | .inl x :: st => if 0 < x then some (.inl (t, q.1, st, q.2.2)) else some (.inl (n, q.1, st, q.2.2))
  | _ => none
def o_ifle (t n : Nat) (q : m_C) : Option ((Nat × m_C) ⊕ m_R) := match q.2.1 with
  | .inl x :: st => if x ≤ 0 then some (.inl (t, q.1, st, q.2.2)) else some (.inl (n, q.1, st, q.2.2))
  | _ => none
def o_iceq (t n : Nat) (q : m_C) : Option ((Nat × m_C) ⊕ m_R) := match q.2.1 with
  | .inl y :: .inl x :: st => if x = y then some (.inl (t, q.1, st, q.2.2)) else some (.inl (n, q.1, st, q.2.2))
  | _ => none
def o_icne (t n : Nat) (q : m_C) : Option ((Nat × m_C) ⊕ m_R) := match q.2.1 with
  | .inl y :: .inl x :: st => if x = y then some (.inl (n, q.1, st, q.2.2)) else some (.inl (t, q.1, st, q.2.2))
  | _ => none
def o_iclt (t n : Nat) (q : m_C) : Option ((Nat × m_C) ⊕ m_R) := match q.2.1 with
  | .inl y :: .inl x :: st => if x < y then some (.inl (t, q.1, st, q.2.2)) else some (.inl (n, q.1, st, q.2.2))
  | _ => none
def o_icge (t n : Nat) (q : m_C) : Option ((Nat × m_C) ⊕ m_R) := match q.2.1 with
  | .inl y :: .inl x :: st => if y ≤ x then some (.inl (t, q.1, st, q.2.2)) else some (.inl (n, q.1, st, q.2.2))
  | _ => none
def o_icgt (t n : Nat) (q : m_C) : Option ((Nat × m_C) ⊕ m_R) := match q.2.1 with
  | .inl y :: .inl x :: st => if y < x then some (.inl (t, q.1, st, q.2.2)) else some (.inl (n, q.1, st, q.2.2))
  | _ => none
def o_icle (t n : Nat) (q : m_C) : Option ((Nat × m_C) ⊕ m_R) := match q.2.1 with
  | .inl y :: .inl x :: st => if x ≤ y then some (.inl (t, q.1, st, q.2.2)) else some (.inl (n, q.1, st, q.2.2))
  | _ => none
def o_ifnull (t n : Nat) (q : m_C) : Option ((Nat × m_C) ⊕ m_R) := match q.2.1 with
  | .inr none :: st => some (.inl (t, q.1, st, q.2.2))
  | .inr (some _) :: st => some (.inl (n, q.1, st, q.2.2))
  | _ => none
def o_ifnonnull (t n : Nat) (q : m_C) : Option ((Nat × m_C) ⊕ m_R) := match q.2.1 with
  | .inr none :: st => some (.inl (n, q.1, st, q.2.2))
  | .inr (some _) :: st => some (.inl (t, q.1, st, q.2.2))
  | _ => none
def o_acne (t n : Nat) (q : m_C) : Option ((Nat × m_C) ⊕ m_R) := match q.2.1 with
  | .inr y :: .inr x :: st => if x = y then some (.inl (n, q.1, st, q.2.2)) else some (.inl (t, q.1, st, q.2.2))
  | _ => none
def o_tsw (lo hi : Int) (d : Nat) (ts : List Nat) (q : m_C) : Option ((Nat × m_C) ⊕ m_R) := match q.2.1 with
  | .inl x :: st => if x.toInt < lo ∨ hi < x.toInt then some (.inl (d, q.1, st, q.2.2)) else (match ts[(x.toInt - lo).toNat]? with
    | some t => some (.inl (t, q.1, st, q.2.2))
    | none => none)
  | _ => none
def mt_after (n : Nat) (lv : List (Option m_V)) (st : List m_V) : Option m_R → Option ((Nat × m_C) ⊕ m_R)
  | some r => some (.inl (n, lv, r.1.toList ++ st, r.2))
  | none => none
/-- a call with na arguments; the receiver, where there is one, is the first of them, and is an object of class ci -/
def o_callV (sem : List m_V → m_M → Option m_R) (ci na n : Nat) (q : m_C) : Option ((Nat × m_C) ⊕ m_R) := match mt_pop na [] q.2.1 with
  | some (.inr (some a) :: av, st) => if st.length ≤ 8 ∧ mt_is q.2.2 ci a = true then mt_after n q.1 st (sem (.inr (some a) :: av) q.2.2) else none
  | _ => none
def o_callI (sem : List m_V → m_M → Option m_R) (na n : Nat) (q : m_C) : Option ((Nat × m_C) ⊕ m_R) := match mt_pop na [] q.2.1 with
  | some (.inr (some a) :: av, st) => if st.length ≤ 8 then mt_after n q.1 st (sem (.inr (some a) :: av) q.2.2) else none
  | _ => none
def o_callS (sem : List m_V → m_M → Option m_R) (na n : Nat) (q : m_C) : Option ((Nat × m_C) ⊕ m_R) := match mt_pop na [] q.2.1 with
  | some (av, st) => if st.length ≤ 8 then mt_after n q.1 st (sem av q.2.2) else none
  | _ => none
def o_ret (q : m_C) : Option ((Nat × m_C) ⊕ m_R) := match q.2.1 with
  | [] => some (.inr (none, q.2.2))
  | _ => none
def o_iret (q : m_C) : Option ((Nat × m_C) ⊕ m_R) := match q.2.1 with
  | [.inl x] => some (.inr (some (.inl x), q.2.2))
  | _ => none
def o_zret (q : m_C) : Option ((Nat × m_C) ⊕ m_R) := match q.2.1 with
  | [.inl x] => if mt_z x = true then some (.inr (some (.inl x), q.2.2)) else none
  | _ => none
def o_aret (q : m_C) : Option ((Nat × m_C) ⊕ m_R) := match q.2.1 with
  | [.inr x] => some (.inr (some (.inr x), q.2.2))
  | _ => none
/-- a call's end, said of the callee's own Q -/
theorem mt_call {code : List m_B} {Q : m_R → Prop} {n : Nat} {lv : List (Option m_V)} {st : List m_V} {sem : List m_V → m_M → Option m_R} {av : List m_V} {M : m_M} {Qc : m_R → Prop} (h : mt_P sem av M Qc) (k : ∀ r : m_R, Qc r → mt_T code n (lv, r.1.toList ++ st, r.2) Q) : mt_fin code Q (mt_after n lv st (sem av M)) := by
  obtain ⟨r, h1, h2⟩ := h
  rw [h1]
  exact k r h2
theorem mt_sem_eq {code : List m_B} {nL : Nat} {av : List m_V} {M : m_M} {r : m_R} (h : mt_T code 0 (mt_l0 nL av, [], M) (fun x => x = r)) : mt_sem code nL av M = some r := by
  obtain ⟨n, r1, h1, h2⟩ := h
  rw [h2] at h1
  exact mt_sem_of h1
theorem mt_callD {code : List m_B} {Q : m_R → Prop} {n : Nat} {lv : List (Option m_V)} {st : List m_V} {sem : List m_V → m_M → Option m_R} {av : List m_V} {M : m_M} {r : m_R} (h : sem av M = some r) (k : mt_T code n (lv, r.1.toList ++ st, r.2) Q) : mt_fin code Q (mt_after n lv st (sem av M)) := by
  rw [h]
  exact k
end
section
/-! The small machine over the kit: what its memory is in the heap, and that each of its ops is sound at its instruction. -/
def lw_good : List Cond := lw_tbl.filter goodWord
theorem lw_good_ok {w : Cond} (h : w ∈ lw_good) : (w.onTables && w.keeps) = true ∨ ∃ ty, w = .arrayClass ty := by
  have h2 := (List.mem_filter.mp h).2
  unfold goodWord at h2
  split at h2
  · exact Or.inr ⟨_, rfl⟩
  · exact Or.inl h2
def tv : m_V → Value
  | .inl x => .int x
  | .inr r => va_rf r
theorem tv_cat (x : m_V) : (tv x).category = 1 := by
  cases x with
  | inl _ => rfl
  | inr r => cases r <;> rfl
def te (ca : Nat → ClassId) : m_E → va_E
  | .inl (c, fs) => .inr (c, fs.map tv)
  | .inr (t, n, .inl f) => .inl (ca t, n, .inl f)
  | .inr (t, n, .inr f) => .inl (ca t, n, .inr (.inr (.inr (.inr f))))
def tm (ca : Nat → ClassId) (f : Nat → Option m_E) : Nat → va_E := fun a => match f a with
  | some e => te ca e
  | none => .inr (0, [])
theorem tm_at {ca : Nat → ClassId} {f : Nat → Option m_E} {a : Nat} {e : m_E} (h : f a = some e) : tm ca f a = te ca e := by
  unfold tm
  rw [h]
theorem tm_up {ca : Nat → ClassId} {f : Nat → Option m_E} {a : Nat} {e : m_E} : tm ca (va_up f a (some e)) = va_up (tm ca f) a (te ca e) := by
  funext b
  unfold tm va_up
  by_cases h : b = a
  · simp [h]
  · simp [h]
def mt_rg (b0 n : Nat) : List Nat := List.range' b0 (n - b0)
def mt_ws (ca : Nat → ClassId) (b0 : Nat) (M : m_M) : va_W := va_pl (mt_rg b0 M.1) (tm ca M.2.2)
def mt_A (b0 : Nat) : Nat → Prop := fun q => b0 ≤ q
def mt_wf (b0 : Nat) (M : m_M) : Prop := ∀ (a : Nat) (e : m_E), M.2.2 a = some e → b0 ≤ a ∧ a < M.1
theorem mt_mem {b0 n a : Nat} : a ∈ mt_rg b0 n ↔ b0 ≤ a ∧ a < n := by
  unfold mt_rg
  rw [List.mem_range'_1]
  omega
theorem mt_push {b0 n : Nat} (h : b0 ≤ n) : mt_rg b0 (n + 1) = mt_rg b0 n ++ [n] := by
  unfold mt_rg
  rw [show n + 1 - b0 = (n - b0) + 1 by omega, List.range'_concat]
  congr 2
  omega
theorem mt_at {ca : Nat → ClassId} {b0 i : Nat} {M : m_M} {q : Nat × va_E} (h : (mt_ws ca b0 M)[i]? = some q) : q.1 = b0 + i ∧ b0 ≤ q.1 ∧ q.1 < M.1 := by
  unfold mt_ws va_pl at h
  rw [List.getElem?_map] at h
  cases hb : (mt_rg b0 M.1)[i]? with
  | none => rw [hb] at h; cases h
  | some a =>
    rw [hb] at h
    have h' : (a, tm ca M.2.2 a) = q := Option.some.inj h
    subst h'
    unfold mt_rg at hb
    obtain ⟨hl, he⟩ := List.getElem?_eq_some_iff.mp hb
    rw [List.getElem_range'] at he
    rw [List.length_range'] at hl
    refine ⟨?_, ?_, ?_⟩
    · show a = b0 + i
      omega
    · show b0 ≤ a
      omega
    · show a < M.1
      omega
theorem mt_D (ca : Nat → ClassId) (b0 : Nat) (M : m_M) : va_D (mt_A b0) (mt_ws ca b0 M) := by
  refine ⟨fun i j p q hi hj hpq => ?_, fun k q hk => (mt_at hk).2.1⟩
  have h1 := (mt_at hi).1
  have h2 := (mt_at hj).1
  omega
theorem mt_pl {ca : Nat → ClassId} {b0 a : Nat} {M : m_M} {e : m_E} (hw : mt_wf b0 M) (h : M.2.2 a = some e) : ∃ k : Nat, (mt_ws ca b0 M)[k]? = some (a, te ca e) := by
  obtain ⟨k, hk⟩ := va_pl_get (X := []) (f := tm ca M.2.2) (mt_mem.mpr (hw a e h))
  rw [tm_at h] at hk
  exact ⟨k, hk⟩
theorem mt_set {ca : Nat → ClassId} {b0 a k : Nat} {M : m_M} {e0 e : m_E} (hw : mt_wf b0 M) (h : M.2.2 a = some e0) (hk : (mt_ws ca b0 M)[k]? = some (a, te ca e0)) : (mt_ws ca b0 M).set k (a, te ca e) = mt_ws ca b0 (mup M a e) := by
  have hk2 : ([] ++ va_pl (mt_rg b0 M.1) (tm ca M.2.2))[k]? = some (a, tm ca M.2.2 a) := by
    rw [tm_at h]
    exact hk
  have h3 := va_pl_set (X := []) (e := te ca e) (mt_D ca b0 M) (mt_mem.mpr (hw a e0 h)) hk2
  show (va_pl (mt_rg b0 M.1) (tm ca M.2.2)).set k (a, te ca e) = va_pl (mt_rg b0 M.1) (tm ca (va_up M.2.2 a (some e)))
  rw [tm_up]
  exact h3
theorem mt_new {ca : Nat → ClassId} {b0 w : Nat} {M : m_M} {e : m_E} (h : b0 ≤ M.1) : mt_ws ca b0 M ++ [(M.1, te ca e)] = mt_ws ca b0 (mnew M w e) := by
  show va_pl (mt_rg b0 M.1) (tm ca M.2.2) ++ [(M.1, te ca e)] = va_pl (mt_rg b0 (M.1 + 1)) (tm ca (va_up M.2.2 M.1 (some e)))
  rw [mt_push h, tm_up]
  exact va_pl_push (fun q => by have := (mt_mem.mp q).2; omega)
theorem wf_up {b0 a : Nat} {M : m_M} {e0 e : m_E} (hw : mt_wf b0 M) (h : M.2.2 a = some e0) : mt_wf b0 (mup M a e) := by
  intro b e1 h1
  by_cases hb : b = a
  · subst hb
    exact hw _ _ h
  · have h2 : M.2.2 b = some e1 := by
      simp only [mup, va_up, hb, if_false] at h1
      exact h1
    exact hw _ _ h2
theorem wf_new {b0 w : Nat} {M : m_M} {e : m_E} (hw : mt_wf b0 M) (h : b0 ≤ M.1) : mt_wf b0 (mnew M w e) := by
  intro b e1 h1
  by_cases hb : b = M.1
  · subst hb
    exact ⟨h, Nat.lt_succ_self _⟩
  · have h2 : M.2.2 b = some e1 := by
      simp only [mnew, va_up, hb, if_false] at h1
      exact h1
    have h3 := hw _ _ h2
    exact ⟨h3.1, Nat.lt_succ_of_lt h3.2⟩
-- locals
def ml : Nat → List (Option m_V) → List (Nat × Value)
  | _, [] => []
  | i, none :: t => ml (i + 1) t
  | i, some x :: t => (i, tv x) :: ml (i + 1) t
theorem ml_mem {q : Nat × Value} : ∀ {L : List (Option m_V)} {i : Nat}, q ∈ ml i L → ∃ (j : Nat) (x : m_V), q = (i + j, tv x) ∧ lget L j = some x
  | [], i, h => by cases h
  | none :: t, i, h => by
    obtain ⟨j, x, h1, h2⟩ := ml_mem (L := t) (i := i + 1) h
    exact ⟨j + 1, x, by rw [h1, Nat.add_assoc, Nat.add_comm 1 j], h2⟩
  | some y :: t, i, h => by
    rcases List.mem_cons.mp h with h | h
    · exact ⟨0, y, h, rfl⟩
    · obtain ⟨j, x, h1, h2⟩ := ml_mem (L := t) (i := i + 1) h
      exact ⟨j + 1, x, by rw [h1, Nat.add_assoc, Nat.add_comm 1 j], h2⟩
theorem ml_in {x : m_V} : ∀ {L : List (Option m_V)} {i j : Nat}, lget L j = some x → (i + j, tv x) ∈ ml i L
  | [], i, j, h => by simp [lget] at h
  | none :: t, i, 0, h => by simp [lget] at h
  | some y :: t, i, 0, h => by
    simp only [lget, Option.some.injEq] at h
    subst h
    exact List.mem_cons_self
  | none :: t, i, j + 1, h => by
    have h2 := ml_in (i := i + 1) (show lget t j = some x from h)
    rw [Nat.add_assoc, Nat.add_comm 1 j] at h2
    exact h2
  | some y :: t, i, j + 1, h => by
    have h2 := ml_in (i := i + 1) (show lget t j = some x from h)
    rw [Nat.add_assoc, Nat.add_comm 1 j] at h2
    exact List.mem_cons_of_mem _ h2
theorem lget_put {x y : m_V} : ∀ {L : List (Option m_V)} {i j : Nat}, lget (lput L i x) j = some y → (j = i ∧ y = x) ∨ (j ≠ i ∧ lget L j = some y)
  | [], i, j, h => by simp [lput, lget] at h
  | a :: t, 0, 0, h => by
    simp only [lput, lget, Option.some.injEq] at h
    exact Or.inl ⟨rfl, h.symm⟩
  | a :: t, 0, j + 1, h => Or.inr ⟨by omega, h⟩
  | a :: t, i + 1, 0, h => Or.inr ⟨by omega, h⟩
  | a :: t, i + 1, j + 1, h => by
    rcases lget_put (L := t) (i := i) (j := j) h with ⟨h1, h2⟩ | ⟨h1, h2⟩
    · exact Or.inl ⟨by omega, h2⟩
    · exact Or.inr ⟨by omega, h2⟩
theorem lget_at {ls : Array Slot} {nL i : Nat} {L : List (Option m_V)} {x : m_V} (h : lv_has ls nL (ml 0 L)) (hl : lget L i = some x) : ls[i]? = some (.val (tv x)) := by
  have h2 := ml_in (i := 0) hl
  rw [Nat.zero_add] at h2
  exact h.2.2 _ h2
theorem lput_at {ls : Array Slot} {nL i : Nat} {L : List (Option m_V)} {x : m_V} (h : lv_has ls nL ((i, tv x) :: (ml 0 L).filter (fun q => !(q.1 == i) && !(q.1 + 1 == i && q.2.category == 2)))) : lv_has ls nL (ml 0 (lput L i x)) := by
  refine ⟨h.1, h.2.1, fun q hq => h.2.2 q ?_⟩
  obtain ⟨j, y, h1, h2⟩ := ml_mem hq
  rw [Nat.zero_add] at h1
  subst h1
  rcases lget_put h2 with ⟨h3, h4⟩ | ⟨h3, h4⟩
  · subst h3; subst h4
    exact List.mem_cons_self
  · refine List.mem_cons_of_mem _ (List.mem_filter.mpr ⟨?_, ?_⟩)
    · have h5 := ml_in (i := 0) h4
      rw [Nat.zero_add] at h5
      exact h5
    · have h6 := tv_cat y
      simp [h3, h6]
theorem ml_args : ∀ (n i : Nat) (av : List m_V) (q : Nat × Value), q ∈ ml i (mt_l0 n av) → q ∈ lv_args i (av.map tv)
  | 0, i, av, q, h => by cases h
  | n + 1, i, [], q, h => by
    have h2 := ml_args n (i + 1) [] q h
    cases h2
  | n + 1, i, x :: t, q, h => by
    have hc : (if (tv x).category = 2 then i + 2 else i + 1) = i + 1 := by rw [tv_cat]; rfl
    show q ∈ (i, tv x) :: lv_args (if (tv x).category = 2 then i + 2 else i + 1) (t.map tv)
    rw [hc]
    rcases List.mem_cons.mp h with h | h
    · rw [h]; exact List.mem_cons_self
    · exact List.mem_cons_of_mem _ (ml_args n (i + 1) t q h)
theorem tv_len : ∀ (av : List m_V), (lg_sl (av.map tv)).length = av.length
  | [] => rfl
  | x :: t => by
    have h := tv_len t
    have hc := tv_cat x
    simp only [lg_sl, List.map_cons, List.flatMap_cons, List.length_append] at h ⊢
    rw [h, hc]
    simp
    omega
theorem tv_sum : ∀ (st : List m_V), ((st.map tv).map fun v => v.category).sum = st.length
  | [] => rfl
  | x :: t => by
    have h := tv_sum t
    have hc := tv_cat x
    simp only [List.map_cons, List.sum_cons, List.length_cons]
    rw [h, hc]
    omega
theorem mt_pop_ok : ∀ (n : Nat) (acc st av st' : List m_V), mt_pop n acc st = some (av, st') → av.reverse ++ st' = acc.reverse ++ st ∧ av.length = acc.length + n
  | 0, acc, st, av, st', h => by
    simp only [mt_pop, Option.some.injEq, Prod.mk.injEq] at h
    rw [h.1, h.2]
    exact ⟨rfl, rfl⟩
  | n + 1, acc, [], av, st', h => by simp [mt_pop] at h
  | n + 1, acc, x :: st, av, st', h => by
    obtain ⟨h1, h2⟩ := mt_pop_ok n (x :: acc) st av st' h
    rw [h1]
    refine ⟨by simp, ?_⟩
    rw [h2, List.length_cons]
    omega
-- array classes, and what goes with every state
def mt_tys (ca : Nat → ClassId) : List (ClassId × FieldType) := [(ca 0, .int), (ca 1, .boolean), (ca 2, .object "TreeCarrier$Message"), (ca 3, .object "TreeCarrier$StoredFile"), (ca 4, .object "TreeCarrier$Entry"), (ca 5, .object "TreeCarrier$JournalRecord")]
def mt_isN : Cond → Bool
  | .fieldLinkNest .. => true
  | .methodLinkNest .. => true
  | _ => false
theorem lw_nest_is : lw_nest.all mt_isN = true := by decide +kernel
theorem mt_isN_on {w : Cond} (h : mt_isN w = true) : w.onTables = true := by
  unfold mt_isN at h
  split at h
  · rfl
  · rfl
  · cases h
theorem mt_isN_warm {w : Cond} (h : mt_isN w = true) {s U : State} (hW : s.WarmedH U.vm) (hz : va_Nw w s) : va_Nw w U := by
  unfold mt_isN at h
  split at h
  · exact va_Nw.warmF hW hz
  · exact va_Nw.warmM hW hz
  · cases h
def mt_K (D : va_G) (ca : Nat → ClassId) (U : State) : Prop := va_K D mCl (mt_tys ca) U ∧ (∀ w ∈ lw_nest, va_Nw w U) ∧ va_AO "TreeCarrier$Message" U ∧ va_AO "TreeCarrier$StoredFile" U ∧ va_AO "TreeCarrier$Entry" U ∧ va_AO "TreeCarrier$JournalRecord" U
theorem mt_K_warm {D : va_G} {ca : Nat → ClassId} {s U : State} (hW : s.WarmedH U.vm) (h : mt_K D ca s) : mt_K D ca U :=
  ⟨va_K.moved hW.alike h.1, fun w hw => mt_isN_warm (List.all_eq_true.mp lw_nest_is w hw) hW (h.2.1 w hw), va_AO.moved hW.alike h.2.2.1, va_AO.moved hW.alike h.2.2.2.1, va_AO.moved hW.alike h.2.2.2.2.1, va_AO.moved hW.alike h.2.2.2.2.2⟩
theorem mt_K_same {D : va_G} {ca : Nat → ClassId} {u U : State} (hv : u.vm = U.vm) (h : mt_K D ca u) : mt_K D ca U := by
  have ha : u.vm.Alike U.vm := by rw [hv]; exact Vm.Alike.refl U.vm
  exact ⟨va_K.moved ha h.1, fun w hw => va_Nw.same (mt_isN_on (List.all_eq_true.mp lw_nest_is w hw)) hv (h.2.1 w hw), va_AO.moved ha h.2.2.1, va_AO.moved ha h.2.2.2.1, va_AO.moved ha h.2.2.2.2.1, va_AO.moved ha h.2.2.2.2.2⟩
/-- a method's world at its start, and its end -/
def mt_U (D : va_G) (ca : Nat → ClassId) (b0 : Nat) (M : m_M) (U : State) : Prop := U.heap.size = M.1 ∧ b0 ≤ M.1 ∧ mt_wf b0 M ∧ va_P D mCl (mt_ws ca b0 M) U.heap ∧ mt_K D ca U
def mt_Q (D : va_G) (ca : Nat → ClassId) (b0 : Nat) (v : Option m_V) (M : m_M) : Array Value → State → Outcome → State → Prop := fun _ s o t => o = .returned (v.map tv) ∧ mt_wf b0 M ∧ va_P D mCl (mt_ws ca b0 M) t.heap ∧ va_F (mt_A b0) s t
def mt_mo (M M1 : m_M) : Prop := M.1 ≤ M1.1 ∧ M.2.1 ≤ M1.2.1
theorem mt_mo0 {M : m_M} : mt_mo M M := ⟨Nat.le_refl _, Nat.le_refl _⟩
theorem mt_mo2 {M M1 M2 : m_M} (h : mt_mo M M1) (h2 : mt_mo M1 M2) : mt_mo M M2 := ⟨Nat.le_trans h.1 h2.1, Nat.le_trans h.2 h2.2⟩
/-- method y, of frames fr and locals lo, called with av on memory M, returns v with memory M' -/
def mt_Ok (l : Launch) (D : va_G) (ca : Nat → ClassId) (b0 : Nat) (y : MethodName) (cc : ByteArray) (nL : Nat) (ret : Option FieldType) (fr lo : Nat) (av : List m_V) (M : m_M) (v : Option m_V) (M' : m_M) : Prop :=
  Met l y (.code y cc nL ret :: lw_good) { frames := fr, cells := M'.1 - M.1, slots := M'.2.1 - M.2.1, locals := lo } (va_Pc (av.map tv) (mt_U D ca b0 M)) (mt_Q D ca b0 v M') (M'.1 - M.1) (M'.2.1 - M.2.1) (mt_A b0)
def mt_OkS (y : MethodName) (cc : ByteArray) (nL : Nat) (ret : Option FieldType) (fr lo : Nat) (sem : List m_V → m_M → Option m_R) : Prop :=
  ∀ (av : List m_V) (M : m_M) (r : m_R), av.length ≤ nL → sem av M = some r → mt_mo M r.2 ∧ ∀ (l : Launch) (D : va_G) (ca : Nat → ClassId) (b0 : Nat), mt_Ok l D ca b0 y cc nL ret fr lo av M r.1 r.2
/-- which return instruction goes with which answer -/
def mt_ret (cc : ByteArray) (ret : Option FieldType) (pc : Nat) (v : Option m_V) : Prop :=
  (decode cc pc = .ok (.return_, 1) ∧ ret = none ∧ v = none) ∨
  (decode cc pc = .ok (.ireturn, 1) ∧ ∃ (ty : FieldType) (x : Int32), ret = some ty ∧ v = some (.inl x) ∧ narrow ty (.int x) = .int x) ∨
  (decode cc pc = .ok (.areturn, 1) ∧ ∃ (n : String) (x : Option Nat), ret = some (.object n) ∧ v = some (.inr x))
/-- the machine stands in a method's body at pc with q, and will come to Q -/
def mt_G (p : Program) (l : Launch) (e : Env) (R : Room) (s : State) (m : MethodId) (args : Array Value) (below : List Frame) (meth : Method) (c : Code) (Q : State → Prop) (nL : Nat) (D : va_G) (ca : Nat → ClassId) (b0 w0 : Nat) (M' : m_M) (pc : Nat) (q : m_C) : Prop :=
  (q.2.2.1 ≤ M'.1 ∧ q.2.2.2.1 ≤ M'.2.1) ∧ (mt_wf b0 q.2.2 → ∀ (H : Heap) (locs : List Loc) (ls : Array Slot) (cells slots : Nat), va_P D mCl (mt_ws ca b0 q.2.2) H → va_S (mt_A b0) s.heap H locs → cells + s.heap.size = q.2.2.1 → slots + w0 = q.2.2.2.1 → lv_has ls nL (ml 0 q.1) → W p l e R s m args below meth c H locs cells slots Q (F0 m pc ls (q.2.1.map tv)))
def mt_C (p : Program) (l : Launch) (e : Env) (R : Room) (s : State) (m : MethodId) (args : Array Value) (below : List Frame) (meth : Method) (c : Code) (Q : State → Prop) (cc : ByteArray) (nL : Nat) (own nm : String) (ret : Option FieldType) (fr lo : Nat) (D : va_G) (ca : Nat → ClassId) (b0 w0 : Nat) (v : Option m_V) (M' : m_M) : Prop :=
  p.tables.exec = Jvm.exec ∧ c.code = cc ∧ c.maxLocals = nL ∧ s.vm.findClass own = some m.cls ∧ (∀ w ∈ lw_good, w.before args s = true) ∧ mt_K D ca s ∧ b0 ≤ s.heap.size ∧ (fr ≤ R.frames ∧ lo ≤ R.locals ∧ M'.1 ≤ R.cells + s.heap.size ∧ M'.2.1 ≤ R.slots + w0) ∧ meth.name = nm ∧
  ∀ (H : Heap) (locs : List Loc) (ls : Array Slot) (cells slots pc : Nat), mt_ret cc ret pc v → mt_wf b0 M' → va_P D mCl (mt_ws ca b0 M') H → va_S (mt_A b0) s.heap H locs → cells + s.heap.size = M'.1 → slots + w0 = M'.2.1 → W p l e R s m args below meth c H locs cells slots Q (F0 m pc ls (v.toList.map tv))
/-- a plain op, from pc to pc'; a block's last op, at pc: heap and slots only grow, and the machine follows -/
def mt_Sp (Z : Nat → State → Prop) (cc : ByteArray) (nL : Nat) (own nm : String) (ret : Option FieldType) (fr lo pc pc' : Nat) (o : m_S) : Prop :=
  ∀ (q q' : m_C), o q = some q' → mt_mo q.2.2 q'.2.2 ∧ ∀ (p : Program) (l : Launch) (e : Env) (R : Room) (s : State) (m : MethodId) (args : Array Value) (below : List Frame) (meth : Method) (c : Code) (Q : State → Prop) (D : va_G) (ca : Nat → ClassId) (b0 w0 : Nat) (v : Option m_V) (M' : m_M),
    mt_C p l e R s m args below meth c Q cc nL own nm ret fr lo D ca b0 w0 v M' → Z b0 s → mt_G p l e R s m args below meth c Q nL D ca b0 w0 M' pc' q' → mt_G p l e R s m args below meth c Q nL D ca b0 w0 M' pc q
def mt_Sl (Z : Nat → State → Prop) (cc : ByteArray) (nL : Nat) (own nm : String) (ret : Option FieldType) (fr lo pc : Nat) (o : m_O) : Prop :=
  ∀ (q : m_C) (z : (Nat × m_C) ⊕ m_R), o q = some z → (∀ x, z = .inl x → mt_mo q.2.2 x.2.2.2) ∧ (∀ r, z = .inr r → mt_mo q.2.2 r.2) ∧ ∀ (p : Program) (l : Launch) (e : Env) (R : Room) (s : State) (m : MethodId) (args : Array Value) (below : List Frame) (meth : Method) (c : Code) (Q : State → Prop) (D : va_G) (ca : Nat → ClassId) (b0 w0 : Nat) (v : Option m_V) (M' : m_M),
    mt_C p l e R s m args below meth c Q cc nL own nm ret fr lo D ca b0 w0 v M' → Z b0 s →
    (∀ x, z = .inl x → mt_G p l e R s m args below meth c Q nL D ca b0 w0 M' x.1 x.2) → (∀ r, z = .inr r → r = (v, M')) → mt_G p l e R s m args below meth c Q nL D ca b0 w0 M' pc q
section SB
variable {Z : Nat → State → Prop} {cc : ByteArray} {nL : Nat} {own nm : String} {ret : Option FieldType} {fr lo pc pc' : Nat}
theorem mt_nil {last : m_O} (h : mt_Sl Z cc nL own nm ret fr lo pc last) : mt_Sl Z cc nL own nm ret fr lo pc (mt_b ([], last)) := h
theorem mt_cons {o : m_S} {ops : List m_S} {last : m_O} (h1 : mt_Sp Z cc nL own nm ret fr lo pc pc' o) (h2 : mt_Sl Z cc nL own nm ret fr lo pc' (mt_b (ops, last))) : mt_Sl Z cc nL own nm ret fr lo pc (mt_b (o :: ops, last)) := by
  intro q z hq
  simp only [mt_b, mt_seq] at hq
  cases ho : o q with
  | none => simp [ho] at hq
  | some q1 =>
    simp only [ho] at hq
    obtain ⟨ha, hb⟩ := h1 q q1 ho
    obtain ⟨hc, hd, he⟩ := h2 q1 z hq
    exact ⟨fun x hx => mt_mo2 ha (hc x hx), fun r hr => mt_mo2 ha (hd r hr), fun p l e R s m args below meth c Q D ca b0 w0 v M' C hz hg hr => hb p l e R s m args below meth c Q D ca b0 w0 v M' C hz (he p l e R s m args below meth c Q D ca b0 w0 v M' C hz hg hr)⟩
/-- a method's code is sound: each of its blocks is -/
def mt_Sc (Z : Nat → State → Prop) (cc : ByteArray) (nL : Nat) (own nm : String) (ret : Option FieldType) (fr lo : Nat) (code : List m_B) : Prop := ∀ x ∈ code, mt_Sl Z cc nL own nm ret fr lo x.1 (mt_b x.2)
theorem mt_sc0 : mt_Sc Z cc nL own nm ret fr lo [] := fun x h => by cases h
theorem mt_sc1 {x : m_B} {t : List m_B} (h1 : mt_Sl Z cc nL own nm ret fr lo x.1 (mt_b x.2)) (h2 : mt_Sc Z cc nL own nm ret fr lo t) : mt_Sc Z cc nL own nm ret fr lo (x :: t) := fun y hy => by
  rcases List.mem_cons.mp hy with h | h
  · rw [h]; exact h1
  · exact h2 y h
theorem mt_cd_mem {i : Nat} {y : List m_S × m_O} : ∀ {code : List m_B}, mt_cd code i = some y → (i, y) ∈ code
  | [], h => by simp [mt_cd] at h
  | x :: t, h => by
    simp only [mt_cd] at h
    split at h
    · next he =>
      have h2 : x.2 = y := Option.some.inj h
      rw [← he, ← h2]
      exact List.mem_cons_self
    · exact List.mem_cons_of_mem _ (mt_cd_mem h)
theorem mt_grow {code : List m_B} {r : m_R} (hs : mt_Sc Z cc nL own nm ret fr lo code) : ∀ (n pc : Nat) (q : m_C), mt_run code n pc q = some r → mt_mo q.2.2 r.2
  | 0, pc, q, h => by simp [mt_run] at h
  | n + 1, pc, q, h => by
    simp only [mt_run] at h
    cases h1 : mt_cd code pc with
    | none => simp [h1] at h
    | some x =>
      simp only [h1] at h
      cases h2 : mt_b x q with
      | none => simp [h2] at h
      | some z =>
        simp only [h2] at h
        obtain ⟨ha, hb, -⟩ := hs _ (mt_cd_mem h1) q z h2
        cases z with
        | inl y => exact mt_mo2 (ha y rfl) (mt_grow hs n y.1 y.2 h)
        | inr r' =>
          have h3 : r' = r := Option.some.inj h
          rw [← h3]
          exact hb r' rfl
theorem mt_sound {p : Program} {l : Launch} {e : Env} {R : Room} {s : State} {m : MethodId} {args : Array Value} {below : List Frame} {meth : Method} {c : Code} {Q : State → Prop} {D : va_G} {ca : Nat → ClassId} {b0 w0 : Nat} {v : Option m_V} {M' : m_M} {code : List m_B}
    (hs : mt_Sc Z cc nL own nm ret fr lo code) (C : mt_C p l e R s m args below meth c Q cc nL own nm ret fr lo D ca b0 w0 v M') (hz : Z b0 s) : ∀ (n pc : Nat) (q : m_C), mt_run code n pc q = some (v, M') → mt_G p l e R s m args below meth c Q nL D ca b0 w0 M' pc q
  | 0, pc, q, h => by simp [mt_run] at h
  | n + 1, pc, q, h => by
    simp only [mt_run] at h
    cases h1 : mt_cd code pc with
    | none => simp [h1] at h
    | some x =>
      simp only [h1] at h
      cases h2 : mt_b x q with
      | none => simp [h2] at h
      | some z =>
        simp only [h2] at h
        refine (hs _ (mt_cd_mem h1) q z h2).2.2 p l e R s m args below meth c Q D ca b0 w0 v M' C hz (fun y hy => ?_) (fun r hr => ?_)
        · subst hy
          exact mt_sound hs C hz n y.1 y.2 h
        · subst hr
          exact Option.some.inj h
end SB
/-- the heap is no larger than the room that was used -/
theorem mt_size {p : Program} {l : Launch} {e : Env} {R : Room} {s : State} {m : MethodId} {args : Array Value} {below : List Frame} {meth : Method} {c : Code} {Q : State → Prop} {H : Heap} {locs : List Loc} {cells slots : Nat} {g : JFrame} (k : H.size ≤ s.heap.size + cells → W p l e R s m args below meth c H locs cells slots Q g) : W p l e R s m args below meth c H locs cells slots Q g := by
  intro T hT X
  refine k ?_ T hT X
  have h := X.same.2.2.1
  have h2 : (T.setVm s.vm).heap = H := hT
  rw [h2] at h
  exact h
theorem va_at_lt {D : va_G} {cl : List vw_C} {q : Nat × va_E} {H : Heap} (h : va_at D cl q H) : q.1 < H.size := h.lt
theorem mt_size2 {s : State} {D : va_G} {ca : Nat → ClassId} {b0 : Nat} {M : m_M} {H : Heap} {locs : List Loc} (hb : b0 ≤ s.heap.size) (hP : va_P D mCl (mt_ws ca b0 M) H) (hS : va_S (mt_A b0) s.heap H locs) (hM : s.heap.size ≤ M.1) : M.1 ≤ H.size := by
  by_cases h : s.heap.size < M.1
  · obtain ⟨k, hk⟩ := va_pl_get (X := []) (f := tm ca M.2.2) (mt_mem.mpr (show b0 ≤ M.1 - 1 ∧ M.1 - 1 < M.1 by omega))
    have h2 := va_at_lt (hP k _ hk)
    simp only at h2
    omega
  · have := hS.1
    omega

section SN
variable {Z : Nat → State → Prop} {cc : ByteArray} {nL : Nat} {own nm : String} {ret : Option FieldType} {fr lo pc n : Nat}
theorem sn_iconst {i : Int} {x : Int32} (d : decode cc pc = .ok (.iconst i, 1)) (hv : Int32.ofInt i = x) (hn : pc + 1 = n) : mt_Sp Z cc nL own nm ret fr lo pc n (o_const x) := by
  rintro ⟨lv, st, M⟩ q' hq
  simp only [o_const, reduceCtorEq, Option.some.injEq] at hq
  subst hq
  subst hn
  exact ⟨mt_mo0, fun p l e R s m args below meth c Q D ca b0 w0 v M' C hz hg => ⟨hg.1, fun hw H locs ls cells slots h1 h2 h3 h4 h5 => lv_iconst C.1 C.2.1 d hv (hg.2 hw H locs ls cells slots h1 h2 h3 h4 h5)⟩⟩
theorem sn_bipush {i : Int} {x : Int32} (d : decode cc pc = .ok (.bipush i, 2)) (hv : (Int8.ofInt i).toInt32 = x) (hn : pc + 2 = n) : mt_Sp Z cc nL own nm ret fr lo pc n (o_const x) := by
  rintro ⟨lv, st, M⟩ q' hq
  simp only [o_const, reduceCtorEq, Option.some.injEq] at hq
  subst hq
  subst hn
  exact ⟨mt_mo0, fun p l e R s m args below meth c Q D ca b0 w0 v M' C hz hg => ⟨hg.1, fun hw H locs ls cells slots h1 h2 h3 h4 h5 => lv_bipush C.1 C.2.1 d hv (hg.2 hw H locs ls cells slots h1 h2 h3 h4 h5)⟩⟩
theorem sn_sipush {i : Int} {x : Int32} (d : decode cc pc = .ok (.sipush i, 3)) (hv : (Int16.ofInt i).toInt32 = x) (hn : pc + 3 = n) : mt_Sp Z cc nL own nm ret fr lo pc n (o_const x) := by
  rintro ⟨lv, st, M⟩ q' hq
  simp only [o_const, reduceCtorEq, Option.some.injEq] at hq
  subst hq
  subst hn
  exact ⟨mt_mo0, fun p l e R s m args below meth c Q D ca b0 w0 v M' C hz hg => ⟨hg.1, fun hw H locs ls cells slots h1 h2 h3 h4 h5 => lv_sipush C.1 C.2.1 d hv (hg.2 hw H locs ls cells slots h1 h2 h3 h4 h5)⟩⟩
theorem sn_ldc {i : Nat} {x : Int32} (d : decode cc pc = .ok (.ldc i, 2)) (hword : Cond.constant own i x ∈ lw_good) (hn : pc + 2 = n) : mt_Sp Z cc nL own nm ret fr lo pc n (o_const x) := by
  rintro ⟨lv, st, M⟩ q' hq
  simp only [o_const, reduceCtorEq, Option.some.injEq] at hq
  subst hq
  subst hn
  exact ⟨mt_mo0, fun p l e R s m args below meth c Q D ca b0 w0 v M' C hz hg => ⟨hg.1, fun hw H locs ls cells slots h1 h2 h3 h4 h5 => lv_ldc C.1 C.2.1 C.2.2.2.1 (C.2.2.2.2.1 _ hword) d (hg.2 hw H locs ls cells slots h1 h2 h3 h4 h5)⟩⟩
theorem sn_null (d : decode cc pc = .ok (.aconst_null, 1)) (hn : pc + 1 = n) : mt_Sp Z cc nL own nm ret fr lo pc n (o_null) := by
  rintro ⟨lv, st, M⟩ q' hq
  simp only [o_null, reduceCtorEq, Option.some.injEq] at hq
  subst hq
  subst hn
  exact ⟨mt_mo0, fun p l e R s m args below meth c Q D ca b0 w0 v M' C hz hg => ⟨hg.1, fun hw H locs ls cells slots h1 h2 h3 h4 h5 => lv_null C.1 C.2.1 d (hg.2 hw H locs ls cells slots h1 h2 h3 h4 h5)⟩⟩
theorem sn_add (d : decode cc pc = .ok (.iadd, 1)) (hn : pc + 1 = n) : mt_Sp Z cc nL own nm ret fr lo pc n (o_add) := by
  rintro ⟨lv, st, M⟩ q' hq
  rcases st with _ | ⟨y | y, _ | ⟨x | x, st⟩⟩ <;> simp only [o_add, reduceCtorEq, Option.some.injEq] at hq
  subst hq
  subst hn
  exact ⟨mt_mo0, fun p l e R s m args below meth c Q D ca b0 w0 v M' C hz hg => ⟨hg.1, fun hw H locs ls cells slots h1 h2 h3 h4 h5 => lv_iadd C.1 C.2.1 d (hg.2 hw H locs ls cells slots h1 h2 h3 h4 h5)⟩⟩
theorem sn_sub (d : decode cc pc = .ok (.isub, 1)) (hn : pc + 1 = n) : mt_Sp Z cc nL own nm ret fr lo pc n (o_sub) := by
  rintro ⟨lv, st, M⟩ q' hq
  rcases st with _ | ⟨y | y, _ | ⟨x | x, st⟩⟩ <;> simp only [o_sub, reduceCtorEq, Option.some.injEq] at hq
  subst hq
  subst hn
  exact ⟨mt_mo0, fun p l e R s m args below meth c Q D ca b0 w0 v M' C hz hg => ⟨hg.1, fun hw H locs ls cells slots h1 h2 h3 h4 h5 => lv_isub C.1 C.2.1 d (hg.2 hw H locs ls cells slots h1 h2 h3 h4 h5)⟩⟩
theorem sn_mul (d : decode cc pc = .ok (.imul, 1)) (hn : pc + 1 = n) : mt_Sp Z cc nL own nm ret fr lo pc n (o_mul) := by
  rintro ⟨lv, st, M⟩ q' hq
  rcases st with _ | ⟨y | y, _ | ⟨x | x, st⟩⟩ <;> simp only [o_mul, reduceCtorEq, Option.some.injEq] at hq
  subst hq
  subst hn
  exact ⟨mt_mo0, fun p l e R s m args below meth c Q D ca b0 w0 v M' C hz hg => ⟨hg.1, fun hw H locs ls cells slots h1 h2 h3 h4 h5 => lv_imul C.1 C.2.1 d (hg.2 hw H locs ls cells slots h1 h2 h3 h4 h5)⟩⟩
theorem sn_and (d : decode cc pc = .ok (.iand, 1)) (hn : pc + 1 = n) : mt_Sp Z cc nL own nm ret fr lo pc n (o_and) := by
  rintro ⟨lv, st, M⟩ q' hq
  rcases st with _ | ⟨y | y, _ | ⟨x | x, st⟩⟩ <;> simp only [o_and, reduceCtorEq, Option.some.injEq] at hq
  subst hq
  subst hn
  exact ⟨mt_mo0, fun p l e R s m args below meth c Q D ca b0 w0 v M' C hz hg => ⟨hg.1, fun hw H locs ls cells slots h1 h2 h3 h4 h5 => lv_iand C.1 C.2.1 d (hg.2 hw H locs ls cells slots h1 h2 h3 h4 h5)⟩⟩
theorem sn_xor (d : decode cc pc = .ok (.ixor, 1)) (hn : pc + 1 = n) : mt_Sp Z cc nL own nm ret fr lo pc n (o_xor) := by
  rintro ⟨lv, st, M⟩ q' hq
  rcases st with _ | ⟨y | y, _ | ⟨x | x, st⟩⟩ <;> simp only [o_xor, reduceCtorEq, Option.some.injEq] at hq
  subst hq
  subst hn
  exact ⟨mt_mo0, fun p l e R s m args below meth c Q D ca b0 w0 v M' C hz hg => ⟨hg.1, fun hw H locs ls cells slots h1 h2 h3 h4 h5 => lv_ixor C.1 C.2.1 d (hg.2 hw H locs ls cells slots h1 h2 h3 h4 h5)⟩⟩
theorem sn_div (d : decode cc pc = .ok (.idiv, 1)) (hn : pc + 1 = n) : mt_Sp Z cc nL own nm ret fr lo pc n o_div := by
  rintro ⟨lv, st, M⟩ q' hq
  rcases st with _ | ⟨y | y, _ | ⟨x | x, st⟩⟩ <;> simp only [o_div, reduceCtorEq, Option.some.injEq] at hq
  by_cases hne : y = 0
  · rw [if_pos hne] at hq; cases hq
  · rw [if_neg hne] at hq
    have hq := Option.some.inj hq
    subst hq
    subst hn
    exact ⟨mt_mo0, fun p l e R s m args below meth c Q D ca b0 w0 v M' C hz hg => ⟨hg.1, fun hw H locs ls cells slots h1 h2 h3 h4 h5 => lv_idiv C.1 C.2.1 d hne (hg.2 hw H locs ls cells slots h1 h2 h3 h4 h5)⟩⟩
theorem sn_rem (d : decode cc pc = .ok (.irem, 1)) (hn : pc + 1 = n) : mt_Sp Z cc nL own nm ret fr lo pc n o_rem := by
  rintro ⟨lv, st, M⟩ q' hq
  rcases st with _ | ⟨y | y, _ | ⟨x | x, st⟩⟩ <;> simp only [o_rem, reduceCtorEq, Option.some.injEq] at hq
  by_cases hne : y = 0
  · rw [if_pos hne] at hq; cases hq
  · rw [if_neg hne] at hq
    have hq := Option.some.inj hq
    subst hq
    subst hn
    exact ⟨mt_mo0, fun p l e R s m args below meth c Q D ca b0 w0 v M' C hz hg => ⟨hg.1, fun hw H locs ls cells slots h1 h2 h3 h4 h5 => lv_irem C.1 C.2.1 d hne (hg.2 hw H locs ls cells slots h1 h2 h3 h4 h5)⟩⟩
theorem sn_dup (d : decode cc pc = .ok (.dup, 1)) (hn : pc + 1 = n) : mt_Sp Z cc nL own nm ret fr lo pc n (o_dup) := by
  rintro ⟨lv, st, M⟩ q' hq
  rcases st with _ | ⟨x, st⟩ <;> simp only [o_dup, reduceCtorEq, Option.some.injEq] at hq
  subst hq
  subst hn
  exact ⟨mt_mo0, fun p l e R s m args below meth c Q D ca b0 w0 v M' C hz hg => ⟨hg.1, fun hw H locs ls cells slots h1 h2 h3 h4 h5 => lv_dup C.1 C.2.1 d (tv_cat x) (hg.2 hw H locs ls cells slots h1 h2 h3 h4 h5)⟩⟩
theorem sn_dup2 (d : decode cc pc = .ok (.dup2, 1)) (hn : pc + 1 = n) : mt_Sp Z cc nL own nm ret fr lo pc n (o_dup2) := by
  rintro ⟨lv, st, M⟩ q' hq
  rcases st with _ | ⟨x, _ | ⟨y, st⟩⟩ <;> simp only [o_dup2, reduceCtorEq, Option.some.injEq] at hq
  subst hq
  subst hn
  exact ⟨mt_mo0, fun p l e R s m args below meth c Q D ca b0 w0 v M' C hz hg => ⟨hg.1, fun hw H locs ls cells slots h1 h2 h3 h4 h5 => lv_dup2_11 C.1 C.2.1 d (tv_cat x) (tv_cat y) (hg.2 hw H locs ls cells slots h1 h2 h3 h4 h5)⟩⟩
theorem sn_pop (d : decode cc pc = .ok (.pop, 1)) (hn : pc + 1 = n) : mt_Sp Z cc nL own nm ret fr lo pc n (o_pop) := by
  rintro ⟨lv, st, M⟩ q' hq
  rcases st with _ | ⟨x, st⟩ <;> simp only [o_pop, reduceCtorEq, Option.some.injEq] at hq
  subst hq
  subst hn
  exact ⟨mt_mo0, fun p l e R s m args below meth c Q D ca b0 w0 v M' C hz hg => ⟨hg.1, fun hw H locs ls cells slots h1 h2 h3 h4 h5 => lv_pop C.1 C.2.1 d (tv_cat x) (hg.2 hw H locs ls cells slots h1 h2 h3 h4 h5)⟩⟩
theorem sn_iload_n {k : Fin 4} {i : Nat} (hi : (k : Nat) = i) (d : decode cc pc = .ok (.iload_n k, 1)) (hn : pc + 1 = n) : mt_Sp Z cc nL own nm ret fr lo pc n (o_iload i) := by
  rintro ⟨lv, st, M⟩ q' hq
  simp only [o_iload] at hq
  cases hl : lget lv i with
  | none => simp [hl] at hq
  | some x =>
    simp only [hl] at hq
    subst hn
    cases x with
    | inr x => simp at hq
    | inl x =>
      simp only [Option.some.injEq] at hq
      subst hq
      exact ⟨mt_mo0, fun p l e R s m args below meth c Q D ca b0 w0 v M' C hz hg => ⟨hg.1, fun hw H locs ls cells slots h1 h2 h3 h4 h5 => lv_iload_n C.1 C.2.1 d hi (lget_at h5 hl) (hg.2 hw H locs ls cells slots h1 h2 h3 h4 h5)⟩⟩
theorem sn_iload {i : Nat} (d : decode cc pc = .ok (.iload i, 2)) (hn : pc + 2 = n) : mt_Sp Z cc nL own nm ret fr lo pc n (o_iload i) := by
  rintro ⟨lv, st, M⟩ q' hq
  simp only [o_iload] at hq
  cases hl : lget lv i with
  | none => simp [hl] at hq
  | some x =>
    simp only [hl] at hq
    subst hn
    cases x with
    | inr x => simp at hq
    | inl x =>
      simp only [Option.some.injEq] at hq
      subst hq
      exact ⟨mt_mo0, fun p l e R s m args below meth c Q D ca b0 w0 v M' C hz hg => ⟨hg.1, fun hw H locs ls cells slots h1 h2 h3 h4 h5 => lv_iload C.1 C.2.1 d (lget_at h5 hl) (hg.2 hw H locs ls cells slots h1 h2 h3 h4 h5)⟩⟩
theorem sn_aload_n {k : Fin 4} {i : Nat} (hi : (k : Nat) = i) (d : decode cc pc = .ok (.aload_n k, 1)) (hn : pc + 1 = n) : mt_Sp Z cc nL own nm ret fr lo pc n (o_aload i) := by
  rintro ⟨lv, st, M⟩ q' hq
  simp only [o_aload] at hq
  cases hl : lget lv i with
  | none => simp [hl] at hq
  | some x =>
    simp only [hl] at hq
    subst hn
    cases x with
    | inl x => simp at hq
    | inr x =>
      simp only [Option.some.injEq] at hq
      subst hq
      cases x with
      | none => exact ⟨mt_mo0, fun p l e R s m args below meth c Q D ca b0 w0 v M' C hz hg => ⟨hg.1, fun hw H locs ls cells slots h1 h2 h3 h4 h5 => lv_aload_nN C.1 C.2.1 d hi (lget_at h5 hl) (hg.2 hw H locs ls cells slots h1 h2 h3 h4 h5)⟩⟩
      | some x => exact ⟨mt_mo0, fun p l e R s m args below meth c Q D ca b0 w0 v M' C hz hg => ⟨hg.1, fun hw H locs ls cells slots h1 h2 h3 h4 h5 => lv_aload_n C.1 C.2.1 d hi (lget_at h5 hl) (hg.2 hw H locs ls cells slots h1 h2 h3 h4 h5)⟩⟩
theorem sn_aload {i : Nat} (d : decode cc pc = .ok (.aload i, 2)) (hn : pc + 2 = n) : mt_Sp Z cc nL own nm ret fr lo pc n (o_aload i) := by
  rintro ⟨lv, st, M⟩ q' hq
  simp only [o_aload] at hq
  cases hl : lget lv i with
  | none => simp [hl] at hq
  | some x =>
    simp only [hl] at hq
    subst hn
    cases x with
    | inl x => simp at hq
    | inr x =>
      simp only [Option.some.injEq] at hq
      subst hq
      cases x with
      | none => exact ⟨mt_mo0, fun p l e R s m args below meth c Q D ca b0 w0 v M' C hz hg => ⟨hg.1, fun hw H locs ls cells slots h1 h2 h3 h4 h5 => lv_aloadN C.1 C.2.1 d (lget_at h5 hl) (hg.2 hw H locs ls cells slots h1 h2 h3 h4 h5)⟩⟩
      | some x => exact ⟨mt_mo0, fun p l e R s m args below meth c Q D ca b0 w0 v M' C hz hg => ⟨hg.1, fun hw H locs ls cells slots h1 h2 h3 h4 h5 => lv_aload C.1 C.2.1 d (lget_at h5 hl) (hg.2 hw H locs ls cells slots h1 h2 h3 h4 h5)⟩⟩
theorem sn_istore_n {k : Fin 4} {i : Nat} (hi : (k : Nat) = i) (d : decode cc pc = .ok (.istore_n k, 1)) (hi2 : i < nL) (hn : pc + 1 = n) : mt_Sp Z cc nL own nm ret fr lo pc n (o_istore i) := by
  rintro ⟨lv, st, M⟩ q' hq
  rcases st with _ | ⟨x | x, st⟩ <;> simp only [o_istore, reduceCtorEq, Option.some.injEq] at hq
  subst hq
  subst hn
  exact ⟨mt_mo0, fun p l e R s m args below meth c Q D ca b0 w0 v M' C hz hg => ⟨hg.1, fun hw H locs ls cells slots h1 h2 h3 h4 h5 => lv_istore_n C.1 C.2.1 d hi h5 hi2 rfl (fun ls' h6 => hg.2 hw H locs ls' cells slots h1 h2 h3 h4 (lput_at h6))⟩⟩
theorem sn_istore {i : Nat} (d : decode cc pc = .ok (.istore i, 2)) (hi2 : i < nL) (hn : pc + 2 = n) : mt_Sp Z cc nL own nm ret fr lo pc n (o_istore i) := by
  rintro ⟨lv, st, M⟩ q' hq
  rcases st with _ | ⟨x | x, st⟩ <;> simp only [o_istore, reduceCtorEq, Option.some.injEq] at hq
  subst hq
  subst hn
  exact ⟨mt_mo0, fun p l e R s m args below meth c Q D ca b0 w0 v M' C hz hg => ⟨hg.1, fun hw H locs ls cells slots h1 h2 h3 h4 h5 => lv_istore C.1 C.2.1 d h5 hi2 rfl (fun ls' h6 => hg.2 hw H locs ls' cells slots h1 h2 h3 h4 (lput_at h6))⟩⟩
theorem sn_astore_n {k : Fin 4} {i : Nat} (hi : (k : Nat) = i) (d : decode cc pc = .ok (.astore_n k, 1)) (hi2 : i < nL) (hn : pc + 1 = n) : mt_Sp Z cc nL own nm ret fr lo pc n (o_astore i) := by
  rintro ⟨lv, st, M⟩ q' hq
  rcases st with _ | ⟨x | x, st⟩ <;> simp only [o_astore, reduceCtorEq, Option.some.injEq] at hq
  subst hq
  subst hn
  cases x with
  | none => exact ⟨mt_mo0, fun p l e R s m args below meth c Q D ca b0 w0 v M' C hz hg => ⟨hg.1, fun hw H locs ls cells slots h1 h2 h3 h4 h5 => lv_astore_nN C.1 C.2.1 d hi h5 hi2 rfl (fun ls' h6 => hg.2 hw H locs ls' cells slots h1 h2 h3 h4 (lput_at h6))⟩⟩
  | some x => exact ⟨mt_mo0, fun p l e R s m args below meth c Q D ca b0 w0 v M' C hz hg => ⟨hg.1, fun hw H locs ls cells slots h1 h2 h3 h4 h5 => lv_astore_n C.1 C.2.1 d hi h5 hi2 rfl (fun ls' h6 => hg.2 hw H locs ls' cells slots h1 h2 h3 h4 (lput_at h6))⟩⟩
theorem sn_astore {i : Nat} (d : decode cc pc = .ok (.astore i, 2)) (hi2 : i < nL) (hn : pc + 2 = n) : mt_Sp Z cc nL own nm ret fr lo pc n (o_astore i) := by
  rintro ⟨lv, st, M⟩ q' hq
  rcases st with _ | ⟨x | x, st⟩ <;> simp only [o_astore, reduceCtorEq, Option.some.injEq] at hq
  subst hq
  subst hn
  cases x with
  | none => exact ⟨mt_mo0, fun p l e R s m args below meth c Q D ca b0 w0 v M' C hz hg => ⟨hg.1, fun hw H locs ls cells slots h1 h2 h3 h4 h5 => lv_astoreN C.1 C.2.1 d h5 hi2 rfl (fun ls' h6 => hg.2 hw H locs ls' cells slots h1 h2 h3 h4 (lput_at h6))⟩⟩
  | some x => exact ⟨mt_mo0, fun p l e R s m args below meth c Q D ca b0 w0 v M' C hz hg => ⟨hg.1, fun hw H locs ls cells slots h1 h2 h3 h4 h5 => lv_astore C.1 C.2.1 d h5 hi2 rfl (fun ls' h6 => hg.2 hw H locs ls' cells slots h1 h2 h3 h4 (lput_at h6))⟩⟩
theorem sn_iinc {i : Nat} {k : Int} {x : Int32} (d : decode cc pc = .ok (.iinc i k, 3)) (hi2 : i < nL) (hv : Int32.ofInt k = x) (hn : pc + 3 = n) : mt_Sp Z cc nL own nm ret fr lo pc n (o_iinc i x) := by
  rintro ⟨lv, st, M⟩ q' hq
  simp only [o_iinc] at hq
  cases hl : lget lv i with
  | none => simp [hl] at hq
  | some y =>
    simp only [hl] at hq
    subst hn
    cases y with
    | inr y => simp at hq
    | inl y =>
      simp only [Option.some.injEq] at hq
      subst hq
      refine ⟨mt_mo0, fun p l e R s m args below meth c Q D ca b0 w0 v M' C hz hg => ⟨hg.1, fun hw H locs ls cells slots h1 h2 h3 h4 h5 => ?_⟩⟩
      obtain ⟨k2, hk2⟩ := List.getElem?_of_mem (ml_in (i := 0) hl)
      rw [Nat.zero_add] at hk2
      exact lv_iinc C.1 C.2.1 d h5 hk2 (by rw [hv]) hi2 rfl (fun ls' h6 => hg.2 hw H locs ls' cells slots h1 h2 h3 h4 (lput_at h6))
theorem sn_ifeq {off : Int} {t : Nat} (d : decode cc pc = .ok (.ifCond .eq off, 3)) (ht : (pc : Int) + off = (t : Int)) (hn : pc + 3 = n) : mt_Sl Z cc nL own nm ret fr lo pc (o_ifeq t n) := by
  rintro ⟨lv, st, M⟩ z hq
  rcases st with _ | ⟨x | x, st⟩ <;> simp only [o_ifeq, reduceCtorEq] at hq
  subst hn
  by_cases hc : x = 0
  · rw [if_pos hc] at hq
    have hq := Option.some.inj hq
    subst hq
    refine ⟨fun x hx => by cases hx; exact mt_mo0, fun r hx => (by cases hx), fun p l e R s m args below meth c Q D ca b0 w0 v M' C hz hg hr => ?_⟩
    have hg := hg _ rfl
    exact ⟨hg.1, fun hw H locs ls cells slots h1 h2 h3 h4 h5 => lv_if_eq C.1 C.2.1 d ht (fun _ => (hg.2 hw H locs ls cells slots h1 h2 h3 h4 h5)) (fun h => absurd hc h)⟩
  · rw [if_neg hc] at hq
    have hq := Option.some.inj hq
    subst hq
    refine ⟨fun x hx => by cases hx; exact mt_mo0, fun r hx => (by cases hx), fun p l e R s m args below meth c Q D ca b0 w0 v M' C hz hg hr => ?_⟩
    have hg := hg _ rfl
    exact ⟨hg.1, fun hw H locs ls cells slots h1 h2 h3 h4 h5 => lv_if_eq C.1 C.2.1 d ht (fun h => absurd h hc) (fun _ => (hg.2 hw H locs ls cells slots h1 h2 h3 h4 h5))⟩
theorem sn_iceq {off : Int} {t : Nat} (d : decode cc pc = .ok (.if_icmp .eq off, 3)) (ht : (pc : Int) + off = (t : Int)) (hn : pc + 3 = n) : mt_Sl Z cc nL own nm ret fr lo pc (o_iceq t n) := by
  rintro ⟨lv, st, M⟩ z hq
  rcases st with _ | ⟨y | y, _ | ⟨x | x, st⟩⟩ <;> simp only [o_iceq, reduceCtorEq] at hq
  subst hn
  by_cases hc : x = y
  · rw [if_pos hc] at hq
    have hq := Option.some.inj hq
    subst hq
    refine ⟨fun x hx => by cases hx; exact mt_mo0, fun r hx => (by cases hx), fun p l e R s m args below meth c Q D ca b0 w0 v M' C hz hg hr => ?_⟩
    have hg := hg _ rfl
    exact ⟨hg.1, fun hw H locs ls cells slots h1 h2 h3 h4 h5 => lv_icmp_eq C.1 C.2.1 d ht (fun _ => (hg.2 hw H locs ls cells slots h1 h2 h3 h4 h5)) (fun h => absurd hc h)⟩
  · rw [if_neg hc] at hq
    have hq := Option.some.inj hq
    subst hq
    refine ⟨fun x hx => by cases hx; exact mt_mo0, fun r hx => (by cases hx), fun p l e R s m args below meth c Q D ca b0 w0 v M' C hz hg hr => ?_⟩
    have hg := hg _ rfl
    exact ⟨hg.1, fun hw H locs ls cells slots h1 h2 h3 h4 h5 => lv_icmp_eq C.1 C.2.1 d ht (fun h => absurd h hc) (fun _ => (hg.2 hw H locs ls cells slots h1 h2 h3 h4 h5))⟩
theorem sn_ifne {off : Int} {t : Nat} (d : decode cc pc = .ok (.ifCond .ne off, 3)) (ht : (pc : Int) + off = (t : Int)) (hn : pc + 3 = n) : mt_Sl Z cc nL own nm ret fr lo pc (o_ifne t n) := by
  rintro ⟨lv, st, M⟩ z hq
  rcases st with _ | ⟨x | x, st⟩ <;> simp only [o_ifne, reduceCtorEq] at hq
  subst hn
  by_cases hc : x = 0
  · rw [if_pos hc] at hq
    have hq := Option.some.inj hq
    subst hq
    refine ⟨fun x hx => by cases hx; exact mt_mo0, fun r hx => (by cases hx), fun p l e R s m args below meth c Q D ca b0 w0 v M' C hz hg hr => ?_⟩
    have hg := hg _ rfl
    exact ⟨hg.1, fun hw H locs ls cells slots h1 h2 h3 h4 h5 => lv_if_ne C.1 C.2.1 d ht (fun h => absurd hc h) (fun _ => (hg.2 hw H locs ls cells slots h1 h2 h3 h4 h5))⟩
  · rw [if_neg hc] at hq
    have hq := Option.some.inj hq
    subst hq
    refine ⟨fun x hx => by cases hx; exact mt_mo0, fun r hx => (by cases hx), fun p l e R s m args below meth c Q D ca b0 w0 v M' C hz hg hr => ?_⟩
    have hg := hg _ rfl
    exact ⟨hg.1, fun hw H locs ls cells slots h1 h2 h3 h4 h5 => lv_if_ne C.1 C.2.1 d ht (fun _ => (hg.2 hw H locs ls cells slots h1 h2 h3 h4 h5)) (fun h => absurd h hc)⟩
theorem sn_icne {off : Int} {t : Nat} (d : decode cc pc = .ok (.if_icmp .ne off, 3)) (ht : (pc : Int) + off = (t : Int)) (hn : pc + 3 = n) : mt_Sl Z cc nL own nm ret fr lo pc (o_icne t n) := by
  rintro ⟨lv, st, M⟩ z hq
  rcases st with _ | ⟨y | y, _ | ⟨x | x, st⟩⟩ <;> simp only [o_icne, reduceCtorEq] at hq
  subst hn
  by_cases hc : x = y
  · rw [if_pos hc] at hq
    have hq := Option.some.inj hq
    subst hq
    refine ⟨fun x hx => by cases hx; exact mt_mo0, fun r hx => (by cases hx), fun p l e R s m args below meth c Q D ca b0 w0 v M' C hz hg hr => ?_⟩
    have hg := hg _ rfl
    exact ⟨hg.1, fun hw H locs ls cells slots h1 h2 h3 h4 h5 => lv_icmp_ne C.1 C.2.1 d ht (fun h => absurd hc h) (fun _ => (hg.2 hw H locs ls cells slots h1 h2 h3 h4 h5))⟩
  · rw [if_neg hc] at hq
    have hq := Option.some.inj hq
    subst hq
    refine ⟨fun x hx => by cases hx; exact mt_mo0, fun r hx => (by cases hx), fun p l e R s m args below meth c Q D ca b0 w0 v M' C hz hg hr => ?_⟩
    have hg := hg _ rfl
    exact ⟨hg.1, fun hw H locs ls cells slots h1 h2 h3 h4 h5 => lv_icmp_ne C.1 C.2.1 d ht (fun _ => (hg.2 hw H locs ls cells slots h1 h2 h3 h4 h5)) (fun h => absurd h hc)⟩
theorem sn_iflt {off : Int} {t : Nat} (d : decode cc pc = .ok (.ifCond .lt off, 3)) (ht : (pc : Int) + off = (t : Int)) (hn : pc + 3 = n) : mt_Sl Z cc nL own nm ret fr lo pc (o_iflt t n) := by
  rintro ⟨lv, st, M⟩ z hq
  rcases st with _ | ⟨x | x, st⟩ <;> simp only [o_iflt, reduceCtorEq] at hq
  subst hn
  by_cases hc : x < 0
  · rw [if_pos hc] at hq
    have hq := Option.some.inj hq
    subst hq
    refine ⟨fun x hx => by cases hx; exact mt_mo0, fun r hx => (by cases hx), fun p l e R s m args below meth c Q D ca b0 w0 v M' C hz hg hr => ?_⟩
    have hg := hg _ rfl
    exact ⟨hg.1, fun hw H locs ls cells slots h1 h2 h3 h4 h5 => lv_if_lt C.1 C.2.1 d ht (fun _ => (hg.2 hw H locs ls cells slots h1 h2 h3 h4 h5)) (fun h => absurd hc h)⟩
  · rw [if_neg hc] at hq
    have hq := Option.some.inj hq
    subst hq
    refine ⟨fun x hx => by cases hx; exact mt_mo0, fun r hx => (by cases hx), fun p l e R s m args below meth c Q D ca b0 w0 v M' C hz hg hr => ?_⟩
    have hg := hg _ rfl
    exact ⟨hg.1, fun hw H locs ls cells slots h1 h2 h3 h4 h5 => lv_if_lt C.1 C.2.1 d ht (fun h => absurd h hc) (fun _ => (hg.2 hw H locs ls cells slots h1 h2 h3 h4 h5))⟩
theorem sn_iclt {off : Int} {t : Nat} (d : decode cc pc = .ok (.if_icmp .lt off, 3)) (ht : (pc : Int) + off = (t : Int)) (hn : pc + 3 = n) : mt_Sl Z cc nL own nm ret fr lo pc (o_iclt t n) := by
  rintro ⟨lv, st, M⟩ z hq
  rcases st with _ | ⟨y | y, _ | ⟨x | x, st⟩⟩ <;> simp only [o_iclt, reduceCtorEq] at hq
  subst hn
  by_cases hc : x < y
  · rw [if_pos hc] at hq
    have hq := Option.some.inj hq
    subst hq
    refine ⟨fun x hx => by cases hx; exact mt_mo0, fun r hx => (by cases hx), fun p l e R s m args below meth c Q D ca b0 w0 v M' C hz hg hr => ?_⟩
    have hg := hg _ rfl
    exact ⟨hg.1, fun hw H locs ls cells slots h1 h2 h3 h4 h5 => lv_icmp_lt C.1 C.2.1 d ht (fun _ => (hg.2 hw H locs ls cells slots h1 h2 h3 h4 h5)) (fun h => absurd hc h)⟩
  · rw [if_neg hc] at hq
    have hq := Option.some.inj hq
    subst hq
    refine ⟨fun x hx => by cases hx; exact mt_mo0, fun r hx => (by cases hx), fun p l e R s m args below meth c Q D ca b0 w0 v M' C hz hg hr => ?_⟩
    have hg := hg _ rfl
    exact ⟨hg.1, fun hw H locs ls cells slots h1 h2 h3 h4 h5 => lv_icmp_lt C.1 C.2.1 d ht (fun h => absurd h hc) (fun _ => (hg.2 hw H locs ls cells slots h1 h2 h3 h4 h5))⟩
theorem sn_ifge {off : Int} {t : Nat} (d : decode cc pc = .ok (.ifCond .ge off, 3)) (ht : (pc : Int) + off = (t : Int)) (hn : pc + 3 = n) : mt_Sl Z cc nL own nm ret fr lo pc (o_ifge t n) := by
  rintro ⟨lv, st, M⟩ z hq
  rcases st with _ | ⟨x | x, st⟩ <;> simp only [o_ifge, reduceCtorEq] at hq
  subst hn
  by_cases hc : 0 ≤ x
  · rw [if_pos hc] at hq
    have hq := Option.some.inj hq
    subst hq
    refine ⟨fun x hx => by cases hx; exact mt_mo0, fun r hx => (by cases hx), fun p l e R s m args below meth c Q D ca b0 w0 v M' C hz hg hr => ?_⟩
    have hg := hg _ rfl
    exact ⟨hg.1, fun hw H locs ls cells slots h1 h2 h3 h4 h5 => lv_if_ge C.1 C.2.1 d ht (fun _ => (hg.2 hw H locs ls cells slots h1 h2 h3 h4 h5)) (fun h => absurd hc h)⟩
  · rw [if_neg hc] at hq
    have hq := Option.some.inj hq
    subst hq
    refine ⟨fun x hx => by cases hx; exact mt_mo0, fun r hx => (by cases hx), fun p l e R s m args below meth c Q D ca b0 w0 v M' C hz hg hr => ?_⟩
    have hg := hg _ rfl
    exact ⟨hg.1, fun hw H locs ls cells slots h1 h2 h3 h4 h5 => lv_if_ge C.1 C.2.1 d ht (fun h => absurd h hc) (fun _ => (hg.2 hw H locs ls cells slots h1 h2 h3 h4 h5))⟩
theorem sn_icge {off : Int} {t : Nat} (d : decode cc pc = .ok (.if_icmp .ge off, 3)) (ht : (pc : Int) + off = (t : Int)) (hn : pc + 3 = n) : mt_Sl Z cc nL own nm ret fr lo pc (o_icge t n) := by
  rintro ⟨lv, st, M⟩ z hq
  rcases st with _ | ⟨y | y, _ | ⟨x | x, st⟩⟩ <;> simp only [o_icge, reduceCtorEq] at hq
  subst hn
  by_cases hc : y ≤ x
  · rw [if_pos hc] at hq
    have hq := Option.some.inj hq
    subst hq
    refine ⟨fun x hx => by cases hx; exact mt_mo0, fun r hx => (by cases hx), fun p l e R s m args below meth c Q D ca b0 w0 v M' C hz hg hr => ?_⟩
    have hg := hg _ rfl
    exact ⟨hg.1, fun hw H locs ls cells slots h1 h2 h3 h4 h5 => lv_icmp_ge C.1 C.2.1 d ht (fun _ => (hg.2 hw H locs ls cells slots h1 h2 h3 h4 h5)) (fun h => absurd hc h)⟩
  · rw [if_neg hc] at hq
    have hq := Option.some.inj hq
    subst hq
    refine ⟨fun x hx => by cases hx; exact mt_mo0, fun r hx => (by cases hx), fun p l e R s m args below meth c Q D ca b0 w0 v M' C hz hg hr => ?_⟩
    have hg := hg _ rfl
    exact ⟨hg.1, fun hw H locs ls cells slots h1 h2 h3 h4 h5 => lv_icmp_ge C.1 C.2.1 d ht (fun h => absurd h hc) (fun _ => (hg.2 hw H locs ls cells slots h1 h2 h3 h4 h5))⟩
theorem sn_ifgt {off : Int} {t : Nat} (d : decode cc pc = .ok (.ifCond .gt off, 3)) (ht : (pc : Int) + off = (t : Int)) (hn : pc + 3 = n) : mt_Sl Z cc nL own nm ret fr lo pc (o_ifgt t n) := by
  rintro ⟨lv, st, M⟩ z hq
  rcases st with _ | ⟨x | x, st⟩ <;> simp only [o_ifgt, reduceCtorEq] at hq
  subst hn
  by_cases hc : 0 < x
  · rw [if_pos hc] at hq
    have hq := Option.some.inj hq
    subst hq
    refine ⟨fun x hx => by cases hx; exact mt_mo0, fun r hx => (by cases hx), fun p l e R s m args below meth c Q D ca b0 w0 v M' C hz hg hr => ?_⟩
    have hg := hg _ rfl
    exact ⟨hg.1, fun hw H locs ls cells slots h1 h2 h3 h4 h5 => lv_if_gt C.1 C.2.1 d ht (fun _ => (hg.2 hw H locs ls cells slots h1 h2 h3 h4 h5)) (fun h => absurd hc h)⟩
  · rw [if_neg hc] at hq
    have hq := Option.some.inj hq
    subst hq
    refine ⟨fun x hx => by cases hx; exact mt_mo0, fun r hx => (by cases hx), fun p l e R s m args below meth c Q D ca b0 w0 v M' C hz hg hr => ?_⟩
    have hg := hg _ rfl
    exact ⟨hg.1, fun hw H locs ls cells slots h1 h2 h3 h4 h5 => lv_if_gt C.1 C.2.1 d ht (fun h => absurd h hc) (fun _ => (hg.2 hw H locs ls cells slots h1 h2 h3 h4 h5))⟩
theorem sn_icgt {off : Int} {t : Nat} (d : decode cc pc = .ok (.if_icmp .gt off, 3)) (ht : (pc : Int) + off = (t : Int)) (hn : pc + 3 = n) : mt_Sl Z cc nL own nm ret fr lo pc (o_icgt t n) := by
  rintro ⟨lv, st, M⟩ z hq
  rcases st with _ | ⟨y | y, _ | ⟨x | x, st⟩⟩ <;> simp only [o_icgt, reduceCtorEq] at hq
  subst hn
  by_cases hc : y < x
  · rw [if_pos hc] at hq
    have hq := Option.some.inj hq
    subst hq
    refine ⟨fun x hx => by cases hx; exact mt_mo0, fun r hx => (by cases hx), fun p l e R s m args below meth c Q D ca b0 w0 v M' C hz hg hr => ?_⟩
    have hg := hg _ rfl
    exact ⟨hg.1, fun hw H locs ls cells slots h1 h2 h3 h4 h5 => lv_icmp_gt C.1 C.2.1 d ht (fun _ => (hg.2 hw H locs ls cells slots h1 h2 h3 h4 h5)) (fun h => absurd hc h)⟩
  · rw [if_neg hc] at hq
    have hq := Option.some.inj hq
    subst hq
    refine ⟨fun x hx => by cases hx; exact mt_mo0, fun r hx => (by cases hx), fun p l e R s m args below meth c Q D ca b0 w0 v M' C hz hg hr => ?_⟩
    have hg := hg _ rfl
    exact ⟨hg.1, fun hw H locs ls cells slots h1 h2 h3 h4 h5 => lv_icmp_gt C.1 C.2.1 d ht (fun h => absurd h hc) (fun _ => (hg.2 hw H locs ls cells slots h1 h2 h3 h4 h5))⟩
theorem sn_ifle {off : Int} {t : Nat} (d : decode cc pc = .ok (.ifCond .le off, 3)) (ht : (pc : Int) + off = (t : Int)) (hn : pc + 3 = n) : mt_Sl Z cc nL own nm ret fr lo pc (o_ifle t n) := by
  rintro ⟨lv, st, M⟩ z hq
  rcases st with _ | ⟨x | x, st⟩ <;> simp only [o_ifle, reduceCtorEq] at hq
  subst hn
  by_cases hc : x ≤ 0
  · rw [if_pos hc] at hq
    have hq := Option.some.inj hq
    subst hq
    refine ⟨fun x hx => by cases hx; exact mt_mo0, fun r hx => (by cases hx), fun p l e R s m args below meth c Q D ca b0 w0 v M' C hz hg hr => ?_⟩
    have hg := hg _ rfl
    exact ⟨hg.1, fun hw H locs ls cells slots h1 h2 h3 h4 h5 => lv_if_le C.1 C.2.1 d ht (fun _ => (hg.2 hw H locs ls cells slots h1 h2 h3 h4 h5)) (fun h => absurd hc h)⟩
  · rw [if_neg hc] at hq
    have hq := Option.some.inj hq
    subst hq
    refine ⟨fun x hx => by cases hx; exact mt_mo0, fun r hx => (by cases hx), fun p l e R s m args below meth c Q D ca b0 w0 v M' C hz hg hr => ?_⟩
    have hg := hg _ rfl
    exact ⟨hg.1, fun hw H locs ls cells slots h1 h2 h3 h4 h5 => lv_if_le C.1 C.2.1 d ht (fun h => absurd h hc) (fun _ => (hg.2 hw H locs ls cells slots h1 h2 h3 h4 h5))⟩
theorem sn_icle {off : Int} {t : Nat} (d : decode cc pc = .ok (.if_icmp .le off, 3)) (ht : (pc : Int) + off = (t : Int)) (hn : pc + 3 = n) : mt_Sl Z cc nL own nm ret fr lo pc (o_icle t n) := by
  rintro ⟨lv, st, M⟩ z hq
  rcases st with _ | ⟨y | y, _ | ⟨x | x, st⟩⟩ <;> simp only [o_icle, reduceCtorEq] at hq
  subst hn
  by_cases hc : x ≤ y
  · rw [if_pos hc] at hq
    have hq := Option.some.inj hq
    subst hq
    refine ⟨fun x hx => by cases hx; exact mt_mo0, fun r hx => (by cases hx), fun p l e R s m args below meth c Q D ca b0 w0 v M' C hz hg hr => ?_⟩
    have hg := hg _ rfl
    exact ⟨hg.1, fun hw H locs ls cells slots h1 h2 h3 h4 h5 => lv_icmp_le C.1 C.2.1 d ht (fun _ => (hg.2 hw H locs ls cells slots h1 h2 h3 h4 h5)) (fun h => absurd hc h)⟩
  · rw [if_neg hc] at hq
    have hq := Option.some.inj hq
    subst hq
    refine ⟨fun x hx => by cases hx; exact mt_mo0, fun r hx => (by cases hx), fun p l e R s m args below meth c Q D ca b0 w0 v M' C hz hg hr => ?_⟩
    have hg := hg _ rfl
    exact ⟨hg.1, fun hw H locs ls cells slots h1 h2 h3 h4 h5 => lv_icmp_le C.1 C.2.1 d ht (fun h => absurd h hc) (fun _ => (hg.2 hw H locs ls cells slots h1 h2 h3 h4 h5))⟩
theorem sn_acne {off : Int} {t : Nat} (d : decode cc pc = .ok (.if_acmp .ne off, 3)) (ht : (pc : Int) + off = (t : Int)) (hn : pc + 3 = n) : mt_Sl Z cc nL own nm ret fr lo pc (o_acne t n) := by
  rintro ⟨lv, st, M⟩ z hq
  rcases st with _ | ⟨y | y, _ | ⟨x | x, st⟩⟩ <;> simp only [o_acne, reduceCtorEq] at hq
  subst hn
  by_cases hc : x = y
  · rw [if_pos hc] at hq
    have hq := Option.some.inj hq
    subst hq
    refine ⟨fun x hx => by cases hx; exact mt_mo0, fun r hx => (by cases hx), fun p l e R s m args below meth c Q D ca b0 w0 v M' C hz hg hr => ?_⟩
    have hg := hg _ rfl
    exact ⟨hg.1, fun hw H locs ls cells slots h1 h2 h3 h4 h5 => lv_acmp_ne C.1 C.2.1 d ht (fun h => absurd hc h) (fun _ => (hg.2 hw H locs ls cells slots h1 h2 h3 h4 h5))⟩
  · rw [if_neg hc] at hq
    have hq := Option.some.inj hq
    subst hq
    refine ⟨fun x hx => by cases hx; exact mt_mo0, fun r hx => (by cases hx), fun p l e R s m args below meth c Q D ca b0 w0 v M' C hz hg hr => ?_⟩
    have hg := hg _ rfl
    exact ⟨hg.1, fun hw H locs ls cells slots h1 h2 h3 h4 h5 => lv_acmp_ne C.1 C.2.1 d ht (fun _ => (hg.2 hw H locs ls cells slots h1 h2 h3 h4 h5)) (fun h => absurd h hc)⟩
theorem sn_ifnull {off : Int} {t : Nat} (d : decode cc pc = .ok (.ifnull off, 3)) (ht : (pc : Int) + off = (t : Int)) (hn : pc + 3 = n) : mt_Sl Z cc nL own nm ret fr lo pc (o_ifnull t n) := by
  rintro ⟨lv, st, M⟩ z hq
  rcases st with _ | ⟨x | _ | x, st⟩ <;> simp only [o_ifnull, reduceCtorEq, Option.some.injEq] at hq
  · subst hq
    refine ⟨fun x hx => by cases hx; exact mt_mo0, fun r hx => (by cases hx), fun p l e R s m args below meth c Q D ca b0 w0 v M' C hz hg hr => ?_⟩
    have hg := hg _ rfl
    exact ⟨hg.1, fun hw H locs ls cells slots h1 h2 h3 h4 h5 => lv_ifnullN C.1 C.2.1 d ht (hg.2 hw H locs ls cells slots h1 h2 h3 h4 h5)⟩
  · subst hq
    refine ⟨fun x hx => by cases hx; exact mt_mo0, fun r hx => (by cases hx), fun p l e R s m args below meth c Q D ca b0 w0 v M' C hz hg hr => ?_⟩
    have hg := hg _ rfl
    subst hn
    exact ⟨hg.1, fun hw H locs ls cells slots h1 h2 h3 h4 h5 => lv_ifnull C.1 C.2.1 d (hg.2 hw H locs ls cells slots h1 h2 h3 h4 h5)⟩
theorem sn_ifnonnull {off : Int} {t : Nat} (d : decode cc pc = .ok (.ifnonnull off, 3)) (ht : (pc : Int) + off = (t : Int)) (hn : pc + 3 = n) : mt_Sl Z cc nL own nm ret fr lo pc (o_ifnonnull t n) := by
  rintro ⟨lv, st, M⟩ z hq
  rcases st with _ | ⟨x | _ | x, st⟩ <;> simp only [o_ifnonnull, reduceCtorEq, Option.some.injEq] at hq
  · subst hq
    refine ⟨fun x hx => by cases hx; exact mt_mo0, fun r hx => (by cases hx), fun p l e R s m args below meth c Q D ca b0 w0 v M' C hz hg hr => ?_⟩
    have hg := hg _ rfl
    subst hn
    exact ⟨hg.1, fun hw H locs ls cells slots h1 h2 h3 h4 h5 => lv_ifnonnullN C.1 C.2.1 d (hg.2 hw H locs ls cells slots h1 h2 h3 h4 h5)⟩
  · subst hq
    refine ⟨fun x hx => by cases hx; exact mt_mo0, fun r hx => (by cases hx), fun p l e R s m args below meth c Q D ca b0 w0 v M' C hz hg hr => ?_⟩
    have hg := hg _ rfl
    exact ⟨hg.1, fun hw H locs ls cells slots h1 h2 h3 h4 h5 => lv_ifnonnull C.1 C.2.1 d ht (hg.2 hw H locs ls cells slots h1 h2 h3 h4 h5)⟩
theorem sn_goto {off : Int} (d : decode cc pc = .ok (.goto off, 3)) (ht : (pc : Int) + off = (n : Int)) : mt_Sl Z cc nL own nm ret fr lo pc (o_fall n) := by
  rintro ⟨lv, st, M⟩ z hq
  simp only [o_fall, Option.some.injEq] at hq
  subst hq
  refine ⟨fun x hx => by cases hx; exact mt_mo0, fun r hx => (by cases hx), fun p l e R s m args below meth c Q D ca b0 w0 v M' C hz hg hr => ?_⟩
  have hg := hg _ rfl
  exact ⟨hg.1, fun hw H locs ls cells slots h1 h2 h3 h4 h5 => lv_goto C.1 C.2.1 d ht (hg.2 hw H locs ls cells slots h1 h2 h3 h4 h5)⟩
theorem sn_fall : mt_Sl Z cc nL own nm ret fr lo pc (o_fall pc) := by
  rintro ⟨lv, st, M⟩ z hq
  simp only [o_fall, Option.some.injEq] at hq
  subst hq
  refine ⟨fun x hx => by cases hx; exact mt_mo0, fun r hx => (by cases hx), fun p l e R s m args below meth c Q D ca b0 w0 v M' C hz hg hr => ?_⟩
  exact hg _ rfl
theorem sn_tsw {dflt lw hi : Int} {offs : Array Int} {len : Nat} {t : Nat} {ts : List Nat} (d : decode cc pc = .ok (.tableswitch dflt lw hi offs, len)) (ht : (pc : Int) + dflt = (t : Int)) (ho : ts.map (fun x : Nat => (x : Int)) = offs.toList.map (fun x => (pc : Int) + x)) : mt_Sl Z cc nL own nm ret fr lo pc (o_tsw lw hi t ts) := by
  rintro ⟨lv, st, M⟩ z hq
  rcases st with _ | ⟨x | x, st⟩ <;> simp only [o_tsw, reduceCtorEq] at hq
  by_cases hc : x.toInt < lw ∨ hi < x.toInt
  · rw [if_pos hc] at hq
    have hq := Option.some.inj hq
    subst hq
    refine ⟨fun x hx => by cases hx; exact mt_mo0, fun r hx => (by cases hx), fun p l e R s m args below meth c Q D ca b0 w0 v M' C hz hg hr => ?_⟩
    have hg := hg _ rfl
    exact ⟨hg.1, fun hw H locs ls cells slots h1 h2 h3 h4 h5 => lv_tableOut C.1 C.2.1 d hc ht (hg.2 hw H locs ls cells slots h1 h2 h3 h4 h5)⟩
  · rw [if_neg hc] at hq
    cases ht2 : ts[(x.toInt - lw).toNat]? with
    | none => simp [ht2] at hq
    | some t2 =>
      simp only [ht2, Option.some.injEq] at hq
      subst hq
      refine ⟨fun x hx => by cases hx; exact mt_mo0, fun r hx => (by cases hx), fun p l e R s m args below meth c Q D ca b0 w0 v M' C hz hg hr => ?_⟩
      have hg := hg _ rfl
      have h7 : (ts.map (fun x : Nat => (x : Int)))[(x.toInt - lw).toNat]? = some (t2 : Int) := by rw [List.getElem?_map, ht2]; rfl
      rw [ho, List.getElem?_map] at h7
      cases hof : offs.toList[(x.toInt - lw).toNat]? with
      | none => rw [hof] at h7; cases h7
      | some off =>
        rw [hof] at h7
        have h8 : (pc : Int) + off = (t2 : Int) := Option.some.inj h7
        rw [Array.getElem?_toList] at hof
        exact ⟨hg.1, fun hw H locs ls cells slots h1 h2 h3 h4 h5 => lv_tableIn C.1 C.2.1 d (fun h => hc (Or.inl h)) (fun h => hc (Or.inr h)) hof h8 (hg.2 hw H locs ls cells slots h1 h2 h3 h4 h5)⟩
-- returns
theorem sn_ret (d : decode cc pc = .ok (.return_, 1)) (hr0 : ret = none) : mt_Sl Z cc nL own nm ret fr lo pc o_ret := by
  rintro ⟨lv, st, M⟩ z hq
  rcases st with _ | ⟨x, st⟩ <;> simp only [o_ret, reduceCtorEq, Option.some.injEq] at hq
  subst hq
  refine ⟨fun x hx => (by cases hx), fun r hx => by cases hx; exact mt_mo0, fun p l e R s m args below meth c Q D ca b0 w0 v M' C hz hg hr => ?_⟩
  have hr := hr _ rfl
  cases hr
  exact ⟨⟨Nat.le_refl _, Nat.le_refl _⟩, fun hw H locs ls cells slots h1 h2 h3 h4 _ => C.2.2.2.2.2.2.2.2.2 H locs ls cells slots pc (Or.inl ⟨d, hr0, rfl⟩) hw h1 h2 h3 h4⟩
theorem sn_iret (d : decode cc pc = .ok (.ireturn, 1)) (hr0 : ret = some .int) : mt_Sl Z cc nL own nm ret fr lo pc o_iret := by
  rintro ⟨lv, st, M⟩ z hq
  rcases st with _ | ⟨x | x, _ | ⟨y, st⟩⟩ <;> simp only [o_iret, reduceCtorEq, Option.some.injEq] at hq
  subst hq
  refine ⟨fun x hx => (by cases hx), fun r hx => by cases hx; exact mt_mo0, fun p l e R s m args below meth c Q D ca b0 w0 v M' C hz hg hr => ?_⟩
  have hr := hr _ rfl
  cases hr
  exact ⟨⟨Nat.le_refl _, Nat.le_refl _⟩, fun hw H locs ls cells slots h1 h2 h3 h4 _ => C.2.2.2.2.2.2.2.2.2 H locs ls cells slots pc (Or.inr (Or.inl ⟨d, .int, x, hr0, rfl, rfl⟩)) hw h1 h2 h3 h4⟩
theorem mt_z_ok {x : Int32} (h : mt_z x = true) : narrow .boolean (.int x) = .int x ∧ fits .boolean (.int x) = true ∧ vp_nar .boolean x = x := by
  have h2 : x = 0 ∨ x = 1 := by
    unfold mt_z at h
    simpa using h
  rcases h2 with h2 | h2 <;> subst h2 <;> decide
theorem sn_zret (d : decode cc pc = .ok (.ireturn, 1)) (hr0 : ret = some .boolean) : mt_Sl Z cc nL own nm ret fr lo pc o_zret := by
  rintro ⟨lv, st, M⟩ z hq
  rcases st with _ | ⟨x | x, _ | ⟨y, st⟩⟩ <;> simp only [o_zret, reduceCtorEq] at hq
  by_cases hc : mt_z x = true
  · rw [if_pos hc] at hq
    have hq := Option.some.inj hq
    subst hq
    refine ⟨fun x hx => (by cases hx), fun r hx => by cases hx; exact mt_mo0, fun p l e R s m args below meth c Q D ca b0 w0 v M' C hz hg hr => ?_⟩
    have hr := hr _ rfl
    cases hr
    exact ⟨⟨Nat.le_refl _, Nat.le_refl _⟩, fun hw H locs ls cells slots h1 h2 h3 h4 _ => C.2.2.2.2.2.2.2.2.2 H locs ls cells slots pc (Or.inr (Or.inl ⟨d, .boolean, x, hr0, rfl, (mt_z_ok hc).1⟩)) hw h1 h2 h3 h4⟩
  · rw [if_neg hc] at hq; cases hq
theorem sn_aret {cn : String} (d : decode cc pc = .ok (.areturn, 1)) (hr0 : ret = some (.object cn)) : mt_Sl Z cc nL own nm ret fr lo pc o_aret := by
  rintro ⟨lv, st, M⟩ z hq
  rcases st with _ | ⟨x | x, _ | ⟨y, st⟩⟩ <;> simp only [o_aret, reduceCtorEq, Option.some.injEq] at hq
  subst hq
  refine ⟨fun x hx => (by cases hx), fun r hx => by cases hx; exact mt_mo0, fun p l e R s m args below meth c Q D ca b0 w0 v M' C hz hg hr => ?_⟩
  have hr := hr _ rfl
  cases hr
  exact ⟨⟨Nat.le_refl _, Nat.le_refl _⟩, fun hw H locs ls cells slots h1 h2 h3 h4 _ => C.2.2.2.2.2.2.2.2.2 H locs ls cells slots pc (Or.inr (Or.inr ⟨d, cn, x, hr0, rfl⟩)) hw h1 h2 h3 h4⟩
end SN
end
section
/-! Soundness, second part: fields, arrays, new cells, calls, and a method's contract out of its code. -/
theorem gf_ok {M : m_M} {ci a k : Nat} {x : m_V} (h : gf M ci a k = some x) : ∃ fs : List m_V, M.2.2 a = some (.inl (ci, fs)) ∧ fnth fs k = some x := by
  unfold gf at h
  split at h
  · next c fs hm =>
    split at h
    · next hc =>
      subst hc
      exact ⟨fs, hm, h⟩
    · cases h
  · cases h
theorem pf_ok {M M1 : m_M} {ci a k : Nat} {x : m_V} (h : pf M ci a k x = some M1) : ∃ fs : List m_V, M.2.2 a = some (.inl (ci, fs)) ∧ k < fs.length ∧ M1 = mup M a (.inl (ci, fset fs k x)) := by
  unfold pf at h
  split at h
  · next c fs hm =>
    split at h
    · next hc =>
      obtain ⟨hc, hk⟩ := hc
      subst hc
      exact ⟨fs, hm, hk, (Option.some.inj h).symm⟩
    · cases h
  · cases h
theorem gi_ok {M : m_M} {t a n : Nat} {f : Nat → Int32} (h : gi t M a = some (n, f)) : M.2.2 a = some (.inr (t, n, .inl f)) := by
  unfold gi at h
  split at h
  · next c n2 f2 hm =>
    split at h
    · next hc =>
      subst hc
      cases h
      exact hm
    · cases h
  · cases h
theorem ga_ok {M : m_M} {t a n : Nat} {f : Nat → Option Nat} (h : ga t M a = some (n, f)) : M.2.2 a = some (.inr (t, n, .inr f)) := by
  unfold ga at h
  split at h
  · next c n2 f2 hm =>
    split at h
    · next hc =>
      subst hc
      cases h
      exact hm
    · cases h
  · cases h
theorem is_ok {M : m_M} {ci a : Nat} (h : mt_is M ci a = true) : ∃ fs : List m_V, M.2.2 a = some (.inl (ci, fs)) := by
  unfold mt_is at h
  split at h
  · next c fs hm =>
    have hc : c = ci := by simpa using h
    subst hc
    exact ⟨fs, hm⟩
  · cases h
theorem ix_ok {i : Int32} {n j : Nat} (h : mt_ix i n = some j) : vp_in i n ∧ j = i.toNatClampNeg := by
  unfold mt_ix at h
  split at h
  · cases h
  · next hc => exact ⟨hc, (Option.some.inj h).symm⟩
theorem fnth_map {x : m_V} : ∀ {fs : List m_V} {k : Nat}, fnth fs k = some x → (fs.map tv)[k]? = some (tv x)
  | [], k, h => by simp [fnth] at h
  | y :: t, 0, h => by
    simp only [fnth, Option.some.injEq] at h
    subst h
    rfl
  | y :: t, k + 1, h => fnth_map (fs := t) (k := k) h
theorem fset_map {x : m_V} : ∀ {fs : List m_V} {k : Nat}, (fset fs k x).map tv = (fs.map tv).set k (tv x)
  | [], k => rfl
  | y :: t, 0 => rfl
  | y :: t, k + 1 => by
    show tv y :: (fset t k x).map tv = tv y :: (t.map tv).set k (tv x)
    rw [fset_map]
def mt_cls (ci : Nat) (C : String) (T : u_T) (N : Nat) (t : Nat → FieldType) : Prop := mCl[ci]? = some (C, T, N) ∧ (∀ w ∈ u_ws C T N, w ∈ lw_good) ∧ (∀ k, k < N → parseFieldDescriptor (T k).2.2.1 = some (t k)) ∧ (∀ a, a < N → ∀ b, b < N → a ≠ b → (T a).2.1 ≠ (T b).2.1) ∧ Cond.instantiable C N ∈ lw_good ∧ Cond.initialized C ∈ lw_good
def mt_lk (own : String) (idx : Nat) (C : String) (T : u_T) (k : Nat) : Prop := Cond.fieldLink own idx C (T k).2.1 (T k).2.2.1 ∈ lw_good ∨ ∃ host, Cond.fieldLinkNest own idx C (T k).2.1 (T k).2.2.1 host ∈ lw_nest
section SN
variable {Z : Nat → State → Prop} {cc : ByteArray} {nL : Nat} {own nm : String} {ret : Option FieldType} {fr lo pc n : Nat}
theorem sn_get {ci k idx N : Nat} {C0 : String} {T : u_T} {t : Nat → FieldType} (d : decode cc pc = .ok (.getfield idx, 3)) (hc : mt_cls ci C0 T N t) (hk : k < N) (hd : (T k).1 = C0) (hl : mt_lk own idx C0 T k) (hn : pc + 3 = n) : mt_Sp Z cc nL own nm ret fr lo pc n (o_get ci k) := by
  rintro ⟨lv, st, M⟩ q' hq
  rcases st with _ | ⟨x | _ | a, st⟩ <;> simp only [o_get, reduceCtorEq] at hq
  cases hgf : gf M ci a k with
  | none => simp [hgf] at hq
  | some x =>
    simp only [hgf, Option.some.injEq] at hq
    subst hq
    subst hn
    obtain ⟨fs, hfs, hx⟩ := gf_ok hgf
    refine ⟨mt_mo0, fun p l e R s m args below meth c Q D ca b0 w0 v M' C hz hg => ⟨hg.1, fun hw H locs ls cells slots h1 h2 h3 h4 h5 => ?_⟩⟩
    obtain ⟨q0, hq0⟩ := mt_pl (ca := ca) hw hfs
    have hq0 : (mt_ws ca b0 M)[q0]? = some (a, .inr (ci, fs.map tv)) := hq0
    have hsame : ∀ x, s.fieldFound? (T k).1 (T k).2.1 (T k).2.2.1 = some x → s.fieldFound? C0 (T k).2.1 (T k).2.2.1 = some x := fun x h => by rw [hd] at h; exact h
    rcases hl with hl | ⟨host, hl⟩
    · exact va_get C.1 C.2.1 C.2.2.2.2.1 hc.2.1 C.2.2.2.1 C.2.2.2.2.2.1.1 h1 q0 hq0 hc.1 k hk (C.2.2.2.2.1 _ hl) hsame (fnth_map hx) d (hg.2 hw H locs ls cells slots h1 h2 h3 h4 h5)
    · exact va_getN C.1 C.2.1 C.2.2.2.2.1 hc.2.1 C.2.2.2.1 C.2.2.2.2.2.1.1 h1 q0 hq0 hc.1 k hk (va_Nw.use rfl (C.2.2.2.2.2.1.2.1 _ hl)) hsame (fnth_map hx) d (hg.2 hw H locs ls cells slots h1 h2 h3 h4 h5)
theorem mt_put {x : m_V} {ci k a idx N : Nat} {C0 : String} {T : u_T} {t : Nat → FieldType} {lv : List (Option m_V)} {st : List m_V} {M : m_M} {fs : List m_V} (hfs : M.2.2 a = some (.inl (ci, fs))) (hkl : k < fs.length) (d : decode cc pc = .ok (.putfield idx, 3)) (hc : mt_cls ci C0 T N t) (hk : k < N) (hd : (T k).1 = C0) (hl : mt_lk own idx C0 T k) (hfin : (T k).2.2.2 = false) (hnar : narrow (t k) (tv x) = tv x) (hfit : fits (t k) (tv x) = true)
    {p : Program} {l : Launch} {e : Env} {R : Room} {s : State} {m : MethodId} {args : Array Value} {below : List Frame} {meth : Method} {c : Code} {Q : State → Prop} {D : va_G} {ca : Nat → ClassId} {b0 w0 : Nat} {v : Option m_V} {M' : m_M} (C : mt_C p l e R s m args below meth c Q cc nL own nm ret fr lo D ca b0 w0 v M') (hg : mt_G p l e R s m args below meth c Q nL D ca b0 w0 M' (pc + 3) (lv, st, mup M a (.inl (ci, fset fs k x)))) : mt_G p l e R s m args below meth c Q nL D ca b0 w0 M' pc (lv, x :: .inr (some a) :: st, M) := by
  refine ⟨hg.1, fun hw H locs ls cells slots h1 h2 h3 h4 h5 => ?_⟩
  obtain ⟨q0, hq0⟩ := mt_pl (ca := ca) hw hfs
  have hset := fun e => mt_set (e := e) hw hfs hq0
  have hq0 : (mt_ws ca b0 M)[q0]? = some (a, .inr (ci, fs.map tv)) := hq0
  have hsame : ∀ x, s.fieldFound? (T k).1 (T k).2.1 (T k).2.2.1 = some x → s.fieldFound? C0 (T k).2.1 (T k).2.2.1 = some x := fun x h => by rw [hd] at h; exact h
  have hset2 : (mt_ws ca b0 M).set q0 (a, .inr (ci, (fs.map tv).set k (tv x))) = mt_ws ca b0 (mup M a (.inl (ci, fset fs k x))) := by
    rw [← hset (.inl (ci, fset fs k x)), ← fset_map]
    rfl
  have hkl2 : k < (fs.map tv).length := by rw [List.length_map]; exact hkl
  rcases hl with hl | ⟨host, hl⟩
  · refine va_put C.1 C.2.1 C.2.2.2.2.1 hc.2.1 t hc.2.2.1 hc.2.2.2.1 C.2.2.2.1 C.2.2.2.2.2.1.1 h1 (mt_D ca b0 M) h2 q0 hq0 hc.1 k hk (C.2.2.2.2.1 _ hl) hsame hfin (hc.2.2.1 k hk) hnar hfit hkl2 d (fun H1 locs1 hP1 _ hS1 => ?_)
    rw [hset2] at hP1
    exact hg.2 (wf_up hw hfs) H1 locs1 ls cells slots hP1 hS1 h3 h4 h5
  · refine va_putN C.1 C.2.1 C.2.2.2.2.1 hc.2.1 t hc.2.2.1 hc.2.2.2.1 C.2.2.2.1 C.2.2.2.2.2.1.1 h1 (mt_D ca b0 M) h2 q0 hq0 hc.1 k hk (va_Nw.use rfl (C.2.2.2.2.2.1.2.1 _ hl)) hsame hfin (hc.2.2.1 k hk) hnar hfit hkl2 d (fun H1 locs1 hP1 _ hS1 => ?_)
    rw [hset2] at hP1
    exact hg.2 (wf_up hw hfs) H1 locs1 ls cells slots hP1 hS1 h3 h4 h5
theorem mt_putF {x : m_V} {ci k a idx N : Nat} {C0 : String} {T : u_T} {t : Nat → FieldType} {lv : List (Option m_V)} {st : List m_V} {M : m_M} {fs : List m_V} (hfs : M.2.2 a = some (.inl (ci, fs))) (hkl : k < fs.length) (d : decode cc pc = .ok (.putfield idx, 3)) (hc : mt_cls ci C0 T N t) (hk : k < N) (hd : (T k).1 = C0) (hl : Cond.fieldLink own idx C0 (T k).2.1 (T k).2.2.1 ∈ lw_good) (hfin : (T k).2.2.2 = true) (hown : C0 = own) (hini : nm = "<init>") (hnar : narrow (t k) (tv x) = tv x) (hfit : fits (t k) (tv x) = true)
    {p : Program} {l : Launch} {e : Env} {R : Room} {s : State} {m : MethodId} {args : Array Value} {below : List Frame} {meth : Method} {c : Code} {Q : State → Prop} {D : va_G} {ca : Nat → ClassId} {b0 w0 : Nat} {v : Option m_V} {M' : m_M} (C : mt_C p l e R s m args below meth c Q cc nL own nm ret fr lo D ca b0 w0 v M') (hg : mt_G p l e R s m args below meth c Q nL D ca b0 w0 M' (pc + 3) (lv, st, mup M a (.inl (ci, fset fs k x)))) : mt_G p l e R s m args below meth c Q nL D ca b0 w0 M' pc (lv, x :: .inr (some a) :: st, M) := by
  refine ⟨hg.1, fun hw H locs ls cells slots h1 h2 h3 h4 h5 => ?_⟩
  obtain ⟨q0, hq0⟩ := mt_pl (ca := ca) hw hfs
  have hset := fun e => mt_set (e := e) hw hfs hq0
  have hq0 : (mt_ws ca b0 M)[q0]? = some (a, .inr (ci, fs.map tv)) := hq0
  have hsame : ∀ x, s.fieldFound? (T k).1 (T k).2.1 (T k).2.2.1 = some x → s.fieldFound? C0 (T k).2.1 (T k).2.2.1 = some x := fun x h => by rw [hd] at h; exact h
  have hset2 : (mt_ws ca b0 M).set q0 (a, .inr (ci, (fs.map tv).set k (tv x))) = mt_ws ca b0 (mup M a (.inl (ci, fset fs k x))) := by
    rw [← hset (.inl (ci, fset fs k x)), ← fset_map]
    rfl
  have hkl2 : k < (fs.map tv).length := by rw [List.length_map]; exact hkl
  refine va_putF C.1 C.2.1 C.2.2.2.2.1 hc.2.1 t hc.2.2.1 hc.2.2.2.1 C.2.2.2.1 C.2.2.2.2.2.1.1 h1 (mt_D ca b0 M) h2 q0 hq0 hc.1 k hk (C.2.2.2.2.1 _ hl) hsame hfin (by rw [C.2.2.2.2.2.2.2.2.1]; exact hini) (by rw [hd]; exact hown) (hc.2.2.1 k hk) hnar hfit hkl2 d (fun H1 locs1 hP1 _ hS1 => ?_)
  rw [hset2] at hP1
  exact hg.2 (wf_up hw hfs) H1 locs1 ls cells slots hP1 hS1 h3 h4 h5
theorem sn_putI {ci k idx N : Nat} {C0 : String} {T : u_T} {t : Nat → FieldType} (d : decode cc pc = .ok (.putfield idx, 3)) (hc : mt_cls ci C0 T N t) (hk : k < N) (hd : (T k).1 = C0) (hl : mt_lk own idx C0 T k) (hfin : (T k).2.2.2 = false) (ht : t k = .int) (hn : pc + 3 = n) : mt_Sp Z cc nL own nm ret fr lo pc n (o_putI ci k) := by
  rintro ⟨lv, st, M⟩ q' hq
  rcases st with _ | ⟨x | x, _ | ⟨y | _ | a, st⟩⟩ <;> simp only [o_putI, reduceCtorEq] at hq
  cases hpf : pf M ci a k (.inl x) with
  | none => simp [hpf] at hq
  | some M1 =>
    simp only [hpf, Option.some.injEq] at hq
    subst hq
    subst hn
    obtain ⟨fs, hfs, hkl, hM⟩ := pf_ok hpf
    subst hM
    exact ⟨mt_mo0, fun p l e R s m args below meth c Q D ca b0 w0 v M' C hz hg => mt_put hfs hkl d hc hk hd hl hfin (by rw [ht]; rfl) (by rw [ht]; rfl) C hg⟩
theorem sn_putZ {ci k idx N : Nat} {C0 : String} {T : u_T} {t : Nat → FieldType} (d : decode cc pc = .ok (.putfield idx, 3)) (hc : mt_cls ci C0 T N t) (hk : k < N) (hd : (T k).1 = C0) (hl : mt_lk own idx C0 T k) (hfin : (T k).2.2.2 = false) (ht : t k = .boolean) (hn : pc + 3 = n) : mt_Sp Z cc nL own nm ret fr lo pc n (o_putZ ci k) := by
  rintro ⟨lv, st, M⟩ q' hq
  rcases st with _ | ⟨x | x, _ | ⟨y | _ | a, st⟩⟩ <;> simp only [o_putZ, reduceCtorEq] at hq
  by_cases hzx : mt_z x = true
  · rw [if_pos hzx] at hq
    cases hpf : pf M ci a k (.inl x) with
    | none => simp [hpf] at hq
    | some M1 =>
      simp only [hpf, Option.some.injEq] at hq
      subst hq
      subst hn
      obtain ⟨fs, hfs, hkl, hM⟩ := pf_ok hpf
      subst hM
      exact ⟨mt_mo0, fun p l e R s m args below meth c Q D ca b0 w0 v M' C hz hg => mt_put hfs hkl d hc hk hd hl hfin (by rw [ht]; exact (mt_z_ok hzx).1) (by rw [ht]; exact (mt_z_ok hzx).2.1) C hg⟩
  · rw [if_neg hzx] at hq
    cases hq
theorem sn_putA {ci k idx N : Nat} {C0 : String} {T : u_T} {t : Nat → FieldType} (d : decode cc pc = .ok (.putfield idx, 3)) (hc : mt_cls ci C0 T N t) (hk : k < N) (hd : (T k).1 = C0) (hl : mt_lk own idx C0 T k) (hfin : (T k).2.2.2 = false) (ht : ∀ a : Nat, narrow (t k) (.ref a) = .ref a ∧ fits (t k) (.ref a) = true) (hn : pc + 3 = n) : mt_Sp Z cc nL own nm ret fr lo pc n (o_putA ci k) := by
  rintro ⟨lv, st, M⟩ q' hq
  rcases st with _ | ⟨x | _ | x, _ | ⟨y | _ | a, st⟩⟩ <;> simp only [o_putA, reduceCtorEq] at hq
  cases hpf : pf M ci a k (.inr (some x)) with
  | none => simp [hpf] at hq
  | some M1 =>
    simp only [hpf, Option.some.injEq] at hq
    subst hq
    subst hn
    obtain ⟨fs, hfs, hkl, hM⟩ := pf_ok hpf
    subst hM
    exact ⟨mt_mo0, fun p l e R s m args below meth c Q D ca b0 w0 v M' C hz hg => mt_put (x := .inr (some x)) hfs hkl d hc hk hd hl hfin (ht x).1 (ht x).2 C hg⟩
theorem sn_putF {ci k idx N : Nat} {C0 : String} {T : u_T} {t : Nat → FieldType} (d : decode cc pc = .ok (.putfield idx, 3)) (hc : mt_cls ci C0 T N t) (hk : k < N) (hd : (T k).1 = C0) (hl : Cond.fieldLink own idx C0 (T k).2.1 (T k).2.2.1 ∈ lw_good) (hfin : (T k).2.2.2 = true) (hown : C0 = own) (hini : nm = "<init>") (ht : ∀ a : Nat, narrow (t k) (.ref a) = .ref a ∧ fits (t k) (.ref a) = true) (hn : pc + 3 = n) : mt_Sp Z cc nL own nm ret fr lo pc n (o_putA ci k) := by
  rintro ⟨lv, st, M⟩ q' hq
  rcases st with _ | ⟨x | _ | x, _ | ⟨y | _ | a, st⟩⟩ <;> simp only [o_putA, reduceCtorEq] at hq
  cases hpf : pf M ci a k (.inr (some x)) with
  | none => simp [hpf] at hq
  | some M1 =>
    simp only [hpf, Option.some.injEq] at hq
    subst hq
    subst hn
    obtain ⟨fs, hfs, hkl, hM⟩ := pf_ok hpf
    subst hM
    exact ⟨mt_mo0, fun p l e R s m args below meth c Q D ca b0 w0 v M' C hz hg => mt_putF (x := .inr (some x)) hfs hkl d hc hk hd hl hfin hown hini (ht x).1 (ht x).2 C hg⟩
theorem sn_iald (d : decode cc pc = .ok (.iaload, 1)) (hn : pc + 1 = n) : mt_Sp Z cc nL own nm ret fr lo pc n o_iald := by
  rintro ⟨lv, st, M⟩ q' hq
  rcases st with _ | ⟨i | i, _ | ⟨y | _ | a, st⟩⟩ <;> simp only [o_iald, reduceCtorEq] at hq
  cases hgi : gi 0 M a with
  | none => simp [hgi] at hq
  | some nf =>
    obtain ⟨N, f⟩ := nf
    simp only [hgi] at hq
    cases hix : mt_ix i N with
    | none => simp [hix] at hq
    | some j =>
      simp only [hix, Option.some.injEq] at hq
      subst hq
      subst hn
      have hm := gi_ok hgi
      obtain ⟨hin, hj⟩ := ix_ok hix
      subst hj
      refine ⟨mt_mo0, fun p l e R s m args below meth c Q D ca b0 w0 v M' C hz hg => ⟨hg.1, fun hw H locs ls cells slots h1 h2 h3 h4 h5 => ?_⟩⟩
      obtain ⟨q0, hq0⟩ := mt_pl (ca := ca) hw hm
      exact va_iald C.1 C.2.1 C.2.2.2.2.2.1.1 h1 q0 0 hq0 rfl hin d (hg.2 hw H locs ls cells slots h1 h2 h3 h4 h5)
theorem sn_zald (d : decode cc pc = .ok (.baload, 1)) (hn : pc + 1 = n) : mt_Sp Z cc nL own nm ret fr lo pc n o_zald := by
  rintro ⟨lv, st, M⟩ q' hq
  rcases st with _ | ⟨i | i, _ | ⟨y | _ | a, st⟩⟩ <;> simp only [o_zald, reduceCtorEq] at hq
  cases hgi : gi 1 M a with
  | none => simp [hgi] at hq
  | some nf =>
    obtain ⟨N, f⟩ := nf
    simp only [hgi] at hq
    cases hix : mt_ix i N with
    | none => simp [hix] at hq
    | some j =>
      simp only [hix, Option.some.injEq] at hq
      subst hq
      subst hn
      have hm := gi_ok hgi
      obtain ⟨hin, hj⟩ := ix_ok hix
      subst hj
      refine ⟨mt_mo0, fun p l e R s m args below meth c Q D ca b0 w0 v M' C hz hg => ⟨hg.1, fun hw H locs ls cells slots h1 h2 h3 h4 h5 => ?_⟩⟩
      obtain ⟨q0, hq0⟩ := mt_pl (ca := ca) hw hm
      exact va_zald C.1 C.2.1 C.2.2.2.2.2.1.1 h1 q0 1 hq0 rfl hin d (hg.2 hw H locs ls cells slots h1 h2 h3 h4 h5)
theorem sn_aald {t : Nat} {C0 : String} (ht : ∀ ca, (mt_tys ca)[t]? = some (ca t, .object C0)) (d : decode cc pc = .ok (.aaload, 1)) (hn : pc + 1 = n) : mt_Sp Z cc nL own nm ret fr lo pc n (o_aald t) := by
  rintro ⟨lv, st, M⟩ q' hq
  rcases st with _ | ⟨i | i, _ | ⟨y | _ | a, st⟩⟩ <;> simp only [o_aald, reduceCtorEq] at hq
  cases hgi : ga t M a with
  | none => simp [hgi] at hq
  | some nf =>
    obtain ⟨N, f⟩ := nf
    simp only [hgi] at hq
    cases hix : mt_ix i N with
    | none => simp [hix] at hq
    | some j =>
      simp only [hix, Option.some.injEq] at hq
      subst hq
      subst hn
      have hm := ga_ok hgi
      obtain ⟨hin, hj⟩ := ix_ok hix
      subst hj
      refine ⟨mt_mo0, fun p l e R s m args below meth c Q D ca b0 w0 v M' C hz hg => ⟨hg.1, fun hw H locs ls cells slots h1 h2 h3 h4 h5 => ?_⟩⟩
      obtain ⟨q0, hq0⟩ := mt_pl (ca := ca) hw hm
      exact va_aldq C.1 C.2.1 C.2.2.2.2.2.1.1 h1 q0 t hq0 (ht ca) hin d (hg.2 hw H locs ls cells slots h1 h2 h3 h4 h5)
theorem sn_iast (d : decode cc pc = .ok (.iastore, 1)) (hn : pc + 1 = n) : mt_Sp Z cc nL own nm ret fr lo pc n o_iast := by
  rintro ⟨lv, st, M⟩ q' hq
  rcases st with _ | ⟨x | x, _ | ⟨i | i, _ | ⟨y | _ | a, st⟩⟩⟩ <;> simp only [o_iast, reduceCtorEq] at hq
  cases hgi : gi 0 M a with
  | none => simp [hgi] at hq
  | some nf =>
    obtain ⟨N, f⟩ := nf
    simp only [hgi] at hq
    cases hix : mt_ix i N with
    | none => simp [hix] at hq
    | some j =>
      simp only [hix] at hq
      have hq := Option.some.inj hq
      subst hq
      subst hn
      have hm := gi_ok hgi
      obtain ⟨hin, hj⟩ := ix_ok hix
      subst hj
      refine ⟨mt_mo0, fun p l e R s m args below meth c Q D ca b0 w0 v M' C hz hg => ⟨hg.1, fun hw H locs ls cells slots h1 h2 h3 h4 h5 => ?_⟩⟩
      obtain ⟨q0, hq0⟩ := mt_pl (ca := ca) hw hm
      have hset := mt_set (ca := ca) (e := .inr (0, N, .inl (upd f i.toNatClampNeg x))) hw hm hq0
      refine va_iast C.1 C.2.1 C.2.2.2.2.2.1.1 h1 (mt_D ca b0 M) h2 q0 0 hq0 rfl hin d (fun H1 locs1 hP1 _ hS1 => ?_)
      exact hg.2 (wf_up hw hm) H1 locs1 ls cells slots (hset ▸ hP1) hS1 h3 h4 h5
theorem sn_zast (d : decode cc pc = .ok (.bastore, 1)) (hn : pc + 1 = n) : mt_Sp Z cc nL own nm ret fr lo pc n o_zast := by
  rintro ⟨lv, st, M⟩ q' hq
  rcases st with _ | ⟨x | x, _ | ⟨i | i, _ | ⟨y | _ | a, st⟩⟩⟩ <;> simp only [o_zast, reduceCtorEq] at hq
  cases hgi : gi 1 M a with
  | none => simp [hgi] at hq
  | some nf =>
    obtain ⟨N, f⟩ := nf
    simp only [hgi] at hq
    cases hix : mt_ix i N with
    | none => simp [hix] at hq
    | some j =>
      simp only [hix] at hq
      by_cases hzx : mt_z x = true
      case neg =>
        rw [if_neg hzx] at hq
        cases hq
      rw [if_pos hzx] at hq
      have hq := Option.some.inj hq
      subst hq
      subst hn
      have hm := gi_ok hgi
      obtain ⟨hin, hj⟩ := ix_ok hix
      subst hj
      refine ⟨mt_mo0, fun p l e R s m args below meth c Q D ca b0 w0 v M' C hz hg => ⟨hg.1, fun hw H locs ls cells slots h1 h2 h3 h4 h5 => ?_⟩⟩
      obtain ⟨q0, hq0⟩ := mt_pl (ca := ca) hw hm
      have hset := mt_set (ca := ca) (e := .inr (1, N, .inl (upd f i.toNatClampNeg x))) hw hm hq0
      refine va_zast C.1 C.2.1 C.2.2.2.2.2.1.1 h1 (mt_D ca b0 M) h2 q0 1 hq0 rfl hin d (fun H1 locs1 hP1 _ hS1 => ?_)
      rw [(mt_z_ok hzx).2.2] at hP1
      exact hg.2 (wf_up hw hm) H1 locs1 ls cells slots (hset ▸ hP1) hS1 h3 h4 h5
theorem sn_aast {t ci : Nat} {r : vw_C} (hc : mCl[ci]? = some r) (ht : ∀ ca, (mt_tys ca)[t]? = some (ca t, .object r.1)) (d : decode cc pc = .ok (.aastore, 1)) (hn : pc + 1 = n) : mt_Sp Z cc nL own nm ret fr lo pc n (o_aast t ci) := by
  rintro ⟨lv, st, M⟩ q' hq
  rcases st with _ | ⟨x | _ | x, _ | ⟨i | i, _ | ⟨y | _ | a, st⟩⟩⟩ <;> simp only [o_aast, reduceCtorEq] at hq
  cases hgi : ga t M a with
  | none => simp [hgi] at hq
  | some nf =>
    obtain ⟨N, f⟩ := nf
    simp only [hgi] at hq
    cases hix : mt_ix i N with
    | none => simp [hix] at hq
    | some j =>
      simp only [hix] at hq
      by_cases hzx : mt_is M ci x = true
      case neg =>
        rw [if_neg hzx] at hq
        cases hq
      rw [if_pos hzx] at hq
      have hq := Option.some.inj hq
      subst hq
      subst hn
      have hm := ga_ok hgi
      obtain ⟨hin, hj⟩ := ix_ok hix
      subst hj
      obtain ⟨fs, hfs⟩ := is_ok hzx
      refine ⟨mt_mo0, fun p l e R s m args below meth c Q D ca b0 w0 v M' C hz hg => ⟨hg.1, fun hw H locs ls cells slots h1 h2 h3 h4 h5 => ?_⟩⟩
      obtain ⟨q0, hq0⟩ := mt_pl (ca := ca) hw hm
      obtain ⟨qk, hqk⟩ := mt_pl (ca := ca) hw hfs
      have hset := mt_set (ca := ca) (e := .inr (t, N, .inr (va_up f i.toNatClampNeg (some x)))) hw hm hq0
      refine va_astq C.1 C.2.1 C.2.2.2.2.2.1.1 h1 (mt_D ca b0 M) h2 q0 t qk ci hq0 (ht ca) hqk hc hin d (fun H1 locs1 hP1 _ hS1 => ?_)
      exact hg.2 (wf_up hw hm) H1 locs1 ls cells slots (hset ▸ hP1) hS1 h3 h4 h5
theorem sn_alen {t : Nat} {C0 : String} (ht : ∀ ca, (mt_tys ca)[t]? = some (ca t, .object C0)) (d : decode cc pc = .ok (.arraylength, 1)) (hn : pc + 1 = n) : mt_Sp Z cc nL own nm ret fr lo pc n (o_alen t) := by
  rintro ⟨lv, st, M⟩ q' hq
  rcases st with _ | ⟨y | _ | a, st⟩ <;> simp only [o_alen, reduceCtorEq] at hq
  cases hgi : ga t M a with
  | none => simp [hgi] at hq
  | some nf =>
    obtain ⟨N, f⟩ := nf
    simp only [hgi, Option.some.injEq] at hq
    subst hq
    subst hn
    have hm := ga_ok hgi
    refine ⟨mt_mo0, fun p l e R s m args below meth c Q D ca b0 w0 v M' C hz hg => ⟨hg.1, fun hw H locs ls cells slots h1 h2 h3 h4 h5 => ?_⟩⟩
    obtain ⟨q0, hq0⟩ := mt_pl (ca := ca) hw hm
    exact va_alen C.1 C.2.1 C.2.2.2.2.2.1.1 h1 q0 t hq0 (ht ca) rfl d (hg.2 hw H locs ls cells slots h1 h2 h3 h4 h5)
/-- a new cell lies at the heap's end -/
theorem mt_q {D : va_G} {ca : Nat → ClassId} {b0 q : Nat} {M : m_M} {x : va_E} {H1 : Heap} (hD : va_D (mt_A b0) (mt_ws ca b0 M ++ [(q, x)])) (hP : va_P D mCl (mt_ws ca b0 M ++ [(q, x)]) H1) (hs : H1.size ≤ M.1 + 1) : q = M.1 := by
  have hlast : (mt_ws ca b0 M ++ [(q, x)])[(mt_ws ca b0 M).length]? = some (q, x) := by
    rw [List.getElem?_append_right (Nat.le_refl _), Nat.sub_self]
    rfl
  have h1 := va_at_lt (hP _ _ hlast)
  have h2 : b0 ≤ q := hD.2 _ _ hlast
  have h1 : q < H1.size := h1
  by_cases h : q < M.1
  · exfalso
    obtain ⟨k, hk⟩ := va_pl_get (X := []) (f := tm ca M.2.2) (mt_mem.mpr (⟨h2, h⟩ : b0 ≤ q ∧ q < M.1))
    have hk : (mt_ws ca b0 M)[k]? = some (q, tm ca M.2.2 q) := hk
    have hkl : k < (mt_ws ca b0 M).length := by
      obtain ⟨h3, -⟩ := List.getElem?_eq_some_iff.mp hk
      exact h3
    have hk2 : (mt_ws ca b0 M ++ [(q, x)])[k]? = some (q, tm ca M.2.2 q) := by
      rw [List.getElem?_append_left hkl]
      exact hk
    have h4 := hD.1 k _ _ _ hk2 hlast rfl
    omega
  · omega
theorem sn_new {ci idx N : Nat} {C0 : String} {T : u_T} {t : Nat → FieldType} {fs : List m_V} (d : decode cc pc = .ok (.new idx, 3)) (hc : mt_cls ci C0 T N t) (hl : Cond.classLink own idx C0 ∈ lw_good) (hfs : ∀ j, j < N → defaultValue (t j) = vp_V (fs.map tv) j) (hN : fs.length = N) (hn : pc + 3 = n) : mt_Sp Z cc nL own nm ret fr lo pc n (o_new ci fs) := by
  rintro ⟨lv, st, M⟩ q' hq
  simp only [o_new, Option.some.injEq] at hq
  subst hq
  subst hn
  subst hN
  refine ⟨⟨Nat.le_succ _, Nat.le_add_right _ _⟩, fun p l e R s m args below meth c Q D ca b0 w0 v M' C hz hg => ⟨⟨Nat.le_trans (Nat.le_succ _) hg.1.1, Nat.le_trans (Nat.le_add_right _ _) hg.1.2⟩, fun hw H locs ls cells slots h1 h2 h3 h4 h5 => ?_⟩⟩
  obtain ⟨hgm, hg⟩ := hg
  have hr := C.2.2.2.2.2.2.2.1
  have hgm1 : M.1 + 1 ≤ M'.1 := hgm.1
  have hgm2 : M.2.1 + fs.length ≤ M'.2.1 := hgm.2
  have h3 : cells + s.heap.size = M.1 := h3
  have h4 : slots + w0 = M.2.1 := h4
  have hb0 : b0 ≤ M.1 := Nat.le_trans C.2.2.2.2.2.2.1 (by omega)
  refine va_new C.1 C.2.1 C.2.2.2.2.1 hc.2.1 t hc.2.2.1 C.2.2.2.1 (C.2.2.2.2.1 _ hl) (C.2.2.2.2.1 _ hc.2.2.2.2.1) (C.2.2.2.2.1 _ hc.2.2.2.2.2) C.2.2.2.2.2.1.1 h1 (mt_D ca b0 M) h2 (fun q hq => Nat.le_trans C.2.2.2.2.2.2.1 hq) hc.1 hfs (by omega) (by omega) d (fun q H1 hP1 hD1 hS1 => ?_)
  refine mt_size (fun hsz => ?_)
  have hqe := mt_q hD1 hP1 (by omega)
  subst hqe
  have hP2 : va_P D mCl (mt_ws ca b0 (mnew M fs.length (.inl (ci, fs)))) H1 := by
    rw [← mt_new hb0]
    exact hP1
  exact hg (wf_new hw hb0) H1 locs ls (cells + 1) (slots + fs.length) hP2 hS1 (by show cells + 1 + s.heap.size = M.1 + 1; omega) (by show slots + fs.length + w0 = M.2.1 + fs.length; omega) h5
theorem sn_newI {t : Nat} {at0 : ArrayType} {ty : FieldType} (d : decode cc pc = .ok (.newarray at0, 2)) (hty : newarray.typeOf at0 = ty) (hw0 : Cond.arrayClass ty ∈ lw_good) (hcell : ∀ (cA : ClassId) (N : Nat), vp_cell cA (N, .inl (fun _ => 0)) = arrV cA N (fun _ => defaultValue ty)) (hcb : componentBytes ty ≤ 4) (ht : ∀ ca, (mt_tys ca)[t]? = some (ca t, ty)) (hra : ∀ (U : State) (c1 c2 : ClassId), va_RA U c1 ty → va_RA U c2 ty → c1 = c2) (hn : pc + 2 = n) : mt_Sp Z cc nL own nm ret fr lo pc n (o_newI t) := by
  rintro ⟨lv, st, M⟩ q' hq
  rcases st with _ | ⟨k | k, st⟩ <;> simp only [o_newI, reduceCtorEq] at hq
  by_cases hk : k < 0 ∨ 65536 < k.toNatClampNeg
  · rw [if_pos hk] at hq
    cases hq
  · rw [if_neg hk] at hq
    have hq := Option.some.inj hq
    subst hq
    subst hn
    obtain ⟨hk0, hk1⟩ := not_or.mp hk
    generalize hkk : k.toNatClampNeg = kk
    rw [hkk] at hk1
    refine ⟨⟨Nat.le_succ _, Nat.le_add_right _ _⟩, fun p l e R s m args below meth c Q D ca b0 w0 v M' C hz hg => ⟨⟨Nat.le_trans (Nat.le_succ _) hg.1.1, Nat.le_trans (Nat.le_add_right _ _) hg.1.2⟩, fun hw H locs ls cells slots h1 h2 h3 h4 h5 => ?_⟩⟩
    obtain ⟨hgm, hg⟩ := hg
    have hr := C.2.2.2.2.2.2.2.1
    have hgm1 : M.1 + 1 ≤ M'.1 := hgm.1
    have hgm2 : M.2.1 + kk ≤ M'.2.1 := hgm.2
    have h3 : cells + s.heap.size = M.1 := h3
    have h4 : slots + w0 = M.2.1 := h4
    have hb0 : b0 ≤ M.1 := Nat.le_trans C.2.2.2.2.2.2.1 (by omega)
    have hbytes : kk * componentBytes ty ≤ 536870912 := Nat.le_trans (Nat.mul_le_mul (show kk ≤ 65536 by omega) hcb) (by decide)
    refine va_newa C.1 C.2.1 (by rw [hty]; exact C.2.2.2.2.1 _ hw0) hty C.2.2.2.2.2.1.1 h1 (mt_D ca b0 M) h2 (fun q hq => Nat.le_trans C.2.2.2.2.2.2.1 hq) (a0 := (kk, .inl (fun _ => 0))) (fun cA => hcell cA kk) hk0 hkk hbytes (by omega) (by omega) d (fun q cA H1 hK1 hP1 hD1 hS1 => ?_)
    refine mt_size (fun hsz => ?_)
    have hcA : ca t = cA := hra s _ _ (C.2.2.2.2.2.1.1.2 t _ (ht ca)).2 (hK1.2 6 (cA, ty) rfl).2
    subst hcA
    have hqe := mt_q hD1 hP1 (by omega)
    subst hqe
    have hP2 : va_P D mCl (mt_ws ca b0 (mnew M kk (.inr (t, kk, .inl (fun _ => 0))))) H1 := by
      rw [← mt_new hb0]
      exact hP1
    exact hg (wf_new hw hb0) H1 locs ls (cells + 1) (slots + kk) hP2 hS1 (by show cells + 1 + s.heap.size = M.1 + 1; omega) (by show slots + kk + w0 = M.2.1 + kk; omega) h5
theorem sn_newA {t idx : Nat} {C0 : String} (d : decode cc pc = .ok (.anewarray idx, 3)) (hl : Cond.classLink own idx C0 ∈ lw_good) (hao : ∀ (D : va_G) (ca : Nat → ClassId) (s : State), mt_K D ca s → va_AO C0 s) (ht : ∀ ca, (mt_tys ca)[t]? = some (ca t, .object C0)) (hn : pc + 3 = n) : mt_Sp Z cc nL own nm ret fr lo pc n (o_newA t) := by
  rintro ⟨lv, st, M⟩ q' hq
  rcases st with _ | ⟨k | k, st⟩ <;> simp only [o_newA, reduceCtorEq] at hq
  by_cases hk : k < 0 ∨ 65536 < k.toNatClampNeg
  · rw [if_pos hk] at hq
    cases hq
  · rw [if_neg hk] at hq
    have hq := Option.some.inj hq
    subst hq
    subst hn
    obtain ⟨hk0, hk1⟩ := not_or.mp hk
    generalize hkk : k.toNatClampNeg = kk
    rw [hkk] at hk1
    refine ⟨⟨Nat.le_succ _, Nat.le_add_right _ _⟩, fun p l e R s m args below meth c Q D ca b0 w0 v M' C hz hg => ⟨⟨Nat.le_trans (Nat.le_succ _) hg.1.1, Nat.le_trans (Nat.le_add_right _ _) hg.1.2⟩, fun hw H locs ls cells slots h1 h2 h3 h4 h5 => ?_⟩⟩
    obtain ⟨hgm, hg⟩ := hg
    have hr := C.2.2.2.2.2.2.2.1
    have hgm1 : M.1 + 1 ≤ M'.1 := hgm.1
    have hgm2 : M.2.1 + kk ≤ M'.2.1 := hgm.2
    have h3 : cells + s.heap.size = M.1 := h3
    have h4 : slots + w0 = M.2.1 := h4
    have hb0 : b0 ≤ M.1 := Nat.le_trans C.2.2.2.2.2.2.1 (by omega)
    refine va_newq C.1 C.2.1 C.2.2.2.1 (C.2.2.2.2.1 _ hl) (hao D ca s C.2.2.2.2.2.1) C.2.2.2.2.2.1.1 h1 (mt_D ca b0 M) h2 (fun q hq => Nat.le_trans C.2.2.2.2.2.2.1 hq) hk0 hkk (by omega) (by omega) (by omega) d (fun q cA H1 hK1 hP1 hD1 hS1 => ?_)
    refine mt_size (fun hsz => ?_)
    have hcA : ca t = cA := by
      obtain ⟨_, _, _, _, _, e1⟩ := (C.2.2.2.2.2.1.1.2 t _ (ht ca)).2
      obtain ⟨_, _, _, _, _, e2⟩ := (hK1.2 6 (cA, .object C0) rfl).2
      exact Option.some.inj (e1.symm.trans e2)
    subst hcA
    have hqe := mt_q hD1 hP1 (by omega)
    subst hqe
    have hP2 : va_P D mCl (mt_ws ca b0 (mnew M kk (.inr (t, kk, .inr (fun _ => none))))) H1 := by
      rw [← mt_new hb0]
      exact hP1
    exact hg (wf_new hw hb0) H1 locs ls (cells + 1) (slots + kk) hP2 hS1 (by show cells + 1 + s.heap.size = M.1 + 1; omega) (by show slots + kk + w0 = M.2.1 + kk; omega) h5
def mt_Zs (sb L : Nat) (xs : Nat → Int32) : Nat → State → Prop := fun b0 s => va_X sb L xs s s.heap ∧ sb < s.heap.size ∧ sb < b0
theorem sn_slen {sb L : Nat} {xs : Nat → Int32} (d : decode cc pc = .ok (.arraylength, 1)) (hn : pc + 1 = n) : mt_Sp (mt_Zs sb L xs) cc nL own nm ret fr lo pc n (o_slen sb L) := by
  rintro ⟨lv, st, M⟩ q' hq
  rcases st with _ | ⟨y | _ | a, st⟩ <;> simp only [o_slen, reduceCtorEq] at hq
  by_cases hk : a = sb
  · rw [if_pos hk] at hq
    have hq := Option.some.inj hq
    subst hq
    subst hn
    subst hk
    exact ⟨mt_mo0, fun p l e R s m args below meth c Q D ca b0 w0 v M' C hz hg => ⟨hg.1, fun hw H locs ls cells slots h1 h2 h3 h4 h5 => va_slen C.1 C.2.1 hz.1 hz.2.1 (fun h => Nat.lt_irrefl _ (Nat.lt_of_lt_of_le hz.2.2 h)) h2 d (hg.2 hw H locs ls cells slots h1 h2 h3 h4 h5)⟩⟩
  · rw [if_neg hk] at hq
    cases hq
theorem sn_sld {sb L : Nat} {xs : Nat → Int32} (d : decode cc pc = .ok (.iaload, 1)) (hn : pc + 1 = n) : mt_Sp (mt_Zs sb L xs) cc nL own nm ret fr lo pc n (o_sld sb L xs) := by
  rintro ⟨lv, st, M⟩ q' hq
  rcases st with _ | ⟨i | i, _ | ⟨y | _ | a, st⟩⟩ <;> simp only [o_sld, reduceCtorEq] at hq
  by_cases hk : a = sb
  · rw [if_pos hk] at hq
    cases hix : mt_ix i L with
    | none => simp [hix] at hq
    | some j =>
      simp only [hix, Option.some.injEq] at hq
      subst hq
      subst hn
      subst hk
      obtain ⟨hin, hj⟩ := ix_ok hix
      subst hj
      exact ⟨mt_mo0, fun p l e R s m args below meth c Q D ca b0 w0 v M' C hz hg => ⟨hg.1, fun hw H locs ls cells slots h1 h2 h3 h4 h5 => va_sld C.1 C.2.1 hz.1 hz.2.1 (fun h => Nat.lt_irrefl _ (Nat.lt_of_lt_of_le hz.2.2 h)) h2 hin d (hg.2 hw H locs ls cells slots h1 h2 h3 h4 h5)⟩⟩
  · rw [if_neg hk] at hq
    cases hq
theorem sn_objinit {idx : Nat} (d : decode cc pc = .ok (.invokespecial idx, 3)) (hl : Cond.methodLink own idx Lib.objectInit ∈ lw_good) (hi : Cond.instanceMethod Lib.objectInit ∈ lw_good) (hcd : Cond.code Lib.objectInit ⟨#[0xb1]⟩ 1 none ∈ lw_good) (hR : 1 ≤ fr ∧ 20 ≤ lo) (hn : pc + 3 = n) : mt_Sp Z cc nL own nm ret fr lo pc n o_objinit := by
  rintro ⟨lv, st, M⟩ q' hq
  rcases st with _ | ⟨y | _ | a, st⟩ <;> simp only [o_objinit, reduceCtorEq] at hq
  by_cases hk : st.length ≤ 8
  · rw [if_pos hk] at hq
    have hq := Option.some.inj hq
    subst hq
    subst hn
    refine ⟨mt_mo0, fun p l e R s m args below meth c Q D ca b0 w0 v M' C hz hg => ⟨hg.1, fun hw H locs ls cells slots h1 h2 h3 h4 h5 => ?_⟩⟩
    have hr := C.2.2.2.2.2.2.2.1
    have hm8 := lv_room (m := m) (pc := pc) (ls := ls) (rest := (Sum.inr (some a) :: st : List m_V).map tv) (st := st.map tv) (by rw [tv_sum]; exact hk)
    exact W.objInit C.1 C.2.1 C.2.2.2.1 (C.2.2.2.2.1 _ hl) (C.2.2.2.2.1 _ hi) (C.2.2.2.2.1 _ hcd) (g := F0 m pc ls ((Sum.inr (some a) :: st : List m_V).map tv)) rfl (by rw [C.2.2.1]; exact h5.1) (a := a) (rest := st.map tv) rfl d (Nat.le_trans hR.1 hr.1) (by have := hr.2.1; omega) (hg.2 hw H locs ls cells slots h1 h2 h3 h4 h5)
  · rw [if_neg hk] at hq
    cases hq
end SN
section CL
variable {p : Program} {l : Launch} {e : Env} {R : Room} {s : State} {m : MethodId} {args : Array Value} {below : List Frame} {meth : Method} {c : Code} {Q : State → Prop} {D : va_G} {ca : Nat → ClassId} {b0 w0 nL : Nat} {M' : m_M}
theorem mt_aft {H : Heap} {locs : List Loc} {cells slots mc ms pc n : Nat} {ls : Array Slot} {st0 : List Value} {a' : Array Value} {r : m_R} {lv : List (Option m_V)} {st' : List m_V} (hrun : va_Run p l e R s m args below meth c H locs cells slots mc ms (F0 m pc ls st0) (st'.map tv) (mt_Q D ca b0 r.1 r.2 a') (mt_A b0)) (hS : va_S (mt_A b0) s.heap H locs) (hc : cells + mc + s.heap.size = r.2.1) (hs : slots + ms + w0 = r.2.2.1) (h5 : lv_has ls nL (ml 0 lv)) (hn : pc + 3 = n) (hg : mt_G p l e R s m args below meth c Q nL D ca b0 w0 M' n (lv, r.1.toList ++ st', r.2)) : W p l e R s m args below meth c H locs cells slots Q (F0 m pc ls st0) := by
  intro T hT X
  obtain ⟨v1, st₀, t, T', L, h0, X', hL, e1, e2, ⟨hv, hw', hP', hz, hk⟩, hgo⟩ := hrun T hT X
  have hv : v1 = r.1.map tv := by cases hv; rfl
  subst hv
  rw [h0] at hz hk
  have hg2 := hg.2 hw' T'.heap (locs ++ L) ls (cells + mc) (slots + ms) (by rw [e1]; exact hP')
    ⟨Nat.le_trans hS.1 (by rw [e1]; exact hz), fun q h1 h2 => by rw [e1, hk q (Nat.lt_of_lt_of_le h1 hS.1) h2]; exact hS.2.1 q h1 h2, fun q hq => by
      rcases List.mem_append.mp hq with h | h
      · exact hS.2.2 q h
      · exact hL q h⟩ hc hs h5
  obtain ⟨t2, a1, b1⟩ := hg2 T' rfl X'
  subst hn
  refine ⟨t2, hgo t2 ?_, b1⟩
  have hst : (r.1.map tv).toList ++ st'.map tv = (r.1.toList ++ st').map tv := by
    cases r.1 <;> simp
  show Steps p.tables e below (T'.setTop (F0 m (pc + 3) ls ((r.1.map tv).toList ++ st'.map tv))) t2
  rw [hst]
  exact a1
theorem mt_blind {av : List Value} {M : m_M} : FrameBlind (va_Pc av (mt_U D ca b0 M)) := fun a U g mk q => by
  obtain ⟨q0, q1, q2, q3, q4, q5⟩ := q
  exact ⟨q0, q1, q2, q3, q4, mt_K_same (u := U) (U := U.calling g mk a) rfl q5⟩
theorem mt_pre {M : m_M} {H : Heap} {av : List Value} (hK : mt_K D ca s) (hz : H.size = M.1) (hb : b0 ≤ M.1) (hw : mt_wf b0 M) (hP : va_P D mCl (mt_ws ca b0 M) H) : ∀ U : State, U.heap = H → s.WarmedH U.vm → va_Pc av (mt_U D ca b0 M) av.toArray U := fun U hU hW => by
  refine ⟨rfl, ?_, hb, hw, ?_, mt_K_warm hW hK⟩
  · rw [hU]; exact hz
  · rw [hU]; exact hP
end CL
def mt_lm (own : String) (idx : Nat) (y : MethodName) (cY : ByteArray) (nY : Nat) (rY : Option FieldType) (k : Nat) : Prop :=
  (y.cls ≠ "java/lang/invoke/MethodHandle" ∧ y.cls ≠ "java/lang/invoke/VarHandle" ∧ (parseMethodDescriptor y.desc).map (fun d => d.parameters.length) = some k) ∧ Cond.code y cY nY rY ∈ lw_good ∧ Cond.initialized y.cls ∈ lw_good ∧ (Cond.methodLink own idx y ∈ lw_good ∨ ∃ host, Cond.methodLinkNest own idx y host ∈ lw_nest)
theorem mt_words {y : MethodName} {cY : ByteArray} {nY : Nat} {rY : Option FieldType} (h : Cond.code y cY nY rY ∈ lw_good) : GoodIn lw_good (Cond.code y cY nY rY :: lw_good) := fun w hw => by
  have h2 : w ∈ lw_good := by
    rcases List.mem_cons.mp hw with h1 | h1
    · rw [h1]; exact h
    · exact h1
  exact ⟨h2, lw_good_ok h2⟩
theorem mt_wordsA {ys : List Cond} {y : MethodName} {cY : ByteArray} {nY : Nat} {rY : Option FieldType} (hy : ∀ w ∈ ys, w ∈ lw_good) (h : Cond.code y cY nY rY ∈ lw_good) : GoodIn lw_good (ys ++ (Cond.code y cY nY rY :: lw_good)) := fun w hw => by
  rcases List.mem_append.mp hw with h1 | h1
  · exact ⟨hy w h1, lw_good_ok (hy w h1)⟩
  · exact mt_words h w h1
theorem mt_cat_ref {av : List m_V} {st' st : List m_V} {a : Nat} (h : (Sum.inr (some a) :: av : List m_V).reverse ++ st' = st) : st.map tv = (av.map tv).reverse ++ Value.ref a :: st'.map tv := by
  rw [← h]
  simp [tv, va_rf]
theorem mt_cat_all {av : List m_V} {st' st : List m_V} (h : av.reverse ++ st' = st) : st.map tv = (av.map tv).reverse ++ st'.map tv := by
  rw [← h]
  simp
section SN
variable {Z : Nat → State → Prop} {cc : ByteArray} {nL : Nat} {own nm : String} {ret : Option FieldType} {fr lo pc n : Nat}
theorem sn_callV {y : MethodName} {cY : ByteArray} {nY : Nat} {rY : Option FieldType} {fY lY : Nat} {sem : List m_V → m_M → Option m_R} {ci : Nat} {r : vw_C} {k idx : Nat} (d : decode cc pc = .ok (.invokevirtual idx, 3)) (os : mt_OkS y cY nY rY fY lY sem) (hc : mCl[ci]? = some r) (hy : y.cls = r.1) (hm : mt_lm own idx y cY nY rY k) (hin : Cond.instanceMethod y ∈ lw_good) (hse : Cond.selects r.1 y y ∈ lw_good) (hR : fY + 1 ≤ fr ∧ 8 + (nY + 11) + lY ≤ lo) (hk : k + 1 ≤ nY) (hn : pc + 3 = n) : mt_Sl Z cc nL own nm ret fr lo pc (o_callV sem ci (k + 1) n) := by
  rintro ⟨lv, st, M⟩ z hq
  simp only [o_callV] at hq
  cases hp : mt_pop (k + 1) [] st with
  | none => simp [hp] at hq
  | some ab =>
    obtain ⟨av, st'⟩ := ab
    rcases av with _ | ⟨x | _ | a, av⟩ <;> simp only [hp, reduceCtorEq] at hq
    by_cases hcond : st'.length ≤ 8 ∧ mt_is M ci a = true
    case neg =>
      rw [if_neg hcond] at hq
      cases hq
    rw [if_pos hcond] at hq
    cases hs : sem (.inr (some a) :: av) M with
    | none => simp [hs, mt_after] at hq
    | some r1 =>
      simp only [hs, mt_after, Option.some.injEq] at hq
      subst hq
      obtain ⟨hp1, hp2⟩ := mt_pop_ok _ _ _ _ _ hp
      have hp2 : av.length = k := by simpa using hp2
      obtain ⟨hmo, hmet⟩ := os _ M r1 (by simp only [List.length_cons]; omega) hs
      refine ⟨fun x hx => by cases hx; exact hmo, fun r hx => (by cases hx), fun p l e R s m args below meth c Q D ca b0 w0 v M' C hz hg hr => ?_⟩
      have hg := hg _ rfl
      refine ⟨⟨Nat.le_trans hmo.1 hg.1.1, Nat.le_trans hmo.2 hg.1.2⟩, fun hw H locs ls cells slots h1 h2 h3 h4 h5 => ?_⟩
      refine mt_size (fun hsz => ?_)
      have hrm := C.2.2.2.2.2.2.2.1
      have hK := C.2.2.2.2.2.1
      have hws := C.2.2.2.2.1
      have h3 : cells + s.heap.size = M.1 := h3
      have h4 : slots + w0 = M.2.1 := h4
      have hb0 : b0 ≤ M.1 := Nat.le_trans C.2.2.2.2.2.2.1 (by omega)
      have h1 : va_P D mCl (mt_ws ca b0 M) H := h1
      have hz2 : H.size = M.1 := by
        have := mt_size2 C.2.2.2.2.2.2.1 h1 h2 (by omega)
        omega
      have hmo1 : M.1 ≤ r1.2.1 := hmo.1
      have hmo2 : M.2.1 ≤ r1.2.2.1 := hmo.2
      have hgm1 : r1.2.1 ≤ M'.1 := hg.1.1
      have hgm2 : r1.2.2.1 ≤ M'.2.1 := hg.1.2
      have hroom : fY + 1 ≤ R.frames ∧ 8 + (nY + 11) + lY ≤ R.locals := ⟨Nat.le_trans hR.1 hrm.1, Nat.le_trans hR.2 hrm.2.1⟩
      have hfix : CallFix p m c cc nL s args lw_good own := ⟨C.1, C.2.1, C.2.2.1, C.2.2.2.1, hws⟩
      obtain ⟨fs, hfs⟩ := is_ok hcond.2
      obtain ⟨q0, hq0⟩ := mt_pl (ca := ca) hw hfs
      have hpre : PreV s H r.1 a (va_Pc ((Sum.inr (some a) :: av : List m_V).map tv) (mt_U D ca b0 M)) (av.map tv) := ⟨mt_blind, va_recv hK.1 h1 hc hq0, mt_pre hK hz2 hb0 hw h1⟩
      have hst := mt_cat_ref (av := av) (st' := st') (st := st) (a := a) (by simpa using hp1)
      rcases hm with ⟨hd, hcw, hini, hlk | ⟨host, hlk⟩⟩
      · have hrun := va_runV (e := e) (below := below) (meth := meth) (locs := locs) (cells := cells) (slots := slots) (rest := st'.map tv) (g := F0 m pc ls (st.map tv)) hfix (hmet l D ca b0) (cwV k hws (mt_wordsA (ys := [.methodLink own idx y, .instanceMethod y, .selects r.1 y y, .initialized r.1]) (fun w hw => by simp only [List.mem_cons, List.not_mem_nil, or_false] at hw; rcases hw with rfl | rfl | rfl | rfl <;> first | exact hlk | exact hin | exact hse | (rw [← hy]; exact hini)) hcw) rfl rfl rfl ⟨hy, hd⟩ hroom) hpre rfl (by rw [List.length_map]; exact hp2) h5.1 hst (lv_room (by rw [tv_sum]; exact hcond.1)) d ⟨by omega, by omega⟩
        exact mt_aft hrun h2 (by omega) (by omega) h5 hn hg
      · have hrun := va_runVN (e := e) (below := below) (meth := meth) (locs := locs) (cells := cells) (slots := slots) (rest := st'.map tv) (g := F0 m pc ls (st.map tv)) hfix (hmet l D ca b0) ⟨va_cnB k hws (mt_words hcw) rfl rfl rfl (hK.2.1 _ hlk) (hws _ hini) hd hroom, hws _ hin, hws _ hse⟩ hpre rfl (by rw [List.length_map]; exact hp2) h5.1 hst (lv_room (by rw [tv_sum]; exact hcond.1)) d ⟨by omega, by omega⟩
        exact mt_aft hrun h2 (by omega) (by omega) h5 hn hg
theorem sn_callI {y : MethodName} {cY : ByteArray} {nY : Nat} {fY lY : Nat} {sem : List m_V → m_M → Option m_R} {k idx : Nat} (d : decode cc pc = .ok (.invokespecial idx, 3)) (os : mt_OkS y cY nY none fY lY sem) (hy : y.name = "<init>") (hm : mt_lm own idx y cY nY none k) (hin : Cond.instanceMethod y ∈ lw_good) (hR : fY + 1 ≤ fr ∧ 8 + (nY + 11) + lY ≤ lo) (hk : k + 1 ≤ nY) (hn : pc + 3 = n) : mt_Sl Z cc nL own nm ret fr lo pc (o_callI sem (k + 1) n) := by
  rintro ⟨lv, st, M⟩ z hq
  simp only [o_callI] at hq
  cases hp : mt_pop (k + 1) [] st with
  | none => simp [hp] at hq
  | some ab =>
    obtain ⟨av, st'⟩ := ab
    rcases av with _ | ⟨x | _ | a, av⟩ <;> simp only [hp, reduceCtorEq] at hq
    by_cases hcond : st'.length ≤ 8
    case neg =>
      rw [if_neg hcond] at hq
      cases hq
    rw [if_pos hcond] at hq
    cases hs : sem (.inr (some a) :: av) M with
    | none => simp [hs, mt_after] at hq
    | some r1 =>
      simp only [hs, mt_after, Option.some.injEq] at hq
      subst hq
      obtain ⟨hp1, hp2⟩ := mt_pop_ok _ _ _ _ _ hp
      have hp2 : av.length = k := by simpa using hp2
      obtain ⟨hmo, hmet⟩ := os _ M r1 (by simp only [List.length_cons]; omega) hs
      refine ⟨fun x hx => by cases hx; exact hmo, fun r hx => (by cases hx), fun p l e R s m args below meth c Q D ca b0 w0 v M' C hz hg hr => ?_⟩
      have hg := hg _ rfl
      refine ⟨⟨Nat.le_trans hmo.1 hg.1.1, Nat.le_trans hmo.2 hg.1.2⟩, fun hw H locs ls cells slots h1 h2 h3 h4 h5 => ?_⟩
      refine mt_size (fun hsz => ?_)
      have hrm := C.2.2.2.2.2.2.2.1
      have hK := C.2.2.2.2.2.1
      have hws := C.2.2.2.2.1
      have h3 : cells + s.heap.size = M.1 := h3
      have h4 : slots + w0 = M.2.1 := h4
      have hb0 : b0 ≤ M.1 := Nat.le_trans C.2.2.2.2.2.2.1 (by omega)
      have h1 : va_P D mCl (mt_ws ca b0 M) H := h1
      have hz2 : H.size = M.1 := by
        have := mt_size2 C.2.2.2.2.2.2.1 h1 h2 (by omega)
        omega
      have hmo1 : M.1 ≤ r1.2.1 := hmo.1
      have hmo2 : M.2.1 ≤ r1.2.2.1 := hmo.2
      have hgm1 : r1.2.1 ≤ M'.1 := hg.1.1
      have hgm2 : r1.2.2.1 ≤ M'.2.1 := hg.1.2
      have hroom : fY + 1 ≤ R.frames ∧ 8 + (nY + 11) + lY ≤ R.locals := ⟨Nat.le_trans hR.1 hrm.1, Nat.le_trans hR.2 hrm.2.1⟩
      have hfix : CallFix p m c cc nL s args lw_good own := ⟨C.1, C.2.1, C.2.2.1, C.2.2.2.1, hws⟩
      have hpre : PreS s H (va_Pc ((Sum.inr (some a) :: av : List m_V).map tv) (mt_U D ca b0 M)) (.ref a :: av.map tv) := ⟨mt_blind, mt_pre hK hz2 hb0 hw h1⟩
      have hst := mt_cat_ref (av := av) (st' := st') (st := st) (a := a) (by simpa using hp1)
      rcases hm with ⟨hd, hcw, hini, hlk | ⟨host, hlk⟩⟩
      · have hrun := va_runI (e := e) (below := below) (meth := meth) (locs := locs) (cells := cells) (slots := slots) (rest := st'.map tv) (g := F0 m pc ls (st.map tv)) hfix (hmet l D ca b0) (cwI k hws (mt_words hcw) rfl rfl rfl (hws _ hini) (hws _ hlk) (hws _ hin) hy hd hroom) hpre rfl (by rw [List.length_map]; exact hp2) h5.1 hst (lv_room (by rw [tv_sum]; exact hcond)) d ⟨by omega, by omega⟩
        exact mt_aft hrun h2 (by omega) (by omega) h5 hn hg
      · have hrun := va_runIN (e := e) (below := below) (meth := meth) (locs := locs) (cells := cells) (slots := slots) (rest := st'.map tv) (g := F0 m pc ls (st.map tv)) hfix (hmet l D ca b0) ⟨va_cnB k hws (mt_words hcw) rfl rfl rfl (hK.2.1 _ hlk) (hws _ hini) hd hroom, hy, hws _ hin⟩ hpre rfl (by rw [List.length_map]; exact hp2) h5.1 hst (lv_room (by rw [tv_sum]; exact hcond)) d ⟨by omega, by omega⟩
        exact mt_aft hrun h2 (by omega) (by omega) h5 hn hg
theorem sn_callS {y : MethodName} {cY : ByteArray} {nY : Nat} {rY : Option FieldType} {fY lY : Nat} {sem : List m_V → m_M → Option m_R} {k idx : Nat} (d : decode cc pc = .ok (.invokestatic idx, 3)) (os : mt_OkS y cY nY rY fY lY sem) (hy : y.cls = own) (hm : mt_lm own idx y cY nY rY k) (hst0 : Cond.static y ∈ lw_good) (hR : fY + 1 ≤ fr ∧ 8 + (nY + 11) + lY ≤ lo) (hk : k ≤ nY) (hn : pc + 3 = n) : mt_Sl Z cc nL own nm ret fr lo pc (o_callS sem (k) n) := by
  rintro ⟨lv, st, M⟩ z hq
  simp only [o_callS] at hq
  cases hp : mt_pop (k) [] st with
  | none => simp [hp] at hq
  | some ab =>
    obtain ⟨av, st'⟩ := ab
    simp only [hp] at hq
    by_cases hcond : st'.length ≤ 8
    case neg =>
      rw [if_neg hcond] at hq
      cases hq
    rw [if_pos hcond] at hq
    cases hs : sem av M with
    | none => simp [hs, mt_after] at hq
    | some r1 =>
      simp only [hs, mt_after, Option.some.injEq] at hq
      subst hq
      obtain ⟨hp1, hp2⟩ := mt_pop_ok _ _ _ _ _ hp
      have hp2 : av.length = k := by simpa using hp2
      obtain ⟨hmo, hmet⟩ := os _ M r1 (by omega) hs
      refine ⟨fun x hx => by cases hx; exact hmo, fun r hx => (by cases hx), fun p l e R s m args below meth c Q D ca b0 w0 v M' C hz hg hr => ?_⟩
      have hg := hg _ rfl
      refine ⟨⟨Nat.le_trans hmo.1 hg.1.1, Nat.le_trans hmo.2 hg.1.2⟩, fun hw H locs ls cells slots h1 h2 h3 h4 h5 => ?_⟩
      refine mt_size (fun hsz => ?_)
      have hrm := C.2.2.2.2.2.2.2.1
      have hK := C.2.2.2.2.2.1
      have hws := C.2.2.2.2.1
      have h3 : cells + s.heap.size = M.1 := h3
      have h4 : slots + w0 = M.2.1 := h4
      have hb0 : b0 ≤ M.1 := Nat.le_trans C.2.2.2.2.2.2.1 (by omega)
      have h1 : va_P D mCl (mt_ws ca b0 M) H := h1
      have hz2 : H.size = M.1 := by
        have := mt_size2 C.2.2.2.2.2.2.1 h1 h2 (by omega)
        omega
      have hmo1 : M.1 ≤ r1.2.1 := hmo.1
      have hmo2 : M.2.1 ≤ r1.2.2.1 := hmo.2
      have hgm1 : r1.2.1 ≤ M'.1 := hg.1.1
      have hgm2 : r1.2.2.1 ≤ M'.2.1 := hg.1.2
      have hroom : fY + 1 ≤ R.frames ∧ 8 + (nY + 11) + lY ≤ R.locals := ⟨Nat.le_trans hR.1 hrm.1, Nat.le_trans hR.2 hrm.2.1⟩
      have hfix : CallFix p m c cc nL s args lw_good own := ⟨C.1, C.2.1, C.2.2.1, C.2.2.2.1, hws⟩
      have hpre : PreS s H (va_Pc (av.map tv) (mt_U D ca b0 M)) (av.map tv) := ⟨mt_blind, mt_pre hK hz2 hb0 hw h1⟩
      have hst := mt_cat_all (av := av) (st' := st') (st := st) (by simpa using hp1)
      rcases hm with ⟨hd, hcw, hini, hlk | ⟨host, hlk⟩⟩
      · have hrun := va_runS (e := e) (below := below) (meth := meth) (locs := locs) (cells := cells) (slots := slots) (rest := st'.map tv) (g := F0 m pc ls (st.map tv)) hfix (hmet l D ca b0) (cwS k hws (mt_wordsA (ys := [.methodLink own idx y, .static y, .initialized own]) (fun w hw => by simp only [List.mem_cons, List.not_mem_nil, or_false] at hw; rcases hw with rfl | rfl | rfl <;> first | exact hlk | exact hst0 | (rw [← hy]; exact hini)) hcw) rfl rfl rfl ⟨hy, hd⟩ hroom) hpre rfl (by rw [List.length_map]; exact hp2) h5.1 hst (lv_room (by rw [tv_sum]; exact hcond)) d ⟨by omega, by omega⟩
        exact mt_aft hrun h2 (by omega) (by omega) h5 hn hg
      · have hrun := va_runSN (e := e) (below := below) (meth := meth) (locs := locs) (cells := cells) (slots := slots) (rest := st'.map tv) (g := F0 m pc ls (st.map tv)) hfix (hmet l D ca b0) ⟨va_cnB k hws (mt_words hcw) rfl rfl rfl (hK.2.1 _ hlk) (hws _ hini) hd hroom, hws _ hst0, trivial⟩ hpre rfl (by rw [List.length_map]; exact hp2) h5.1 hst (lv_room (by rw [tv_sum]; exact hcond)) d ⟨by omega, by omega⟩
        exact mt_aft hrun h2 (by omega) (by omega) h5 hn hg
end SN
theorem mt_okS {y : MethodName} {cc : ByteArray} {nL : Nat} {ret : Option FieldType} {fr lo : Nat} {code : List m_B} {own nm : String} (hy : plainName y.cls = true) (ho : y.cls = own) (hnm : y.name = nm) (hs : mt_Sc (fun _ _ => True) cc nL own nm ret fr lo code) : mt_OkS y cc nL ret fr lo (mt_sem code nL) := by
  intro av M r hlen hsem
  obtain ⟨n, hn⟩ := mt_lim_some hsem
  have hmo : mt_mo M r.2 := mt_grow hs n 0 _ hn
  refine ⟨hmo, fun l D ca b0 => ?_⟩
  refine Met.ofW (cc := cc) (maxL := nL) (ret := ret) hy rfl ?_
  intro p e s m args below meth c s₁ B hml hv
  obtain ⟨rfl, hsz, hb0, hw, hP, hK⟩ := hv
  have hts := atoms_spec (ws := .code y cc nL ret :: lw_good) B.pre
  have hown : s.vm.findClass own = some m.cls := by rw [← ho]; exact findClass_of_methodNamed B.named
  have hlocks := B.notSynchronized
  have hin : meth.name = nm := by rw [← hnm]; exact (name_of_methodNamed B.named B.method).1
  have hx := B.exec
  have hbb := B.bytes
  have hrr := B.returns
  have hmo1 := hmo.1
  have hmo2 := hmo.2
  have hC : mt_C p l e { frames := fr, cells := r.2.1 - M.1, slots := r.2.2.1 - M.2.1, locals := lo } s m (av.map tv).toArray below meth c (MQ below (mt_Q D ca b0 r.1 r.2) (av.map tv).toArray s (r.2.1 - M.1) (r.2.2.1 - M.2.1) (mt_A b0)) cc nL own nm ret fr lo D ca b0 M.2.1 r.1 r.2 := by
    refine ⟨hx, hbb, hml, hown, fun w hw => hts w (List.mem_cons_of_mem _ hw), hK, by rw [hsz]; exact hb0, ⟨Nat.le_refl _, Nat.le_refl _, ?_, ?_⟩, hin, ?_⟩
    · show r.2.1 ≤ r.2.1 - M.1 + s.heap.size
      omega
    · show r.2.2.1 ≤ r.2.2.1 - M.2.1 + M.2.1
      omega
    · intro H locs ls cells slots pc hret hw' hP' hS' hc hs'
      have hc1 : cells = r.2.1 - M.1 := by omega
      have hs1 : slots = r.2.2.1 - M.2.1 := by omega
      subst hc1
      subst hs1
      obtain ⟨v, M1⟩ := r
      rcases hret with ⟨d, hr0, hv⟩ | ⟨d, ty, x, hr0, hv, hnar⟩ | ⟨d, cn, x, hr0, hv⟩
      · have hv : v = none := hv
        subst hv
        exact W.vret hx hbb (hrr.trans hr0) (fun t ht hW => ⟨rfl, hw', by rw [ht]; exact hP', hS'.F ht⟩) hS'.2.2 d
      · have hv : v = some (.inl x) := hv
        subst hv
        exact W.zret hx hbb (hrr.trans hr0) hnar (fun t ht hW => ⟨rfl, hw', by rw [ht]; exact hP', hS'.F ht⟩) hS'.2.2 d
      · have hv : v = some (.inr x) := hv
        subst hv
        exact W.aret (v := va_rf x) hx hbb (hrr.trans hr0) (Or.inl ⟨cn, rfl⟩) (by cases x with | none => exact Or.inl rfl | some a => exact Or.inr ⟨a, rfl⟩) (fun t ht hW => ⟨rfl, hw', by rw [ht]; exact hP', hS'.F ht⟩) hS'.2.2 d
  have hG := mt_sound hs hC trivial n 0 _ hn
  have hl := lv_entry (av.map tv) (n := nL) (by rw [tv_len]; exact hlen)
  rw [lg_entry_eq]
  generalize (lg_sl (av.map tv) ++ List.replicate (nL - (lg_sl (av.map tv)).length) Slot.unset).toArray = ls at hl ⊢
  have hl2 : lv_has ls nL (ml 0 (mt_l0 nL av)) := ⟨hl.1, hl.2.1, fun q hq => hl.2.2 q (ml_args nL 0 av q hq)⟩
  exact hG.2 hw s.heap [] ls 0 0 hP va_S.rf (by show 0 + s.heap.size = M.1; omega) (Nat.zero_add _) hl2
end
