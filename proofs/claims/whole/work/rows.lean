section
-- ===== PART A: goes FIRST, ahead of the names: the tables' words, and 'selects' of the private methods out of them =====
/-- a private method of a class that the tables say can be made, by its rows of tables_1 -/
def lw_okq (q : MethodName × Nat) : Prop := (q.1.cls ≠ "java/lang/invoke/MethodHandle" ∧ q.1.cls ≠ "java/lang/invoke/VarHandle") ∧ Cond.instantiable q.1.cls q.2 ∈ tables_1 ∧ Cond.privateMethod q.1 ∈ tables_1 ∧ Cond.instanceMethod q.1 ∈ tables_1
theorem lw_p0 : lw_okq (⟨"TreeCarrier", "slotOf", "(II)LTreeCarrier$StoredFile;"⟩, 12) := ⟨⟨by decide +kernel, by decide +kernel⟩, List.mem_of_getElem? (i := 12) (by decide +kernel), List.mem_of_getElem? (i := 256) (by decide +kernel), List.mem_of_getElem? (i := 257) (by decide +kernel)⟩
theorem lw_p1 : lw_okq (⟨"TreeCarrier", "tick", "()I"⟩, 12) := ⟨⟨by decide +kernel, by decide +kernel⟩, List.mem_of_getElem? (i := 12) (by decide +kernel), List.mem_of_getElem? (i := 274) (by decide +kernel), List.mem_of_getElem? (i := 275) (by decide +kernel)⟩
theorem lw_p2 : lw_okq (⟨"TreeCarrier", "fileOf", "(II)LTreeCarrier$StoredFile;"⟩, 12) := ⟨⟨by decide +kernel, by decide +kernel⟩, List.mem_of_getElem? (i := 12) (by decide +kernel), List.mem_of_getElem? (i := 282) (by decide +kernel), List.mem_of_getElem? (i := 283) (by decide +kernel)⟩
theorem lw_p3 : lw_okq (⟨"TreeCarrier", "doAllRecords", "()V"⟩, 12) := ⟨⟨by decide +kernel, by decide +kernel⟩, List.mem_of_getElem? (i := 12) (by decide +kernel), List.mem_of_getElem? (i := 311) (by decide +kernel), List.mem_of_getElem? (i := 312) (by decide +kernel)⟩
theorem lw_p4 : lw_okq (⟨"TreeCarrier", "doOldestRecord", "()V"⟩, 12) := ⟨⟨by decide +kernel, by decide +kernel⟩, List.mem_of_getElem? (i := 12) (by decide +kernel), List.mem_of_getElem? (i := 315) (by decide +kernel), List.mem_of_getElem? (i := 316) (by decide +kernel)⟩
theorem lw_p5 : lw_okq (⟨"TreeCarrier", "sendEntries", "()V"⟩, 12) := ⟨⟨by decide +kernel, by decide +kernel⟩, List.mem_of_getElem? (i := 12) (by decide +kernel), List.mem_of_getElem? (i := 327) (by decide +kernel), List.mem_of_getElem? (i := 328) (by decide +kernel)⟩
theorem lw_p6 : lw_okq (⟨"TreeCarrier", "lineOf", "(I)LTreeCarrier$Line;"⟩, 12) := ⟨⟨by decide +kernel, by decide +kernel⟩, List.mem_of_getElem? (i := 12) (by decide +kernel), List.mem_of_getElem? (i := 347) (by decide +kernel), List.mem_of_getElem? (i := 348) (by decide +kernel)⟩
theorem lw_p7 : lw_okq (⟨"TreeCarrier", "receive", "(LTreeCarrier$Message;)V"⟩, 12) := ⟨⟨by decide +kernel, by decide +kernel⟩, List.mem_of_getElem? (i := 12) (by decide +kernel), List.mem_of_getElem? (i := 355) (by decide +kernel), List.mem_of_getElem? (i := 356) (by decide +kernel)⟩
theorem lw_p8 : lw_okq (⟨"TreeCarrier", "noteEntry", "(LTreeCarrier$Message;)V"⟩, 12) := ⟨⟨by decide +kernel, by decide +kernel⟩, List.mem_of_getElem? (i := 12) (by decide +kernel), List.mem_of_getElem? (i := 359) (by decide +kernel), List.mem_of_getElem? (i := 360) (by decide +kernel)⟩
theorem lw_p9 : lw_okq (⟨"TreeCarrier", "entryOf", "(I)LTreeCarrier$Entry;"⟩, 12) := ⟨⟨by decide +kernel, by decide +kernel⟩, List.mem_of_getElem? (i := 12) (by decide +kernel), List.mem_of_getElem? (i := 363) (by decide +kernel), List.mem_of_getElem? (i := 364) (by decide +kernel)⟩
theorem lw_p10 : lw_okq (⟨"TreeCarrier", "openEntries", "()V"⟩, 12) := ⟨⟨by decide +kernel, by decide +kernel⟩, List.mem_of_getElem? (i := 12) (by decide +kernel), List.mem_of_getElem? (i := 367) (by decide +kernel), List.mem_of_getElem? (i := 368) (by decide +kernel)⟩
theorem lw_p11 : lw_okq (⟨"TreeCarrier", "sendSignature", "(II)V"⟩, 12) := ⟨⟨by decide +kernel, by decide +kernel⟩, List.mem_of_getElem? (i := 12) (by decide +kernel), List.mem_of_getElem? (i := 375) (by decide +kernel), List.mem_of_getElem? (i := 376) (by decide +kernel)⟩
theorem lw_p12 : lw_okq (⟨"TreeCarrier$Row", "strongSum", "(II)I"⟩, 2) := ⟨⟨by decide +kernel, by decide +kernel⟩, List.mem_of_getElem? (i := 116) (by decide +kernel), List.mem_of_getElem? (i := 383) (by decide +kernel), List.mem_of_getElem? (i := 384) (by decide +kernel)⟩
theorem lw_p13 : lw_okq (⟨"TreeCarrier$Row", "weakSum", "(II)I"⟩, 2) := ⟨⟨by decide +kernel, by decide +kernel⟩, List.mem_of_getElem? (i := 116) (by decide +kernel), List.mem_of_getElem? (i := 392) (by decide +kernel), List.mem_of_getElem? (i := 393) (by decide +kernel)⟩
theorem lw_p14 : lw_okq (⟨"TreeCarrier", "receiveDelta", "(LTreeCarrier$Message;)V"⟩, 12) := ⟨⟨by decide +kernel, by decide +kernel⟩, List.mem_of_getElem? (i := 12) (by decide +kernel), List.mem_of_getElem? (i := 400) (by decide +kernel), List.mem_of_getElem? (i := 401) (by decide +kernel)⟩
theorem lw_p15 : lw_okq (⟨"TreeCarrier", "rebuild", "(LTreeCarrier$Row;LTreeCarrier$Message;)V"⟩, 12) := ⟨⟨by decide +kernel, by decide +kernel⟩, List.mem_of_getElem? (i := 12) (by decide +kernel), List.mem_of_getElem? (i := 404) (by decide +kernel), List.mem_of_getElem? (i := 405) (by decide +kernel)⟩
def lw_privs_1 : List (MethodName × Nat) := [(⟨"TreeCarrier", "slotOf", "(II)LTreeCarrier$StoredFile;"⟩, 12), (⟨"TreeCarrier", "tick", "()I"⟩, 12), (⟨"TreeCarrier", "fileOf", "(II)LTreeCarrier$StoredFile;"⟩, 12), (⟨"TreeCarrier", "doAllRecords", "()V"⟩, 12), (⟨"TreeCarrier", "doOldestRecord", "()V"⟩, 12), (⟨"TreeCarrier", "sendEntries", "()V"⟩, 12), (⟨"TreeCarrier", "lineOf", "(I)LTreeCarrier$Line;"⟩, 12), (⟨"TreeCarrier", "receive", "(LTreeCarrier$Message;)V"⟩, 12), (⟨"TreeCarrier", "noteEntry", "(LTreeCarrier$Message;)V"⟩, 12), (⟨"TreeCarrier", "entryOf", "(I)LTreeCarrier$Entry;"⟩, 12), (⟨"TreeCarrier", "openEntries", "()V"⟩, 12), (⟨"TreeCarrier", "sendSignature", "(II)V"⟩, 12), (⟨"TreeCarrier$Row", "strongSum", "(II)I"⟩, 2), (⟨"TreeCarrier$Row", "weakSum", "(II)I"⟩, 2), (⟨"TreeCarrier", "receiveDelta", "(LTreeCarrier$Message;)V"⟩, 12), (⟨"TreeCarrier", "rebuild", "(LTreeCarrier$Row;LTreeCarrier$Message;)V"⟩, 12)]
theorem lw_r1 : ∀ q ∈ lw_privs_1, lw_okq q := List.forall_mem_cons.mpr ⟨lw_p0, List.forall_mem_cons.mpr ⟨lw_p1, List.forall_mem_cons.mpr ⟨lw_p2, List.forall_mem_cons.mpr ⟨lw_p3, List.forall_mem_cons.mpr ⟨lw_p4, List.forall_mem_cons.mpr ⟨lw_p5, List.forall_mem_cons.mpr ⟨lw_p6, List.forall_mem_cons.mpr ⟨lw_p7, List.forall_mem_cons.mpr ⟨lw_p8, List.forall_mem_cons.mpr ⟨lw_p9, List.forall_mem_cons.mpr ⟨lw_p10, List.forall_mem_cons.mpr ⟨lw_p11, List.forall_mem_cons.mpr ⟨lw_p12, List.forall_mem_cons.mpr ⟨lw_p13, List.forall_mem_cons.mpr ⟨lw_p14, List.forall_mem_cons.mpr ⟨lw_p15, fun _ h => absurd h List.not_mem_nil⟩⟩⟩⟩⟩⟩⟩⟩⟩⟩⟩⟩⟩⟩⟩⟩
theorem lw_p16 : lw_okq (⟨"TreeCarrier", "failEntry", "(I)V"⟩, 12) := ⟨⟨by decide +kernel, by decide +kernel⟩, List.mem_of_getElem? (i := 12) (by decide +kernel), List.mem_of_getElem? (i := 425) (by decide +kernel), List.mem_of_getElem? (i := 426) (by decide +kernel)⟩
theorem lw_p17 : lw_okq (⟨"TreeCarrier", "hasOpenEntry", "()Z"⟩, 12) := ⟨⟨by decide +kernel, by decide +kernel⟩, List.mem_of_getElem? (i := 12) (by decide +kernel), List.mem_of_getElem? (i := 429) (by decide +kernel), List.mem_of_getElem? (i := 430) (by decide +kernel)⟩
theorem lw_p18 : lw_okq (⟨"TreeCarrier", "concludeSession", "()V"⟩, 12) := ⟨⟨by decide +kernel, by decide +kernel⟩, List.mem_of_getElem? (i := 12) (by decide +kernel), List.mem_of_getElem? (i := 433) (by decide +kernel), List.mem_of_getElem? (i := 434) (by decide +kernel)⟩
theorem lw_p19 : lw_okq (⟨"TreeCarrier", "deleteUnlisted", "()V"⟩, 12) := ⟨⟨by decide +kernel, by decide +kernel⟩, List.mem_of_getElem? (i := 12) (by decide +kernel), List.mem_of_getElem? (i := 437) (by decide +kernel), List.mem_of_getElem? (i := 438) (by decide +kernel)⟩
theorem lw_p20 : lw_okq (⟨"TreeCarrier", "endSession", "()V"⟩, 12) := ⟨⟨by decide +kernel, by decide +kernel⟩, List.mem_of_getElem? (i := 12) (by decide +kernel), List.mem_of_getElem? (i := 441) (by decide +kernel), List.mem_of_getElem? (i := 442) (by decide +kernel)⟩
theorem lw_p21 : lw_okq (⟨"TreeCarrier", "answerSignature", "(LTreeCarrier$Message;)V"⟩, 12) := ⟨⟨by decide +kernel, by decide +kernel⟩, List.mem_of_getElem? (i := 12) (by decide +kernel), List.mem_of_getElem? (i := 453) (by decide +kernel), List.mem_of_getElem? (i := 454) (by decide +kernel)⟩
theorem lw_p22 : lw_okq (⟨"TreeCarrier", "fillDelta", "(LTreeCarrier$Message;LTreeCarrier$Row;LTreeCarrier$Message;)V"⟩, 12) := ⟨⟨by decide +kernel, by decide +kernel⟩, List.mem_of_getElem? (i := 12) (by decide +kernel), List.mem_of_getElem? (i := 457) (by decide +kernel), List.mem_of_getElem? (i := 458) (by decide +kernel)⟩
theorem lw_p23 : lw_okq (⟨"TreeCarrier", "findBlock", "(LTreeCarrier$Row;ILTreeCarrier$Message;)I"⟩, 12) := ⟨⟨by decide +kernel, by decide +kernel⟩, List.mem_of_getElem? (i := 12) (by decide +kernel), List.mem_of_getElem? (i := 461) (by decide +kernel), List.mem_of_getElem? (i := 462) (by decide +kernel)⟩
theorem lw_p24 : lw_okq (⟨"TreeCarrierModel", "isSelected", "(I)Z"⟩, 28) := ⟨⟨by decide +kernel, by decide +kernel⟩, List.mem_of_getElem? (i := 510) (by decide +kernel), List.mem_of_getElem? (i := 612) (by decide +kernel), List.mem_of_getElem? (i := 613) (by decide +kernel)⟩
theorem lw_p25 : lw_okq (⟨"TreeCarrierModel", "touch", "(I)V"⟩, 28) := ⟨⟨by decide +kernel, by decide +kernel⟩, List.mem_of_getElem? (i := 510) (by decide +kernel), List.mem_of_getElem? (i := 620) (by decide +kernel), List.mem_of_getElem? (i := 621) (by decide +kernel)⟩
theorem lw_p26 : lw_okq (⟨"TreeCarrierModel", "file", "(II)I"⟩, 28) := ⟨⟨by decide +kernel, by decide +kernel⟩, List.mem_of_getElem? (i := 510) (by decide +kernel), List.mem_of_getElem? (i := 628) (by decide +kernel), List.mem_of_getElem? (i := 629) (by decide +kernel)⟩
theorem lw_p27 : lw_okq (⟨"TreeCarrierModel", "finishAll", "()V"⟩, 28) := ⟨⟨by decide +kernel, by decide +kernel⟩, List.mem_of_getElem? (i := 510) (by decide +kernel), List.mem_of_getElem? (i := 652) (by decide +kernel), List.mem_of_getElem? (i := 653) (by decide +kernel)⟩
theorem lw_p28 : lw_okq (⟨"TreeCarrierModel", "finishRecord", "()V"⟩, 28) := ⟨⟨by decide +kernel, by decide +kernel⟩, List.mem_of_getElem? (i := 510) (by decide +kernel), List.mem_of_getElem? (i := 656) (by decide +kernel), List.mem_of_getElem? (i := 657) (by decide +kernel)⟩
theorem lw_p29 : lw_okq (⟨"TreeCarrierModel", "add", "(I)V"⟩, 28) := ⟨⟨by decide +kernel, by decide +kernel⟩, List.mem_of_getElem? (i := 510) (by decide +kernel), List.mem_of_getElem? (i := 660) (by decide +kernel), List.mem_of_getElem? (i := 661) (by decide +kernel)⟩
theorem lw_p30 : lw_okq (⟨"TreeCarrierModel", "message", "(IIIIII)V"⟩, 28) := ⟨⟨by decide +kernel, by decide +kernel⟩, List.mem_of_getElem? (i := 510) (by decide +kernel), List.mem_of_getElem? (i := 664) (by decide +kernel), List.mem_of_getElem? (i := 665) (by decide +kernel)⟩
theorem lw_p31 : lw_okq (⟨"TreeCarrierModel", "over", "()V"⟩, 28) := ⟨⟨by decide +kernel, by decide +kernel⟩, List.mem_of_getElem? (i := 510) (by decide +kernel), List.mem_of_getElem? (i := 672) (by decide +kernel), List.mem_of_getElem? (i := 673) (by decide +kernel)⟩
def lw_privs_2 : List (MethodName × Nat) := [(⟨"TreeCarrier", "failEntry", "(I)V"⟩, 12), (⟨"TreeCarrier", "hasOpenEntry", "()Z"⟩, 12), (⟨"TreeCarrier", "concludeSession", "()V"⟩, 12), (⟨"TreeCarrier", "deleteUnlisted", "()V"⟩, 12), (⟨"TreeCarrier", "endSession", "()V"⟩, 12), (⟨"TreeCarrier", "answerSignature", "(LTreeCarrier$Message;)V"⟩, 12), (⟨"TreeCarrier", "fillDelta", "(LTreeCarrier$Message;LTreeCarrier$Row;LTreeCarrier$Message;)V"⟩, 12), (⟨"TreeCarrier", "findBlock", "(LTreeCarrier$Row;ILTreeCarrier$Message;)I"⟩, 12), (⟨"TreeCarrierModel", "isSelected", "(I)Z"⟩, 28), (⟨"TreeCarrierModel", "touch", "(I)V"⟩, 28), (⟨"TreeCarrierModel", "file", "(II)I"⟩, 28), (⟨"TreeCarrierModel", "finishAll", "()V"⟩, 28), (⟨"TreeCarrierModel", "finishRecord", "()V"⟩, 28), (⟨"TreeCarrierModel", "add", "(I)V"⟩, 28), (⟨"TreeCarrierModel", "message", "(IIIIII)V"⟩, 28), (⟨"TreeCarrierModel", "over", "()V"⟩, 28)]
theorem lw_r2 : ∀ q ∈ lw_privs_2, lw_okq q := List.forall_mem_cons.mpr ⟨lw_p16, List.forall_mem_cons.mpr ⟨lw_p17, List.forall_mem_cons.mpr ⟨lw_p18, List.forall_mem_cons.mpr ⟨lw_p19, List.forall_mem_cons.mpr ⟨lw_p20, List.forall_mem_cons.mpr ⟨lw_p21, List.forall_mem_cons.mpr ⟨lw_p22, List.forall_mem_cons.mpr ⟨lw_p23, List.forall_mem_cons.mpr ⟨lw_p24, List.forall_mem_cons.mpr ⟨lw_p25, List.forall_mem_cons.mpr ⟨lw_p26, List.forall_mem_cons.mpr ⟨lw_p27, List.forall_mem_cons.mpr ⟨lw_p28, List.forall_mem_cons.mpr ⟨lw_p29, List.forall_mem_cons.mpr ⟨lw_p30, List.forall_mem_cons.mpr ⟨lw_p31, fun _ h => absurd h List.not_mem_nil⟩⟩⟩⟩⟩⟩⟩⟩⟩⟩⟩⟩⟩⟩⟩⟩
theorem lw_p32 : lw_okq (⟨"TreeCarrierModel", "take", "(I)I"⟩, 28) := ⟨⟨by decide +kernel, by decide +kernel⟩, List.mem_of_getElem? (i := 510) (by decide +kernel), List.mem_of_getElem? (i := 680) (by decide +kernel), List.mem_of_getElem? (i := 681) (by decide +kernel)⟩
theorem lw_p33 : lw_okq (⟨"TreeCarrierModel", "note", "(I)V"⟩, 28) := ⟨⟨by decide +kernel, by decide +kernel⟩, List.mem_of_getElem? (i := 510) (by decide +kernel), List.mem_of_getElem? (i := 684) (by decide +kernel), List.mem_of_getElem? (i := 685) (by decide +kernel)⟩
theorem lw_p34 : lw_okq (⟨"TreeCarrierModel", "end", "()V"⟩, 28) := ⟨⟨by decide +kernel, by decide +kernel⟩, List.mem_of_getElem? (i := 510) (by decide +kernel), List.mem_of_getElem? (i := 688) (by decide +kernel), List.mem_of_getElem? (i := 689) (by decide +kernel)⟩
theorem lw_p35 : lw_okq (⟨"TreeCarrierModel", "sendSignature", "(II)V"⟩, 28) := ⟨⟨by decide +kernel, by decide +kernel⟩, List.mem_of_getElem? (i := 510) (by decide +kernel), List.mem_of_getElem? (i := 692) (by decide +kernel), List.mem_of_getElem? (i := 693) (by decide +kernel)⟩
theorem lw_p36 : lw_okq (⟨"TreeCarrierModel", "weak", "(II)I"⟩, 28) := ⟨⟨by decide +kernel, by decide +kernel⟩, List.mem_of_getElem? (i := 510) (by decide +kernel), List.mem_of_getElem? (i := 696) (by decide +kernel), List.mem_of_getElem? (i := 697) (by decide +kernel)⟩
theorem lw_p37 : lw_okq (⟨"TreeCarrierModel", "more", "(I)V"⟩, 28) := ⟨⟨by decide +kernel, by decide +kernel⟩, List.mem_of_getElem? (i := 510) (by decide +kernel), List.mem_of_getElem? (i := 700) (by decide +kernel), List.mem_of_getElem? (i := 701) (by decide +kernel)⟩
theorem lw_p38 : lw_okq (⟨"TreeCarrierModel", "strong", "(III)I"⟩, 28) := ⟨⟨by decide +kernel, by decide +kernel⟩, List.mem_of_getElem? (i := 510) (by decide +kernel), List.mem_of_getElem? (i := 704) (by decide +kernel), List.mem_of_getElem? (i := 705) (by decide +kernel)⟩
theorem lw_p39 : lw_okq (⟨"TreeCarrierModel", "concludeIfDone", "()V"⟩, 28) := ⟨⟨by decide +kernel, by decide +kernel⟩, List.mem_of_getElem? (i := 510) (by decide +kernel), List.mem_of_getElem? (i := 709) (by decide +kernel), List.mem_of_getElem? (i := 710) (by decide +kernel)⟩
theorem lw_p40 : lw_okq (⟨"TreeCarrierModel", "answer", "(I)V"⟩, 28) := ⟨⟨by decide +kernel, by decide +kernel⟩, List.mem_of_getElem? (i := 510) (by decide +kernel), List.mem_of_getElem? (i := 713) (by decide +kernel), List.mem_of_getElem? (i := 714) (by decide +kernel)⟩
theorem lw_p41 : lw_okq (⟨"TreeCarrierModel", "match", "(III)I"⟩, 28) := ⟨⟨by decide +kernel, by decide +kernel⟩, List.mem_of_getElem? (i := 510) (by decide +kernel), List.mem_of_getElem? (i := 719) (by decide +kernel), List.mem_of_getElem? (i := 720) (by decide +kernel)⟩
theorem lw_p42 : lw_okq (⟨"TreeCarrierModel", "delta", "(I)V"⟩, 28) := ⟨⟨by decide +kernel, by decide +kernel⟩, List.mem_of_getElem? (i := 510) (by decide +kernel), List.mem_of_getElem? (i := 723) (by decide +kernel), List.mem_of_getElem? (i := 724) (by decide +kernel)⟩
theorem lw_p43 : lw_okq (⟨"TreeCarrierModel", "entryOf", "(I)I"⟩, 28) := ⟨⟨by decide +kernel, by decide +kernel⟩, List.mem_of_getElem? (i := 510) (by decide +kernel), List.mem_of_getElem? (i := 727) (by decide +kernel), List.mem_of_getElem? (i := 728) (by decide +kernel)⟩
theorem lw_p44 : lw_okq (⟨"TreeCarrierModel", "rebuild", "(I)I"⟩, 28) := ⟨⟨by decide +kernel, by decide +kernel⟩, List.mem_of_getElem? (i := 510) (by decide +kernel), List.mem_of_getElem? (i := 731) (by decide +kernel), List.mem_of_getElem? (i := 732) (by decide +kernel)⟩
def lw_privs_3 : List (MethodName × Nat) := [(⟨"TreeCarrierModel", "take", "(I)I"⟩, 28), (⟨"TreeCarrierModel", "note", "(I)V"⟩, 28), (⟨"TreeCarrierModel", "end", "()V"⟩, 28), (⟨"TreeCarrierModel", "sendSignature", "(II)V"⟩, 28), (⟨"TreeCarrierModel", "weak", "(II)I"⟩, 28), (⟨"TreeCarrierModel", "more", "(I)V"⟩, 28), (⟨"TreeCarrierModel", "strong", "(III)I"⟩, 28), (⟨"TreeCarrierModel", "concludeIfDone", "()V"⟩, 28), (⟨"TreeCarrierModel", "answer", "(I)V"⟩, 28), (⟨"TreeCarrierModel", "match", "(III)I"⟩, 28), (⟨"TreeCarrierModel", "delta", "(I)V"⟩, 28), (⟨"TreeCarrierModel", "entryOf", "(I)I"⟩, 28), (⟨"TreeCarrierModel", "rebuild", "(I)I"⟩, 28)]
theorem lw_r3 : ∀ q ∈ lw_privs_3, lw_okq q := List.forall_mem_cons.mpr ⟨lw_p32, List.forall_mem_cons.mpr ⟨lw_p33, List.forall_mem_cons.mpr ⟨lw_p34, List.forall_mem_cons.mpr ⟨lw_p35, List.forall_mem_cons.mpr ⟨lw_p36, List.forall_mem_cons.mpr ⟨lw_p37, List.forall_mem_cons.mpr ⟨lw_p38, List.forall_mem_cons.mpr ⟨lw_p39, List.forall_mem_cons.mpr ⟨lw_p40, List.forall_mem_cons.mpr ⟨lw_p41, List.forall_mem_cons.mpr ⟨lw_p42, List.forall_mem_cons.mpr ⟨lw_p43, List.forall_mem_cons.mpr ⟨lw_p44, fun _ h => absurd h List.not_mem_nil⟩⟩⟩⟩⟩⟩⟩⟩⟩⟩⟩⟩⟩
def lw_privs : List (MethodName × Nat) := lw_privs_1 ++ (lw_privs_2 ++ (lw_privs_3))
def lw_tbl : List Cond := k2_sels lw_privs ++ tables_1
theorem lw_privs_ok : ∀ q ∈ lw_privs, lw_okq q := by
  show ∀ q ∈ lw_privs_1 ++ (lw_privs_2 ++ (lw_privs_3)), lw_okq q
  exact List.forall_mem_append.mpr ⟨lw_r1, List.forall_mem_append.mpr ⟨lw_r2, lw_r3⟩⟩
end
section
def R_En : String := "TreeCarrier$Entry"
def F_En : u_T := fun k => match k with
  | 0 => ("TreeCarrier$Entry", "noted", "Z", false)
  | 1 => ("TreeCarrier$Entry", "open", "Z", false)
  | 2 => ("TreeCarrier$Entry", "fileSize", "I", false)
  | _ => ("TreeCarrier$Entry", "fileStamp", "I", false)
def t_En : Nat → FieldType := fun k => match k with
  | 0 => .boolean
  | 1 => .boolean
  | 2 => .int
  | _ => .int
theorem n_En : ∀ a, a < 4 → ∀ b, b < 4 → a ≠ b → (F_En a).2.1 ≠ (F_En b).2.1 := by decide +kernel
theorem t_En_ok : ∀ k, k < 4 → parseFieldDescriptor (F_En k).2.2.1 = some (t_En k) := by decide +kernel
def R_Jo : String := "TreeCarrier$Journal"
def F_Jo : u_T := fun k => match k with
  | 0 => ("TreeCarrier$Journal", "ring", "[LTreeCarrier$JournalRecord;", true)
  | 1 => ("TreeCarrier$Journal", "oldest", "I", false)
  | _ => ("TreeCarrier$Journal", "length", "I", false)
def t_Jo : Nat → FieldType := fun k => match k with
  | 0 => .array (.object "TreeCarrier$JournalRecord")
  | 1 => .int
  | _ => .int
theorem n_Jo : ∀ a, a < 3 → ∀ b, b < 3 → a ≠ b → (F_Jo a).2.1 ≠ (F_Jo b).2.1 := by decide +kernel
theorem t_Jo_ok : ∀ k, k < 3 → parseFieldDescriptor (F_Jo k).2.2.1 = some (t_Jo k) := by decide +kernel
def R_Jr : String := "TreeCarrier$JournalRecord"
def F_Jr : u_T := fun k => match k with
  | 0 => ("TreeCarrier$JournalRecord", "row", "LTreeCarrier$Row;", true)
  | 1 => ("TreeCarrier$JournalRecord", "name", "I", false)
  | _ => ("TreeCarrier$JournalRecord", "stamp", "I", false)
def t_Jr : Nat → FieldType := fun k => match k with
  | 0 => .object "TreeCarrier$Row"
  | 1 => .int
  | _ => .int
theorem n_Jr : ∀ a, a < 3 → ∀ b, b < 3 → a ≠ b → (F_Jr a).2.1 ≠ (F_Jr b).2.1 := by decide +kernel
theorem t_Jr_ok : ∀ k, k < 3 → parseFieldDescriptor (F_Jr k).2.2.1 = some (t_Jr k) := by decide +kernel
def R_Li : String := "TreeCarrier$Line"
def F_Li : u_T := fun k => match k with
  | 0 => ("TreeCarrier$Line", "ring", "[LTreeCarrier$Message;", true)
  | 1 => ("TreeCarrier$Line", "oldest", "I", false)
  | _ => ("TreeCarrier$Line", "length", "I", false)
def t_Li : Nat → FieldType := fun k => match k with
  | 0 => .array (.object "TreeCarrier$Message")
  | 1 => .int
  | _ => .int
theorem n_Li : ∀ a, a < 3 → ∀ b, b < 3 → a ≠ b → (F_Li a).2.1 ≠ (F_Li b).2.1 := by decide +kernel
theorem t_Li_ok : ∀ k, k < 3 → parseFieldDescriptor (F_Li k).2.2.1 = some (t_Li k) := by decide +kernel
def R_Ms : String := "TreeCarrier$Message"
def F_Ms : u_T := fun k => match k with
  | 0 => ("TreeCarrier$Message", "kind", "I", false)
  | 1 => ("TreeCarrier$Message", "name", "I", false)
  | 2 => ("TreeCarrier$Message", "fileSize", "I", false)
  | 3 => ("TreeCarrier$Message", "fileStamp", "I", false)
  | 4 => ("TreeCarrier$Message", "attempt", "I", false)
  | 5 => ("TreeCarrier$Message", "digest", "I", false)
  | 6 => ("TreeCarrier$Message", "itemCount", "I", false)
  | _ => ("TreeCarrier$Message", "items", "[I", true)
def t_Ms : Nat → FieldType := fun k => match k with
  | 0 => .int
  | 1 => .int
  | 2 => .int
  | 3 => .int
  | 4 => .int
  | 5 => .int
  | 6 => .int
  | _ => .array (.int)
theorem n_Ms : ∀ a, a < 8 → ∀ b, b < 8 → a ≠ b → (F_Ms a).2.1 ≠ (F_Ms b).2.1 := by decide +kernel
theorem t_Ms_ok : ∀ k, k < 8 → parseFieldDescriptor (F_Ms k).2.2.1 = some (t_Ms k) := by decide +kernel
def R_Ro : String := "TreeCarrier$Row"
def F_Ro : u_T := fun k => match k with
  | 0 => ("TreeCarrier$Row", "bytes", "[I", true)
  | _ => ("TreeCarrier$Row", "length", "I", false)
def t_Ro : Nat → FieldType := fun k => match k with
  | 0 => .array (.int)
  | _ => .int
theorem n_Ro : ∀ a, a < 2 → ∀ b, b < 2 → a ≠ b → (F_Ro a).2.1 ≠ (F_Ro b).2.1 := by decide +kernel
theorem t_Ro_ok : ∀ k, k < 2 → parseFieldDescriptor (F_Ro k).2.2.1 = some (t_Ro k) := by decide +kernel
def R_Ru : String := "TreeCarrier$Rules"
def F_Ru : u_T := fun k => match k with
  | 0 => ("TreeCarrier$Rules", "includes", "[Z", true)
  | 1 => ("TreeCarrier$Rules", "masks", "[I", true)
  | 2 => ("TreeCarrier$Rules", "values", "[I", true)
  | _ => ("TreeCarrier$Rules", "length", "I", false)
def t_Ru : Nat → FieldType := fun k => match k with
  | 0 => .array (.boolean)
  | 1 => .array (.int)
  | 2 => .array (.int)
  | _ => .int
theorem n_Ru : ∀ a, a < 4 → ∀ b, b < 4 → a ≠ b → (F_Ru a).2.1 ≠ (F_Ru b).2.1 := by decide +kernel
theorem t_Ru_ok : ∀ k, k < 4 → parseFieldDescriptor (F_Ru k).2.2.1 = some (t_Ru k) := by decide +kernel
def R_Sf : String := "TreeCarrier$StoredFile"
def F_Sf : u_T := fun k => match k with
  | 0 => ("TreeCarrier$StoredFile", "row", "LTreeCarrier$Row;", true)
  | 1 => ("TreeCarrier$StoredFile", "exists", "Z", false)
  | _ => ("TreeCarrier$StoredFile", "stamp", "I", false)
def t_Sf : Nat → FieldType := fun k => match k with
  | 0 => .object "TreeCarrier$Row"
  | 1 => .boolean
  | _ => .int
theorem n_Sf : ∀ a, a < 3 → ∀ b, b < 3 → a ≠ b → (F_Sf a).2.1 ≠ (F_Sf b).2.1 := by decide +kernel
theorem t_Sf_ok : ∀ k, k < 3 → parseFieldDescriptor (F_Sf k).2.2.1 = some (t_Sf k) := by decide +kernel
def R_TC : String := "TreeCarrier"
def F_TC : u_T := fun k => match k with
  | 0 => ("TreeCarrier", "files", "[LTreeCarrier$StoredFile;", true)
  | 1 => ("TreeCarrier", "rules", "LTreeCarrier$Rules;", true)
  | 2 => ("TreeCarrier", "toSender", "LTreeCarrier$Line;", true)
  | 3 => ("TreeCarrier", "toReceiver", "LTreeCarrier$Line;", true)
  | 4 => ("TreeCarrier", "list", "[LTreeCarrier$Entry;", true)
  | 5 => ("TreeCarrier", "records", "LTreeCarrier$Journal;", true)
  | 6 => ("TreeCarrier", "rebuilt", "LTreeCarrier$Row;", true)
  | 7 => ("TreeCarrier", "counts", "[I", true)
  | 8 => ("TreeCarrier", "clock", "I", false)
  | 9 => ("TreeCarrier", "sessionOn", "Z", false)
  | 10 => ("TreeCarrier", "sessionDeletes", "Z", false)
  | _ => ("TreeCarrier", "blockSize", "I", false)
def t_TC : Nat → FieldType := fun k => match k with
  | 0 => .array (.object "TreeCarrier$StoredFile")
  | 1 => .object "TreeCarrier$Rules"
  | 2 => .object "TreeCarrier$Line"
  | 3 => .object "TreeCarrier$Line"
  | 4 => .array (.object "TreeCarrier$Entry")
  | 5 => .object "TreeCarrier$Journal"
  | 6 => .object "TreeCarrier$Row"
  | 7 => .array (.int)
  | 8 => .int
  | 9 => .boolean
  | 10 => .boolean
  | _ => .int
theorem n_TC : ∀ a, a < 12 → ∀ b, b < 12 → a ≠ b → (F_TC a).2.1 ≠ (F_TC b).2.1 := by decide +kernel
theorem t_TC_ok : ∀ k, k < 12 → parseFieldDescriptor (F_TC k).2.2.1 = some (t_TC k) := by decide +kernel
def R_MD : String := "TreeCarrierModel"
def F_MD : u_T := fun k => match k with
  | 0 => ("TreeCarrierModel", "there", "[Z", false)
  | 1 => ("TreeCarrierModel", "size", "[I", false)
  | 2 => ("TreeCarrierModel", "time", "[I", false)
  | 3 => ("TreeCarrierModel", "bytes", "[I", false)
  | 4 => ("TreeCarrierModel", "clock", "I", false)
  | 5 => ("TreeCarrierModel", "rules", "I", false)
  | 6 => ("TreeCarrierModel", "include", "[Z", false)
  | 7 => ("TreeCarrierModel", "mask", "[I", false)
  | 8 => ("TreeCarrierModel", "value", "[I", false)
  | 9 => ("TreeCarrierModel", "on", "Z", false)
  | 10 => ("TreeCarrierModel", "block", "I", false)
  | 11 => ("TreeCarrierModel", "deletes", "Z", false)
  | 12 => ("TreeCarrierModel", "noted", "I", false)
  | 13 => ("TreeCarrierModel", "listName", "[I", false)
  | 14 => ("TreeCarrierModel", "listSize", "[I", false)
  | 15 => ("TreeCarrierModel", "listTime", "[I", false)
  | 16 => ("TreeCarrierModel", "open", "[Z", false)
  | 17 => ("TreeCarrierModel", "waits", "[I", false)
  | 18 => ("TreeCarrierModel", "cells", "[I", false)
  | 19 => ("TreeCarrierModel", "used", "I", false)
  | 20 => ("TreeCarrierModel", "records", "I", false)
  | 21 => ("TreeCarrierModel", "recordName", "[I", false)
  | 22 => ("TreeCarrierModel", "recordTime", "[I", false)
  | 23 => ("TreeCarrierModel", "recordSize", "[I", false)
  | 24 => ("TreeCarrierModel", "recordBytes", "[I", false)
  | 25 => ("TreeCarrierModel", "rebuilt", "[I", false)
  | 26 => ("TreeCarrierModel", "rebuiltSize", "I", false)
  | _ => ("TreeCarrierModel", "counts", "[I", false)
def t_MD : Nat → FieldType := fun k => match k with
  | 0 => .array (.boolean)
  | 1 => .array (.int)
  | 2 => .array (.int)
  | 3 => .array (.int)
  | 4 => .int
  | 5 => .int
  | 6 => .array (.boolean)
  | 7 => .array (.int)
  | 8 => .array (.int)
  | 9 => .boolean
  | 10 => .int
  | 11 => .boolean
  | 12 => .int
  | 13 => .array (.int)
  | 14 => .array (.int)
  | 15 => .array (.int)
  | 16 => .array (.boolean)
  | 17 => .array (.int)
  | 18 => .array (.int)
  | 19 => .int
  | 20 => .int
  | 21 => .array (.int)
  | 22 => .array (.int)
  | 23 => .array (.int)
  | 24 => .array (.int)
  | 25 => .array (.int)
  | 26 => .int
  | _ => .array (.int)
theorem n_MD : ∀ a, a < 28 → ∀ b, b < 28 → a ≠ b → (F_MD a).2.1 ≠ (F_MD b).2.1 := by decide +kernel
theorem t_MD_ok : ∀ k, k < 28 → parseFieldDescriptor (F_MD k).2.2.1 = some (t_MD k) := by decide +kernel
def R_LW : String := "TreeCarrierLaw"
abbrev mCl : List vw_C := [(R_En, F_En, 4), (R_Jo, F_Jo, 3), (R_Jr, F_Jr, 3), (R_Li, F_Li, 3), (R_Ms, F_Ms, 8), (R_Ro, F_Ro, 2), (R_Ru, F_Ru, 4), (R_Sf, F_Sf, 3), (R_TC, F_TC, 12), (R_MD, F_MD, 28)]
def lw_nest : List Cond := [(Jvm.Cond.methodLinkNest "TreeCarrier" (17 : Nat) ({ cls := "TreeCarrier$Rules", name := "<init>", desc := "()V" } : Jvm.MethodName) "TreeCarrier"), (Jvm.Cond.methodLinkNest "TreeCarrier$Line" (24 : Nat) ({ cls := "TreeCarrier$Message", name := "<init>", desc := "()V" } : Jvm.MethodName) "TreeCarrier"), (Jvm.Cond.fieldLinkNest "TreeCarrier$Line" (29 : Nat) "TreeCarrier$Message" "kind" "I" "TreeCarrier"), (Jvm.Cond.fieldLinkNest "TreeCarrier" (134 : Nat) "TreeCarrier$Message" "kind" "I" "TreeCarrier"), (Jvm.Cond.fieldLinkNest "TreeCarrier" (188 : Nat) "TreeCarrier$Message" "name" "I" "TreeCarrier"), (Jvm.Cond.fieldLinkNest "TreeCarrier" (173 : Nat) "TreeCarrier$Message" "fileSize" "I" "TreeCarrier"), (Jvm.Cond.fieldLinkNest "TreeCarrier" (176 : Nat) "TreeCarrier$Message" "fileStamp" "I" "TreeCarrier"), (Jvm.Cond.fieldLinkNest "TreeCarrier" (219 : Nat) "TreeCarrier$Message" "attempt" "I" "TreeCarrier"), (Jvm.Cond.fieldLinkNest "TreeCarrier" (232 : Nat) "TreeCarrier$Message" "digest" "I" "TreeCarrier"), (Jvm.Cond.fieldLinkNest "TreeCarrier" (242 : Nat) "TreeCarrier$Message" "itemCount" "I" "TreeCarrier"), (Jvm.Cond.fieldLinkNest "TreeCarrier" (245 : Nat) "TreeCarrier$Message" "items" "[I" "TreeCarrier"), (Jvm.Cond.fieldLinkNest "TreeCarrier" (165 : Nat) "TreeCarrier$Line" "length" "I" "TreeCarrier"), (Jvm.Cond.methodLinkNest "TreeCarrier$Journal" (24 : Nat) ({ cls := "TreeCarrier$JournalRecord", name := "<init>", desc := "()V" } : Jvm.MethodName) "TreeCarrier"), (Jvm.Cond.methodLinkNest "TreeCarrier$JournalRecord" (9 : Nat) ({ cls := "TreeCarrier$Row", name := "<init>", desc := "()V" } : Jvm.MethodName) "TreeCarrier"), (Jvm.Cond.fieldLinkNest "TreeCarrier$Entry" (29 : Nat) "TreeCarrier$Row" "length" "I" "TreeCarrier"), (Jvm.Cond.fieldLinkNest "TreeCarrier" (152 : Nat) "TreeCarrier$Row" "length" "I" "TreeCarrier"), (Jvm.Cond.fieldLinkNest "TreeCarrier$Journal" (28 : Nat) "TreeCarrier$JournalRecord" "row" "LTreeCarrier$Row;" "TreeCarrier"), (Jvm.Cond.fieldLinkNest "TreeCarrier" (268 : Nat) "TreeCarrier$JournalRecord" "row" "LTreeCarrier$Row;" "TreeCarrier"), (Jvm.Cond.fieldLinkNest "TreeCarrier$Journal" (25 : Nat) "TreeCarrier$JournalRecord" "name" "I" "TreeCarrier"), (Jvm.Cond.fieldLinkNest "TreeCarrier" (265 : Nat) "TreeCarrier$JournalRecord" "name" "I" "TreeCarrier"), (Jvm.Cond.fieldLinkNest "TreeCarrier$Journal" (38 : Nat) "TreeCarrier$JournalRecord" "stamp" "I" "TreeCarrier"), (Jvm.Cond.fieldLinkNest "TreeCarrier" (273 : Nat) "TreeCarrier$JournalRecord" "stamp" "I" "TreeCarrier"), (Jvm.Cond.fieldLinkNest "TreeCarrier" (169 : Nat) "TreeCarrier$Journal" "length" "I" "TreeCarrier"), (Jvm.Cond.methodLinkNest "TreeCarrier" (47 : Nat) ({ cls := "TreeCarrier$Row", name := "<init>", desc := "()V" } : Jvm.MethodName) "TreeCarrier"), (Jvm.Cond.methodLinkNest "TreeCarrier" (70 : Nat) ({ cls := "TreeCarrier$StoredFile", name := "<init>", desc := "()V" } : Jvm.MethodName) "TreeCarrier"), (Jvm.Cond.methodLinkNest "TreeCarrier$StoredFile" (9 : Nat) ({ cls := "TreeCarrier$Row", name := "<init>", desc := "()V" } : Jvm.MethodName) "TreeCarrier"), (Jvm.Cond.fieldLinkNest "TreeCarrier$Entry" (23 : Nat) "TreeCarrier$StoredFile" "row" "LTreeCarrier$Row;" "TreeCarrier"), (Jvm.Cond.fieldLinkNest "TreeCarrier" (87 : Nat) "TreeCarrier$StoredFile" "row" "LTreeCarrier$Row;" "TreeCarrier"), (Jvm.Cond.fieldLinkNest "TreeCarrier" (94 : Nat) "TreeCarrier$StoredFile" "exists" "Z" "TreeCarrier"), (Jvm.Cond.fieldLinkNest "TreeCarrier$Entry" (34 : Nat) "TreeCarrier$StoredFile" "stamp" "I" "TreeCarrier"), (Jvm.Cond.fieldLinkNest "TreeCarrier" (104 : Nat) "TreeCarrier$StoredFile" "stamp" "I" "TreeCarrier"), (Jvm.Cond.methodLinkNest "TreeCarrier" (71 : Nat) ({ cls := "TreeCarrier$Entry", name := "<init>", desc := "()V" } : Jvm.MethodName) "TreeCarrier"), (Jvm.Cond.fieldLinkNest "TreeCarrier" (204 : Nat) "TreeCarrier$Entry" "noted" "Z" "TreeCarrier"), (Jvm.Cond.fieldLinkNest "TreeCarrier" (213 : Nat) "TreeCarrier$Entry" "open" "Z" "TreeCarrier"), (Jvm.Cond.fieldLinkNest "TreeCarrier" (207 : Nat) "TreeCarrier$Entry" "fileSize" "I" "TreeCarrier"), (Jvm.Cond.fieldLinkNest "TreeCarrier" (208 : Nat) "TreeCarrier$Entry" "fileStamp" "I" "TreeCarrier")]
abbrev c_En_init : ByteArray := prog_2_method_1_code
def y_En_init : MethodName := ⟨"TreeCarrier$Entry", "<init>", "()V"⟩
abbrev c_En_agreesWith : ByteArray := prog_2_method_2_code
def y_En_agreesWith : MethodName := ⟨"TreeCarrier$Entry", "agreesWith", "(LTreeCarrier$StoredFile;)Z"⟩
abbrev c_En_forget : ByteArray := prog_2_method_3_code
def y_En_forget : MethodName := ⟨"TreeCarrier$Entry", "forget", "()V"⟩
abbrev c_Jo_init : ByteArray := prog_3_method_1_code
def y_Jo_init : MethodName := ⟨"TreeCarrier$Journal", "<init>", "()V"⟩
abbrev c_Jo_append : ByteArray := prog_3_method_2_code
def y_Jo_append : MethodName := ⟨"TreeCarrier$Journal", "append", "(ILTreeCarrier$Row;I)V"⟩
abbrev c_Jo_take : ByteArray := prog_3_method_3_code
def y_Jo_take : MethodName := ⟨"TreeCarrier$Journal", "take", "()LTreeCarrier$JournalRecord;"⟩
abbrev c_Jr_init : ByteArray := prog_4_method_1_code
def y_Jr_init : MethodName := ⟨"TreeCarrier$JournalRecord", "<init>", "()V"⟩
abbrev c_Li_init : ByteArray := prog_5_method_1_code
def y_Li_init : MethodName := ⟨"TreeCarrier$Line", "<init>", "()V"⟩
abbrev c_Li_append : ByteArray := prog_5_method_2_code
def y_Li_append : MethodName := ⟨"TreeCarrier$Line", "append", "(II)LTreeCarrier$Message;"⟩
abbrev c_Li_take : ByteArray := prog_5_method_3_code
def y_Li_take : MethodName := ⟨"TreeCarrier$Line", "take", "()LTreeCarrier$Message;"⟩
abbrev c_Li_oldestKind : ByteArray := prog_5_method_4_code
def y_Li_oldestKind : MethodName := ⟨"TreeCarrier$Line", "oldestKind", "()I"⟩
abbrev c_Li_clear : ByteArray := prog_5_method_5_code
def y_Li_clear : MethodName := ⟨"TreeCarrier$Line", "clear", "()V"⟩
abbrev c_Ms_init : ByteArray := prog_6_method_1_code
def y_Ms_init : MethodName := ⟨"TreeCarrier$Message", "<init>", "()V"⟩
abbrev c_Ms_startAs : ByteArray := prog_6_method_2_code
def y_Ms_startAs : MethodName := ⟨"TreeCarrier$Message", "startAs", "(II)V"⟩
abbrev c_Ms_addItem : ByteArray := prog_6_method_3_code
def y_Ms_addItem : MethodName := ⟨"TreeCarrier$Message", "addItem", "(I)V"⟩
abbrev c_Ro_init : ByteArray := prog_7_method_1_code
def y_Ro_init : MethodName := ⟨"TreeCarrier$Row", "<init>", "()V"⟩
abbrev c_Ro_isFull : ByteArray := prog_7_method_2_code
def y_Ro_isFull : MethodName := ⟨"TreeCarrier$Row", "isFull", "()Z"⟩
abbrev c_Ro_holds : ByteArray := prog_7_method_3_code
def y_Ro_holds : MethodName := ⟨"TreeCarrier$Row", "holds", "(I)Z"⟩
abbrev c_Ro_byteAt : ByteArray := prog_7_method_4_code
def y_Ro_byteAt : MethodName := ⟨"TreeCarrier$Row", "byteAt", "(I)I"⟩
abbrev c_Ro_clear : ByteArray := prog_7_method_5_code
def y_Ro_clear : MethodName := ⟨"TreeCarrier$Row", "clear", "()V"⟩
abbrev c_Ro_append : ByteArray := prog_7_method_6_code
def y_Ro_append : MethodName := ⟨"TreeCarrier$Row", "append", "(I)V"⟩
abbrev c_Ro_replace : ByteArray := prog_7_method_7_code
def y_Ro_replace : MethodName := ⟨"TreeCarrier$Row", "replace", "(II)V"⟩
abbrev c_Ro_appendPart : ByteArray := prog_7_method_8_code
def y_Ro_appendPart : MethodName := ⟨"TreeCarrier$Row", "appendPart", "(LTreeCarrier$Row;II)V"⟩
abbrev c_Ro_become : ByteArray := prog_7_method_9_code
def y_Ro_become : MethodName := ⟨"TreeCarrier$Row", "become", "(LTreeCarrier$Row;)V"⟩
abbrev c_Ro_sums : ByteArray := prog_7_method_10_code
def y_Ro_sums : MethodName := ⟨"TreeCarrier$Row", "sums", "(III)I"⟩
abbrev c_Ro_weakSum : ByteArray := prog_7_method_11_code
def y_Ro_weakSum : MethodName := ⟨"TreeCarrier$Row", "weakSum", "(II)I"⟩
abbrev c_Ro_strongSum : ByteArray := prog_7_method_12_code
def y_Ro_strongSum : MethodName := ⟨"TreeCarrier$Row", "strongSum", "(II)I"⟩
abbrev c_Ro_digest : ByteArray := prog_7_method_13_code
def y_Ro_digest : MethodName := ⟨"TreeCarrier$Row", "digest", "()I"⟩
abbrev c_Ru_init : ByteArray := prog_8_method_1_code
def y_Ru_init : MethodName := ⟨"TreeCarrier$Rules", "<init>", "()V"⟩
abbrev c_Ru_append : ByteArray := prog_8_method_2_code
def y_Ru_append : MethodName := ⟨"TreeCarrier$Rules", "append", "(ZII)Z"⟩
abbrev c_Ru_select : ByteArray := prog_8_method_3_code
def y_Ru_select : MethodName := ⟨"TreeCarrier$Rules", "select", "(I)Z"⟩
abbrev c_Sf_init : ByteArray := prog_9_method_1_code
def y_Sf_init : MethodName := ⟨"TreeCarrier$StoredFile", "<init>", "()V"⟩
abbrev c_Sf_erase : ByteArray := prog_9_method_2_code
def y_Sf_erase : MethodName := ⟨"TreeCarrier$StoredFile", "erase", "()V"⟩
abbrev c_TC_init : ByteArray := prog_1_method_1_code
def y_TC_init : MethodName := ⟨"TreeCarrier", "<init>", "()V"⟩
abbrev c_TC_rule : ByteArray := prog_1_method_2_code
def y_TC_rule : MethodName := ⟨"TreeCarrier", "rule", "(ZII)Z"⟩
abbrev c_TC_put : ByteArray := prog_1_method_3_code
def y_TC_put : MethodName := ⟨"TreeCarrier", "put", "(III)Z"⟩
abbrev c_TC_set : ByteArray := prog_1_method_4_code
def y_TC_set : MethodName := ⟨"TreeCarrier", "set", "(IIII)Z"⟩
abbrev c_TC_remove : ByteArray := prog_1_method_5_code
def y_TC_remove : MethodName := ⟨"TreeCarrier", "remove", "(II)Z"⟩
abbrev c_TC_begin : ByteArray := prog_1_method_6_code
def y_TC_begin : MethodName := ⟨"TreeCarrier", "begin", "(IZ)Z"⟩
abbrev c_TC_deliver : ByteArray := prog_1_method_7_code
def y_TC_deliver : MethodName := ⟨"TreeCarrier", "deliver", "(I)I"⟩
abbrev c_TC_crash : ByteArray := prog_1_method_8_code
def y_TC_crash : MethodName := ⟨"TreeCarrier", "crash", "()Z"⟩
abbrev c_TC_on : ByteArray := prog_1_method_9_code
def y_TC_on : MethodName := ⟨"TreeCarrier", "on", "()Z"⟩
abbrev c_TC_size : ByteArray := prog_1_method_10_code
def y_TC_size : MethodName := ⟨"TreeCarrier", "size", "(II)I"⟩
abbrev c_TC_at : ByteArray := prog_1_method_11_code
def y_TC_at : MethodName := ⟨"TreeCarrier", "at", "(III)I"⟩
abbrev c_TC_time : ByteArray := prog_1_method_12_code
def y_TC_time : MethodName := ⟨"TreeCarrier", "time", "(II)I"⟩
abbrev c_TC_selected : ByteArray := prog_1_method_13_code
def y_TC_selected : MethodName := ⟨"TreeCarrier", "selected", "(I)Z"⟩
abbrev c_TC_waiting : ByteArray := prog_1_method_14_code
def y_TC_waiting : MethodName := ⟨"TreeCarrier", "waiting", "(I)I"⟩
abbrev c_TC_next : ByteArray := prog_1_method_15_code
def y_TC_next : MethodName := ⟨"TreeCarrier", "next", "(I)I"⟩
abbrev c_TC_journal : ByteArray := prog_1_method_16_code
def y_TC_journal : MethodName := ⟨"TreeCarrier", "journal", "()I"⟩
abbrev c_TC_count : ByteArray := prog_1_method_17_code
def y_TC_count : MethodName := ⟨"TreeCarrier", "count", "(I)I"⟩
abbrev c_TC_isName : ByteArray := prog_1_method_18_code
def y_TC_isName : MethodName := ⟨"TreeCarrier", "isName", "(I)Z"⟩
abbrev c_TC_isByte : ByteArray := prog_1_method_19_code
def y_TC_isByte : MethodName := ⟨"TreeCarrier", "isByte", "(I)Z"⟩
abbrev c_TC_isMask : ByteArray := prog_1_method_20_code
def y_TC_isMask : MethodName := ⟨"TreeCarrier", "isMask", "(I)Z"⟩
abbrev c_TC_slotOf : ByteArray := prog_1_method_21_code
def y_TC_slotOf : MethodName := ⟨"TreeCarrier", "slotOf", "(II)LTreeCarrier$StoredFile;"⟩
abbrev c_TC_fileOf : ByteArray := prog_1_method_22_code
def y_TC_fileOf : MethodName := ⟨"TreeCarrier", "fileOf", "(II)LTreeCarrier$StoredFile;"⟩
abbrev c_TC_lineOf : ByteArray := prog_1_method_23_code
def y_TC_lineOf : MethodName := ⟨"TreeCarrier", "lineOf", "(I)LTreeCarrier$Line;"⟩
abbrev c_TC_entryOf : ByteArray := prog_1_method_24_code
def y_TC_entryOf : MethodName := ⟨"TreeCarrier", "entryOf", "(I)LTreeCarrier$Entry;"⟩
abbrev c_TC_tick : ByteArray := prog_1_method_25_code
def y_TC_tick : MethodName := ⟨"TreeCarrier", "tick", "()I"⟩
abbrev c_TC_sendEntries : ByteArray := prog_1_method_26_code
def y_TC_sendEntries : MethodName := ⟨"TreeCarrier", "sendEntries", "()V"⟩
abbrev c_TC_receive : ByteArray := prog_1_method_27_code
def y_TC_receive : MethodName := ⟨"TreeCarrier", "receive", "(LTreeCarrier$Message;)V"⟩
abbrev c_TC_noteEntry : ByteArray := prog_1_method_28_code
def y_TC_noteEntry : MethodName := ⟨"TreeCarrier", "noteEntry", "(LTreeCarrier$Message;)V"⟩
abbrev c_TC_openEntries : ByteArray := prog_1_method_29_code
def y_TC_openEntries : MethodName := ⟨"TreeCarrier", "openEntries", "()V"⟩
abbrev c_TC_hasOpenEntry : ByteArray := prog_1_method_30_code
def y_TC_hasOpenEntry : MethodName := ⟨"TreeCarrier", "hasOpenEntry", "()Z"⟩
abbrev c_TC_sendSignature : ByteArray := prog_1_method_31_code
def y_TC_sendSignature : MethodName := ⟨"TreeCarrier", "sendSignature", "(II)V"⟩
abbrev c_TC_answerSignature : ByteArray := prog_1_method_32_code
def y_TC_answerSignature : MethodName := ⟨"TreeCarrier", "answerSignature", "(LTreeCarrier$Message;)V"⟩
abbrev c_TC_fillDelta : ByteArray := prog_1_method_33_code
def y_TC_fillDelta : MethodName := ⟨"TreeCarrier", "fillDelta", "(LTreeCarrier$Message;LTreeCarrier$Row;LTreeCarrier$Message;)V"⟩
abbrev c_TC_findBlock : ByteArray := prog_1_method_34_code
def y_TC_findBlock : MethodName := ⟨"TreeCarrier", "findBlock", "(LTreeCarrier$Row;ILTreeCarrier$Message;)I"⟩
abbrev c_TC_receiveDelta : ByteArray := prog_1_method_35_code
def y_TC_receiveDelta : MethodName := ⟨"TreeCarrier", "receiveDelta", "(LTreeCarrier$Message;)V"⟩
abbrev c_TC_rebuild : ByteArray := prog_1_method_36_code
def y_TC_rebuild : MethodName := ⟨"TreeCarrier", "rebuild", "(LTreeCarrier$Row;LTreeCarrier$Message;)V"⟩
abbrev c_TC_failEntry : ByteArray := prog_1_method_37_code
def y_TC_failEntry : MethodName := ⟨"TreeCarrier", "failEntry", "(I)V"⟩
abbrev c_TC_doOldestRecord : ByteArray := prog_1_method_38_code
def y_TC_doOldestRecord : MethodName := ⟨"TreeCarrier", "doOldestRecord", "()V"⟩
abbrev c_TC_doAllRecords : ByteArray := prog_1_method_39_code
def y_TC_doAllRecords : MethodName := ⟨"TreeCarrier", "doAllRecords", "()V"⟩
abbrev c_TC_concludeSession : ByteArray := prog_1_method_40_code
def y_TC_concludeSession : MethodName := ⟨"TreeCarrier", "concludeSession", "()V"⟩
abbrev c_TC_deleteUnlisted : ByteArray := prog_1_method_41_code
def y_TC_deleteUnlisted : MethodName := ⟨"TreeCarrier", "deleteUnlisted", "()V"⟩
abbrev c_TC_endSession : ByteArray := prog_1_method_42_code
def y_TC_endSession : MethodName := ⟨"TreeCarrier", "endSession", "()V"⟩
abbrev c_MD_init : ByteArray := prog_11_method_1_code
def y_MD_init : MethodName := ⟨"TreeCarrierModel", "<init>", "()V"⟩
abbrev c_MD_in : ByteArray := prog_11_method_2_code
def y_MD_in : MethodName := ⟨"TreeCarrierModel", "in", "(II)Z"⟩
abbrev c_MD_add : ByteArray := prog_11_method_3_code
def y_MD_add : MethodName := ⟨"TreeCarrierModel", "add", "(I)V"⟩
abbrev c_MD_rule : ByteArray := prog_11_method_4_code
def y_MD_rule : MethodName := ⟨"TreeCarrierModel", "rule", "(ZII)Z"⟩
abbrev c_MD_isSelected : ByteArray := prog_11_method_5_code
def y_MD_isSelected : MethodName := ⟨"TreeCarrierModel", "isSelected", "(I)Z"⟩
abbrev c_MD_selected : ByteArray := prog_11_method_6_code
def y_MD_selected : MethodName := ⟨"TreeCarrierModel", "selected", "(I)Z"⟩
abbrev c_MD_file : ByteArray := prog_11_method_7_code
def y_MD_file : MethodName := ⟨"TreeCarrierModel", "file", "(II)I"⟩
abbrev c_MD_touch : ByteArray := prog_11_method_8_code
def y_MD_touch : MethodName := ⟨"TreeCarrierModel", "touch", "(I)V"⟩
abbrev c_MD_put : ByteArray := prog_11_method_9_code
def y_MD_put : MethodName := ⟨"TreeCarrierModel", "put", "(III)Z"⟩
abbrev c_MD_set : ByteArray := prog_11_method_10_code
def y_MD_set : MethodName := ⟨"TreeCarrierModel", "set", "(IIII)Z"⟩
abbrev c_MD_remove : ByteArray := prog_11_method_11_code
def y_MD_remove : MethodName := ⟨"TreeCarrierModel", "remove", "(II)Z"⟩
abbrev c_MD_size : ByteArray := prog_11_method_12_code
def y_MD_size : MethodName := ⟨"TreeCarrierModel", "size", "(II)I"⟩
abbrev c_MD_at : ByteArray := prog_11_method_13_code
def y_MD_at : MethodName := ⟨"TreeCarrierModel", "at", "(III)I"⟩
abbrev c_MD_time : ByteArray := prog_11_method_14_code
def y_MD_time : MethodName := ⟨"TreeCarrierModel", "time", "(II)I"⟩
abbrev c_MD_weak : ByteArray := prog_11_method_15_code
def y_MD_weak : MethodName := ⟨"TreeCarrierModel", "weak", "(II)I"⟩
abbrev c_MD_strong : ByteArray := prog_11_method_16_code
def y_MD_strong : MethodName := ⟨"TreeCarrierModel", "strong", "(III)I"⟩
abbrev c_MD_message : ByteArray := prog_11_method_17_code
def y_MD_message : MethodName := ⟨"TreeCarrierModel", "message", "(IIIIII)V"⟩
abbrev c_MD_more : ByteArray := prog_11_method_18_code
def y_MD_more : MethodName := ⟨"TreeCarrierModel", "more", "(I)V"⟩
abbrev c_MD_sendSignature : ByteArray := prog_11_method_19_code
def y_MD_sendSignature : MethodName := ⟨"TreeCarrierModel", "sendSignature", "(II)V"⟩
abbrev c_MD_finishRecord : ByteArray := prog_11_method_20_code
def y_MD_finishRecord : MethodName := ⟨"TreeCarrierModel", "finishRecord", "()V"⟩
abbrev c_MD_finishAll : ByteArray := prog_11_method_21_code
def y_MD_finishAll : MethodName := ⟨"TreeCarrierModel", "finishAll", "()V"⟩
abbrev c_MD_begin : ByteArray := prog_11_method_22_code
def y_MD_begin : MethodName := ⟨"TreeCarrierModel", "begin", "(IZ)Z"⟩
abbrev c_MD_over : ByteArray := prog_11_method_23_code
def y_MD_over : MethodName := ⟨"TreeCarrierModel", "over", "()V"⟩
abbrev c_MD_crash : ByteArray := prog_11_method_24_code
def y_MD_crash : MethodName := ⟨"TreeCarrierModel", "crash", "()Z"⟩
abbrev c_MD_concludeIfDone : ByteArray := prog_11_method_25_code
def y_MD_concludeIfDone : MethodName := ⟨"TreeCarrierModel", "concludeIfDone", "()V"⟩
abbrev c_MD_entryOf : ByteArray := prog_11_method_26_code
def y_MD_entryOf : MethodName := ⟨"TreeCarrierModel", "entryOf", "(I)I"⟩
abbrev c_MD_end : ByteArray := prog_11_method_27_code
def y_MD_end : MethodName := ⟨"TreeCarrierModel", "end", "()V"⟩
abbrev c_MD_match : ByteArray := prog_11_method_28_code
def y_MD_match : MethodName := ⟨"TreeCarrierModel", "match", "(III)I"⟩
abbrev c_MD_answer : ByteArray := prog_11_method_29_code
def y_MD_answer : MethodName := ⟨"TreeCarrierModel", "answer", "(I)V"⟩
abbrev c_MD_rebuild : ByteArray := prog_11_method_30_code
def y_MD_rebuild : MethodName := ⟨"TreeCarrierModel", "rebuild", "(I)I"⟩
abbrev c_MD_delta : ByteArray := prog_11_method_31_code
def y_MD_delta : MethodName := ⟨"TreeCarrierModel", "delta", "(I)V"⟩
abbrev c_MD_note : ByteArray := prog_11_method_32_code
def y_MD_note : MethodName := ⟨"TreeCarrierModel", "note", "(I)V"⟩
abbrev c_MD_take : ByteArray := prog_11_method_33_code
def y_MD_take : MethodName := ⟨"TreeCarrierModel", "take", "(I)I"⟩
abbrev c_MD_deliver : ByteArray := prog_11_method_34_code
def y_MD_deliver : MethodName := ⟨"TreeCarrierModel", "deliver", "(I)I"⟩
abbrev c_MD_on : ByteArray := prog_11_method_35_code
def y_MD_on : MethodName := ⟨"TreeCarrierModel", "on", "()Z"⟩
abbrev c_MD_waiting : ByteArray := prog_11_method_36_code
def y_MD_waiting : MethodName := ⟨"TreeCarrierModel", "waiting", "(I)I"⟩
abbrev c_MD_next : ByteArray := prog_11_method_37_code
def y_MD_next : MethodName := ⟨"TreeCarrierModel", "next", "(I)I"⟩
abbrev c_MD_journal : ByteArray := prog_11_method_38_code
def y_MD_journal : MethodName := ⟨"TreeCarrierModel", "journal", "()I"⟩
abbrev c_MD_count : ByteArray := prog_11_method_39_code
def y_MD_count : MethodName := ⟨"TreeCarrierModel", "count", "(I)I"⟩
end
section
/-! The small machine: values are numbers or references, cells are objects (class number, fields) or arrays (kind, length, contents); a memory is (heap size, slots made, cells). -/
abbrev m_V : Type := Int32 ⊕ Option Nat
abbrev m_E : Type := (Nat × List m_V) ⊕ (Nat × Nat × ((Nat → Int32) ⊕ (Nat → Option Nat)))
abbrev m_M : Type := Nat × Nat × (Nat → Option m_E)
abbrev m_R : Type := Option m_V × m_M
abbrev m_C : Type := List (Option m_V) × List m_V × m_M
abbrev m_S : Type := m_C → Option m_C
abbrev m_O : Type := m_C → Option ((Nat × m_C) ⊕ m_R)
abbrev m_B : Type := Nat × List m_S × m_O
def lget : List (Option m_V) → Nat → Option m_V
  | [], _ => none
  | x :: _, 0 => x
  | _ :: t, n + 1 => lget t n
def lput : List (Option m_V) → Nat → m_V → List (Option m_V)
  | [], _, _ => []
  | _ :: t, 0, v => some v :: t
  | x :: t, n + 1, v => x :: lput t n v
def mt_l0 : Nat → List m_V → List (Option m_V)
  | 0, _ => []
  | n + 1, [] => none :: mt_l0 n []
  | n + 1, v :: t => some v :: mt_l0 n t
def mt_pop : Nat → List m_V → List m_V → Option (List m_V × List m_V)
  | 0, acc, st => some (acc, st)
  | _ + 1, _, [] => none
  | n + 1, acc, x :: st => mt_pop n (x :: acc) st
def fnth : List m_V → Nat → Option m_V
  | [], _ => none
  | x :: _, 0 => some x
  | _ :: t, n + 1 => fnth t n
def fset : List m_V → Nat → m_V → List m_V
  | [], _, _ => []
  | _ :: t, 0, v => v :: t
  | x :: t, n + 1, v => x :: fset t n v
def mt_cd : List m_B → Nat → Option (List m_S × m_O)
  | [], _ => none
  | x :: t, i => if x.1 = i then some x.2 else mt_cd t i
def mt_seq : List m_S → m_C → Option m_C
  | [], q => some q
  | o :: t, q => match o q with
    | some q' => mt_seq t q'
    | none => none
def mt_b (x : List m_S × m_O) (q : m_C) : Option ((Nat × m_C) ⊕ m_R) := match mt_seq x.1 q with
  | some q' => x.2 q'
  | none => none
def mt_run (code : List m_B) : Nat → Nat → m_C → Option m_R
  | 0, _, _ => none
  | n + 1, pc, q => match mt_cd code pc with
    | none => none
    | some x => match mt_b x q with
      | none => none
      | some (.inl y) => mt_run code n y.1 y.2
      | some (.inr r) => some r
theorem mt_run_mono {code : List m_B} {r : m_R} : ∀ (n k pc : Nat) (q : m_C), n ≤ k → mt_run code n pc q = some r → mt_run code k pc q = some r
  | 0, _, _, _, _, h => by simp [mt_run] at h
  | n + 1, 0, _, _, hk, _ => by omega
  | n + 1, k + 1, pc, q, hk, h => by
    simp only [mt_run] at h ⊢
    cases h1 : mt_cd code pc with
    | none => simp [h1] at h
    | some x =>
      simp only [h1] at h ⊢
      cases h2 : mt_b x q with
      | none => simp [h2] at h
      | some z =>
        simp only [h2] at h ⊢
        cases z with
        | inl y => exact mt_run_mono n k _ _ (by omega) h
        | inr r' => exact h
noncomputable def mt_lim (g : Nat → Option m_R) : Option m_R := @dite _ (∃ n, (g n).isSome = true) (Classical.propDecidable _) (fun h => g (Classical.choose h)) (fun _ => none)
noncomputable def mt_sem (code : List m_B) (nL : Nat) (av : List m_V) (M : m_M) : Option m_R := mt_lim (fun n => mt_run code n 0 (mt_l0 nL av, [], M))
theorem mt_lim_some {g : Nat → Option m_R} {r : m_R} (h : mt_lim g = some r) : ∃ n, g n = some r := by
  unfold mt_lim at h
  split at h
  · exact ⟨_, h⟩
  · cases h
theorem mt_sem_of {code : List m_B} {nL : Nat} {av : List m_V} {M : m_M} {r : m_R} {n : Nat} (h : mt_run code n 0 (mt_l0 nL av, [], M) = some r) : mt_sem code nL av M = some r := by
  have hx : ∃ n, ((fun n => mt_run code n 0 (mt_l0 nL av, [], M)) n).isSome = true := ⟨n, by simp only [h]; rfl⟩
  unfold mt_sem mt_lim
  rw [dif_pos hx]
  have h2 := Classical.choose_spec hx
  obtain ⟨r2, h3⟩ := Option.isSome_iff_exists.mp h2
  have h4 := mt_run_mono n (n + Classical.choose hx) 0 _ (by omega) h
  have h5 := mt_run_mono (Classical.choose hx) (n + Classical.choose hx) 0 _ (by omega) h3
  rw [h4] at h5
  rw [h5]
  exact h3
/-- from pc with q the code comes to an answer that has Q -/
def mt_T (code : List m_B) (pc : Nat) (q : m_C) (Q : m_R → Prop) : Prop := ∃ (n : Nat) (r : m_R), mt_run code n pc q = some r ∧ Q r
def mt_fin (code : List m_B) (Q : m_R → Prop) : Option ((Nat × m_C) ⊕ m_R) → Prop
  | none => False
  | some (.inl y) => mt_T code y.1 y.2 Q
  | some (.inr r) => Q r
def mt_go : List m_S → m_C → (m_C → Prop) → Prop
  | [], q, K => K q
  | o :: t, q, K => match o q with
    | some q' => mt_go t q' K
    | none => False
theorem mt_go_iff : ∀ (ops : List m_S) (q : m_C) (K : m_C → Prop), mt_go ops q K ↔ ∃ q', mt_seq ops q = some q' ∧ K q'
  | [], q, K => ⟨fun h => ⟨q, rfl, h⟩, fun ⟨q', h1, h2⟩ => by cases h1; exact h2⟩
  | o :: t, q, K => by
    simp only [mt_go, mt_seq]
    cases o q with
    | none => simp
    | some q1 => exact mt_go_iff t q1 K
def mt_kk (code : List m_B) (Q : m_R → Prop) (last : m_O) (q : m_C) : Prop := mt_fin code Q (last q)
theorem mt_blk {code : List m_B} {pc : Nat} {ops : List m_S} {last : m_O} (h : mt_cd code pc = some (ops, last)) (q : m_C) (Q : m_R → Prop) : mt_T code pc q Q = mt_go ops q (mt_kk code Q last) := by
  apply propext
  rw [mt_go_iff]
  constructor
  · rintro ⟨n, r, hr, hQ⟩
    cases n with
    | zero => simp [mt_run] at hr
    | succ n =>
      simp only [mt_run, h, mt_b] at hr
      cases hs : mt_seq ops q with
      | none => simp [hs] at hr
      | some q' =>
        refine ⟨q', rfl, ?_⟩
        simp only [hs] at hr
        show mt_fin code Q (last q')
        cases hl : last q' with
        | none => simp [hl] at hr
        | some z =>
          simp only [hl] at hr
          cases z with
          | inl y => exact ⟨n, r, hr, hQ⟩
          | inr r' => cases hr; exact hQ
  · rintro ⟨q', hs, hK⟩
    have hK : mt_fin code Q (last q') := hK
    cases hl : last q' with
    | none => rw [hl] at hK; exact hK.elim
    | some z =>
      rw [hl] at hK
      cases z with
      | inl y =>
        obtain ⟨n, r, h1, h2⟩ := hK
        exact ⟨n + 1, r, by simp only [mt_run, h, mt_b, hs, hl]; exact h1, h2⟩
      | inr r => exact ⟨1, r, by simp only [mt_run, h, mt_b, hs, hl], hK⟩
theorem mt_T_mono {code : List m_B} {pc : Nat} {q : m_C} {Q Q' : m_R → Prop} (h : mt_T code pc q Q) (hq : ∀ r, Q r → Q' r) : mt_T code pc q Q' := by
  obtain ⟨n, r, h1, h2⟩ := h
  exact ⟨n, r, h1, hq r h2⟩
/-- a method, called -/
def mt_P (sem : List m_V → m_M → Option m_R) (av : List m_V) (M : m_M) (Q : m_R → Prop) : Prop := ∃ r, sem av M = some r ∧ Q r
theorem mt_P_of {code : List m_B} {nL : Nat} {av : List m_V} {M : m_M} {Q : m_R → Prop} (h : mt_T code 0 (mt_l0 nL av, [], M) Q) : mt_P (mt_sem code nL) av M Q := by
  obtain ⟨n, r, h1, h2⟩ := h
  exact ⟨r, mt_sem_of h1, h2⟩
theorem mt_P_mono {sem : List m_V → m_M → Option m_R} {av : List m_V} {M : m_M} {Q Q' : m_R → Prop} (h : mt_P sem av M Q) (hq : ∀ r, Q r → Q' r) : mt_P sem av M Q' := by
  obtain ⟨r, h1, h2⟩ := h
  exact ⟨r, h1, hq r h2⟩
-- memory
def mup (M : m_M) (a : Nat) (e : m_E) : m_M := (M.1, M.2.1, va_up M.2.2 a (some e))
def gf (M : m_M) (ci a k : Nat) : Option m_V := match M.2.2 a with
  | some (.inl (c, fs)) => if c = ci then fnth fs k else none
  | _ => none
def pf (M : m_M) (ci a k : Nat) (x : m_V) : Option m_M := match M.2.2 a with
  | some (.inl (c, fs)) => if c = ci ∧ k < fs.length then some (mup M a (.inl (ci, fset fs k x))) else none
  | _ => none
def gi (t : Nat) (M : m_M) (a : Nat) : Option (Nat × (Nat → Int32)) := match M.2.2 a with
  | some (.inr (c, n, .inl f)) => if c = t then some (n, f) else none
  | _ => none
def ga (t : Nat) (M : m_M) (a : Nat) : Option (Nat × (Nat → Option Nat)) := match M.2.2 a with
  | some (.inr (c, n, .inr f)) => if c = t then some (n, f) else none
  | _ => none
def mt_is (M : m_M) (ci a : Nat) : Bool := match M.2.2 a with
  | some (.inl (c, _)) => c == ci
  | _ => false
def mt_ix (i : Int32) (n : Nat) : Option Nat := if i < 0 ∨ n ≤ i.toNatClampNeg then none else some i.toNatClampNeg
def mt_z (x : Int32) : Bool := x == 0 || x == 1
def mnew (M : m_M) (w : Nat) (e : m_E) : m_M := (M.1 + 1, M.2.1 + w, va_up M.2.2 M.1 (some e))
-- plain instructions
def o_const (x : Int32) (q : m_C) : Option m_C := some (q.1, .inl x :: q.2.1, q.2.2)
def o_null (q : m_C) : Option m_C := some (q.1, .inr none :: q.2.1, q.2.2)
def o_iload (i : Nat) (q : m_C) : Option m_C := match lget q.1 i with
  | some (.inl x) => some (q.1, .inl x :: q.2.1, q.2.2)
  | _ => none
def o_aload (i : Nat) (q : m_C) : Option m_C := match lget q.1 i with
  | some (.inr x) => some (q.1, .inr x :: q.2.1, q.2.2)
  | _ => none
def o_istore (i : Nat) (q : m_C) : Option m_C := match q.2.1 with
  | .inl x :: st => some (lput q.1 i (.inl x), st, q.2.2)
  | _ => none
def o_astore (i : Nat) (q : m_C) : Option m_C := match q.2.1 with
  | .inr x :: st => some (lput q.1 i (.inr x), st, q.2.2)
  | _ => none
def o_iinc (i : Nat) (d : Int32) (q : m_C) : Option m_C := match lget q.1 i with
  | some (.inl x) => some (lput q.1 i (.inl (x + d)), q.2.1, q.2.2)
  | _ => none
def o_add (q : m_C) : Option m_C := match q.2.1 with
  | .inl y :: .inl x :: st => some (q.1, .inl (x + y) :: st, q.2.2)
  | _ => none
def o_sub (q : m_C) : Option m_C := match q.2.1 with
  | .inl y :: .inl x :: st => some (q.1, .inl (x - y) :: st, q.2.2)
  | _ => none
def o_mul (q : m_C) : Option m_C := match q.2.1 with
  | .inl y :: .inl x :: st => some (q.1, .inl (x * y) :: st, q.2.2)
  | _ => none
def o_and (q : m_C) : Option m_C := match q.2.1 with
  | .inl y :: .inl x :: st => some (q.1, .inl (x &&& y) :: st, q.2.2)
  | _ => none
def o_xor (q : m_C) : Option m_C := match q.2.1 with
  | .inl y :: .inl x :: st => some (q.1, .inl (x ^^^ y) :: st, q.2.2)
  | _ => none
def o_div (q : m_C) : Option m_C := match q.2.1 with
  | .inl y :: .inl x :: st => if y = 0 then none else some (q.1, .inl (x / y) :: st, q.2.2)
  | _ => none
def o_rem (q : m_C) : Option m_C := match q.2.1 with
  | .inl y :: .inl x :: st => if y = 0 then none else some (q.1, .inl (x - x / y * y) :: st, q.2.2)
  | _ => none
def o_dup (q : m_C) : Option m_C := match q.2.1 with
  | x :: st => some (q.1, x :: x :: st, q.2.2)
  | _ => none
def o_dup2 (q : m_C) : Option m_C := match q.2.1 with
  | x :: y :: st => some (q.1, x :: y :: x :: y :: st, q.2.2)
  | _ => none
def o_pop (q : m_C) : Option m_C := match q.2.1 with
  | _ :: st => some (q.1, st, q.2.2)
  | _ => none
def o_get (ci k : Nat) (q : m_C) : Option m_C := match q.2.1 with
  | .inr (some a) :: st => (match gf q.2.2 ci a k with
    | some x => some (q.1, x :: st, q.2.2)
    | none => none)
  | _ => none
def o_putI (ci k : Nat) (q : m_C) : Option m_C := match q.2.1 with
  | .inl x :: .inr (some a) :: st => (match pf q.2.2 ci a k (.inl x) with
    | some M => some (q.1, st, M)
    | none => none)
  | _ => none
def o_putZ (ci k : Nat) (q : m_C) : Option m_C := match q.2.1 with
  | .inl x :: .inr (some a) :: st => if mt_z x = true then (match pf q.2.2 ci a k (.inl x) with
    | some M => some (q.1, st, M)
    | none => none) else none
  | _ => none
def o_putA (ci k : Nat) (q : m_C) : Option m_C := match q.2.1 with
  | .inr (some x) :: .inr (some a) :: st => (match pf q.2.2 ci a k (.inr (some x)) with
    | some M => some (q.1, st, M)
    | none => none)
  | _ => none
def o_iald (q : m_C) : Option m_C := match q.2.1 with
  | .inl i :: .inr (some a) :: st => (match gi 0 q.2.2 a with
    | some (N, f) => (match mt_ix i N with
      | some j => some (q.1, .inl (f j) :: st, q.2.2)
      | none => none)
    | none => none)
  | _ => none
def o_zald (q : m_C) : Option m_C := match q.2.1 with
  | .inl i :: .inr (some a) :: st => (match gi 1 q.2.2 a with
    | some (N, f) => (match mt_ix i N with
      | some j => some (q.1, .inl (f j) :: st, q.2.2)
      | none => none)
    | none => none)
  | _ => none
def o_iast (q : m_C) : Option m_C := match q.2.1 with
  | .inl x :: .inl i :: .inr (some a) :: st => (match gi 0 q.2.2 a with
    | some (N, f) => (match mt_ix i N with
      | some j => some (q.1, st, mup q.2.2 a (.inr (0, N, .inl (upd f j x))))
      | none => none)
    | none => none)
  | _ => none
def o_zast (q : m_C) : Option m_C := match q.2.1 with
  | .inl x :: .inl i :: .inr (some a) :: st => (match gi 1 q.2.2 a with
    | some (N, f) => (match mt_ix i N with
      | some j => if mt_z x = true then some (q.1, st, mup q.2.2 a (.inr (1, N, .inl (upd f j x)))) else none
      | none => none)
    | none => none)
  | _ => none
def o_aald (t : Nat) (q : m_C) : Option m_C := match q.2.1 with
  | .inl i :: .inr (some a) :: st => (match ga t q.2.2 a with
    | some (N, f) => (match mt_ix i N with
      | some j => some (q.1, .inr (f j) :: st, q.2.2)
      | none => none)
    | none => none)
  | _ => none
/-- the value is an object of class ci -/
def o_aast (t ci : Nat) (q : m_C) : Option m_C := match q.2.1 with
  | .inr (some x) :: .inl i :: .inr (some a) :: st => (match ga t q.2.2 a with
    | some (N, f) => (match mt_ix i N with
      | some j => if mt_is q.2.2 ci x = true then some (q.1, st, mup q.2.2 a (.inr (t, N, .inr (va_up f j (some x))))) else none
      | none => none)
    | none => none)
  | _ => none
/-- the length of an array of objects -/
def o_alen (t : Nat) (q : m_C) : Option m_C := match q.2.1 with
  | .inr (some a) :: st => (match ga t q.2.2 a with
    | some (N, _) => some (q.1, .inl (nI N) :: st, q.2.2)
    | none => none)
  | _ => none
def o_new (ci : Nat) (fs : List m_V) (q : m_C) : Option m_C := some (q.1, .inr (some q.2.2.1) :: q.2.1, mnew q.2.2 fs.length (.inl (ci, fs)))
/-- a new array of ints (t = 0) or booleans (t = 1) -/
def o_newI (t : Nat) (q : m_C) : Option m_C := match q.2.1 with
  | .inl k :: st => if k < 0 ∨ 65536 < k.toNatClampNeg then none else some (q.1, .inr (some q.2.2.1) :: st, mnew q.2.2 k.toNatClampNeg (.inr (t, k.toNatClampNeg, .inl (fun _ => 0))))
  | _ => none
def o_newA (t : Nat) (q : m_C) : Option m_C := match q.2.1 with
  | .inl k :: st => if k < 0 ∨ 65536 < k.toNatClampNeg then none else some (q.1, .inr (some q.2.2.1) :: st, mnew q.2.2 k.toNatClampNeg (.inr (t, k.toNatClampNeg, .inr (fun _ => none))))
  | _ => none
def o_objinit (q : m_C) : Option m_C := match q.2.1 with
  | .inr (some _) :: st => if st.length ≤ 8 then some (q.1, st, q.2.2) else none
  | _ => none
/-- the script, at address sb, read as an array: its length and its numbers -/
def o_slen (sb L : Nat) (q : m_C) : Option m_C := match q.2.1 with
  | .inr (some a) :: st => if a = sb then some (q.1, .inl (nI L) :: st, q.2.2) else none
  | _ => none
def o_sld (sb L : Nat) (xs : Nat → Int32) (q : m_C) : Option m_C := match q.2.1 with
  | .inl i :: .inr (some a) :: st => if a = sb then (match mt_ix i L with
    | some j => some (q.1, .inl (xs j) :: st, q.2.2)
    | none => none) else none
  | _ => none
-- last instructions of a block
def o_fall (n : Nat) (q : m_C) : Option ((Nat × m_C) ⊕ m_R) := some (.inl (n, q))
def o_ifeq (t n : Nat) (q : m_C) : Option ((Nat × m_C) ⊕ m_R) := match q.2.1 with
  | .inl x :: st => if x = 0 then some (.inl (t, q.1, st, q.2.2)) else some (.inl (n, q.1, st, q.2.2))
  | _ => none
def o_ifne (t n : Nat) (q : m_C) : Option ((Nat × m_C) ⊕ m_R) := match q.2.1 with
  | .inl x :: st => if x = 0 then some (.inl (n, q.1, st, q.2.2)) else some (.inl (t, q.1, st, q.2.2))
  | _ => none
def o_iflt (t n : Nat) (q : m_C) : Option ((Nat × m_C) ⊕ m_R) := match q.2.1 with
  | .inl x :: st => if x < 0 then some (.inl (t, q.1, st, q.2.2)) else some (.inl (n, q.1, st, q.2.2))
  | _ => none
def o_ifge (t n : Nat) (q : m_C) : Option ((Nat × m_C) ⊕ m_R) := match q.2.1 with
  | .inl x :: st => if 0 ≤ x then some (.inl (t, q.1, st, q.2.2)) else some (.inl (n, q.1, st, q.2.2))
  | _ => none
def o_ifgt (t n : Nat) (q : m_C) : Option ((Nat × m_C) ⊕ m_R) := match q.2.1 with
  | .inl x :: st => if 0 < x then some (.inl (t, q.1, st, q.2.2)) else some (.inl (n, q.1, st, q.2.2))
  | _ => none
def o_ifle (t n : Nat) (q : m_C) : Option ((Nat × m_C) ⊕ m_R) := match q.2.1 with
  | .inl x :: st => if x ≤ 0 then some (.inl (t, q.1, st, q.2.2)) else some (.inl (n, q.1, st, q.2.2))
  | _ => none
def o_iceq (t n : Nat) (q : m_C) : Option ((Nat × m_C) ⊕ m_R) := match q.2.1 with
  | .inl y :: .inl x :: st => if x = y then some (.inl (t, q.1, st, q.2.2)) else some (.inl (n, q.1, st, q.2.2))
  | _ => none
def o_icne (t n : Nat) (q : m_C) : Option ((Nat × m_C) ⊕ m_R) := match q.2.1 with
  | .inl y :: .inl x :: st => if x = y then some (.inl (n, q.1, st, q.2.2)) else some (.inl (t, q.1, st, q.2.2))
  | _ => none
def o_iclt (t n : Nat) (q : m_C) : Option ((Nat × m_C) ⊕ m_R) := match q.2.1 with
  | .inl y :: .inl x :: st => if x < y then some (.inl (t, q.1, st, q.2.2)) else some (.inl (n, q.1, st, q.2.2))
  | _ => none
def o_icge (t n : Nat) (q : m_C) : Option ((Nat × m_C) ⊕ m_R) := match q.2.1 with
  | .inl y :: .inl x :: st => if y ≤ x then some (.inl (t, q.1, st, q.2.2)) else some (.inl (n, q.1, st, q.2.2))
  | _ => none
def o_icgt (t n : Nat) (q : m_C) : Option ((Nat × m_C) ⊕ m_R) := match q.2.1 with
  | .inl y :: .inl x :: st => if y < x then some (.inl (t, q.1, st, q.2.2)) else some (.inl (n, q.1, st, q.2.2))
  | _ => none
def o_icle (t n : Nat) (q : m_C) : Option ((Nat × m_C) ⊕ m_R) := match q.2.1 with
  | .inl y :: .inl x :: st => if x ≤ y then some (.inl (t, q.1, st, q.2.2)) else some (.inl (n, q.1, st, q.2.2))
  | _ => none
def o_ifnull (t n : Nat) (q : m_C) : Option ((Nat × m_C) ⊕ m_R) := match q.2.1 with
  | .inr none :: st => some (.inl (t, q.1, st, q.2.2))
  | .inr (some _) :: st => some (.inl (n, q.1, st, q.2.2))
  | _ => none
def o_ifnonnull (t n : Nat) (q : m_C) : Option ((Nat × m_C) ⊕ m_R) := match q.2.1 with
  | .inr none :: st => some (.inl (n, q.1, st, q.2.2))
  | .inr (some _) :: st => some (.inl (t, q.1, st, q.2.2))
  | _ => none
def o_acne (t n : Nat) (q : m_C) : Option ((Nat × m_C) ⊕ m_R) := match q.2.1 with
  | .inr y :: .inr x :: st => if x = y then some (.inl (n, q.1, st, q.2.2)) else some (.inl (t, q.1, st, q.2.2))
  | _ => none
def o_tsw (lo hi : Int) (d : Nat) (ts : List Nat) (q : m_C) : Option ((Nat × m_C) ⊕ m_R) := match q.2.1 with
  | .inl x :: st => if x.toInt < lo ∨ hi < x.toInt then some (.inl (d, q.1, st, q.2.2)) else (match ts[(x.toInt - lo).toNat]? with
    | some t => some (.inl (t, q.1, st, q.2.2))
    | none => none)
  | _ => none
def mt_after (n : Nat) (lv : List (Option m_V)) (st : List m_V) : Option m_R → Option ((Nat × m_C) ⊕ m_R)
  | some r => some (.inl (n, lv, r.1.toList ++ st, r.2))
  | none => none
/-- a call with na arguments; the receiver, where there is one, is the first of them, and is an object of class ci -/
def o_callV (sem : List m_V → m_M → Option m_R) (ci na n : Nat) (q : m_C) : Option ((Nat × m_C) ⊕ m_R) := match mt_pop na [] q.2.1 with
  | some (.inr (some a) :: av, st) => if st.length ≤ 8 ∧ mt_is q.2.2 ci a = true then mt_after n q.1 st (sem (.inr (some a) :: av) q.2.2) else none
  | _ => none
def o_callI (sem : List m_V → m_M → Option m_R) (na n : Nat) (q : m_C) : Option ((Nat × m_C) ⊕ m_R) := match mt_pop na [] q.2.1 with
  | some (.inr (some a) :: av, st) => if st.length ≤ 8 then mt_after n q.1 st (sem (.inr (some a) :: av) q.2.2) else none
  | _ => none
def o_callS (sem : List m_V → m_M → Option m_R) (na n : Nat) (q : m_C) : Option ((Nat × m_C) ⊕ m_R) := match mt_pop na [] q.2.1 with
  | some (av, st) => if st.length ≤ 8 then mt_after n q.1 st (sem av q.2.2) else none
  | _ => none
def o_ret (q : m_C) : Option ((Nat × m_C) ⊕ m_R) := match q.2.1 with
  | [] => some (.inr (none, q.2.2))
  | _ => none
def o_iret (q : m_C) : Option ((Nat × m_C) ⊕ m_R) := match q.2.1 with
  | [.inl x] => some (.inr (some (.inl x), q.2.2))
  | _ => none
def o_zret (q : m_C) : Option ((Nat × m_C) ⊕ m_R) := match q.2.1 with
  | [.inl x] => if mt_z x = true then some (.inr (some (.inl x), q.2.2)) else none
  | _ => none
def o_aret (q : m_C) : Option ((Nat × m_C) ⊕ m_R) := match q.2.1 with
  | [.inr x] => some (.inr (some (.inr x), q.2.2))
  | _ => none
/-- a call's end, said of the callee's own Q -/
theorem mt_call {code : List m_B} {Q : m_R → Prop} {n : Nat} {lv : List (Option m_V)} {st : List m_V} {sem : List m_V → m_M → Option m_R} {av : List m_V} {M : m_M} {Qc : m_R → Prop} (h : mt_P sem av M Qc) (k : ∀ r : m_R, Qc r → mt_T code n (lv, r.1.toList ++ st, r.2) Q) : mt_fin code Q (mt_after n lv st (sem av M)) := by
  obtain ⟨r, h1, h2⟩ := h
  rw [h1]
  exact k r h2
theorem mt_sem_eq {code : List m_B} {nL : Nat} {av : List m_V} {M : m_M} {r : m_R} (h : mt_T code 0 (mt_l0 nL av, [], M) (fun x => x = r)) : mt_sem code nL av M = some r := by
  obtain ⟨n, r1, h1, h2⟩ := h
  rw [h2] at h1
  exact mt_sem_of h1
theorem mt_callD {code : List m_B} {Q : m_R → Prop} {n : Nat} {lv : List (Option m_V)} {st : List m_V} {sem : List m_V → m_M → Option m_R} {av : List m_V} {M : m_M} {r : m_R} (h : sem av M = some r) (k : mt_T code n (lv, r.1.toList ++ st, r.2) Q) : mt_fin code Q (mt_after n lv st (sem av M)) := by
  rw [h]
  exact k
end
section
abbrev n_fs_En : List m_V := [.inl 0, .inl 0, .inl 0, .inl 0]
abbrev n_fs_Jo : List m_V := [.inr none, .inl 0, .inl 0]
abbrev n_fs_Jr : List m_V := [.inr none, .inl 0, .inl 0]
abbrev n_fs_Li : List m_V := [.inr none, .inl 0, .inl 0]
abbrev n_fs_Ms : List m_V := [.inl 0, .inl 0, .inl 0, .inl 0, .inl 0, .inl 0, .inl 0, .inr none]
abbrev n_fs_Ro : List m_V := [.inr none, .inl 0]
abbrev n_fs_Ru : List m_V := [.inr none, .inr none, .inr none, .inl 0]
abbrev n_fs_Sf : List m_V := [.inr none, .inl 0, .inl 0]
abbrev n_fs_TC : List m_V := [.inr none, .inr none, .inr none, .inr none, .inr none, .inr none, .inr none, .inr none, .inl 0, .inl 0, .inl 0, .inl 0]
abbrev n_fs_MD : List m_V := [.inr none, .inr none, .inr none, .inr none, .inl 0, .inl 0, .inr none, .inr none, .inr none, .inl 0, .inl 0, .inl 0, .inl 0, .inr none, .inr none, .inr none, .inr none, .inr none, .inr none, .inl 0, .inl 0, .inr none, .inr none, .inr none, .inr none, .inr none, .inl 0, .inr none]
-- TreeCarrier$Entry.<init> ()V
noncomputable def cd_En_init : List m_B := [(0, [o_aload 0, o_objinit, o_aload 0, o_const (nI 0), o_putZ 0 0, o_aload 0, o_const (nI 0), o_putZ 0 1, o_aload 0, o_const (nI 0), o_putI 0 2, o_aload 0, o_const (nI 0), o_putI 0 3], o_ret)]
noncomputable def sm_En_init : List m_V → m_M → Option m_R := mt_sem cd_En_init 1
theorem k_En_init_0 (q : m_C) (Q : m_R → Prop) : mt_T cd_En_init 0 q Q = mt_go [o_aload 0, o_objinit, o_aload 0, o_const (nI 0), o_putZ 0 0, o_aload 0, o_const (nI 0), o_putZ 0 1, o_aload 0, o_const (nI 0), o_putI 0 2, o_aload 0, o_const (nI 0), o_putI 0 3] q (mt_kk cd_En_init Q (o_ret)) := mt_blk rfl q Q
-- TreeCarrier$Entry.agreesWith (LTreeCarrier$StoredFile;)Z
noncomputable def cd_En_agreesWith : List m_B := [(0, [o_aload 1], o_ifnull 33 4), (4, [o_aload 1, o_get 7 0, o_get 5 1, o_aload 0, o_get 0 2], o_icne 33 18), (18, [o_aload 1, o_get 7 2, o_aload 0, o_get 0 3], o_icne 33 29), (29, [o_const (nI 1)], o_fall 34), (33, [o_const (nI 0)], o_fall 34), (34, [], o_zret)]
noncomputable def sm_En_agreesWith : List m_V → m_M → Option m_R := mt_sem cd_En_agreesWith 2
theorem k_En_agreesWith_0 (q : m_C) (Q : m_R → Prop) : mt_T cd_En_agreesWith 0 q Q = mt_go [o_aload 1] q (mt_kk cd_En_agreesWith Q (o_ifnull 33 4)) := mt_blk rfl q Q
theorem k_En_agreesWith_4 (q : m_C) (Q : m_R → Prop) : mt_T cd_En_agreesWith 4 q Q = mt_go [o_aload 1, o_get 7 0, o_get 5 1, o_aload 0, o_get 0 2] q (mt_kk cd_En_agreesWith Q (o_icne 33 18)) := mt_blk rfl q Q
theorem k_En_agreesWith_18 (q : m_C) (Q : m_R → Prop) : mt_T cd_En_agreesWith 18 q Q = mt_go [o_aload 1, o_get 7 2, o_aload 0, o_get 0 3] q (mt_kk cd_En_agreesWith Q (o_icne 33 29)) := mt_blk rfl q Q
theorem k_En_agreesWith_29 (q : m_C) (Q : m_R → Prop) : mt_T cd_En_agreesWith 29 q Q = mt_go [o_const (nI 1)] q (mt_kk cd_En_agreesWith Q (o_fall 34)) := mt_blk rfl q Q
theorem k_En_agreesWith_33 (q : m_C) (Q : m_R → Prop) : mt_T cd_En_agreesWith 33 q Q = mt_go [o_const (nI 0)] q (mt_kk cd_En_agreesWith Q (o_fall 34)) := mt_blk rfl q Q
theorem k_En_agreesWith_34 (q : m_C) (Q : m_R → Prop) : mt_T cd_En_agreesWith 34 q Q = mt_go [] q (mt_kk cd_En_agreesWith Q (o_zret)) := mt_blk rfl q Q
-- TreeCarrier$Entry.forget ()V
noncomputable def cd_En_forget : List m_B := [(0, [o_aload 0, o_const (nI 0), o_putZ 0 0, o_aload 0, o_const (nI 0), o_putZ 0 1], o_ret)]
noncomputable def sm_En_forget : List m_V → m_M → Option m_R := mt_sem cd_En_forget 1
theorem k_En_forget_0 (q : m_C) (Q : m_R → Prop) : mt_T cd_En_forget 0 q Q = mt_go [o_aload 0, o_const (nI 0), o_putZ 0 0, o_aload 0, o_const (nI 0), o_putZ 0 1] q (mt_kk cd_En_forget Q (o_ret)) := mt_blk rfl q Q
-- TreeCarrier$Row.<init> ()V
noncomputable def cd_Ro_init : List m_B := [(0, [o_aload 0, o_objinit, o_aload 0, o_const (nI 40), o_newI 0, o_putA 5 0, o_aload 0, o_const (nI 0), o_putI 5 1], o_ret)]
noncomputable def sm_Ro_init : List m_V → m_M → Option m_R := mt_sem cd_Ro_init 1
theorem k_Ro_init_0 (q : m_C) (Q : m_R → Prop) : mt_T cd_Ro_init 0 q Q = mt_go [o_aload 0, o_objinit, o_aload 0, o_const (nI 40), o_newI 0, o_putA 5 0, o_aload 0, o_const (nI 0), o_putI 5 1] q (mt_kk cd_Ro_init Q (o_ret)) := mt_blk rfl q Q
-- TreeCarrier$JournalRecord.<init> ()V
noncomputable def cd_Jr_init : List m_B := [(0, [o_aload 0, o_objinit, o_aload 0, o_new 5 n_fs_Ro, o_dup], o_callI sm_Ro_init 1 12), (12, [o_putA 2 0, o_aload 0, o_const (nI 0), o_putI 2 1, o_aload 0, o_const (nI 0), o_putI 2 2], o_ret)]
noncomputable def sm_Jr_init : List m_V → m_M → Option m_R := mt_sem cd_Jr_init 1
theorem k_Jr_init_0 (q : m_C) (Q : m_R → Prop) : mt_T cd_Jr_init 0 q Q = mt_go [o_aload 0, o_objinit, o_aload 0, o_new 5 n_fs_Ro, o_dup] q (mt_kk cd_Jr_init Q (o_callI sm_Ro_init 1 12)) := mt_blk rfl q Q
theorem k_Jr_init_12 (q : m_C) (Q : m_R → Prop) : mt_T cd_Jr_init 12 q Q = mt_go [o_putA 2 0, o_aload 0, o_const (nI 0), o_putI 2 1, o_aload 0, o_const (nI 0), o_putI 2 2] q (mt_kk cd_Jr_init Q (o_ret)) := mt_blk rfl q Q
-- TreeCarrier$Journal.<init> ()V
noncomputable def cd_Jo_init : List m_B := [(0, [o_aload 0, o_objinit, o_aload 0, o_const (nI 12), o_newA 5, o_putA 1 0, o_aload 0, o_const (nI 0), o_putI 1 1, o_aload 0, o_const (nI 0), o_putI 1 2, o_const (nI 0), o_istore 1], o_fall 25), (25, [o_iload 1, o_const (nI 12)], o_icge 50 31), (31, [o_aload 0, o_get 1 0, o_iload 1, o_new 2 n_fs_Jr, o_dup], o_callI sm_Jr_init 1 43), (43, [o_aast 5 2, o_iinc 1 (nI 1)], o_fall 25), (50, [], o_ret)]
noncomputable def sm_Jo_init : List m_V → m_M → Option m_R := mt_sem cd_Jo_init 2
theorem k_Jo_init_0 (q : m_C) (Q : m_R → Prop) : mt_T cd_Jo_init 0 q Q = mt_go [o_aload 0, o_objinit, o_aload 0, o_const (nI 12), o_newA 5, o_putA 1 0, o_aload 0, o_const (nI 0), o_putI 1 1, o_aload 0, o_const (nI 0), o_putI 1 2, o_const (nI 0), o_istore 1] q (mt_kk cd_Jo_init Q (o_fall 25)) := mt_blk rfl q Q
theorem k_Jo_init_25 (q : m_C) (Q : m_R → Prop) : mt_T cd_Jo_init 25 q Q = mt_go [o_iload 1, o_const (nI 12)] q (mt_kk cd_Jo_init Q (o_icge 50 31)) := mt_blk rfl q Q
theorem k_Jo_init_31 (q : m_C) (Q : m_R → Prop) : mt_T cd_Jo_init 31 q Q = mt_go [o_aload 0, o_get 1 0, o_iload 1, o_new 2 n_fs_Jr, o_dup] q (mt_kk cd_Jo_init Q (o_callI sm_Jr_init 1 43)) := mt_blk rfl q Q
theorem k_Jo_init_43 (q : m_C) (Q : m_R → Prop) : mt_T cd_Jo_init 43 q Q = mt_go [o_aast 5 2, o_iinc 1 (nI 1)] q (mt_kk cd_Jo_init Q (o_fall 25)) := mt_blk rfl q Q
theorem k_Jo_init_50 (q : m_C) (Q : m_R → Prop) : mt_T cd_Jo_init 50 q Q = mt_go [] q (mt_kk cd_Jo_init Q (o_ret)) := mt_blk rfl q Q
-- TreeCarrier$Row.become (LTreeCarrier$Row;)V
noncomputable def cd_Ro_become : List m_B := [(0, [o_aload 0, o_aload 1, o_get 5 1, o_putI 5 1, o_const (nI 0), o_istore 2], o_fall 10), (10, [o_iload 2, o_aload 0, o_get 5 1], o_icge 36 18), (18, [o_aload 0, o_get 5 0, o_iload 2, o_aload 1, o_get 5 0, o_iload 2, o_iald, o_iast, o_iinc 2 (nI 1)], o_fall 10), (36, [], o_ret)]
noncomputable def sm_Ro_become : List m_V → m_M → Option m_R := mt_sem cd_Ro_become 3
theorem k_Ro_become_0 (q : m_C) (Q : m_R → Prop) : mt_T cd_Ro_become 0 q Q = mt_go [o_aload 0, o_aload 1, o_get 5 1, o_putI 5 1, o_const (nI 0), o_istore 2] q (mt_kk cd_Ro_become Q (o_fall 10)) := mt_blk rfl q Q
theorem k_Ro_become_10 (q : m_C) (Q : m_R → Prop) : mt_T cd_Ro_become 10 q Q = mt_go [o_iload 2, o_aload 0, o_get 5 1] q (mt_kk cd_Ro_become Q (o_icge 36 18)) := mt_blk rfl q Q
theorem k_Ro_become_18 (q : m_C) (Q : m_R → Prop) : mt_T cd_Ro_become 18 q Q = mt_go [o_aload 0, o_get 5 0, o_iload 2, o_aload 1, o_get 5 0, o_iload 2, o_iald, o_iast, o_iinc 2 (nI 1)] q (mt_kk cd_Ro_become Q (o_fall 10)) := mt_blk rfl q Q
theorem k_Ro_become_36 (q : m_C) (Q : m_R → Prop) : mt_T cd_Ro_become 36 q Q = mt_go [] q (mt_kk cd_Ro_become Q (o_ret)) := mt_blk rfl q Q
-- TreeCarrier$Journal.append (ILTreeCarrier$Row;I)V
noncomputable def cd_Jo_append : List m_B := [(0, [o_aload 0, o_get 1 0, o_aload 0, o_get 1 1, o_aload 0, o_get 1 2, o_add, o_const (nI 12), o_rem, o_aald 5, o_astore 4, o_aload 4, o_iload 1, o_putI 2 1, o_aload 4, o_get 2 0, o_aload 2], o_callV sm_Ro_become 5 2 34), (34, [o_aload 4, o_iload 3, o_putI 2 2, o_aload 0, o_get 1 2, o_const (nI 12)], o_icge 59 49), (49, [o_aload 0, o_dup, o_get 1 2, o_const (nI 1), o_add, o_putI 1 2], o_fall 59), (59, [], o_ret)]
noncomputable def sm_Jo_append : List m_V → m_M → Option m_R := mt_sem cd_Jo_append 5
theorem k_Jo_append_0 (q : m_C) (Q : m_R → Prop) : mt_T cd_Jo_append 0 q Q = mt_go [o_aload 0, o_get 1 0, o_aload 0, o_get 1 1, o_aload 0, o_get 1 2, o_add, o_const (nI 12), o_rem, o_aald 5, o_astore 4, o_aload 4, o_iload 1, o_putI 2 1, o_aload 4, o_get 2 0, o_aload 2] q (mt_kk cd_Jo_append Q (o_callV sm_Ro_become 5 2 34)) := mt_blk rfl q Q
theorem k_Jo_append_34 (q : m_C) (Q : m_R → Prop) : mt_T cd_Jo_append 34 q Q = mt_go [o_aload 4, o_iload 3, o_putI 2 2, o_aload 0, o_get 1 2, o_const (nI 12)] q (mt_kk cd_Jo_append Q (o_icge 59 49)) := mt_blk rfl q Q
theorem k_Jo_append_49 (q : m_C) (Q : m_R → Prop) : mt_T cd_Jo_append 49 q Q = mt_go [o_aload 0, o_dup, o_get 1 2, o_const (nI 1), o_add, o_putI 1 2] q (mt_kk cd_Jo_append Q (o_fall 59)) := mt_blk rfl q Q
theorem k_Jo_append_59 (q : m_C) (Q : m_R → Prop) : mt_T cd_Jo_append 59 q Q = mt_go [] q (mt_kk cd_Jo_append Q (o_ret)) := mt_blk rfl q Q
-- TreeCarrier$Journal.take ()LTreeCarrier$JournalRecord;
noncomputable def cd_Jo_take : List m_B := [(0, [o_aload 0, o_get 1 2], o_ifne 9 7), (7, [o_null], o_aret), (9, [o_aload 0, o_get 1 0, o_aload 0, o_get 1 1, o_aald 5, o_astore 1, o_aload 0, o_aload 0, o_get 1 1, o_const (nI 1), o_add, o_const (nI 12), o_rem, o_putI 1 1, o_aload 0, o_dup, o_get 1 2, o_const (nI 1), o_sub, o_putI 1 2, o_aload 1], o_aret)]
noncomputable def sm_Jo_take : List m_V → m_M → Option m_R := mt_sem cd_Jo_take 2
theorem k_Jo_take_0 (q : m_C) (Q : m_R → Prop) : mt_T cd_Jo_take 0 q Q = mt_go [o_aload 0, o_get 1 2] q (mt_kk cd_Jo_take Q (o_ifne 9 7)) := mt_blk rfl q Q
theorem k_Jo_take_7 (q : m_C) (Q : m_R → Prop) : mt_T cd_Jo_take 7 q Q = mt_go [o_null] q (mt_kk cd_Jo_take Q (o_aret)) := mt_blk rfl q Q
theorem k_Jo_take_9 (q : m_C) (Q : m_R → Prop) : mt_T cd_Jo_take 9 q Q = mt_go [o_aload 0, o_get 1 0, o_aload 0, o_get 1 1, o_aald 5, o_astore 1, o_aload 0, o_aload 0, o_get 1 1, o_const (nI 1), o_add, o_const (nI 12), o_rem, o_putI 1 1, o_aload 0, o_dup, o_get 1 2, o_const (nI 1), o_sub, o_putI 1 2, o_aload 1] q (mt_kk cd_Jo_take Q (o_aret)) := mt_blk rfl q Q
-- TreeCarrier$Message.<init> ()V
noncomputable def cd_Ms_init : List m_B := [(0, [o_aload 0, o_objinit, o_aload 0, o_const (nI 0), o_putI 4 0, o_aload 0, o_const (nI 0), o_putI 4 1, o_aload 0, o_const (nI 0), o_putI 4 2, o_aload 0, o_const (nI 0), o_putI 4 3, o_aload 0, o_const (nI 0), o_putI 4 4, o_aload 0, o_const (nI 0), o_putI 4 5, o_aload 0, o_const (nI 0), o_putI 4 6, o_aload 0, o_const (nI 40), o_newI 0, o_putA 4 7], o_ret)]
noncomputable def sm_Ms_init : List m_V → m_M → Option m_R := mt_sem cd_Ms_init 1
theorem k_Ms_init_0 (q : m_C) (Q : m_R → Prop) : mt_T cd_Ms_init 0 q Q = mt_go [o_aload 0, o_objinit, o_aload 0, o_const (nI 0), o_putI 4 0, o_aload 0, o_const (nI 0), o_putI 4 1, o_aload 0, o_const (nI 0), o_putI 4 2, o_aload 0, o_const (nI 0), o_putI 4 3, o_aload 0, o_const (nI 0), o_putI 4 4, o_aload 0, o_const (nI 0), o_putI 4 5, o_aload 0, o_const (nI 0), o_putI 4 6, o_aload 0, o_const (nI 40), o_newI 0, o_putA 4 7] q (mt_kk cd_Ms_init Q (o_ret)) := mt_blk rfl q Q
-- TreeCarrier$Line.<init> ()V
noncomputable def cd_Li_init : List m_B := [(0, [o_aload 0, o_objinit, o_aload 0, o_const (nI 13), o_newA 2, o_putA 3 0, o_aload 0, o_const (nI 0), o_putI 3 1, o_aload 0, o_const (nI 0), o_putI 3 2, o_const (nI 0), o_istore 1], o_fall 25), (25, [o_iload 1, o_const (nI 13)], o_icge 50 31), (31, [o_aload 0, o_get 3 0, o_iload 1, o_new 4 n_fs_Ms, o_dup], o_callI sm_Ms_init 1 43), (43, [o_aast 2 4, o_iinc 1 (nI 1)], o_fall 25), (50, [], o_ret)]
noncomputable def sm_Li_init : List m_V → m_M → Option m_R := mt_sem cd_Li_init 2
theorem k_Li_init_0 (q : m_C) (Q : m_R → Prop) : mt_T cd_Li_init 0 q Q = mt_go [o_aload 0, o_objinit, o_aload 0, o_const (nI 13), o_newA 2, o_putA 3 0, o_aload 0, o_const (nI 0), o_putI 3 1, o_aload 0, o_const (nI 0), o_putI 3 2, o_const (nI 0), o_istore 1] q (mt_kk cd_Li_init Q (o_fall 25)) := mt_blk rfl q Q
theorem k_Li_init_25 (q : m_C) (Q : m_R → Prop) : mt_T cd_Li_init 25 q Q = mt_go [o_iload 1, o_const (nI 13)] q (mt_kk cd_Li_init Q (o_icge 50 31)) := mt_blk rfl q Q
theorem k_Li_init_31 (q : m_C) (Q : m_R → Prop) : mt_T cd_Li_init 31 q Q = mt_go [o_aload 0, o_get 3 0, o_iload 1, o_new 4 n_fs_Ms, o_dup] q (mt_kk cd_Li_init Q (o_callI sm_Ms_init 1 43)) := mt_blk rfl q Q
theorem k_Li_init_43 (q : m_C) (Q : m_R → Prop) : mt_T cd_Li_init 43 q Q = mt_go [o_aast 2 4, o_iinc 1 (nI 1)] q (mt_kk cd_Li_init Q (o_fall 25)) := mt_blk rfl q Q
theorem k_Li_init_50 (q : m_C) (Q : m_R → Prop) : mt_T cd_Li_init 50 q Q = mt_go [] q (mt_kk cd_Li_init Q (o_ret)) := mt_blk rfl q Q
-- TreeCarrier$Message.startAs (II)V
noncomputable def cd_Ms_startAs : List m_B := [(0, [o_aload 0, o_iload 1, o_putI 4 0, o_aload 0, o_iload 2, o_putI 4 1, o_aload 0, o_const (nI 0), o_putI 4 6], o_ret)]
noncomputable def sm_Ms_startAs : List m_V → m_M → Option m_R := mt_sem cd_Ms_startAs 3
theorem k_Ms_startAs_0 (q : m_C) (Q : m_R → Prop) : mt_T cd_Ms_startAs 0 q Q = mt_go [o_aload 0, o_iload 1, o_putI 4 0, o_aload 0, o_iload 2, o_putI 4 1, o_aload 0, o_const (nI 0), o_putI 4 6] q (mt_kk cd_Ms_startAs Q (o_ret)) := mt_blk rfl q Q
-- TreeCarrier$Line.append (II)LTreeCarrier$Message;
noncomputable def cd_Li_append : List m_B := [(0, [o_aload 0, o_get 3 0, o_aload 0, o_get 3 1, o_aload 0, o_get 3 2, o_add, o_const (nI 13), o_rem, o_aald 2, o_astore 3, o_aload 3, o_iload 1, o_iload 2], o_callV sm_Ms_startAs 4 3 24), (24, [o_aload 0, o_get 3 2, o_const (nI 13)], o_icge 43 33), (33, [o_aload 0, o_dup, o_get 3 2, o_const (nI 1), o_add, o_putI 3 2], o_fall 43), (43, [o_aload 3], o_aret)]
noncomputable def sm_Li_append : List m_V → m_M → Option m_R := mt_sem cd_Li_append 4
theorem k_Li_append_0 (q : m_C) (Q : m_R → Prop) : mt_T cd_Li_append 0 q Q = mt_go [o_aload 0, o_get 3 0, o_aload 0, o_get 3 1, o_aload 0, o_get 3 2, o_add, o_const (nI 13), o_rem, o_aald 2, o_astore 3, o_aload 3, o_iload 1, o_iload 2] q (mt_kk cd_Li_append Q (o_callV sm_Ms_startAs 4 3 24)) := mt_blk rfl q Q
theorem k_Li_append_24 (q : m_C) (Q : m_R → Prop) : mt_T cd_Li_append 24 q Q = mt_go [o_aload 0, o_get 3 2, o_const (nI 13)] q (mt_kk cd_Li_append Q (o_icge 43 33)) := mt_blk rfl q Q
theorem k_Li_append_33 (q : m_C) (Q : m_R → Prop) : mt_T cd_Li_append 33 q Q = mt_go [o_aload 0, o_dup, o_get 3 2, o_const (nI 1), o_add, o_putI 3 2] q (mt_kk cd_Li_append Q (o_fall 43)) := mt_blk rfl q Q
theorem k_Li_append_43 (q : m_C) (Q : m_R → Prop) : mt_T cd_Li_append 43 q Q = mt_go [o_aload 3] q (mt_kk cd_Li_append Q (o_aret)) := mt_blk rfl q Q
-- TreeCarrier$Line.take ()LTreeCarrier$Message;
noncomputable def cd_Li_take : List m_B := [(0, [o_aload 0, o_get 3 2], o_ifne 9 7), (7, [o_null], o_aret), (9, [o_aload 0, o_get 3 0, o_aload 0, o_get 3 1, o_aald 2, o_astore 1, o_aload 0, o_aload 0, o_get 3 1, o_const (nI 1), o_add, o_const (nI 13), o_rem, o_putI 3 1, o_aload 0, o_dup, o_get 3 2, o_const (nI 1), o_sub, o_putI 3 2, o_aload 1], o_aret)]
noncomputable def sm_Li_take : List m_V → m_M → Option m_R := mt_sem cd_Li_take 2
theorem k_Li_take_0 (q : m_C) (Q : m_R → Prop) : mt_T cd_Li_take 0 q Q = mt_go [o_aload 0, o_get 3 2] q (mt_kk cd_Li_take Q (o_ifne 9 7)) := mt_blk rfl q Q
theorem k_Li_take_7 (q : m_C) (Q : m_R → Prop) : mt_T cd_Li_take 7 q Q = mt_go [o_null] q (mt_kk cd_Li_take Q (o_aret)) := mt_blk rfl q Q
theorem k_Li_take_9 (q : m_C) (Q : m_R → Prop) : mt_T cd_Li_take 9 q Q = mt_go [o_aload 0, o_get 3 0, o_aload 0, o_get 3 1, o_aald 2, o_astore 1, o_aload 0, o_aload 0, o_get 3 1, o_const (nI 1), o_add, o_const (nI 13), o_rem, o_putI 3 1, o_aload 0, o_dup, o_get 3 2, o_const (nI 1), o_sub, o_putI 3 2, o_aload 1] q (mt_kk cd_Li_take Q (o_aret)) := mt_blk rfl q Q
-- TreeCarrier$Line.oldestKind ()I
noncomputable def cd_Li_oldestKind : List m_B := [(0, [o_aload 0, o_get 3 2], o_ifne 11 7), (7, [o_const (nI 0)], o_fall 23), (11, [o_aload 0, o_get 3 0, o_aload 0, o_get 3 1, o_aald 2, o_get 4 0], o_fall 23), (23, [], o_iret)]
noncomputable def sm_Li_oldestKind : List m_V → m_M → Option m_R := mt_sem cd_Li_oldestKind 1
theorem k_Li_oldestKind_0 (q : m_C) (Q : m_R → Prop) : mt_T cd_Li_oldestKind 0 q Q = mt_go [o_aload 0, o_get 3 2] q (mt_kk cd_Li_oldestKind Q (o_ifne 11 7)) := mt_blk rfl q Q
theorem k_Li_oldestKind_7 (q : m_C) (Q : m_R → Prop) : mt_T cd_Li_oldestKind 7 q Q = mt_go [o_const (nI 0)] q (mt_kk cd_Li_oldestKind Q (o_fall 23)) := mt_blk rfl q Q
theorem k_Li_oldestKind_11 (q : m_C) (Q : m_R → Prop) : mt_T cd_Li_oldestKind 11 q Q = mt_go [o_aload 0, o_get 3 0, o_aload 0, o_get 3 1, o_aald 2, o_get 4 0] q (mt_kk cd_Li_oldestKind Q (o_fall 23)) := mt_blk rfl q Q
theorem k_Li_oldestKind_23 (q : m_C) (Q : m_R → Prop) : mt_T cd_Li_oldestKind 23 q Q = mt_go [] q (mt_kk cd_Li_oldestKind Q (o_iret)) := mt_blk rfl q Q
-- TreeCarrier$Line.clear ()V
noncomputable def cd_Li_clear : List m_B := [(0, [o_aload 0, o_const (nI 0), o_putI 3 2], o_ret)]
noncomputable def sm_Li_clear : List m_V → m_M → Option m_R := mt_sem cd_Li_clear 1
theorem k_Li_clear_0 (q : m_C) (Q : m_R → Prop) : mt_T cd_Li_clear 0 q Q = mt_go [o_aload 0, o_const (nI 0), o_putI 3 2] q (mt_kk cd_Li_clear Q (o_ret)) := mt_blk rfl q Q
-- TreeCarrier$Message.addItem (I)V
noncomputable def cd_Ms_addItem : List m_B := [(0, [o_aload 0, o_get 4 6, o_const (nI 40)], o_icge 29 9), (9, [o_aload 0, o_get 4 7, o_aload 0, o_get 4 6, o_iload 1, o_iast, o_aload 0, o_dup, o_get 4 6, o_const (nI 1), o_add, o_putI 4 6], o_fall 29), (29, [], o_ret)]
noncomputable def sm_Ms_addItem : List m_V → m_M → Option m_R := mt_sem cd_Ms_addItem 2
theorem k_Ms_addItem_0 (q : m_C) (Q : m_R → Prop) : mt_T cd_Ms_addItem 0 q Q = mt_go [o_aload 0, o_get 4 6, o_const (nI 40)] q (mt_kk cd_Ms_addItem Q (o_icge 29 9)) := mt_blk rfl q Q
theorem k_Ms_addItem_9 (q : m_C) (Q : m_R → Prop) : mt_T cd_Ms_addItem 9 q Q = mt_go [o_aload 0, o_get 4 7, o_aload 0, o_get 4 6, o_iload 1, o_iast, o_aload 0, o_dup, o_get 4 6, o_const (nI 1), o_add, o_putI 4 6] q (mt_kk cd_Ms_addItem Q (o_fall 29)) := mt_blk rfl q Q
theorem k_Ms_addItem_29 (q : m_C) (Q : m_R → Prop) : mt_T cd_Ms_addItem 29 q Q = mt_go [] q (mt_kk cd_Ms_addItem Q (o_ret)) := mt_blk rfl q Q
-- TreeCarrier$Row.isFull ()Z
noncomputable def cd_Ro_isFull : List m_B := [(0, [o_aload 0, o_get 5 1, o_const (nI 40)], o_iclt 13 9), (9, [o_const (nI 1)], o_fall 14), (13, [o_const (nI 0)], o_fall 14), (14, [], o_zret)]
noncomputable def sm_Ro_isFull : List m_V → m_M → Option m_R := mt_sem cd_Ro_isFull 1
theorem k_Ro_isFull_0 (q : m_C) (Q : m_R → Prop) : mt_T cd_Ro_isFull 0 q Q = mt_go [o_aload 0, o_get 5 1, o_const (nI 40)] q (mt_kk cd_Ro_isFull Q (o_iclt 13 9)) := mt_blk rfl q Q
theorem k_Ro_isFull_9 (q : m_C) (Q : m_R → Prop) : mt_T cd_Ro_isFull 9 q Q = mt_go [o_const (nI 1)] q (mt_kk cd_Ro_isFull Q (o_fall 14)) := mt_blk rfl q Q
theorem k_Ro_isFull_13 (q : m_C) (Q : m_R → Prop) : mt_T cd_Ro_isFull 13 q Q = mt_go [o_const (nI 0)] q (mt_kk cd_Ro_isFull Q (o_fall 14)) := mt_blk rfl q Q
theorem k_Ro_isFull_14 (q : m_C) (Q : m_R → Prop) : mt_T cd_Ro_isFull 14 q Q = mt_go [] q (mt_kk cd_Ro_isFull Q (o_zret)) := mt_blk rfl q Q
-- TreeCarrier$Row.holds (I)Z
noncomputable def cd_Ro_holds : List m_B := [(0, [o_iload 1], o_iflt 16 4), (4, [o_iload 1, o_aload 0, o_get 5 1], o_icge 16 12), (12, [o_const (nI 1)], o_fall 17), (16, [o_const (nI 0)], o_fall 17), (17, [], o_zret)]
noncomputable def sm_Ro_holds : List m_V → m_M → Option m_R := mt_sem cd_Ro_holds 2
theorem k_Ro_holds_0 (q : m_C) (Q : m_R → Prop) : mt_T cd_Ro_holds 0 q Q = mt_go [o_iload 1] q (mt_kk cd_Ro_holds Q (o_iflt 16 4)) := mt_blk rfl q Q
theorem k_Ro_holds_4 (q : m_C) (Q : m_R → Prop) : mt_T cd_Ro_holds 4 q Q = mt_go [o_iload 1, o_aload 0, o_get 5 1] q (mt_kk cd_Ro_holds Q (o_icge 16 12)) := mt_blk rfl q Q
theorem k_Ro_holds_12 (q : m_C) (Q : m_R → Prop) : mt_T cd_Ro_holds 12 q Q = mt_go [o_const (nI 1)] q (mt_kk cd_Ro_holds Q (o_fall 17)) := mt_blk rfl q Q
theorem k_Ro_holds_16 (q : m_C) (Q : m_R → Prop) : mt_T cd_Ro_holds 16 q Q = mt_go [o_const (nI 0)] q (mt_kk cd_Ro_holds Q (o_fall 17)) := mt_blk rfl q Q
theorem k_Ro_holds_17 (q : m_C) (Q : m_R → Prop) : mt_T cd_Ro_holds 17 q Q = mt_go [] q (mt_kk cd_Ro_holds Q (o_zret)) := mt_blk rfl q Q
-- TreeCarrier$Row.byteAt (I)I
noncomputable def cd_Ro_byteAt : List m_B := [(0, [o_iload 1], o_iflt 21 4), (4, [o_iload 1, o_aload 0, o_get 5 1], o_icge 21 12), (12, [o_aload 0, o_get 5 0, o_iload 1, o_iald], o_fall 22), (21, [o_const (-1)], o_fall 22), (22, [], o_iret)]
noncomputable def sm_Ro_byteAt : List m_V → m_M → Option m_R := mt_sem cd_Ro_byteAt 2
theorem k_Ro_byteAt_0 (q : m_C) (Q : m_R → Prop) : mt_T cd_Ro_byteAt 0 q Q = mt_go [o_iload 1] q (mt_kk cd_Ro_byteAt Q (o_iflt 21 4)) := mt_blk rfl q Q
theorem k_Ro_byteAt_4 (q : m_C) (Q : m_R → Prop) : mt_T cd_Ro_byteAt 4 q Q = mt_go [o_iload 1, o_aload 0, o_get 5 1] q (mt_kk cd_Ro_byteAt Q (o_icge 21 12)) := mt_blk rfl q Q
theorem k_Ro_byteAt_12 (q : m_C) (Q : m_R → Prop) : mt_T cd_Ro_byteAt 12 q Q = mt_go [o_aload 0, o_get 5 0, o_iload 1, o_iald] q (mt_kk cd_Ro_byteAt Q (o_fall 22)) := mt_blk rfl q Q
theorem k_Ro_byteAt_21 (q : m_C) (Q : m_R → Prop) : mt_T cd_Ro_byteAt 21 q Q = mt_go [o_const (-1)] q (mt_kk cd_Ro_byteAt Q (o_fall 22)) := mt_blk rfl q Q
theorem k_Ro_byteAt_22 (q : m_C) (Q : m_R → Prop) : mt_T cd_Ro_byteAt 22 q Q = mt_go [] q (mt_kk cd_Ro_byteAt Q (o_iret)) := mt_blk rfl q Q
-- TreeCarrier$Row.clear ()V
noncomputable def cd_Ro_clear : List m_B := [(0, [o_aload 0, o_const (nI 0), o_putI 5 1], o_ret)]
noncomputable def sm_Ro_clear : List m_V → m_M → Option m_R := mt_sem cd_Ro_clear 1
theorem k_Ro_clear_0 (q : m_C) (Q : m_R → Prop) : mt_T cd_Ro_clear 0 q Q = mt_go [o_aload 0, o_const (nI 0), o_putI 5 1] q (mt_kk cd_Ro_clear Q (o_ret)) := mt_blk rfl q Q
-- TreeCarrier$Row.append (I)V
noncomputable def cd_Ro_append : List m_B := [(0, [o_aload 0, o_get 5 1, o_const (nI 40)], o_icge 29 9), (9, [o_aload 0, o_get 5 0, o_aload 0, o_get 5 1, o_iload 1, o_iast, o_aload 0, o_dup, o_get 5 1, o_const (nI 1), o_add, o_putI 5 1], o_fall 29), (29, [], o_ret)]
noncomputable def sm_Ro_append : List m_V → m_M → Option m_R := mt_sem cd_Ro_append 2
theorem k_Ro_append_0 (q : m_C) (Q : m_R → Prop) : mt_T cd_Ro_append 0 q Q = mt_go [o_aload 0, o_get 5 1, o_const (nI 40)] q (mt_kk cd_Ro_append Q (o_icge 29 9)) := mt_blk rfl q Q
theorem k_Ro_append_9 (q : m_C) (Q : m_R → Prop) : mt_T cd_Ro_append 9 q Q = mt_go [o_aload 0, o_get 5 0, o_aload 0, o_get 5 1, o_iload 1, o_iast, o_aload 0, o_dup, o_get 5 1, o_const (nI 1), o_add, o_putI 5 1] q (mt_kk cd_Ro_append Q (o_fall 29)) := mt_blk rfl q Q
theorem k_Ro_append_29 (q : m_C) (Q : m_R → Prop) : mt_T cd_Ro_append 29 q Q = mt_go [] q (mt_kk cd_Ro_append Q (o_ret)) := mt_blk rfl q Q
-- TreeCarrier$Row.replace (II)V
noncomputable def cd_Ro_replace : List m_B := [(0, [o_aload 0, o_iload 1], o_callV sm_Ro_holds 5 2 5), (5, [], o_ifeq 15 8), (8, [o_aload 0, o_get 5 0, o_iload 1, o_iload 2, o_iast], o_fall 15), (15, [], o_ret)]
noncomputable def sm_Ro_replace : List m_V → m_M → Option m_R := mt_sem cd_Ro_replace 3
theorem k_Ro_replace_0 (q : m_C) (Q : m_R → Prop) : mt_T cd_Ro_replace 0 q Q = mt_go [o_aload 0, o_iload 1] q (mt_kk cd_Ro_replace Q (o_callV sm_Ro_holds 5 2 5)) := mt_blk rfl q Q
theorem k_Ro_replace_5 (q : m_C) (Q : m_R → Prop) : mt_T cd_Ro_replace 5 q Q = mt_go [] q (mt_kk cd_Ro_replace Q (o_ifeq 15 8)) := mt_blk rfl q Q
theorem k_Ro_replace_8 (q : m_C) (Q : m_R → Prop) : mt_T cd_Ro_replace 8 q Q = mt_go [o_aload 0, o_get 5 0, o_iload 1, o_iload 2, o_iast] q (mt_kk cd_Ro_replace Q (o_fall 15)) := mt_blk rfl q Q
theorem k_Ro_replace_15 (q : m_C) (Q : m_R → Prop) : mt_T cd_Ro_replace 15 q Q = mt_go [] q (mt_kk cd_Ro_replace Q (o_ret)) := mt_blk rfl q Q
-- TreeCarrier$Row.appendPart (LTreeCarrier$Row;II)V
noncomputable def cd_Ro_appendPart : List m_B := [(0, [o_const (nI 0), o_istore 4], o_fall 3), (3, [o_iload 4, o_iload 3], o_icge 39 9), (9, [o_aload 1, o_iload 2, o_iload 4, o_add], o_callV sm_Ro_holds 5 2 17), (17, [], o_ifeq 33 20), (20, [o_aload 0, o_aload 1, o_get 5 0, o_iload 2, o_iload 4, o_add, o_iald], o_callV sm_Ro_append 5 2 33), (33, [o_iinc 4 (nI 1)], o_fall 3), (39, [], o_ret)]
noncomputable def sm_Ro_appendPart : List m_V → m_M → Option m_R := mt_sem cd_Ro_appendPart 5
theorem k_Ro_appendPart_0 (q : m_C) (Q : m_R → Prop) : mt_T cd_Ro_appendPart 0 q Q = mt_go [o_const (nI 0), o_istore 4] q (mt_kk cd_Ro_appendPart Q (o_fall 3)) := mt_blk rfl q Q
theorem k_Ro_appendPart_3 (q : m_C) (Q : m_R → Prop) : mt_T cd_Ro_appendPart 3 q Q = mt_go [o_iload 4, o_iload 3] q (mt_kk cd_Ro_appendPart Q (o_icge 39 9)) := mt_blk rfl q Q
theorem k_Ro_appendPart_9 (q : m_C) (Q : m_R → Prop) : mt_T cd_Ro_appendPart 9 q Q = mt_go [o_aload 1, o_iload 2, o_iload 4, o_add] q (mt_kk cd_Ro_appendPart Q (o_callV sm_Ro_holds 5 2 17)) := mt_blk rfl q Q
theorem k_Ro_appendPart_17 (q : m_C) (Q : m_R → Prop) : mt_T cd_Ro_appendPart 17 q Q = mt_go [] q (mt_kk cd_Ro_appendPart Q (o_ifeq 33 20)) := mt_blk rfl q Q
theorem k_Ro_appendPart_20 (q : m_C) (Q : m_R → Prop) : mt_T cd_Ro_appendPart 20 q Q = mt_go [o_aload 0, o_aload 1, o_get 5 0, o_iload 2, o_iload 4, o_add, o_iald] q (mt_kk cd_Ro_appendPart Q (o_callV sm_Ro_append 5 2 33)) := mt_blk rfl q Q
theorem k_Ro_appendPart_33 (q : m_C) (Q : m_R → Prop) : mt_T cd_Ro_appendPart 33 q Q = mt_go [o_iinc 4 (nI 1)] q (mt_kk cd_Ro_appendPart Q (o_fall 3)) := mt_blk rfl q Q
theorem k_Ro_appendPart_39 (q : m_C) (Q : m_R → Prop) : mt_T cd_Ro_appendPart 39 q Q = mt_go [] q (mt_kk cd_Ro_appendPart Q (o_ret)) := mt_blk rfl q Q
-- TreeCarrier$Row.strongSum (II)I
noncomputable def cd_Ro_strongSum : List m_B := [(0, [o_const (nI 0), o_istore 3, o_const (nI 0), o_istore 4], o_fall 5), (5, [o_iload 4, o_iload 2], o_icge 36 11), (11, [o_iload 3, o_const (nI 31), o_mul, o_aload 0, o_iload 1, o_iload 4, o_add], o_callV sm_Ro_byteAt 5 2 23), (23, [o_add, o_const (nI 1), o_add, o_const (nI 65521), o_rem, o_istore 3, o_iinc 4 (nI 1)], o_fall 5), (36, [o_iload 3], o_iret)]
noncomputable def sm_Ro_strongSum : List m_V → m_M → Option m_R := mt_sem cd_Ro_strongSum 5
theorem k_Ro_strongSum_0 (q : m_C) (Q : m_R → Prop) : mt_T cd_Ro_strongSum 0 q Q = mt_go [o_const (nI 0), o_istore 3, o_const (nI 0), o_istore 4] q (mt_kk cd_Ro_strongSum Q (o_fall 5)) := mt_blk rfl q Q
theorem k_Ro_strongSum_5 (q : m_C) (Q : m_R → Prop) : mt_T cd_Ro_strongSum 5 q Q = mt_go [o_iload 4, o_iload 2] q (mt_kk cd_Ro_strongSum Q (o_icge 36 11)) := mt_blk rfl q Q
theorem k_Ro_strongSum_11 (q : m_C) (Q : m_R → Prop) : mt_T cd_Ro_strongSum 11 q Q = mt_go [o_iload 3, o_const (nI 31), o_mul, o_aload 0, o_iload 1, o_iload 4, o_add] q (mt_kk cd_Ro_strongSum Q (o_callV sm_Ro_byteAt 5 2 23)) := mt_blk rfl q Q
theorem k_Ro_strongSum_23 (q : m_C) (Q : m_R → Prop) : mt_T cd_Ro_strongSum 23 q Q = mt_go [o_add, o_const (nI 1), o_add, o_const (nI 65521), o_rem, o_istore 3, o_iinc 4 (nI 1)] q (mt_kk cd_Ro_strongSum Q (o_fall 5)) := mt_blk rfl q Q
theorem k_Ro_strongSum_36 (q : m_C) (Q : m_R → Prop) : mt_T cd_Ro_strongSum 36 q Q = mt_go [o_iload 3] q (mt_kk cd_Ro_strongSum Q (o_iret)) := mt_blk rfl q Q
-- TreeCarrier$Row.weakSum (II)I
noncomputable def cd_Ro_weakSum : List m_B := [(0, [o_const (nI 0), o_istore 3, o_const (nI 0), o_istore 4, o_const (nI 0), o_istore 5], o_fall 8), (8, [o_iload 5, o_iload 2], o_icge 47 14), (14, [o_aload 0, o_iload 1, o_iload 5, o_add], o_callV sm_Ro_byteAt 5 2 22), (22, [o_istore 6, o_iload 3, o_iload 6, o_add, o_istore 3, o_iload 4, o_iload 2, o_iload 5, o_sub, o_iload 6, o_mul, o_add, o_istore 4, o_iinc 5 (nI 1)], o_fall 8), (47, [o_iload 3, o_const (nI 16), o_rem, o_const (nI 16), o_iload 4, o_const (nI 16), o_rem, o_mul, o_add], o_iret)]
noncomputable def sm_Ro_weakSum : List m_V → m_M → Option m_R := mt_sem cd_Ro_weakSum 7
theorem k_Ro_weakSum_0 (q : m_C) (Q : m_R → Prop) : mt_T cd_Ro_weakSum 0 q Q = mt_go [o_const (nI 0), o_istore 3, o_const (nI 0), o_istore 4, o_const (nI 0), o_istore 5] q (mt_kk cd_Ro_weakSum Q (o_fall 8)) := mt_blk rfl q Q
theorem k_Ro_weakSum_8 (q : m_C) (Q : m_R → Prop) : mt_T cd_Ro_weakSum 8 q Q = mt_go [o_iload 5, o_iload 2] q (mt_kk cd_Ro_weakSum Q (o_icge 47 14)) := mt_blk rfl q Q
theorem k_Ro_weakSum_14 (q : m_C) (Q : m_R → Prop) : mt_T cd_Ro_weakSum 14 q Q = mt_go [o_aload 0, o_iload 1, o_iload 5, o_add] q (mt_kk cd_Ro_weakSum Q (o_callV sm_Ro_byteAt 5 2 22)) := mt_blk rfl q Q
theorem k_Ro_weakSum_22 (q : m_C) (Q : m_R → Prop) : mt_T cd_Ro_weakSum 22 q Q = mt_go [o_istore 6, o_iload 3, o_iload 6, o_add, o_istore 3, o_iload 4, o_iload 2, o_iload 5, o_sub, o_iload 6, o_mul, o_add, o_istore 4, o_iinc 5 (nI 1)] q (mt_kk cd_Ro_weakSum Q (o_fall 8)) := mt_blk rfl q Q
theorem k_Ro_weakSum_47 (q : m_C) (Q : m_R → Prop) : mt_T cd_Ro_weakSum 47 q Q = mt_go [o_iload 3, o_const (nI 16), o_rem, o_const (nI 16), o_iload 4, o_const (nI 16), o_rem, o_mul, o_add] q (mt_kk cd_Ro_weakSum Q (o_iret)) := mt_blk rfl q Q
-- TreeCarrier$Row.sums (III)I
noncomputable def cd_Ro_sums : List m_B := [(0, [o_aload 0, o_iload 1, o_iload 2], o_callV sm_Ro_strongSum 5 3 6), (6, [o_istore 4, o_iload 3, o_const (nI 1)], o_icne 20 13), (13, [o_iload 4, o_const (nI 4), o_rem], o_fall 22), (20, [o_iload 4], o_fall 22), (22, [o_istore 5, o_aload 0, o_iload 1, o_iload 2], o_callV sm_Ro_weakSum 5 3 30), (30, [o_const (nI 256), o_iload 5, o_mul, o_add], o_iret)]
noncomputable def sm_Ro_sums : List m_V → m_M → Option m_R := mt_sem cd_Ro_sums 6
theorem k_Ro_sums_0 (q : m_C) (Q : m_R → Prop) : mt_T cd_Ro_sums 0 q Q = mt_go [o_aload 0, o_iload 1, o_iload 2] q (mt_kk cd_Ro_sums Q (o_callV sm_Ro_strongSum 5 3 6)) := mt_blk rfl q Q
theorem k_Ro_sums_6 (q : m_C) (Q : m_R → Prop) : mt_T cd_Ro_sums 6 q Q = mt_go [o_istore 4, o_iload 3, o_const (nI 1)] q (mt_kk cd_Ro_sums Q (o_icne 20 13)) := mt_blk rfl q Q
theorem k_Ro_sums_13 (q : m_C) (Q : m_R → Prop) : mt_T cd_Ro_sums 13 q Q = mt_go [o_iload 4, o_const (nI 4), o_rem] q (mt_kk cd_Ro_sums Q (o_fall 22)) := mt_blk rfl q Q
theorem k_Ro_sums_20 (q : m_C) (Q : m_R → Prop) : mt_T cd_Ro_sums 20 q Q = mt_go [o_iload 4] q (mt_kk cd_Ro_sums Q (o_fall 22)) := mt_blk rfl q Q
theorem k_Ro_sums_22 (q : m_C) (Q : m_R → Prop) : mt_T cd_Ro_sums 22 q Q = mt_go [o_istore 5, o_aload 0, o_iload 1, o_iload 2] q (mt_kk cd_Ro_sums Q (o_callV sm_Ro_weakSum 5 3 30)) := mt_blk rfl q Q
theorem k_Ro_sums_30 (q : m_C) (Q : m_R → Prop) : mt_T cd_Ro_sums 30 q Q = mt_go [o_const (nI 256), o_iload 5, o_mul, o_add] q (mt_kk cd_Ro_sums Q (o_iret)) := mt_blk rfl q Q
-- TreeCarrier$Row.digest ()I
noncomputable def cd_Ro_digest : List m_B := [(0, [o_const (-2128831035), o_istore 1, o_const (nI 0), o_istore 2], o_fall 5), (5, [o_iload 2, o_aload 0, o_get 5 1], o_icge 31 13), (13, [o_iload 1, o_aload 0, o_get 5 0, o_iload 2, o_iald, o_xor, o_const (nI 16777619), o_mul, o_istore 1, o_iinc 2 (nI 1)], o_fall 5), (31, [o_iload 1], o_iret)]
noncomputable def sm_Ro_digest : List m_V → m_M → Option m_R := mt_sem cd_Ro_digest 3
theorem k_Ro_digest_0 (q : m_C) (Q : m_R → Prop) : mt_T cd_Ro_digest 0 q Q = mt_go [o_const (-2128831035), o_istore 1, o_const (nI 0), o_istore 2] q (mt_kk cd_Ro_digest Q (o_fall 5)) := mt_blk rfl q Q
theorem k_Ro_digest_5 (q : m_C) (Q : m_R → Prop) : mt_T cd_Ro_digest 5 q Q = mt_go [o_iload 2, o_aload 0, o_get 5 1] q (mt_kk cd_Ro_digest Q (o_icge 31 13)) := mt_blk rfl q Q
theorem k_Ro_digest_13 (q : m_C) (Q : m_R → Prop) : mt_T cd_Ro_digest 13 q Q = mt_go [o_iload 1, o_aload 0, o_get 5 0, o_iload 2, o_iald, o_xor, o_const (nI 16777619), o_mul, o_istore 1, o_iinc 2 (nI 1)] q (mt_kk cd_Ro_digest Q (o_fall 5)) := mt_blk rfl q Q
theorem k_Ro_digest_31 (q : m_C) (Q : m_R → Prop) : mt_T cd_Ro_digest 31 q Q = mt_go [o_iload 1] q (mt_kk cd_Ro_digest Q (o_iret)) := mt_blk rfl q Q
-- TreeCarrier$Rules.<init> ()V
noncomputable def cd_Ru_init : List m_B := [(0, [o_aload 0, o_objinit, o_aload 0, o_const (nI 6), o_newI 1, o_putA 6 0, o_aload 0, o_const (nI 6), o_newI 0, o_putA 6 1, o_aload 0, o_const (nI 6), o_newI 0, o_putA 6 2, o_aload 0, o_const (nI 0), o_putI 6 3], o_ret)]
noncomputable def sm_Ru_init : List m_V → m_M → Option m_R := mt_sem cd_Ru_init 1
theorem k_Ru_init_0 (q : m_C) (Q : m_R → Prop) : mt_T cd_Ru_init 0 q Q = mt_go [o_aload 0, o_objinit, o_aload 0, o_const (nI 6), o_newI 1, o_putA 6 0, o_aload 0, o_const (nI 6), o_newI 0, o_putA 6 1, o_aload 0, o_const (nI 6), o_newI 0, o_putA 6 2, o_aload 0, o_const (nI 0), o_putI 6 3] q (mt_kk cd_Ru_init Q (o_ret)) := mt_blk rfl q Q
-- TreeCarrier$Rules.append (ZII)Z
noncomputable def cd_Ru_append : List m_B := [(0, [o_aload 0, o_get 6 3, o_const (nI 6)], o_iclt 11 9), (9, [o_const (nI 0)], o_zret), (11, [o_aload 0, o_get 6 0, o_aload 0, o_get 6 3, o_iload 1, o_zast, o_aload 0, o_get 6 1, o_aload 0, o_get 6 3, o_iload 2, o_iast, o_aload 0, o_get 6 2, o_aload 0, o_get 6 3, o_iload 3, o_iast, o_aload 0, o_dup, o_get 6 3, o_const (nI 1), o_add, o_putI 6 3, o_const (nI 1)], o_zret)]
noncomputable def sm_Ru_append : List m_V → m_M → Option m_R := mt_sem cd_Ru_append 4
theorem k_Ru_append_0 (q : m_C) (Q : m_R → Prop) : mt_T cd_Ru_append 0 q Q = mt_go [o_aload 0, o_get 6 3, o_const (nI 6)] q (mt_kk cd_Ru_append Q (o_iclt 11 9)) := mt_blk rfl q Q
theorem k_Ru_append_9 (q : m_C) (Q : m_R → Prop) : mt_T cd_Ru_append 9 q Q = mt_go [o_const (nI 0)] q (mt_kk cd_Ru_append Q (o_zret)) := mt_blk rfl q Q
theorem k_Ru_append_11 (q : m_C) (Q : m_R → Prop) : mt_T cd_Ru_append 11 q Q = mt_go [o_aload 0, o_get 6 0, o_aload 0, o_get 6 3, o_iload 1, o_zast, o_aload 0, o_get 6 1, o_aload 0, o_get 6 3, o_iload 2, o_iast, o_aload 0, o_get 6 2, o_aload 0, o_get 6 3, o_iload 3, o_iast, o_aload 0, o_dup, o_get 6 3, o_const (nI 1), o_add, o_putI 6 3, o_const (nI 1)] q (mt_kk cd_Ru_append Q (o_zret)) := mt_blk rfl q Q
-- TreeCarrier$Rules.select (I)Z
noncomputable def cd_Ru_select : List m_B := [(0, [o_const (nI 0), o_istore 2], o_fall 2), (2, [o_iload 2, o_aload 0, o_get 6 3], o_icge 40 10), (10, [o_iload 1, o_aload 0, o_get 6 1, o_iload 2, o_iald, o_and, o_aload 0, o_get 6 2, o_iload 2, o_iald], o_icne 34 27), (27, [o_aload 0, o_get 6 0, o_iload 2, o_zald], o_zret), (34, [o_iinc 2 (nI 1)], o_fall 2), (40, [o_const (nI 1)], o_zret)]
noncomputable def sm_Ru_select : List m_V → m_M → Option m_R := mt_sem cd_Ru_select 3
theorem k_Ru_select_0 (q : m_C) (Q : m_R → Prop) : mt_T cd_Ru_select 0 q Q = mt_go [o_const (nI 0), o_istore 2] q (mt_kk cd_Ru_select Q (o_fall 2)) := mt_blk rfl q Q
theorem k_Ru_select_2 (q : m_C) (Q : m_R → Prop) : mt_T cd_Ru_select 2 q Q = mt_go [o_iload 2, o_aload 0, o_get 6 3] q (mt_kk cd_Ru_select Q (o_icge 40 10)) := mt_blk rfl q Q
theorem k_Ru_select_10 (q : m_C) (Q : m_R → Prop) : mt_T cd_Ru_select 10 q Q = mt_go [o_iload 1, o_aload 0, o_get 6 1, o_iload 2, o_iald, o_and, o_aload 0, o_get 6 2, o_iload 2, o_iald] q (mt_kk cd_Ru_select Q (o_icne 34 27)) := mt_blk rfl q Q
theorem k_Ru_select_27 (q : m_C) (Q : m_R → Prop) : mt_T cd_Ru_select 27 q Q = mt_go [o_aload 0, o_get 6 0, o_iload 2, o_zald] q (mt_kk cd_Ru_select Q (o_zret)) := mt_blk rfl q Q
theorem k_Ru_select_34 (q : m_C) (Q : m_R → Prop) : mt_T cd_Ru_select 34 q Q = mt_go [o_iinc 2 (nI 1)] q (mt_kk cd_Ru_select Q (o_fall 2)) := mt_blk rfl q Q
theorem k_Ru_select_40 (q : m_C) (Q : m_R → Prop) : mt_T cd_Ru_select 40 q Q = mt_go [o_const (nI 1)] q (mt_kk cd_Ru_select Q (o_zret)) := mt_blk rfl q Q
-- TreeCarrier$StoredFile.<init> ()V
noncomputable def cd_Sf_init : List m_B := [(0, [o_aload 0, o_objinit, o_aload 0, o_new 5 n_fs_Ro, o_dup], o_callI sm_Ro_init 1 12), (12, [o_putA 7 0, o_aload 0, o_const (nI 0), o_putZ 7 1, o_aload 0, o_const (nI 0), o_putI 7 2], o_ret)]
noncomputable def sm_Sf_init : List m_V → m_M → Option m_R := mt_sem cd_Sf_init 1
theorem k_Sf_init_0 (q : m_C) (Q : m_R → Prop) : mt_T cd_Sf_init 0 q Q = mt_go [o_aload 0, o_objinit, o_aload 0, o_new 5 n_fs_Ro, o_dup] q (mt_kk cd_Sf_init Q (o_callI sm_Ro_init 1 12)) := mt_blk rfl q Q
theorem k_Sf_init_12 (q : m_C) (Q : m_R → Prop) : mt_T cd_Sf_init 12 q Q = mt_go [o_putA 7 0, o_aload 0, o_const (nI 0), o_putZ 7 1, o_aload 0, o_const (nI 0), o_putI 7 2] q (mt_kk cd_Sf_init Q (o_ret)) := mt_blk rfl q Q
-- TreeCarrier$StoredFile.erase ()V
noncomputable def cd_Sf_erase : List m_B := [(0, [o_aload 0, o_const (nI 0), o_putZ 7 1, o_aload 0, o_get 7 0], o_callV sm_Ro_clear 5 1 12), (12, [], o_ret)]
noncomputable def sm_Sf_erase : List m_V → m_M → Option m_R := mt_sem cd_Sf_erase 1
theorem k_Sf_erase_0 (q : m_C) (Q : m_R → Prop) : mt_T cd_Sf_erase 0 q Q = mt_go [o_aload 0, o_const (nI 0), o_putZ 7 1, o_aload 0, o_get 7 0] q (mt_kk cd_Sf_erase Q (o_callV sm_Ro_clear 5 1 12)) := mt_blk rfl q Q
theorem k_Sf_erase_12 (q : m_C) (Q : m_R → Prop) : mt_T cd_Sf_erase 12 q Q = mt_go [] q (mt_kk cd_Sf_erase Q (o_ret)) := mt_blk rfl q Q
-- TreeCarrier.<init> ()V
noncomputable def cd_TC_init : List m_B := [(0, [o_aload 0, o_objinit, o_aload 0, o_const (nI 24), o_newA 3, o_putA 8 0, o_aload 0, o_new 6 n_fs_Ru, o_dup], o_callI sm_Ru_init 1 21), (21, [o_putA 8 1, o_aload 0, o_new 3 n_fs_Li, o_dup], o_callI sm_Li_init 1 32), (32, [o_putA 8 2, o_aload 0, o_new 3 n_fs_Li, o_dup], o_callI sm_Li_init 1 43), (43, [o_putA 8 3, o_aload 0, o_const (nI 12), o_newA 4, o_putA 8 4, o_aload 0, o_new 1 n_fs_Jo, o_dup], o_callI sm_Jo_init 1 63), (63, [o_putA 8 5, o_aload 0, o_new 5 n_fs_Ro, o_dup], o_callI sm_Ro_init 1 74), (74, [o_putA 8 6, o_aload 0, o_const (nI 8), o_newI 0, o_putA 8 7, o_aload 0, o_const (nI 0), o_putI 8 8, o_aload 0, o_const (nI 0), o_putZ 8 9, o_aload 0, o_const (nI 0), o_putZ 8 10, o_aload 0, o_const (nI 1), o_putI 8 11, o_const (nI 0), o_istore 1], o_fall 107), (107, [o_iload 1, o_aload 0, o_get 8 0, o_alen 3], o_icge 135 116), (116, [o_aload 0, o_get 8 0, o_iload 1, o_new 7 n_fs_Sf, o_dup], o_callI sm_Sf_init 1 128), (128, [o_aast 3 7, o_iinc 1 (nI 1)], o_fall 107), (135, [o_const (nI 0), o_istore 1], o_fall 137), (137, [o_iload 1, o_const (nI 12)], o_icge 162 143), (143, [o_aload 0, o_get 8 4, o_iload 1, o_new 0 n_fs_En, o_dup], o_callI sm_En_init 1 155), (155, [o_aast 4 0, o_iinc 1 (nI 1)], o_fall 137), (162, [], o_ret)]
noncomputable def sm_TC_init : List m_V → m_M → Option m_R := mt_sem cd_TC_init 2
theorem k_TC_init_0 (q : m_C) (Q : m_R → Prop) : mt_T cd_TC_init 0 q Q = mt_go [o_aload 0, o_objinit, o_aload 0, o_const (nI 24), o_newA 3, o_putA 8 0, o_aload 0, o_new 6 n_fs_Ru, o_dup] q (mt_kk cd_TC_init Q (o_callI sm_Ru_init 1 21)) := mt_blk rfl q Q
theorem k_TC_init_21 (q : m_C) (Q : m_R → Prop) : mt_T cd_TC_init 21 q Q = mt_go [o_putA 8 1, o_aload 0, o_new 3 n_fs_Li, o_dup] q (mt_kk cd_TC_init Q (o_callI sm_Li_init 1 32)) := mt_blk rfl q Q
theorem k_TC_init_32 (q : m_C) (Q : m_R → Prop) : mt_T cd_TC_init 32 q Q = mt_go [o_putA 8 2, o_aload 0, o_new 3 n_fs_Li, o_dup] q (mt_kk cd_TC_init Q (o_callI sm_Li_init 1 43)) := mt_blk rfl q Q
theorem k_TC_init_43 (q : m_C) (Q : m_R → Prop) : mt_T cd_TC_init 43 q Q = mt_go [o_putA 8 3, o_aload 0, o_const (nI 12), o_newA 4, o_putA 8 4, o_aload 0, o_new 1 n_fs_Jo, o_dup] q (mt_kk cd_TC_init Q (o_callI sm_Jo_init 1 63)) := mt_blk rfl q Q
theorem k_TC_init_63 (q : m_C) (Q : m_R → Prop) : mt_T cd_TC_init 63 q Q = mt_go [o_putA 8 5, o_aload 0, o_new 5 n_fs_Ro, o_dup] q (mt_kk cd_TC_init Q (o_callI sm_Ro_init 1 74)) := mt_blk rfl q Q
theorem k_TC_init_74 (q : m_C) (Q : m_R → Prop) : mt_T cd_TC_init 74 q Q = mt_go [o_putA 8 6, o_aload 0, o_const (nI 8), o_newI 0, o_putA 8 7, o_aload 0, o_const (nI 0), o_putI 8 8, o_aload 0, o_const (nI 0), o_putZ 8 9, o_aload 0, o_const (nI 0), o_putZ 8 10, o_aload 0, o_const (nI 1), o_putI 8 11, o_const (nI 0), o_istore 1] q (mt_kk cd_TC_init Q (o_fall 107)) := mt_blk rfl q Q
theorem k_TC_init_107 (q : m_C) (Q : m_R → Prop) : mt_T cd_TC_init 107 q Q = mt_go [o_iload 1, o_aload 0, o_get 8 0, o_alen 3] q (mt_kk cd_TC_init Q (o_icge 135 116)) := mt_blk rfl q Q
theorem k_TC_init_116 (q : m_C) (Q : m_R → Prop) : mt_T cd_TC_init 116 q Q = mt_go [o_aload 0, o_get 8 0, o_iload 1, o_new 7 n_fs_Sf, o_dup] q (mt_kk cd_TC_init Q (o_callI sm_Sf_init 1 128)) := mt_blk rfl q Q
theorem k_TC_init_128 (q : m_C) (Q : m_R → Prop) : mt_T cd_TC_init 128 q Q = mt_go [o_aast 3 7, o_iinc 1 (nI 1)] q (mt_kk cd_TC_init Q (o_fall 107)) := mt_blk rfl q Q
theorem k_TC_init_135 (q : m_C) (Q : m_R → Prop) : mt_T cd_TC_init 135 q Q = mt_go [o_const (nI 0), o_istore 1] q (mt_kk cd_TC_init Q (o_fall 137)) := mt_blk rfl q Q
theorem k_TC_init_137 (q : m_C) (Q : m_R → Prop) : mt_T cd_TC_init 137 q Q = mt_go [o_iload 1, o_const (nI 12)] q (mt_kk cd_TC_init Q (o_icge 162 143)) := mt_blk rfl q Q
theorem k_TC_init_143 (q : m_C) (Q : m_R → Prop) : mt_T cd_TC_init 143 q Q = mt_go [o_aload 0, o_get 8 4, o_iload 1, o_new 0 n_fs_En, o_dup] q (mt_kk cd_TC_init Q (o_callI sm_En_init 1 155)) := mt_blk rfl q Q
theorem k_TC_init_155 (q : m_C) (Q : m_R → Prop) : mt_T cd_TC_init 155 q Q = mt_go [o_aast 4 0, o_iinc 1 (nI 1)] q (mt_kk cd_TC_init Q (o_fall 137)) := mt_blk rfl q Q
theorem k_TC_init_162 (q : m_C) (Q : m_R → Prop) : mt_T cd_TC_init 162 q Q = mt_go [] q (mt_kk cd_TC_init Q (o_ret)) := mt_blk rfl q Q
-- TreeCarrier.isMask (I)Z
noncomputable def cd_TC_isMask : List m_B := [(0, [o_iload 0], o_iflt 14 4), (4, [o_iload 0, o_const (nI 15)], o_icgt 14 10), (10, [o_const (nI 1)], o_fall 15), (14, [o_const (nI 0)], o_fall 15), (15, [], o_zret)]
noncomputable def sm_TC_isMask : List m_V → m_M → Option m_R := mt_sem cd_TC_isMask 1
theorem k_TC_isMask_0 (q : m_C) (Q : m_R → Prop) : mt_T cd_TC_isMask 0 q Q = mt_go [o_iload 0] q (mt_kk cd_TC_isMask Q (o_iflt 14 4)) := mt_blk rfl q Q
theorem k_TC_isMask_4 (q : m_C) (Q : m_R → Prop) : mt_T cd_TC_isMask 4 q Q = mt_go [o_iload 0, o_const (nI 15)] q (mt_kk cd_TC_isMask Q (o_icgt 14 10)) := mt_blk rfl q Q
theorem k_TC_isMask_10 (q : m_C) (Q : m_R → Prop) : mt_T cd_TC_isMask 10 q Q = mt_go [o_const (nI 1)] q (mt_kk cd_TC_isMask Q (o_fall 15)) := mt_blk rfl q Q
theorem k_TC_isMask_14 (q : m_C) (Q : m_R → Prop) : mt_T cd_TC_isMask 14 q Q = mt_go [o_const (nI 0)] q (mt_kk cd_TC_isMask Q (o_fall 15)) := mt_blk rfl q Q
theorem k_TC_isMask_15 (q : m_C) (Q : m_R → Prop) : mt_T cd_TC_isMask 15 q Q = mt_go [] q (mt_kk cd_TC_isMask Q (o_zret)) := mt_blk rfl q Q
-- TreeCarrier.rule (ZII)Z
noncomputable def cd_TC_rule : List m_B := [(0, [o_iload 2], o_callS sm_TC_isMask 1 4), (4, [], o_ifeq 14 7), (7, [o_iload 3], o_callS sm_TC_isMask 1 11), (11, [], o_ifne 16 14), (14, [o_const (nI 0)], o_zret), (16, [o_aload 0, o_get 8 1, o_iload 1, o_iload 2, o_iload 3], o_callV sm_Ru_append 6 4 26), (26, [], o_zret)]
noncomputable def sm_TC_rule : List m_V → m_M → Option m_R := mt_sem cd_TC_rule 4
theorem k_TC_rule_0 (q : m_C) (Q : m_R → Prop) : mt_T cd_TC_rule 0 q Q = mt_go [o_iload 2] q (mt_kk cd_TC_rule Q (o_callS sm_TC_isMask 1 4)) := mt_blk rfl q Q
theorem k_TC_rule_4 (q : m_C) (Q : m_R → Prop) : mt_T cd_TC_rule 4 q Q = mt_go [] q (mt_kk cd_TC_rule Q (o_ifeq 14 7)) := mt_blk rfl q Q
theorem k_TC_rule_7 (q : m_C) (Q : m_R → Prop) : mt_T cd_TC_rule 7 q Q = mt_go [o_iload 3] q (mt_kk cd_TC_rule Q (o_callS sm_TC_isMask 1 11)) := mt_blk rfl q Q
theorem k_TC_rule_11 (q : m_C) (Q : m_R → Prop) : mt_T cd_TC_rule 11 q Q = mt_go [] q (mt_kk cd_TC_rule Q (o_ifne 16 14)) := mt_blk rfl q Q
theorem k_TC_rule_14 (q : m_C) (Q : m_R → Prop) : mt_T cd_TC_rule 14 q Q = mt_go [o_const (nI 0)] q (mt_kk cd_TC_rule Q (o_zret)) := mt_blk rfl q Q
theorem k_TC_rule_16 (q : m_C) (Q : m_R → Prop) : mt_T cd_TC_rule 16 q Q = mt_go [o_aload 0, o_get 8 1, o_iload 1, o_iload 2, o_iload 3] q (mt_kk cd_TC_rule Q (o_callV sm_Ru_append 6 4 26)) := mt_blk rfl q Q
theorem k_TC_rule_26 (q : m_C) (Q : m_R → Prop) : mt_T cd_TC_rule 26 q Q = mt_go [] q (mt_kk cd_TC_rule Q (o_zret)) := mt_blk rfl q Q
-- TreeCarrier.isName (I)Z
noncomputable def cd_TC_isName : List m_B := [(0, [o_iload 0], o_iflt 14 4), (4, [o_iload 0, o_const (nI 12)], o_icge 14 10), (10, [o_const (nI 1)], o_fall 15), (14, [o_const (nI 0)], o_fall 15), (15, [], o_zret)]
noncomputable def sm_TC_isName : List m_V → m_M → Option m_R := mt_sem cd_TC_isName 1
theorem k_TC_isName_0 (q : m_C) (Q : m_R → Prop) : mt_T cd_TC_isName 0 q Q = mt_go [o_iload 0] q (mt_kk cd_TC_isName Q (o_iflt 14 4)) := mt_blk rfl q Q
theorem k_TC_isName_4 (q : m_C) (Q : m_R → Prop) : mt_T cd_TC_isName 4 q Q = mt_go [o_iload 0, o_const (nI 12)] q (mt_kk cd_TC_isName Q (o_icge 14 10)) := mt_blk rfl q Q
theorem k_TC_isName_10 (q : m_C) (Q : m_R → Prop) : mt_T cd_TC_isName 10 q Q = mt_go [o_const (nI 1)] q (mt_kk cd_TC_isName Q (o_fall 15)) := mt_blk rfl q Q
theorem k_TC_isName_14 (q : m_C) (Q : m_R → Prop) : mt_T cd_TC_isName 14 q Q = mt_go [o_const (nI 0)] q (mt_kk cd_TC_isName Q (o_fall 15)) := mt_blk rfl q Q
theorem k_TC_isName_15 (q : m_C) (Q : m_R → Prop) : mt_T cd_TC_isName 15 q Q = mt_go [] q (mt_kk cd_TC_isName Q (o_zret)) := mt_blk rfl q Q
-- TreeCarrier.slotOf (II)LTreeCarrier$StoredFile;
noncomputable def cd_TC_slotOf : List m_B := [(0, [o_iload 1], o_iflt 16 4), (4, [o_iload 1, o_const (nI 2)], o_icge 16 9), (9, [o_iload 2], o_callS sm_TC_isName 1 13), (13, [], o_ifne 18 16), (16, [o_null], o_aret), (18, [o_aload 0, o_get 8 0, o_iload 1, o_const (nI 12), o_mul, o_iload 2, o_add, o_aald 3], o_aret)]
noncomputable def sm_TC_slotOf : List m_V → m_M → Option m_R := mt_sem cd_TC_slotOf 3
theorem k_TC_slotOf_0 (q : m_C) (Q : m_R → Prop) : mt_T cd_TC_slotOf 0 q Q = mt_go [o_iload 1] q (mt_kk cd_TC_slotOf Q (o_iflt 16 4)) := mt_blk rfl q Q
theorem k_TC_slotOf_4 (q : m_C) (Q : m_R → Prop) : mt_T cd_TC_slotOf 4 q Q = mt_go [o_iload 1, o_const (nI 2)] q (mt_kk cd_TC_slotOf Q (o_icge 16 9)) := mt_blk rfl q Q
theorem k_TC_slotOf_9 (q : m_C) (Q : m_R → Prop) : mt_T cd_TC_slotOf 9 q Q = mt_go [o_iload 2] q (mt_kk cd_TC_slotOf Q (o_callS sm_TC_isName 1 13)) := mt_blk rfl q Q
theorem k_TC_slotOf_13 (q : m_C) (Q : m_R → Prop) : mt_T cd_TC_slotOf 13 q Q = mt_go [] q (mt_kk cd_TC_slotOf Q (o_ifne 18 16)) := mt_blk rfl q Q
theorem k_TC_slotOf_16 (q : m_C) (Q : m_R → Prop) : mt_T cd_TC_slotOf 16 q Q = mt_go [o_null] q (mt_kk cd_TC_slotOf Q (o_aret)) := mt_blk rfl q Q
theorem k_TC_slotOf_18 (q : m_C) (Q : m_R → Prop) : mt_T cd_TC_slotOf 18 q Q = mt_go [o_aload 0, o_get 8 0, o_iload 1, o_const (nI 12), o_mul, o_iload 2, o_add, o_aald 3] q (mt_kk cd_TC_slotOf Q (o_aret)) := mt_blk rfl q Q
-- TreeCarrier.isByte (I)Z
noncomputable def cd_TC_isByte : List m_B := [(0, [o_iload 0], o_iflt 15 4), (4, [o_iload 0, o_const (nI 255)], o_icgt 15 11), (11, [o_const (nI 1)], o_fall 16), (15, [o_const (nI 0)], o_fall 16), (16, [], o_zret)]
noncomputable def sm_TC_isByte : List m_V → m_M → Option m_R := mt_sem cd_TC_isByte 1
theorem k_TC_isByte_0 (q : m_C) (Q : m_R → Prop) : mt_T cd_TC_isByte 0 q Q = mt_go [o_iload 0] q (mt_kk cd_TC_isByte Q (o_iflt 15 4)) := mt_blk rfl q Q
theorem k_TC_isByte_4 (q : m_C) (Q : m_R → Prop) : mt_T cd_TC_isByte 4 q Q = mt_go [o_iload 0, o_const (nI 255)] q (mt_kk cd_TC_isByte Q (o_icgt 15 11)) := mt_blk rfl q Q
theorem k_TC_isByte_11 (q : m_C) (Q : m_R → Prop) : mt_T cd_TC_isByte 11 q Q = mt_go [o_const (nI 1)] q (mt_kk cd_TC_isByte Q (o_fall 16)) := mt_blk rfl q Q
theorem k_TC_isByte_15 (q : m_C) (Q : m_R → Prop) : mt_T cd_TC_isByte 15 q Q = mt_go [o_const (nI 0)] q (mt_kk cd_TC_isByte Q (o_fall 16)) := mt_blk rfl q Q
theorem k_TC_isByte_16 (q : m_C) (Q : m_R → Prop) : mt_T cd_TC_isByte 16 q Q = mt_go [] q (mt_kk cd_TC_isByte Q (o_zret)) := mt_blk rfl q Q
-- TreeCarrier.tick ()I
noncomputable def cd_TC_tick : List m_B := [(0, [o_aload 0, o_dup, o_get 8 8, o_const (nI 1), o_add, o_putI 8 8, o_aload 0, o_get 8 8], o_iret)]
noncomputable def sm_TC_tick : List m_V → m_M → Option m_R := mt_sem cd_TC_tick 1
theorem k_TC_tick_0 (q : m_C) (Q : m_R → Prop) : mt_T cd_TC_tick 0 q Q = mt_go [o_aload 0, o_dup, o_get 8 8, o_const (nI 1), o_add, o_putI 8 8, o_aload 0, o_get 8 8] q (mt_kk cd_TC_tick Q (o_iret)) := mt_blk rfl q Q
-- TreeCarrier.put (III)Z
noncomputable def cd_TC_put : List m_B := [(0, [o_aload 0, o_iload 1, o_iload 2], o_callV sm_TC_slotOf 8 3 6), (6, [o_astore 4, o_aload 4], o_ifnull 31 13), (13, [o_iload 3], o_callS sm_TC_isByte 1 17), (17, [], o_ifeq 31 20), (20, [o_aload 4, o_get 7 0], o_callV sm_Ro_isFull 5 1 28), (28, [], o_ifeq 33 31), (31, [o_const (nI 0)], o_zret), (33, [o_aload 4, o_const (nI 1), o_putZ 7 1, o_aload 4, o_get 7 0, o_iload 3], o_callV sm_Ro_append 5 2 48), (48, [o_aload 4, o_aload 0], o_callV sm_TC_tick 8 1 54), (54, [o_putI 7 2, o_const (nI 1)], o_zret)]
noncomputable def sm_TC_put : List m_V → m_M → Option m_R := mt_sem cd_TC_put 5
theorem k_TC_put_0 (q : m_C) (Q : m_R → Prop) : mt_T cd_TC_put 0 q Q = mt_go [o_aload 0, o_iload 1, o_iload 2] q (mt_kk cd_TC_put Q (o_callV sm_TC_slotOf 8 3 6)) := mt_blk rfl q Q
theorem k_TC_put_6 (q : m_C) (Q : m_R → Prop) : mt_T cd_TC_put 6 q Q = mt_go [o_astore 4, o_aload 4] q (mt_kk cd_TC_put Q (o_ifnull 31 13)) := mt_blk rfl q Q
theorem k_TC_put_13 (q : m_C) (Q : m_R → Prop) : mt_T cd_TC_put 13 q Q = mt_go [o_iload 3] q (mt_kk cd_TC_put Q (o_callS sm_TC_isByte 1 17)) := mt_blk rfl q Q
theorem k_TC_put_17 (q : m_C) (Q : m_R → Prop) : mt_T cd_TC_put 17 q Q = mt_go [] q (mt_kk cd_TC_put Q (o_ifeq 31 20)) := mt_blk rfl q Q
theorem k_TC_put_20 (q : m_C) (Q : m_R → Prop) : mt_T cd_TC_put 20 q Q = mt_go [o_aload 4, o_get 7 0] q (mt_kk cd_TC_put Q (o_callV sm_Ro_isFull 5 1 28)) := mt_blk rfl q Q
theorem k_TC_put_28 (q : m_C) (Q : m_R → Prop) : mt_T cd_TC_put 28 q Q = mt_go [] q (mt_kk cd_TC_put Q (o_ifeq 33 31)) := mt_blk rfl q Q
theorem k_TC_put_31 (q : m_C) (Q : m_R → Prop) : mt_T cd_TC_put 31 q Q = mt_go [o_const (nI 0)] q (mt_kk cd_TC_put Q (o_zret)) := mt_blk rfl q Q
theorem k_TC_put_33 (q : m_C) (Q : m_R → Prop) : mt_T cd_TC_put 33 q Q = mt_go [o_aload 4, o_const (nI 1), o_putZ 7 1, o_aload 4, o_get 7 0, o_iload 3] q (mt_kk cd_TC_put Q (o_callV sm_Ro_append 5 2 48)) := mt_blk rfl q Q
theorem k_TC_put_48 (q : m_C) (Q : m_R → Prop) : mt_T cd_TC_put 48 q Q = mt_go [o_aload 4, o_aload 0] q (mt_kk cd_TC_put Q (o_callV sm_TC_tick 8 1 54)) := mt_blk rfl q Q
theorem k_TC_put_54 (q : m_C) (Q : m_R → Prop) : mt_T cd_TC_put 54 q Q = mt_go [o_putI 7 2, o_const (nI 1)] q (mt_kk cd_TC_put Q (o_zret)) := mt_blk rfl q Q
-- TreeCarrier.fileOf (II)LTreeCarrier$StoredFile;
noncomputable def cd_TC_fileOf : List m_B := [(0, [o_aload 0, o_iload 1, o_iload 2], o_callV sm_TC_slotOf 8 3 6), (6, [o_astore 3, o_aload 3], o_ifnull 22 11), (11, [o_aload 3, o_get 7 1], o_ifeq 22 18), (18, [o_aload 3], o_fall 23), (22, [o_null], o_fall 23), (23, [], o_aret)]
noncomputable def sm_TC_fileOf : List m_V → m_M → Option m_R := mt_sem cd_TC_fileOf 4
theorem k_TC_fileOf_0 (q : m_C) (Q : m_R → Prop) : mt_T cd_TC_fileOf 0 q Q = mt_go [o_aload 0, o_iload 1, o_iload 2] q (mt_kk cd_TC_fileOf Q (o_callV sm_TC_slotOf 8 3 6)) := mt_blk rfl q Q
theorem k_TC_fileOf_6 (q : m_C) (Q : m_R → Prop) : mt_T cd_TC_fileOf 6 q Q = mt_go [o_astore 3, o_aload 3] q (mt_kk cd_TC_fileOf Q (o_ifnull 22 11)) := mt_blk rfl q Q
theorem k_TC_fileOf_11 (q : m_C) (Q : m_R → Prop) : mt_T cd_TC_fileOf 11 q Q = mt_go [o_aload 3, o_get 7 1] q (mt_kk cd_TC_fileOf Q (o_ifeq 22 18)) := mt_blk rfl q Q
theorem k_TC_fileOf_18 (q : m_C) (Q : m_R → Prop) : mt_T cd_TC_fileOf 18 q Q = mt_go [o_aload 3] q (mt_kk cd_TC_fileOf Q (o_fall 23)) := mt_blk rfl q Q
theorem k_TC_fileOf_22 (q : m_C) (Q : m_R → Prop) : mt_T cd_TC_fileOf 22 q Q = mt_go [o_null] q (mt_kk cd_TC_fileOf Q (o_fall 23)) := mt_blk rfl q Q
theorem k_TC_fileOf_23 (q : m_C) (Q : m_R → Prop) : mt_T cd_TC_fileOf 23 q Q = mt_go [] q (mt_kk cd_TC_fileOf Q (o_aret)) := mt_blk rfl q Q
-- TreeCarrier.set (IIII)Z
noncomputable def cd_TC_set : List m_B := [(0, [o_aload 0, o_iload 1, o_iload 2], o_callV sm_TC_fileOf 8 3 6), (6, [o_astore 5, o_aload 5], o_ifnull 33 13), (13, [o_aload 5, o_get 7 0, o_iload 3], o_callV sm_Ro_holds 5 2 22), (22, [], o_ifeq 33 25), (25, [o_iload 4], o_callS sm_TC_isByte 1 30), (30, [], o_ifne 35 33), (33, [o_const (nI 0)], o_zret), (35, [o_aload 5, o_get 7 0, o_iload 3, o_iload 4], o_callV sm_Ro_replace 5 3 46), (46, [o_aload 5, o_aload 0], o_callV sm_TC_tick 8 1 52), (52, [o_putI 7 2, o_const (nI 1)], o_zret)]
noncomputable def sm_TC_set : List m_V → m_M → Option m_R := mt_sem cd_TC_set 6
theorem k_TC_set_0 (q : m_C) (Q : m_R → Prop) : mt_T cd_TC_set 0 q Q = mt_go [o_aload 0, o_iload 1, o_iload 2] q (mt_kk cd_TC_set Q (o_callV sm_TC_fileOf 8 3 6)) := mt_blk rfl q Q
theorem k_TC_set_6 (q : m_C) (Q : m_R → Prop) : mt_T cd_TC_set 6 q Q = mt_go [o_astore 5, o_aload 5] q (mt_kk cd_TC_set Q (o_ifnull 33 13)) := mt_blk rfl q Q
theorem k_TC_set_13 (q : m_C) (Q : m_R → Prop) : mt_T cd_TC_set 13 q Q = mt_go [o_aload 5, o_get 7 0, o_iload 3] q (mt_kk cd_TC_set Q (o_callV sm_Ro_holds 5 2 22)) := mt_blk rfl q Q
theorem k_TC_set_22 (q : m_C) (Q : m_R → Prop) : mt_T cd_TC_set 22 q Q = mt_go [] q (mt_kk cd_TC_set Q (o_ifeq 33 25)) := mt_blk rfl q Q
theorem k_TC_set_25 (q : m_C) (Q : m_R → Prop) : mt_T cd_TC_set 25 q Q = mt_go [o_iload 4] q (mt_kk cd_TC_set Q (o_callS sm_TC_isByte 1 30)) := mt_blk rfl q Q
theorem k_TC_set_30 (q : m_C) (Q : m_R → Prop) : mt_T cd_TC_set 30 q Q = mt_go [] q (mt_kk cd_TC_set Q (o_ifne 35 33)) := mt_blk rfl q Q
theorem k_TC_set_33 (q : m_C) (Q : m_R → Prop) : mt_T cd_TC_set 33 q Q = mt_go [o_const (nI 0)] q (mt_kk cd_TC_set Q (o_zret)) := mt_blk rfl q Q
theorem k_TC_set_35 (q : m_C) (Q : m_R → Prop) : mt_T cd_TC_set 35 q Q = mt_go [o_aload 5, o_get 7 0, o_iload 3, o_iload 4] q (mt_kk cd_TC_set Q (o_callV sm_Ro_replace 5 3 46)) := mt_blk rfl q Q
theorem k_TC_set_46 (q : m_C) (Q : m_R → Prop) : mt_T cd_TC_set 46 q Q = mt_go [o_aload 5, o_aload 0] q (mt_kk cd_TC_set Q (o_callV sm_TC_tick 8 1 52)) := mt_blk rfl q Q
theorem k_TC_set_52 (q : m_C) (Q : m_R → Prop) : mt_T cd_TC_set 52 q Q = mt_go [o_putI 7 2, o_const (nI 1)] q (mt_kk cd_TC_set Q (o_zret)) := mt_blk rfl q Q
-- TreeCarrier.remove (II)Z
noncomputable def cd_TC_remove : List m_B := [(0, [o_aload 0, o_iload 1, o_iload 2], o_callV sm_TC_fileOf 8 3 6), (6, [o_astore 3, o_aload 3], o_ifnonnull 13 11), (11, [o_const (nI 0)], o_zret), (13, [o_aload 3], o_callV sm_Sf_erase 7 1 17), (17, [o_aload 0], o_callV sm_TC_tick 8 1 21), (21, [o_pop, o_const (nI 1)], o_zret)]
noncomputable def sm_TC_remove : List m_V → m_M → Option m_R := mt_sem cd_TC_remove 4
theorem k_TC_remove_0 (q : m_C) (Q : m_R → Prop) : mt_T cd_TC_remove 0 q Q = mt_go [o_aload 0, o_iload 1, o_iload 2] q (mt_kk cd_TC_remove Q (o_callV sm_TC_fileOf 8 3 6)) := mt_blk rfl q Q
theorem k_TC_remove_6 (q : m_C) (Q : m_R → Prop) : mt_T cd_TC_remove 6 q Q = mt_go [o_astore 3, o_aload 3] q (mt_kk cd_TC_remove Q (o_ifnonnull 13 11)) := mt_blk rfl q Q
theorem k_TC_remove_11 (q : m_C) (Q : m_R → Prop) : mt_T cd_TC_remove 11 q Q = mt_go [o_const (nI 0)] q (mt_kk cd_TC_remove Q (o_zret)) := mt_blk rfl q Q
theorem k_TC_remove_13 (q : m_C) (Q : m_R → Prop) : mt_T cd_TC_remove 13 q Q = mt_go [o_aload 3] q (mt_kk cd_TC_remove Q (o_callV sm_Sf_erase 7 1 17)) := mt_blk rfl q Q
theorem k_TC_remove_17 (q : m_C) (Q : m_R → Prop) : mt_T cd_TC_remove 17 q Q = mt_go [o_aload 0] q (mt_kk cd_TC_remove Q (o_callV sm_TC_tick 8 1 21)) := mt_blk rfl q Q
theorem k_TC_remove_21 (q : m_C) (Q : m_R → Prop) : mt_T cd_TC_remove 21 q Q = mt_go [o_pop, o_const (nI 1)] q (mt_kk cd_TC_remove Q (o_zret)) := mt_blk rfl q Q
-- TreeCarrier.doOldestRecord ()V
noncomputable def cd_TC_doOldestRecord : List m_B := [(0, [o_aload 0, o_get 8 5], o_callV sm_Jo_take 1 1 7), (7, [o_astore 1, o_aload 1], o_ifnonnull 16 12), (12, [o_null], o_fall 25), (16, [o_aload 0, o_const (nI 1), o_aload 1, o_get 2 1], o_callV sm_TC_slotOf 8 3 25), (25, [o_astore 2, o_aload 2], o_ifnull 65 30), (30, [o_aload 2, o_const (nI 1), o_putZ 7 1, o_aload 2, o_get 7 0, o_aload 1, o_get 2 0], o_callV sm_Ro_become 5 2 46), (46, [o_aload 2, o_aload 1, o_get 2 2, o_putI 7 2, o_aload 0, o_get 8 7, o_const (nI 7), o_dup2, o_iald, o_const (nI 1), o_add, o_iast], o_fall 65), (65, [], o_ret)]
noncomputable def sm_TC_doOldestRecord : List m_V → m_M → Option m_R := mt_sem cd_TC_doOldestRecord 3
theorem k_TC_doOldestRecord_0 (q : m_C) (Q : m_R → Prop) : mt_T cd_TC_doOldestRecord 0 q Q = mt_go [o_aload 0, o_get 8 5] q (mt_kk cd_TC_doOldestRecord Q (o_callV sm_Jo_take 1 1 7)) := mt_blk rfl q Q
theorem k_TC_doOldestRecord_7 (q : m_C) (Q : m_R → Prop) : mt_T cd_TC_doOldestRecord 7 q Q = mt_go [o_astore 1, o_aload 1] q (mt_kk cd_TC_doOldestRecord Q (o_ifnonnull 16 12)) := mt_blk rfl q Q
theorem k_TC_doOldestRecord_12 (q : m_C) (Q : m_R → Prop) : mt_T cd_TC_doOldestRecord 12 q Q = mt_go [o_null] q (mt_kk cd_TC_doOldestRecord Q (o_fall 25)) := mt_blk rfl q Q
theorem k_TC_doOldestRecord_16 (q : m_C) (Q : m_R → Prop) : mt_T cd_TC_doOldestRecord 16 q Q = mt_go [o_aload 0, o_const (nI 1), o_aload 1, o_get 2 1] q (mt_kk cd_TC_doOldestRecord Q (o_callV sm_TC_slotOf 8 3 25)) := mt_blk rfl q Q
theorem k_TC_doOldestRecord_25 (q : m_C) (Q : m_R → Prop) : mt_T cd_TC_doOldestRecord 25 q Q = mt_go [o_astore 2, o_aload 2] q (mt_kk cd_TC_doOldestRecord Q (o_ifnull 65 30)) := mt_blk rfl q Q
theorem k_TC_doOldestRecord_30 (q : m_C) (Q : m_R → Prop) : mt_T cd_TC_doOldestRecord 30 q Q = mt_go [o_aload 2, o_const (nI 1), o_putZ 7 1, o_aload 2, o_get 7 0, o_aload 1, o_get 2 0] q (mt_kk cd_TC_doOldestRecord Q (o_callV sm_Ro_become 5 2 46)) := mt_blk rfl q Q
theorem k_TC_doOldestRecord_46 (q : m_C) (Q : m_R → Prop) : mt_T cd_TC_doOldestRecord 46 q Q = mt_go [o_aload 2, o_aload 1, o_get 2 2, o_putI 7 2, o_aload 0, o_get 8 7, o_const (nI 7), o_dup2, o_iald, o_const (nI 1), o_add, o_iast] q (mt_kk cd_TC_doOldestRecord Q (o_fall 65)) := mt_blk rfl q Q
theorem k_TC_doOldestRecord_65 (q : m_C) (Q : m_R → Prop) : mt_T cd_TC_doOldestRecord 65 q Q = mt_go [] q (mt_kk cd_TC_doOldestRecord Q (o_ret)) := mt_blk rfl q Q
-- TreeCarrier.doAllRecords ()V
noncomputable def cd_TC_doAllRecords : List m_B := [(0, [o_aload 0, o_get 8 5, o_get 1 2, o_istore 1, o_const (nI 0), o_istore 2], o_fall 10), (10, [o_iload 2, o_iload 1], o_icge 25 15), (15, [o_aload 0], o_callV sm_TC_doOldestRecord 8 1 19), (19, [o_iinc 2 (nI 1)], o_fall 10), (25, [], o_ret)]
noncomputable def sm_TC_doAllRecords : List m_V → m_M → Option m_R := mt_sem cd_TC_doAllRecords 3
theorem k_TC_doAllRecords_0 (q : m_C) (Q : m_R → Prop) : mt_T cd_TC_doAllRecords 0 q Q = mt_go [o_aload 0, o_get 8 5, o_get 1 2, o_istore 1, o_const (nI 0), o_istore 2] q (mt_kk cd_TC_doAllRecords Q (o_fall 10)) := mt_blk rfl q Q
theorem k_TC_doAllRecords_10 (q : m_C) (Q : m_R → Prop) : mt_T cd_TC_doAllRecords 10 q Q = mt_go [o_iload 2, o_iload 1] q (mt_kk cd_TC_doAllRecords Q (o_icge 25 15)) := mt_blk rfl q Q
theorem k_TC_doAllRecords_15 (q : m_C) (Q : m_R → Prop) : mt_T cd_TC_doAllRecords 15 q Q = mt_go [o_aload 0] q (mt_kk cd_TC_doAllRecords Q (o_callV sm_TC_doOldestRecord 8 1 19)) := mt_blk rfl q Q
theorem k_TC_doAllRecords_19 (q : m_C) (Q : m_R → Prop) : mt_T cd_TC_doAllRecords 19 q Q = mt_go [o_iinc 2 (nI 1)] q (mt_kk cd_TC_doAllRecords Q (o_fall 10)) := mt_blk rfl q Q
theorem k_TC_doAllRecords_25 (q : m_C) (Q : m_R → Prop) : mt_T cd_TC_doAllRecords 25 q Q = mt_go [] q (mt_kk cd_TC_doAllRecords Q (o_ret)) := mt_blk rfl q Q
-- TreeCarrier.sendEntries ()V
noncomputable def cd_TC_sendEntries : List m_B := [(0, [o_const (nI 0), o_istore 1], o_fall 2), (2, [o_iload 1, o_const (nI 12)], o_icge 65 8), (8, [o_aload 0, o_const (nI 0), o_iload 1], o_callV sm_TC_fileOf 8 3 14), (14, [o_astore 2, o_aload 2], o_ifnull 59 19), (19, [o_aload 0, o_get 8 1, o_iload 1], o_callV sm_Ru_select 6 2 27), (27, [], o_ifeq 59 30), (30, [o_aload 0, o_get 8 3, o_const (nI 1), o_iload 1], o_callV sm_Li_append 3 3 39), (39, [o_astore 3, o_aload 3, o_aload 2, o_get 7 0, o_get 5 1, o_putI 4 2, o_aload 3, o_aload 2, o_get 7 2, o_putI 4 3], o_fall 59), (59, [o_iinc 1 (nI 1)], o_fall 2), (65, [o_aload 0, o_get 8 3, o_const (nI 2), o_const (nI 0)], o_callV sm_Li_append 3 3 74), (74, [o_pop], o_ret)]
noncomputable def sm_TC_sendEntries : List m_V → m_M → Option m_R := mt_sem cd_TC_sendEntries 4
theorem k_TC_sendEntries_0 (q : m_C) (Q : m_R → Prop) : mt_T cd_TC_sendEntries 0 q Q = mt_go [o_const (nI 0), o_istore 1] q (mt_kk cd_TC_sendEntries Q (o_fall 2)) := mt_blk rfl q Q
theorem k_TC_sendEntries_2 (q : m_C) (Q : m_R → Prop) : mt_T cd_TC_sendEntries 2 q Q = mt_go [o_iload 1, o_const (nI 12)] q (mt_kk cd_TC_sendEntries Q (o_icge 65 8)) := mt_blk rfl q Q
theorem k_TC_sendEntries_8 (q : m_C) (Q : m_R → Prop) : mt_T cd_TC_sendEntries 8 q Q = mt_go [o_aload 0, o_const (nI 0), o_iload 1] q (mt_kk cd_TC_sendEntries Q (o_callV sm_TC_fileOf 8 3 14)) := mt_blk rfl q Q
theorem k_TC_sendEntries_14 (q : m_C) (Q : m_R → Prop) : mt_T cd_TC_sendEntries 14 q Q = mt_go [o_astore 2, o_aload 2] q (mt_kk cd_TC_sendEntries Q (o_ifnull 59 19)) := mt_blk rfl q Q
theorem k_TC_sendEntries_19 (q : m_C) (Q : m_R → Prop) : mt_T cd_TC_sendEntries 19 q Q = mt_go [o_aload 0, o_get 8 1, o_iload 1] q (mt_kk cd_TC_sendEntries Q (o_callV sm_Ru_select 6 2 27)) := mt_blk rfl q Q
theorem k_TC_sendEntries_27 (q : m_C) (Q : m_R → Prop) : mt_T cd_TC_sendEntries 27 q Q = mt_go [] q (mt_kk cd_TC_sendEntries Q (o_ifeq 59 30)) := mt_blk rfl q Q
theorem k_TC_sendEntries_30 (q : m_C) (Q : m_R → Prop) : mt_T cd_TC_sendEntries 30 q Q = mt_go [o_aload 0, o_get 8 3, o_const (nI 1), o_iload 1] q (mt_kk cd_TC_sendEntries Q (o_callV sm_Li_append 3 3 39)) := mt_blk rfl q Q
theorem k_TC_sendEntries_39 (q : m_C) (Q : m_R → Prop) : mt_T cd_TC_sendEntries 39 q Q = mt_go [o_astore 3, o_aload 3, o_aload 2, o_get 7 0, o_get 5 1, o_putI 4 2, o_aload 3, o_aload 2, o_get 7 2, o_putI 4 3] q (mt_kk cd_TC_sendEntries Q (o_fall 59)) := mt_blk rfl q Q
theorem k_TC_sendEntries_59 (q : m_C) (Q : m_R → Prop) : mt_T cd_TC_sendEntries 59 q Q = mt_go [o_iinc 1 (nI 1)] q (mt_kk cd_TC_sendEntries Q (o_fall 2)) := mt_blk rfl q Q
theorem k_TC_sendEntries_65 (q : m_C) (Q : m_R → Prop) : mt_T cd_TC_sendEntries 65 q Q = mt_go [o_aload 0, o_get 8 3, o_const (nI 2), o_const (nI 0)] q (mt_kk cd_TC_sendEntries Q (o_callV sm_Li_append 3 3 74)) := mt_blk rfl q Q
theorem k_TC_sendEntries_74 (q : m_C) (Q : m_R → Prop) : mt_T cd_TC_sendEntries 74 q Q = mt_go [o_pop] q (mt_kk cd_TC_sendEntries Q (o_ret)) := mt_blk rfl q Q
-- TreeCarrier.begin (IZ)Z
noncomputable def cd_TC_begin : List m_B := [(0, [o_aload 0, o_get 8 9], o_ifne 18 7), (7, [o_iload 1, o_const (nI 1)], o_iclt 18 12), (12, [o_iload 1, o_const (nI 8)], o_icle 20 18), (18, [o_const (nI 0)], o_zret), (20, [o_aload 0], o_callV sm_TC_doAllRecords 8 1 24), (24, [o_aload 0, o_const (nI 1), o_putZ 8 9, o_aload 0, o_iload 2, o_putZ 8 10, o_aload 0, o_iload 1, o_putI 8 11, o_aload 0], o_callV sm_TC_sendEntries 8 1 43), (43, [o_const (nI 1)], o_zret)]
noncomputable def sm_TC_begin : List m_V → m_M → Option m_R := mt_sem cd_TC_begin 3
theorem k_TC_begin_0 (q : m_C) (Q : m_R → Prop) : mt_T cd_TC_begin 0 q Q = mt_go [o_aload 0, o_get 8 9] q (mt_kk cd_TC_begin Q (o_ifne 18 7)) := mt_blk rfl q Q
theorem k_TC_begin_7 (q : m_C) (Q : m_R → Prop) : mt_T cd_TC_begin 7 q Q = mt_go [o_iload 1, o_const (nI 1)] q (mt_kk cd_TC_begin Q (o_iclt 18 12)) := mt_blk rfl q Q
theorem k_TC_begin_12 (q : m_C) (Q : m_R → Prop) : mt_T cd_TC_begin 12 q Q = mt_go [o_iload 1, o_const (nI 8)] q (mt_kk cd_TC_begin Q (o_icle 20 18)) := mt_blk rfl q Q
theorem k_TC_begin_18 (q : m_C) (Q : m_R → Prop) : mt_T cd_TC_begin 18 q Q = mt_go [o_const (nI 0)] q (mt_kk cd_TC_begin Q (o_zret)) := mt_blk rfl q Q
theorem k_TC_begin_20 (q : m_C) (Q : m_R → Prop) : mt_T cd_TC_begin 20 q Q = mt_go [o_aload 0] q (mt_kk cd_TC_begin Q (o_callV sm_TC_doAllRecords 8 1 24)) := mt_blk rfl q Q
theorem k_TC_begin_24 (q : m_C) (Q : m_R → Prop) : mt_T cd_TC_begin 24 q Q = mt_go [o_aload 0, o_const (nI 1), o_putZ 8 9, o_aload 0, o_iload 2, o_putZ 8 10, o_aload 0, o_iload 1, o_putI 8 11, o_aload 0] q (mt_kk cd_TC_begin Q (o_callV sm_TC_sendEntries 8 1 43)) := mt_blk rfl q Q
theorem k_TC_begin_43 (q : m_C) (Q : m_R → Prop) : mt_T cd_TC_begin 43 q Q = mt_go [o_const (nI 1)] q (mt_kk cd_TC_begin Q (o_zret)) := mt_blk rfl q Q
-- TreeCarrier.lineOf (I)LTreeCarrier$Line;
noncomputable def cd_TC_lineOf : List m_B := [(0, [o_iload 1], o_ifne 9 4), (4, [o_aload 0, o_get 8 2], o_aret), (9, [o_iload 1, o_const (nI 1)], o_icne 21 14), (14, [o_aload 0, o_get 8 3], o_fall 22), (21, [o_null], o_fall 22), (22, [], o_aret)]
noncomputable def sm_TC_lineOf : List m_V → m_M → Option m_R := mt_sem cd_TC_lineOf 2
theorem k_TC_lineOf_0 (q : m_C) (Q : m_R → Prop) : mt_T cd_TC_lineOf 0 q Q = mt_go [o_iload 1] q (mt_kk cd_TC_lineOf Q (o_ifne 9 4)) := mt_blk rfl q Q
theorem k_TC_lineOf_4 (q : m_C) (Q : m_R → Prop) : mt_T cd_TC_lineOf 4 q Q = mt_go [o_aload 0, o_get 8 2] q (mt_kk cd_TC_lineOf Q (o_aret)) := mt_blk rfl q Q
theorem k_TC_lineOf_9 (q : m_C) (Q : m_R → Prop) : mt_T cd_TC_lineOf 9 q Q = mt_go [o_iload 1, o_const (nI 1)] q (mt_kk cd_TC_lineOf Q (o_icne 21 14)) := mt_blk rfl q Q
theorem k_TC_lineOf_14 (q : m_C) (Q : m_R → Prop) : mt_T cd_TC_lineOf 14 q Q = mt_go [o_aload 0, o_get 8 3] q (mt_kk cd_TC_lineOf Q (o_fall 22)) := mt_blk rfl q Q
theorem k_TC_lineOf_21 (q : m_C) (Q : m_R → Prop) : mt_T cd_TC_lineOf 21 q Q = mt_go [o_null] q (mt_kk cd_TC_lineOf Q (o_fall 22)) := mt_blk rfl q Q
theorem k_TC_lineOf_22 (q : m_C) (Q : m_R → Prop) : mt_T cd_TC_lineOf 22 q Q = mt_go [] q (mt_kk cd_TC_lineOf Q (o_aret)) := mt_blk rfl q Q
-- TreeCarrier.entryOf (I)LTreeCarrier$Entry;
noncomputable def cd_TC_entryOf : List m_B := [(0, [o_iload 1], o_callS sm_TC_isName 1 4), (4, [], o_ifeq 16 7), (7, [o_aload 0, o_get 8 4, o_iload 1, o_aald 4], o_fall 17), (16, [o_null], o_fall 17), (17, [], o_aret)]
noncomputable def sm_TC_entryOf : List m_V → m_M → Option m_R := mt_sem cd_TC_entryOf 2
theorem k_TC_entryOf_0 (q : m_C) (Q : m_R → Prop) : mt_T cd_TC_entryOf 0 q Q = mt_go [o_iload 1] q (mt_kk cd_TC_entryOf Q (o_callS sm_TC_isName 1 4)) := mt_blk rfl q Q
theorem k_TC_entryOf_4 (q : m_C) (Q : m_R → Prop) : mt_T cd_TC_entryOf 4 q Q = mt_go [] q (mt_kk cd_TC_entryOf Q (o_ifeq 16 7)) := mt_blk rfl q Q
theorem k_TC_entryOf_7 (q : m_C) (Q : m_R → Prop) : mt_T cd_TC_entryOf 7 q Q = mt_go [o_aload 0, o_get 8 4, o_iload 1, o_aald 4] q (mt_kk cd_TC_entryOf Q (o_fall 17)) := mt_blk rfl q Q
theorem k_TC_entryOf_16 (q : m_C) (Q : m_R → Prop) : mt_T cd_TC_entryOf 16 q Q = mt_go [o_null] q (mt_kk cd_TC_entryOf Q (o_fall 17)) := mt_blk rfl q Q
theorem k_TC_entryOf_17 (q : m_C) (Q : m_R → Prop) : mt_T cd_TC_entryOf 17 q Q = mt_go [] q (mt_kk cd_TC_entryOf Q (o_aret)) := mt_blk rfl q Q
-- TreeCarrier.noteEntry (LTreeCarrier$Message;)V
noncomputable def cd_TC_noteEntry : List m_B := [(0, [o_aload 0, o_aload 1, o_get 4 1], o_callV sm_TC_entryOf 8 2 8), (8, [o_astore 2, o_aload 2], o_ifnull 34 13), (13, [o_aload 2, o_const (nI 1), o_putZ 0 0, o_aload 2, o_aload 1, o_get 4 2, o_putI 0 2, o_aload 2, o_aload 1, o_get 4 3, o_putI 0 3], o_fall 34), (34, [], o_ret)]
noncomputable def sm_TC_noteEntry : List m_V → m_M → Option m_R := mt_sem cd_TC_noteEntry 3
theorem k_TC_noteEntry_0 (q : m_C) (Q : m_R → Prop) : mt_T cd_TC_noteEntry 0 q Q = mt_go [o_aload 0, o_aload 1, o_get 4 1] q (mt_kk cd_TC_noteEntry Q (o_callV sm_TC_entryOf 8 2 8)) := mt_blk rfl q Q
theorem k_TC_noteEntry_8 (q : m_C) (Q : m_R → Prop) : mt_T cd_TC_noteEntry 8 q Q = mt_go [o_astore 2, o_aload 2] q (mt_kk cd_TC_noteEntry Q (o_ifnull 34 13)) := mt_blk rfl q Q
theorem k_TC_noteEntry_13 (q : m_C) (Q : m_R → Prop) : mt_T cd_TC_noteEntry 13 q Q = mt_go [o_aload 2, o_const (nI 1), o_putZ 0 0, o_aload 2, o_aload 1, o_get 4 2, o_putI 0 2, o_aload 2, o_aload 1, o_get 4 3, o_putI 0 3] q (mt_kk cd_TC_noteEntry Q (o_fall 34)) := mt_blk rfl q Q
theorem k_TC_noteEntry_34 (q : m_C) (Q : m_R → Prop) : mt_T cd_TC_noteEntry 34 q Q = mt_go [] q (mt_kk cd_TC_noteEntry Q (o_ret)) := mt_blk rfl q Q
-- TreeCarrier.sendSignature (II)V
noncomputable def cd_TC_sendSignature : List m_B := [(0, [o_aload 0, o_const (nI 1), o_iload 1], o_callV sm_TC_slotOf 8 3 6), (6, [o_astore 3, o_aload 3], o_ifnonnull 12 11), (11, [], o_ret), (12, [o_aload 0, o_get 8 2, o_const (nI 3), o_iload 1], o_callV sm_Li_append 3 3 21), (21, [o_astore 4, o_aload 4, o_iload 2, o_putI 4 4, o_aload 0, o_get 8 11, o_const (nI 1)], o_icge 41 37), (37, [o_const (nI 0)], o_fall 53), (41, [o_aload 3, o_get 7 0, o_get 5 1, o_aload 0, o_get 8 11, o_div], o_fall 53), (53, [o_istore 5, o_const (nI 0), o_istore 6], o_fall 58), (58, [o_iload 6, o_iload 5], o_icge 95 65), (65, [o_aload 4, o_aload 3, o_get 7 0, o_iload 6, o_aload 0, o_get 8 11, o_mul, o_aload 0, o_get 8 11, o_iload 2], o_callV sm_Ro_sums 5 4 86), (86, [], o_callV sm_Ms_addItem 4 2 89), (89, [o_iinc 6 (nI 1)], o_fall 58), (95, [], o_ret)]
noncomputable def sm_TC_sendSignature : List m_V → m_M → Option m_R := mt_sem cd_TC_sendSignature 7
theorem k_TC_sendSignature_0 (q : m_C) (Q : m_R → Prop) : mt_T cd_TC_sendSignature 0 q Q = mt_go [o_aload 0, o_const (nI 1), o_iload 1] q (mt_kk cd_TC_sendSignature Q (o_callV sm_TC_slotOf 8 3 6)) := mt_blk rfl q Q
theorem k_TC_sendSignature_6 (q : m_C) (Q : m_R → Prop) : mt_T cd_TC_sendSignature 6 q Q = mt_go [o_astore 3, o_aload 3] q (mt_kk cd_TC_sendSignature Q (o_ifnonnull 12 11)) := mt_blk rfl q Q
theorem k_TC_sendSignature_11 (q : m_C) (Q : m_R → Prop) : mt_T cd_TC_sendSignature 11 q Q = mt_go [] q (mt_kk cd_TC_sendSignature Q (o_ret)) := mt_blk rfl q Q
theorem k_TC_sendSignature_12 (q : m_C) (Q : m_R → Prop) : mt_T cd_TC_sendSignature 12 q Q = mt_go [o_aload 0, o_get 8 2, o_const (nI 3), o_iload 1] q (mt_kk cd_TC_sendSignature Q (o_callV sm_Li_append 3 3 21)) := mt_blk rfl q Q
theorem k_TC_sendSignature_21 (q : m_C) (Q : m_R → Prop) : mt_T cd_TC_sendSignature 21 q Q = mt_go [o_astore 4, o_aload 4, o_iload 2, o_putI 4 4, o_aload 0, o_get 8 11, o_const (nI 1)] q (mt_kk cd_TC_sendSignature Q (o_icge 41 37)) := mt_blk rfl q Q
theorem k_TC_sendSignature_37 (q : m_C) (Q : m_R → Prop) : mt_T cd_TC_sendSignature 37 q Q = mt_go [o_const (nI 0)] q (mt_kk cd_TC_sendSignature Q (o_fall 53)) := mt_blk rfl q Q
theorem k_TC_sendSignature_41 (q : m_C) (Q : m_R → Prop) : mt_T cd_TC_sendSignature 41 q Q = mt_go [o_aload 3, o_get 7 0, o_get 5 1, o_aload 0, o_get 8 11, o_div] q (mt_kk cd_TC_sendSignature Q (o_fall 53)) := mt_blk rfl q Q
theorem k_TC_sendSignature_53 (q : m_C) (Q : m_R → Prop) : mt_T cd_TC_sendSignature 53 q Q = mt_go [o_istore 5, o_const (nI 0), o_istore 6] q (mt_kk cd_TC_sendSignature Q (o_fall 58)) := mt_blk rfl q Q
theorem k_TC_sendSignature_58 (q : m_C) (Q : m_R → Prop) : mt_T cd_TC_sendSignature 58 q Q = mt_go [o_iload 6, o_iload 5] q (mt_kk cd_TC_sendSignature Q (o_icge 95 65)) := mt_blk rfl q Q
theorem k_TC_sendSignature_65 (q : m_C) (Q : m_R → Prop) : mt_T cd_TC_sendSignature 65 q Q = mt_go [o_aload 4, o_aload 3, o_get 7 0, o_iload 6, o_aload 0, o_get 8 11, o_mul, o_aload 0, o_get 8 11, o_iload 2] q (mt_kk cd_TC_sendSignature Q (o_callV sm_Ro_sums 5 4 86)) := mt_blk rfl q Q
theorem k_TC_sendSignature_86 (q : m_C) (Q : m_R → Prop) : mt_T cd_TC_sendSignature 86 q Q = mt_go [] q (mt_kk cd_TC_sendSignature Q (o_callV sm_Ms_addItem 4 2 89)) := mt_blk rfl q Q
theorem k_TC_sendSignature_89 (q : m_C) (Q : m_R → Prop) : mt_T cd_TC_sendSignature 89 q Q = mt_go [o_iinc 6 (nI 1)] q (mt_kk cd_TC_sendSignature Q (o_fall 58)) := mt_blk rfl q Q
theorem k_TC_sendSignature_95 (q : m_C) (Q : m_R → Prop) : mt_T cd_TC_sendSignature 95 q Q = mt_go [] q (mt_kk cd_TC_sendSignature Q (o_ret)) := mt_blk rfl q Q
-- TreeCarrier.openEntries ()V
noncomputable def cd_TC_openEntries : List m_B := [(0, [o_const (nI 0), o_istore 1], o_fall 2), (2, [o_iload 1, o_const (nI 12)], o_icge 68 8), (8, [o_aload 0, o_get 8 4, o_iload 1, o_aald 4, o_astore 2, o_aload 2, o_get 0 0], o_ifne 25 22), (22, [], o_fall 62), (25, [o_aload 2, o_aload 0, o_const (nI 1), o_iload 1], o_callV sm_TC_fileOf 8 3 32), (32, [], o_callV sm_En_agreesWith 0 2 35), (35, [], o_ifeq 51 38), (38, [o_aload 0, o_get 8 7, o_const (nI 5), o_dup2, o_iald, o_const (nI 1), o_add, o_iast], o_fall 62), (51, [o_aload 2, o_const (nI 1), o_putZ 0 1, o_aload 0, o_iload 1, o_const (nI 1)], o_callV sm_TC_sendSignature 8 3 62), (62, [o_iinc 1 (nI 1)], o_fall 2), (68, [], o_ret)]
noncomputable def sm_TC_openEntries : List m_V → m_M → Option m_R := mt_sem cd_TC_openEntries 3
theorem k_TC_openEntries_0 (q : m_C) (Q : m_R → Prop) : mt_T cd_TC_openEntries 0 q Q = mt_go [o_const (nI 0), o_istore 1] q (mt_kk cd_TC_openEntries Q (o_fall 2)) := mt_blk rfl q Q
theorem k_TC_openEntries_2 (q : m_C) (Q : m_R → Prop) : mt_T cd_TC_openEntries 2 q Q = mt_go [o_iload 1, o_const (nI 12)] q (mt_kk cd_TC_openEntries Q (o_icge 68 8)) := mt_blk rfl q Q
theorem k_TC_openEntries_8 (q : m_C) (Q : m_R → Prop) : mt_T cd_TC_openEntries 8 q Q = mt_go [o_aload 0, o_get 8 4, o_iload 1, o_aald 4, o_astore 2, o_aload 2, o_get 0 0] q (mt_kk cd_TC_openEntries Q (o_ifne 25 22)) := mt_blk rfl q Q
theorem k_TC_openEntries_22 (q : m_C) (Q : m_R → Prop) : mt_T cd_TC_openEntries 22 q Q = mt_go [] q (mt_kk cd_TC_openEntries Q (o_fall 62)) := mt_blk rfl q Q
theorem k_TC_openEntries_25 (q : m_C) (Q : m_R → Prop) : mt_T cd_TC_openEntries 25 q Q = mt_go [o_aload 2, o_aload 0, o_const (nI 1), o_iload 1] q (mt_kk cd_TC_openEntries Q (o_callV sm_TC_fileOf 8 3 32)) := mt_blk rfl q Q
theorem k_TC_openEntries_32 (q : m_C) (Q : m_R → Prop) : mt_T cd_TC_openEntries 32 q Q = mt_go [] q (mt_kk cd_TC_openEntries Q (o_callV sm_En_agreesWith 0 2 35)) := mt_blk rfl q Q
theorem k_TC_openEntries_35 (q : m_C) (Q : m_R → Prop) : mt_T cd_TC_openEntries 35 q Q = mt_go [] q (mt_kk cd_TC_openEntries Q (o_ifeq 51 38)) := mt_blk rfl q Q
theorem k_TC_openEntries_38 (q : m_C) (Q : m_R → Prop) : mt_T cd_TC_openEntries 38 q Q = mt_go [o_aload 0, o_get 8 7, o_const (nI 5), o_dup2, o_iald, o_const (nI 1), o_add, o_iast] q (mt_kk cd_TC_openEntries Q (o_fall 62)) := mt_blk rfl q Q
theorem k_TC_openEntries_51 (q : m_C) (Q : m_R → Prop) : mt_T cd_TC_openEntries 51 q Q = mt_go [o_aload 2, o_const (nI 1), o_putZ 0 1, o_aload 0, o_iload 1, o_const (nI 1)] q (mt_kk cd_TC_openEntries Q (o_callV sm_TC_sendSignature 8 3 62)) := mt_blk rfl q Q
theorem k_TC_openEntries_62 (q : m_C) (Q : m_R → Prop) : mt_T cd_TC_openEntries 62 q Q = mt_go [o_iinc 1 (nI 1)] q (mt_kk cd_TC_openEntries Q (o_fall 2)) := mt_blk rfl q Q
theorem k_TC_openEntries_68 (q : m_C) (Q : m_R → Prop) : mt_T cd_TC_openEntries 68 q Q = mt_go [] q (mt_kk cd_TC_openEntries Q (o_ret)) := mt_blk rfl q Q
-- TreeCarrier.rebuild (LTreeCarrier$Row;LTreeCarrier$Message;)V
noncomputable def cd_TC_rebuild : List m_B := [(0, [o_aload 0, o_get 8 6], o_callV sm_Ro_clear 5 1 7), (7, [o_const (nI 0), o_istore 3], o_fall 9), (9, [o_iload 3, o_aload 2, o_get 4 6], o_icge 74 17), (17, [o_aload 2, o_get 4 7, o_iload 3, o_iald, o_istore 4, o_iload 4, o_const (nI 256)], o_icge 45 33), (33, [o_aload 0, o_get 8 6, o_iload 4], o_callV sm_Ro_append 5 2 42), (42, [], o_fall 68), (45, [o_aload 0, o_get 8 6, o_aload 1, o_iload 4, o_const (nI 256), o_sub, o_aload 0, o_get 8 11, o_mul, o_aload 0, o_get 8 11], o_callV sm_Ro_appendPart 5 4 68), (68, [o_iinc 3 (nI 1)], o_fall 9), (74, [], o_ret)]
noncomputable def sm_TC_rebuild : List m_V → m_M → Option m_R := mt_sem cd_TC_rebuild 5
theorem k_TC_rebuild_0 (q : m_C) (Q : m_R → Prop) : mt_T cd_TC_rebuild 0 q Q = mt_go [o_aload 0, o_get 8 6] q (mt_kk cd_TC_rebuild Q (o_callV sm_Ro_clear 5 1 7)) := mt_blk rfl q Q
theorem k_TC_rebuild_7 (q : m_C) (Q : m_R → Prop) : mt_T cd_TC_rebuild 7 q Q = mt_go [o_const (nI 0), o_istore 3] q (mt_kk cd_TC_rebuild Q (o_fall 9)) := mt_blk rfl q Q
theorem k_TC_rebuild_9 (q : m_C) (Q : m_R → Prop) : mt_T cd_TC_rebuild 9 q Q = mt_go [o_iload 3, o_aload 2, o_get 4 6] q (mt_kk cd_TC_rebuild Q (o_icge 74 17)) := mt_blk rfl q Q
theorem k_TC_rebuild_17 (q : m_C) (Q : m_R → Prop) : mt_T cd_TC_rebuild 17 q Q = mt_go [o_aload 2, o_get 4 7, o_iload 3, o_iald, o_istore 4, o_iload 4, o_const (nI 256)] q (mt_kk cd_TC_rebuild Q (o_icge 45 33)) := mt_blk rfl q Q
theorem k_TC_rebuild_33 (q : m_C) (Q : m_R → Prop) : mt_T cd_TC_rebuild 33 q Q = mt_go [o_aload 0, o_get 8 6, o_iload 4] q (mt_kk cd_TC_rebuild Q (o_callV sm_Ro_append 5 2 42)) := mt_blk rfl q Q
theorem k_TC_rebuild_42 (q : m_C) (Q : m_R → Prop) : mt_T cd_TC_rebuild 42 q Q = mt_go [] q (mt_kk cd_TC_rebuild Q (o_fall 68)) := mt_blk rfl q Q
theorem k_TC_rebuild_45 (q : m_C) (Q : m_R → Prop) : mt_T cd_TC_rebuild 45 q Q = mt_go [o_aload 0, o_get 8 6, o_aload 1, o_iload 4, o_const (nI 256), o_sub, o_aload 0, o_get 8 11, o_mul, o_aload 0, o_get 8 11] q (mt_kk cd_TC_rebuild Q (o_callV sm_Ro_appendPart 5 4 68)) := mt_blk rfl q Q
theorem k_TC_rebuild_68 (q : m_C) (Q : m_R → Prop) : mt_T cd_TC_rebuild 68 q Q = mt_go [o_iinc 3 (nI 1)] q (mt_kk cd_TC_rebuild Q (o_fall 9)) := mt_blk rfl q Q
theorem k_TC_rebuild_74 (q : m_C) (Q : m_R → Prop) : mt_T cd_TC_rebuild 74 q Q = mt_go [] q (mt_kk cd_TC_rebuild Q (o_ret)) := mt_blk rfl q Q
-- TreeCarrier.failEntry (I)V
noncomputable def cd_TC_failEntry : List m_B := [(0, [o_aload 0, o_iload 1], o_callV sm_TC_entryOf 8 2 5), (5, [o_astore 2, o_aload 2], o_ifnull 25 10), (10, [o_aload 2, o_const (nI 0), o_putZ 0 1, o_aload 0, o_get 8 7, o_const (nI 3), o_dup2, o_iald, o_const (nI 1), o_add, o_iast], o_fall 25), (25, [], o_ret)]
noncomputable def sm_TC_failEntry : List m_V → m_M → Option m_R := mt_sem cd_TC_failEntry 3
theorem k_TC_failEntry_0 (q : m_C) (Q : m_R → Prop) : mt_T cd_TC_failEntry 0 q Q = mt_go [o_aload 0, o_iload 1] q (mt_kk cd_TC_failEntry Q (o_callV sm_TC_entryOf 8 2 5)) := mt_blk rfl q Q
theorem k_TC_failEntry_5 (q : m_C) (Q : m_R → Prop) : mt_T cd_TC_failEntry 5 q Q = mt_go [o_astore 2, o_aload 2] q (mt_kk cd_TC_failEntry Q (o_ifnull 25 10)) := mt_blk rfl q Q
theorem k_TC_failEntry_10 (q : m_C) (Q : m_R → Prop) : mt_T cd_TC_failEntry 10 q Q = mt_go [o_aload 2, o_const (nI 0), o_putZ 0 1, o_aload 0, o_get 8 7, o_const (nI 3), o_dup2, o_iald, o_const (nI 1), o_add, o_iast] q (mt_kk cd_TC_failEntry Q (o_fall 25)) := mt_blk rfl q Q
theorem k_TC_failEntry_25 (q : m_C) (Q : m_R → Prop) : mt_T cd_TC_failEntry 25 q Q = mt_go [] q (mt_kk cd_TC_failEntry Q (o_ret)) := mt_blk rfl q Q
-- TreeCarrier.receiveDelta (LTreeCarrier$Message;)V
noncomputable def cd_TC_receiveDelta : List m_B := [(0, [o_aload 0, o_aload 1, o_get 4 1], o_callV sm_TC_entryOf 8 2 8), (8, [o_astore 2, o_aload 0, o_const (nI 1), o_aload 1, o_get 4 1], o_callV sm_TC_slotOf 8 3 18), (18, [o_astore 3, o_aload 2], o_ifnull 27 23), (23, [o_aload 3], o_ifnonnull 28 27), (27, [], o_ret), (28, [o_aload 0, o_aload 3, o_get 7 0, o_aload 1], o_callV sm_TC_rebuild 8 3 37), (37, [o_aload 0, o_get 8 6], o_callV sm_Ro_digest 5 1 44), (44, [o_aload 1, o_get 4 5], o_icne 78 51), (51, [o_aload 0, o_get 8 5, o_aload 1, o_get 4 1, o_aload 0, o_get 8 6, o_aload 2, o_get 0 3], o_callV sm_Jo_append 1 4 70), (70, [o_aload 2, o_const (nI 0), o_putZ 0 1], o_fall 116), (78, [o_aload 1, o_get 4 4, o_const (nI 1)], o_icne 108 86), (86, [o_aload 0, o_get 8 7, o_const (nI 2), o_dup2, o_iald, o_const (nI 1), o_add, o_iast, o_aload 0, o_aload 1, o_get 4 1, o_const (nI 2)], o_callV sm_TC_sendSignature 8 3 105), (105, [], o_fall 116), (108, [o_aload 0, o_aload 1, o_get 4 1], o_callV sm_TC_failEntry 8 2 116), (116, [], o_ret)]
noncomputable def sm_TC_receiveDelta : List m_V → m_M → Option m_R := mt_sem cd_TC_receiveDelta 4
theorem k_TC_receiveDelta_0 (q : m_C) (Q : m_R → Prop) : mt_T cd_TC_receiveDelta 0 q Q = mt_go [o_aload 0, o_aload 1, o_get 4 1] q (mt_kk cd_TC_receiveDelta Q (o_callV sm_TC_entryOf 8 2 8)) := mt_blk rfl q Q
theorem k_TC_receiveDelta_8 (q : m_C) (Q : m_R → Prop) : mt_T cd_TC_receiveDelta 8 q Q = mt_go [o_astore 2, o_aload 0, o_const (nI 1), o_aload 1, o_get 4 1] q (mt_kk cd_TC_receiveDelta Q (o_callV sm_TC_slotOf 8 3 18)) := mt_blk rfl q Q
theorem k_TC_receiveDelta_18 (q : m_C) (Q : m_R → Prop) : mt_T cd_TC_receiveDelta 18 q Q = mt_go [o_astore 3, o_aload 2] q (mt_kk cd_TC_receiveDelta Q (o_ifnull 27 23)) := mt_blk rfl q Q
theorem k_TC_receiveDelta_23 (q : m_C) (Q : m_R → Prop) : mt_T cd_TC_receiveDelta 23 q Q = mt_go [o_aload 3] q (mt_kk cd_TC_receiveDelta Q (o_ifnonnull 28 27)) := mt_blk rfl q Q
theorem k_TC_receiveDelta_27 (q : m_C) (Q : m_R → Prop) : mt_T cd_TC_receiveDelta 27 q Q = mt_go [] q (mt_kk cd_TC_receiveDelta Q (o_ret)) := mt_blk rfl q Q
theorem k_TC_receiveDelta_28 (q : m_C) (Q : m_R → Prop) : mt_T cd_TC_receiveDelta 28 q Q = mt_go [o_aload 0, o_aload 3, o_get 7 0, o_aload 1] q (mt_kk cd_TC_receiveDelta Q (o_callV sm_TC_rebuild 8 3 37)) := mt_blk rfl q Q
theorem k_TC_receiveDelta_37 (q : m_C) (Q : m_R → Prop) : mt_T cd_TC_receiveDelta 37 q Q = mt_go [o_aload 0, o_get 8 6] q (mt_kk cd_TC_receiveDelta Q (o_callV sm_Ro_digest 5 1 44)) := mt_blk rfl q Q
theorem k_TC_receiveDelta_44 (q : m_C) (Q : m_R → Prop) : mt_T cd_TC_receiveDelta 44 q Q = mt_go [o_aload 1, o_get 4 5] q (mt_kk cd_TC_receiveDelta Q (o_icne 78 51)) := mt_blk rfl q Q
theorem k_TC_receiveDelta_51 (q : m_C) (Q : m_R → Prop) : mt_T cd_TC_receiveDelta 51 q Q = mt_go [o_aload 0, o_get 8 5, o_aload 1, o_get 4 1, o_aload 0, o_get 8 6, o_aload 2, o_get 0 3] q (mt_kk cd_TC_receiveDelta Q (o_callV sm_Jo_append 1 4 70)) := mt_blk rfl q Q
theorem k_TC_receiveDelta_70 (q : m_C) (Q : m_R → Prop) : mt_T cd_TC_receiveDelta 70 q Q = mt_go [o_aload 2, o_const (nI 0), o_putZ 0 1] q (mt_kk cd_TC_receiveDelta Q (o_fall 116)) := mt_blk rfl q Q
theorem k_TC_receiveDelta_78 (q : m_C) (Q : m_R → Prop) : mt_T cd_TC_receiveDelta 78 q Q = mt_go [o_aload 1, o_get 4 4, o_const (nI 1)] q (mt_kk cd_TC_receiveDelta Q (o_icne 108 86)) := mt_blk rfl q Q
theorem k_TC_receiveDelta_86 (q : m_C) (Q : m_R → Prop) : mt_T cd_TC_receiveDelta 86 q Q = mt_go [o_aload 0, o_get 8 7, o_const (nI 2), o_dup2, o_iald, o_const (nI 1), o_add, o_iast, o_aload 0, o_aload 1, o_get 4 1, o_const (nI 2)] q (mt_kk cd_TC_receiveDelta Q (o_callV sm_TC_sendSignature 8 3 105)) := mt_blk rfl q Q
theorem k_TC_receiveDelta_105 (q : m_C) (Q : m_R → Prop) : mt_T cd_TC_receiveDelta 105 q Q = mt_go [] q (mt_kk cd_TC_receiveDelta Q (o_fall 116)) := mt_blk rfl q Q
theorem k_TC_receiveDelta_108 (q : m_C) (Q : m_R → Prop) : mt_T cd_TC_receiveDelta 108 q Q = mt_go [o_aload 0, o_aload 1, o_get 4 1] q (mt_kk cd_TC_receiveDelta Q (o_callV sm_TC_failEntry 8 2 116)) := mt_blk rfl q Q
theorem k_TC_receiveDelta_116 (q : m_C) (Q : m_R → Prop) : mt_T cd_TC_receiveDelta 116 q Q = mt_go [] q (mt_kk cd_TC_receiveDelta Q (o_ret)) := mt_blk rfl q Q
-- TreeCarrier.hasOpenEntry ()Z
noncomputable def cd_TC_hasOpenEntry : List m_B := [(0, [o_const (nI 0), o_istore 1], o_fall 2), (2, [o_iload 1, o_const (nI 12)], o_icge 28 8), (8, [o_aload 0, o_get 8 4, o_iload 1, o_aald 4, o_get 0 1], o_ifeq 22 20), (20, [o_const (nI 1)], o_zret), (22, [o_iinc 1 (nI 1)], o_fall 2), (28, [o_const (nI 0)], o_zret)]
noncomputable def sm_TC_hasOpenEntry : List m_V → m_M → Option m_R := mt_sem cd_TC_hasOpenEntry 2
theorem k_TC_hasOpenEntry_0 (q : m_C) (Q : m_R → Prop) : mt_T cd_TC_hasOpenEntry 0 q Q = mt_go [o_const (nI 0), o_istore 1] q (mt_kk cd_TC_hasOpenEntry Q (o_fall 2)) := mt_blk rfl q Q
theorem k_TC_hasOpenEntry_2 (q : m_C) (Q : m_R → Prop) : mt_T cd_TC_hasOpenEntry 2 q Q = mt_go [o_iload 1, o_const (nI 12)] q (mt_kk cd_TC_hasOpenEntry Q (o_icge 28 8)) := mt_blk rfl q Q
theorem k_TC_hasOpenEntry_8 (q : m_C) (Q : m_R → Prop) : mt_T cd_TC_hasOpenEntry 8 q Q = mt_go [o_aload 0, o_get 8 4, o_iload 1, o_aald 4, o_get 0 1] q (mt_kk cd_TC_hasOpenEntry Q (o_ifeq 22 20)) := mt_blk rfl q Q
theorem k_TC_hasOpenEntry_20 (q : m_C) (Q : m_R → Prop) : mt_T cd_TC_hasOpenEntry 20 q Q = mt_go [o_const (nI 1)] q (mt_kk cd_TC_hasOpenEntry Q (o_zret)) := mt_blk rfl q Q
theorem k_TC_hasOpenEntry_22 (q : m_C) (Q : m_R → Prop) : mt_T cd_TC_hasOpenEntry 22 q Q = mt_go [o_iinc 1 (nI 1)] q (mt_kk cd_TC_hasOpenEntry Q (o_fall 2)) := mt_blk rfl q Q
theorem k_TC_hasOpenEntry_28 (q : m_C) (Q : m_R → Prop) : mt_T cd_TC_hasOpenEntry 28 q Q = mt_go [o_const (nI 0)] q (mt_kk cd_TC_hasOpenEntry Q (o_zret)) := mt_blk rfl q Q
-- TreeCarrier.deleteUnlisted ()V
noncomputable def cd_TC_deleteUnlisted : List m_B := [(0, [o_const (nI 0), o_istore 1], o_fall 2), (2, [o_iload 1, o_const (nI 12)], o_icge 63 8), (8, [o_aload 0, o_const (nI 1), o_iload 1], o_callV sm_TC_fileOf 8 3 14), (14, [o_astore 2, o_aload 2], o_ifnull 57 19), (19, [o_aload 0, o_get 8 1, o_iload 1], o_callV sm_Ru_select 6 2 27), (27, [], o_ifeq 57 30), (30, [o_aload 0, o_get 8 4, o_iload 1, o_aald 4, o_get 0 0], o_ifne 57 42), (42, [o_aload 2], o_callV sm_Sf_erase 7 1 46), (46, [o_aload 0, o_get 8 7, o_const (nI 6), o_dup2, o_iald, o_const (nI 1), o_add, o_iast], o_fall 57), (57, [o_iinc 1 (nI 1)], o_fall 2), (63, [], o_ret)]
noncomputable def sm_TC_deleteUnlisted : List m_V → m_M → Option m_R := mt_sem cd_TC_deleteUnlisted 3
theorem k_TC_deleteUnlisted_0 (q : m_C) (Q : m_R → Prop) : mt_T cd_TC_deleteUnlisted 0 q Q = mt_go [o_const (nI 0), o_istore 1] q (mt_kk cd_TC_deleteUnlisted Q (o_fall 2)) := mt_blk rfl q Q
theorem k_TC_deleteUnlisted_2 (q : m_C) (Q : m_R → Prop) : mt_T cd_TC_deleteUnlisted 2 q Q = mt_go [o_iload 1, o_const (nI 12)] q (mt_kk cd_TC_deleteUnlisted Q (o_icge 63 8)) := mt_blk rfl q Q
theorem k_TC_deleteUnlisted_8 (q : m_C) (Q : m_R → Prop) : mt_T cd_TC_deleteUnlisted 8 q Q = mt_go [o_aload 0, o_const (nI 1), o_iload 1] q (mt_kk cd_TC_deleteUnlisted Q (o_callV sm_TC_fileOf 8 3 14)) := mt_blk rfl q Q
theorem k_TC_deleteUnlisted_14 (q : m_C) (Q : m_R → Prop) : mt_T cd_TC_deleteUnlisted 14 q Q = mt_go [o_astore 2, o_aload 2] q (mt_kk cd_TC_deleteUnlisted Q (o_ifnull 57 19)) := mt_blk rfl q Q
theorem k_TC_deleteUnlisted_19 (q : m_C) (Q : m_R → Prop) : mt_T cd_TC_deleteUnlisted 19 q Q = mt_go [o_aload 0, o_get 8 1, o_iload 1] q (mt_kk cd_TC_deleteUnlisted Q (o_callV sm_Ru_select 6 2 27)) := mt_blk rfl q Q
theorem k_TC_deleteUnlisted_27 (q : m_C) (Q : m_R → Prop) : mt_T cd_TC_deleteUnlisted 27 q Q = mt_go [] q (mt_kk cd_TC_deleteUnlisted Q (o_ifeq 57 30)) := mt_blk rfl q Q
theorem k_TC_deleteUnlisted_30 (q : m_C) (Q : m_R → Prop) : mt_T cd_TC_deleteUnlisted 30 q Q = mt_go [o_aload 0, o_get 8 4, o_iload 1, o_aald 4, o_get 0 0] q (mt_kk cd_TC_deleteUnlisted Q (o_ifne 57 42)) := mt_blk rfl q Q
theorem k_TC_deleteUnlisted_42 (q : m_C) (Q : m_R → Prop) : mt_T cd_TC_deleteUnlisted 42 q Q = mt_go [o_aload 2] q (mt_kk cd_TC_deleteUnlisted Q (o_callV sm_Sf_erase 7 1 46)) := mt_blk rfl q Q
theorem k_TC_deleteUnlisted_46 (q : m_C) (Q : m_R → Prop) : mt_T cd_TC_deleteUnlisted 46 q Q = mt_go [o_aload 0, o_get 8 7, o_const (nI 6), o_dup2, o_iald, o_const (nI 1), o_add, o_iast] q (mt_kk cd_TC_deleteUnlisted Q (o_fall 57)) := mt_blk rfl q Q
theorem k_TC_deleteUnlisted_57 (q : m_C) (Q : m_R → Prop) : mt_T cd_TC_deleteUnlisted 57 q Q = mt_go [o_iinc 1 (nI 1)] q (mt_kk cd_TC_deleteUnlisted Q (o_fall 2)) := mt_blk rfl q Q
theorem k_TC_deleteUnlisted_63 (q : m_C) (Q : m_R → Prop) : mt_T cd_TC_deleteUnlisted 63 q Q = mt_go [] q (mt_kk cd_TC_deleteUnlisted Q (o_ret)) := mt_blk rfl q Q
-- TreeCarrier.endSession ()V
noncomputable def cd_TC_endSession : List m_B := [(0, [o_aload 0, o_const (nI 0), o_putZ 8 9, o_aload 0, o_get 8 2], o_callV sm_Li_clear 3 1 12), (12, [o_aload 0, o_get 8 3], o_callV sm_Li_clear 3 1 19), (19, [o_const (nI 0), o_istore 1], o_fall 21), (21, [o_iload 1, o_const (nI 12)], o_icge 42 27), (27, [o_aload 0, o_get 8 4, o_iload 1, o_aald 4], o_callV sm_En_forget 0 1 36), (36, [o_iinc 1 (nI 1)], o_fall 21), (42, [], o_ret)]
noncomputable def sm_TC_endSession : List m_V → m_M → Option m_R := mt_sem cd_TC_endSession 2
theorem k_TC_endSession_0 (q : m_C) (Q : m_R → Prop) : mt_T cd_TC_endSession 0 q Q = mt_go [o_aload 0, o_const (nI 0), o_putZ 8 9, o_aload 0, o_get 8 2] q (mt_kk cd_TC_endSession Q (o_callV sm_Li_clear 3 1 12)) := mt_blk rfl q Q
theorem k_TC_endSession_12 (q : m_C) (Q : m_R → Prop) : mt_T cd_TC_endSession 12 q Q = mt_go [o_aload 0, o_get 8 3] q (mt_kk cd_TC_endSession Q (o_callV sm_Li_clear 3 1 19)) := mt_blk rfl q Q
theorem k_TC_endSession_19 (q : m_C) (Q : m_R → Prop) : mt_T cd_TC_endSession 19 q Q = mt_go [o_const (nI 0), o_istore 1] q (mt_kk cd_TC_endSession Q (o_fall 21)) := mt_blk rfl q Q
theorem k_TC_endSession_21 (q : m_C) (Q : m_R → Prop) : mt_T cd_TC_endSession 21 q Q = mt_go [o_iload 1, o_const (nI 12)] q (mt_kk cd_TC_endSession Q (o_icge 42 27)) := mt_blk rfl q Q
theorem k_TC_endSession_27 (q : m_C) (Q : m_R → Prop) : mt_T cd_TC_endSession 27 q Q = mt_go [o_aload 0, o_get 8 4, o_iload 1, o_aald 4] q (mt_kk cd_TC_endSession Q (o_callV sm_En_forget 0 1 36)) := mt_blk rfl q Q
theorem k_TC_endSession_36 (q : m_C) (Q : m_R → Prop) : mt_T cd_TC_endSession 36 q Q = mt_go [o_iinc 1 (nI 1)] q (mt_kk cd_TC_endSession Q (o_fall 21)) := mt_blk rfl q Q
theorem k_TC_endSession_42 (q : m_C) (Q : m_R → Prop) : mt_T cd_TC_endSession 42 q Q = mt_go [] q (mt_kk cd_TC_endSession Q (o_ret)) := mt_blk rfl q Q
-- TreeCarrier.concludeSession ()V
noncomputable def cd_TC_concludeSession : List m_B := [(0, [o_aload 0], o_callV sm_TC_doAllRecords 8 1 4), (4, [o_aload 0, o_get 8 10], o_ifeq 15 11), (11, [o_aload 0], o_callV sm_TC_deleteUnlisted 8 1 15), (15, [o_aload 0], o_callV sm_TC_endSession 8 1 19), (19, [o_aload 0, o_get 8 7, o_const (nI 4), o_dup2, o_iald, o_const (nI 1), o_add, o_iast], o_ret)]
noncomputable def sm_TC_concludeSession : List m_V → m_M → Option m_R := mt_sem cd_TC_concludeSession 1
theorem k_TC_concludeSession_0 (q : m_C) (Q : m_R → Prop) : mt_T cd_TC_concludeSession 0 q Q = mt_go [o_aload 0] q (mt_kk cd_TC_concludeSession Q (o_callV sm_TC_doAllRecords 8 1 4)) := mt_blk rfl q Q
theorem k_TC_concludeSession_4 (q : m_C) (Q : m_R → Prop) : mt_T cd_TC_concludeSession 4 q Q = mt_go [o_aload 0, o_get 8 10] q (mt_kk cd_TC_concludeSession Q (o_ifeq 15 11)) := mt_blk rfl q Q
theorem k_TC_concludeSession_11 (q : m_C) (Q : m_R → Prop) : mt_T cd_TC_concludeSession 11 q Q = mt_go [o_aload 0] q (mt_kk cd_TC_concludeSession Q (o_callV sm_TC_deleteUnlisted 8 1 15)) := mt_blk rfl q Q
theorem k_TC_concludeSession_15 (q : m_C) (Q : m_R → Prop) : mt_T cd_TC_concludeSession 15 q Q = mt_go [o_aload 0] q (mt_kk cd_TC_concludeSession Q (o_callV sm_TC_endSession 8 1 19)) := mt_blk rfl q Q
theorem k_TC_concludeSession_19 (q : m_C) (Q : m_R → Prop) : mt_T cd_TC_concludeSession 19 q Q = mt_go [o_aload 0, o_get 8 7, o_const (nI 4), o_dup2, o_iald, o_const (nI 1), o_add, o_iast] q (mt_kk cd_TC_concludeSession Q (o_ret)) := mt_blk rfl q Q
-- TreeCarrier.receive (LTreeCarrier$Message;)V
noncomputable def cd_TC_receive : List m_B := [(0, [o_aload 1, o_get 4 0], o_tsw 1 5 74 [40, 48, 74, 55, 63]), (40, [o_aload 0, o_aload 1], o_callV sm_TC_noteEntry 8 2 45), (45, [], o_fall 74), (48, [o_aload 0], o_callV sm_TC_openEntries 8 1 52), (52, [], o_fall 74), (55, [o_aload 0, o_aload 1], o_callV sm_TC_receiveDelta 8 2 60), (60, [], o_fall 74), (63, [o_aload 0, o_aload 1, o_get 4 1], o_callV sm_TC_failEntry 8 2 71), (71, [], o_fall 74), (74, [o_aload 1, o_get 4 0, o_const (nI 1)], o_iceq 93 82), (82, [o_aload 0], o_callV sm_TC_hasOpenEntry 8 1 86), (86, [], o_ifne 93 89), (89, [o_aload 0], o_callV sm_TC_concludeSession 8 1 93), (93, [], o_ret)]
noncomputable def sm_TC_receive : List m_V → m_M → Option m_R := mt_sem cd_TC_receive 2
theorem k_TC_receive_0 (q : m_C) (Q : m_R → Prop) : mt_T cd_TC_receive 0 q Q = mt_go [o_aload 1, o_get 4 0] q (mt_kk cd_TC_receive Q (o_tsw 1 5 74 [40, 48, 74, 55, 63])) := mt_blk rfl q Q
theorem k_TC_receive_40 (q : m_C) (Q : m_R → Prop) : mt_T cd_TC_receive 40 q Q = mt_go [o_aload 0, o_aload 1] q (mt_kk cd_TC_receive Q (o_callV sm_TC_noteEntry 8 2 45)) := mt_blk rfl q Q
theorem k_TC_receive_45 (q : m_C) (Q : m_R → Prop) : mt_T cd_TC_receive 45 q Q = mt_go [] q (mt_kk cd_TC_receive Q (o_fall 74)) := mt_blk rfl q Q
theorem k_TC_receive_48 (q : m_C) (Q : m_R → Prop) : mt_T cd_TC_receive 48 q Q = mt_go [o_aload 0] q (mt_kk cd_TC_receive Q (o_callV sm_TC_openEntries 8 1 52)) := mt_blk rfl q Q
theorem k_TC_receive_52 (q : m_C) (Q : m_R → Prop) : mt_T cd_TC_receive 52 q Q = mt_go [] q (mt_kk cd_TC_receive Q (o_fall 74)) := mt_blk rfl q Q
theorem k_TC_receive_55 (q : m_C) (Q : m_R → Prop) : mt_T cd_TC_receive 55 q Q = mt_go [o_aload 0, o_aload 1] q (mt_kk cd_TC_receive Q (o_callV sm_TC_receiveDelta 8 2 60)) := mt_blk rfl q Q
theorem k_TC_receive_60 (q : m_C) (Q : m_R → Prop) : mt_T cd_TC_receive 60 q Q = mt_go [] q (mt_kk cd_TC_receive Q (o_fall 74)) := mt_blk rfl q Q
theorem k_TC_receive_63 (q : m_C) (Q : m_R → Prop) : mt_T cd_TC_receive 63 q Q = mt_go [o_aload 0, o_aload 1, o_get 4 1] q (mt_kk cd_TC_receive Q (o_callV sm_TC_failEntry 8 2 71)) := mt_blk rfl q Q
theorem k_TC_receive_71 (q : m_C) (Q : m_R → Prop) : mt_T cd_TC_receive 71 q Q = mt_go [] q (mt_kk cd_TC_receive Q (o_fall 74)) := mt_blk rfl q Q
theorem k_TC_receive_74 (q : m_C) (Q : m_R → Prop) : mt_T cd_TC_receive 74 q Q = mt_go [o_aload 1, o_get 4 0, o_const (nI 1)] q (mt_kk cd_TC_receive Q (o_iceq 93 82)) := mt_blk rfl q Q
theorem k_TC_receive_82 (q : m_C) (Q : m_R → Prop) : mt_T cd_TC_receive 82 q Q = mt_go [o_aload 0] q (mt_kk cd_TC_receive Q (o_callV sm_TC_hasOpenEntry 8 1 86)) := mt_blk rfl q Q
theorem k_TC_receive_86 (q : m_C) (Q : m_R → Prop) : mt_T cd_TC_receive 86 q Q = mt_go [] q (mt_kk cd_TC_receive Q (o_ifne 93 89)) := mt_blk rfl q Q
theorem k_TC_receive_89 (q : m_C) (Q : m_R → Prop) : mt_T cd_TC_receive 89 q Q = mt_go [o_aload 0] q (mt_kk cd_TC_receive Q (o_callV sm_TC_concludeSession 8 1 93)) := mt_blk rfl q Q
theorem k_TC_receive_93 (q : m_C) (Q : m_R → Prop) : mt_T cd_TC_receive 93 q Q = mt_go [] q (mt_kk cd_TC_receive Q (o_ret)) := mt_blk rfl q Q
-- TreeCarrier.findBlock (LTreeCarrier$Row;ILTreeCarrier$Message;)I
noncomputable def cd_TC_findBlock : List m_B := [(0, [o_iload 2, o_aload 0, o_get 8 11, o_add, o_aload 1, o_get 5 1], o_icle 15 13), (13, [o_const (-1)], o_iret), (15, [o_aload 1, o_iload 2, o_aload 0, o_get 8 11, o_aload 3, o_get 4 4], o_callV sm_Ro_sums 5 4 28), (28, [o_istore 4, o_const (nI 0), o_istore 5], o_fall 33), (33, [o_iload 5, o_aload 3, o_get 4 6], o_icge 63 42), (42, [o_aload 3, o_get 4 7, o_iload 5, o_iald, o_iload 4], o_icne 57 54), (54, [o_iload 5], o_iret), (57, [o_iinc 5 (nI 1)], o_fall 33), (63, [o_const (-1)], o_iret)]
noncomputable def sm_TC_findBlock : List m_V → m_M → Option m_R := mt_sem cd_TC_findBlock 6
theorem k_TC_findBlock_0 (q : m_C) (Q : m_R → Prop) : mt_T cd_TC_findBlock 0 q Q = mt_go [o_iload 2, o_aload 0, o_get 8 11, o_add, o_aload 1, o_get 5 1] q (mt_kk cd_TC_findBlock Q (o_icle 15 13)) := mt_blk rfl q Q
theorem k_TC_findBlock_13 (q : m_C) (Q : m_R → Prop) : mt_T cd_TC_findBlock 13 q Q = mt_go [o_const (-1)] q (mt_kk cd_TC_findBlock Q (o_iret)) := mt_blk rfl q Q
theorem k_TC_findBlock_15 (q : m_C) (Q : m_R → Prop) : mt_T cd_TC_findBlock 15 q Q = mt_go [o_aload 1, o_iload 2, o_aload 0, o_get 8 11, o_aload 3, o_get 4 4] q (mt_kk cd_TC_findBlock Q (o_callV sm_Ro_sums 5 4 28)) := mt_blk rfl q Q
theorem k_TC_findBlock_28 (q : m_C) (Q : m_R → Prop) : mt_T cd_TC_findBlock 28 q Q = mt_go [o_istore 4, o_const (nI 0), o_istore 5] q (mt_kk cd_TC_findBlock Q (o_fall 33)) := mt_blk rfl q Q
theorem k_TC_findBlock_33 (q : m_C) (Q : m_R → Prop) : mt_T cd_TC_findBlock 33 q Q = mt_go [o_iload 5, o_aload 3, o_get 4 6] q (mt_kk cd_TC_findBlock Q (o_icge 63 42)) := mt_blk rfl q Q
theorem k_TC_findBlock_42 (q : m_C) (Q : m_R → Prop) : mt_T cd_TC_findBlock 42 q Q = mt_go [o_aload 3, o_get 4 7, o_iload 5, o_iald, o_iload 4] q (mt_kk cd_TC_findBlock Q (o_icne 57 54)) := mt_blk rfl q Q
theorem k_TC_findBlock_54 (q : m_C) (Q : m_R → Prop) : mt_T cd_TC_findBlock 54 q Q = mt_go [o_iload 5] q (mt_kk cd_TC_findBlock Q (o_iret)) := mt_blk rfl q Q
theorem k_TC_findBlock_57 (q : m_C) (Q : m_R → Prop) : mt_T cd_TC_findBlock 57 q Q = mt_go [o_iinc 5 (nI 1)] q (mt_kk cd_TC_findBlock Q (o_fall 33)) := mt_blk rfl q Q
theorem k_TC_findBlock_63 (q : m_C) (Q : m_R → Prop) : mt_T cd_TC_findBlock 63 q Q = mt_go [o_const (-1)] q (mt_kk cd_TC_findBlock Q (o_iret)) := mt_blk rfl q Q
-- TreeCarrier.fillDelta (LTreeCarrier$Message;LTreeCarrier$Row;LTreeCarrier$Message;)V
noncomputable def cd_TC_fillDelta : List m_B := [(0, [o_const (nI 0), o_istore 4, o_const (nI 0), o_istore 5], o_fall 6), (6, [o_iload 5, o_aload 2, o_get 5 1], o_icge 99 15), (15, [o_iload 5, o_iload 4], o_icge 25 22), (22, [], o_fall 93), (25, [o_aload 0, o_aload 2, o_iload 5, o_aload 3], o_callV sm_TC_findBlock 8 4 33), (33, [o_istore 6, o_iload 6, o_const (-1)], o_icne 64 41), (41, [o_aload 1, o_aload 2, o_iload 5], o_callV sm_Ro_byteAt 5 2 48), (48, [], o_callV sm_Ms_addItem 4 2 51), (51, [o_aload 0, o_get 8 7, o_const (nI 0), o_dup2, o_iald, o_const (nI 1), o_add, o_iast], o_fall 93), (64, [o_aload 1, o_const (nI 256), o_iload 6, o_add], o_callV sm_Ms_addItem 4 2 74), (74, [o_aload 0, o_get 8 7, o_const (nI 1), o_dup2, o_iald, o_const (nI 1), o_add, o_iast, o_iload 5, o_aload 0, o_get 8 11, o_add, o_istore 4], o_fall 93), (93, [o_iinc 5 (nI 1)], o_fall 6), (99, [], o_ret)]
noncomputable def sm_TC_fillDelta : List m_V → m_M → Option m_R := mt_sem cd_TC_fillDelta 7
theorem k_TC_fillDelta_0 (q : m_C) (Q : m_R → Prop) : mt_T cd_TC_fillDelta 0 q Q = mt_go [o_const (nI 0), o_istore 4, o_const (nI 0), o_istore 5] q (mt_kk cd_TC_fillDelta Q (o_fall 6)) := mt_blk rfl q Q
theorem k_TC_fillDelta_6 (q : m_C) (Q : m_R → Prop) : mt_T cd_TC_fillDelta 6 q Q = mt_go [o_iload 5, o_aload 2, o_get 5 1] q (mt_kk cd_TC_fillDelta Q (o_icge 99 15)) := mt_blk rfl q Q
theorem k_TC_fillDelta_15 (q : m_C) (Q : m_R → Prop) : mt_T cd_TC_fillDelta 15 q Q = mt_go [o_iload 5, o_iload 4] q (mt_kk cd_TC_fillDelta Q (o_icge 25 22)) := mt_blk rfl q Q
theorem k_TC_fillDelta_22 (q : m_C) (Q : m_R → Prop) : mt_T cd_TC_fillDelta 22 q Q = mt_go [] q (mt_kk cd_TC_fillDelta Q (o_fall 93)) := mt_blk rfl q Q
theorem k_TC_fillDelta_25 (q : m_C) (Q : m_R → Prop) : mt_T cd_TC_fillDelta 25 q Q = mt_go [o_aload 0, o_aload 2, o_iload 5, o_aload 3] q (mt_kk cd_TC_fillDelta Q (o_callV sm_TC_findBlock 8 4 33)) := mt_blk rfl q Q
theorem k_TC_fillDelta_33 (q : m_C) (Q : m_R → Prop) : mt_T cd_TC_fillDelta 33 q Q = mt_go [o_istore 6, o_iload 6, o_const (-1)] q (mt_kk cd_TC_fillDelta Q (o_icne 64 41)) := mt_blk rfl q Q
theorem k_TC_fillDelta_41 (q : m_C) (Q : m_R → Prop) : mt_T cd_TC_fillDelta 41 q Q = mt_go [o_aload 1, o_aload 2, o_iload 5] q (mt_kk cd_TC_fillDelta Q (o_callV sm_Ro_byteAt 5 2 48)) := mt_blk rfl q Q
theorem k_TC_fillDelta_48 (q : m_C) (Q : m_R → Prop) : mt_T cd_TC_fillDelta 48 q Q = mt_go [] q (mt_kk cd_TC_fillDelta Q (o_callV sm_Ms_addItem 4 2 51)) := mt_blk rfl q Q
theorem k_TC_fillDelta_51 (q : m_C) (Q : m_R → Prop) : mt_T cd_TC_fillDelta 51 q Q = mt_go [o_aload 0, o_get 8 7, o_const (nI 0), o_dup2, o_iald, o_const (nI 1), o_add, o_iast] q (mt_kk cd_TC_fillDelta Q (o_fall 93)) := mt_blk rfl q Q
theorem k_TC_fillDelta_64 (q : m_C) (Q : m_R → Prop) : mt_T cd_TC_fillDelta 64 q Q = mt_go [o_aload 1, o_const (nI 256), o_iload 6, o_add] q (mt_kk cd_TC_fillDelta Q (o_callV sm_Ms_addItem 4 2 74)) := mt_blk rfl q Q
theorem k_TC_fillDelta_74 (q : m_C) (Q : m_R → Prop) : mt_T cd_TC_fillDelta 74 q Q = mt_go [o_aload 0, o_get 8 7, o_const (nI 1), o_dup2, o_iald, o_const (nI 1), o_add, o_iast, o_iload 5, o_aload 0, o_get 8 11, o_add, o_istore 4] q (mt_kk cd_TC_fillDelta Q (o_fall 93)) := mt_blk rfl q Q
theorem k_TC_fillDelta_93 (q : m_C) (Q : m_R → Prop) : mt_T cd_TC_fillDelta 93 q Q = mt_go [o_iinc 5 (nI 1)] q (mt_kk cd_TC_fillDelta Q (o_fall 6)) := mt_blk rfl q Q
theorem k_TC_fillDelta_99 (q : m_C) (Q : m_R → Prop) : mt_T cd_TC_fillDelta 99 q Q = mt_go [] q (mt_kk cd_TC_fillDelta Q (o_ret)) := mt_blk rfl q Q
-- TreeCarrier.answerSignature (LTreeCarrier$Message;)V
noncomputable def cd_TC_answerSignature : List m_B := [(0, [o_aload 0, o_const (nI 0), o_aload 1, o_get 4 1], o_callV sm_TC_fileOf 8 3 9), (9, [o_astore 2, o_aload 2], o_ifnonnull 28 14), (14, [o_aload 0, o_get 8 3, o_const (nI 5), o_aload 1, o_get 4 1], o_callV sm_Li_append 3 3 26), (26, [o_pop], o_ret), (28, [o_aload 0, o_get 8 3, o_const (nI 4), o_aload 1, o_get 4 1], o_callV sm_Li_append 3 3 40), (40, [o_astore 3, o_aload 3, o_aload 1, o_get 4 4, o_putI 4 4, o_aload 3, o_aload 2, o_get 7 0], o_callV sm_Ro_digest 5 1 57), (57, [o_putI 4 5, o_aload 0, o_aload 3, o_aload 2, o_get 7 0, o_aload 1], o_callV sm_TC_fillDelta 8 4 70), (70, [], o_ret)]
noncomputable def sm_TC_answerSignature : List m_V → m_M → Option m_R := mt_sem cd_TC_answerSignature 4
theorem k_TC_answerSignature_0 (q : m_C) (Q : m_R → Prop) : mt_T cd_TC_answerSignature 0 q Q = mt_go [o_aload 0, o_const (nI 0), o_aload 1, o_get 4 1] q (mt_kk cd_TC_answerSignature Q (o_callV sm_TC_fileOf 8 3 9)) := mt_blk rfl q Q
theorem k_TC_answerSignature_9 (q : m_C) (Q : m_R → Prop) : mt_T cd_TC_answerSignature 9 q Q = mt_go [o_astore 2, o_aload 2] q (mt_kk cd_TC_answerSignature Q (o_ifnonnull 28 14)) := mt_blk rfl q Q
theorem k_TC_answerSignature_14 (q : m_C) (Q : m_R → Prop) : mt_T cd_TC_answerSignature 14 q Q = mt_go [o_aload 0, o_get 8 3, o_const (nI 5), o_aload 1, o_get 4 1] q (mt_kk cd_TC_answerSignature Q (o_callV sm_Li_append 3 3 26)) := mt_blk rfl q Q
theorem k_TC_answerSignature_26 (q : m_C) (Q : m_R → Prop) : mt_T cd_TC_answerSignature 26 q Q = mt_go [o_pop] q (mt_kk cd_TC_answerSignature Q (o_ret)) := mt_blk rfl q Q
theorem k_TC_answerSignature_28 (q : m_C) (Q : m_R → Prop) : mt_T cd_TC_answerSignature 28 q Q = mt_go [o_aload 0, o_get 8 3, o_const (nI 4), o_aload 1, o_get 4 1] q (mt_kk cd_TC_answerSignature Q (o_callV sm_Li_append 3 3 40)) := mt_blk rfl q Q
theorem k_TC_answerSignature_40 (q : m_C) (Q : m_R → Prop) : mt_T cd_TC_answerSignature 40 q Q = mt_go [o_astore 3, o_aload 3, o_aload 1, o_get 4 4, o_putI 4 4, o_aload 3, o_aload 2, o_get 7 0] q (mt_kk cd_TC_answerSignature Q (o_callV sm_Ro_digest 5 1 57)) := mt_blk rfl q Q
theorem k_TC_answerSignature_57 (q : m_C) (Q : m_R → Prop) : mt_T cd_TC_answerSignature 57 q Q = mt_go [o_putI 4 5, o_aload 0, o_aload 3, o_aload 2, o_get 7 0, o_aload 1] q (mt_kk cd_TC_answerSignature Q (o_callV sm_TC_fillDelta 8 4 70)) := mt_blk rfl q Q
theorem k_TC_answerSignature_70 (q : m_C) (Q : m_R → Prop) : mt_T cd_TC_answerSignature 70 q Q = mt_go [] q (mt_kk cd_TC_answerSignature Q (o_ret)) := mt_blk rfl q Q
-- TreeCarrier.deliver (I)I
noncomputable def cd_TC_deliver : List m_B := [(0, [o_aload 0, o_iload 1], o_callV sm_TC_lineOf 8 2 5), (5, [o_astore 2, o_aload 2], o_ifnonnull 14 10), (10, [o_null], o_fall 18), (14, [o_aload 2], o_callV sm_Li_take 3 1 18), (18, [o_astore 3, o_aload 3], o_ifnonnull 25 23), (23, [o_const (nI 0)], o_iret), (25, [o_aload 3, o_get 4 0, o_istore 4, o_aload 2, o_aload 0, o_get 8 3], o_acne 51 39), (39, [o_aload 0], o_callV sm_TC_doOldestRecord 8 1 43), (43, [o_aload 0, o_aload 3], o_callV sm_TC_receive 8 2 48), (48, [], o_fall 56), (51, [o_aload 0, o_aload 3], o_callV sm_TC_answerSignature 8 2 56), (56, [o_iload 4], o_iret)]
noncomputable def sm_TC_deliver : List m_V → m_M → Option m_R := mt_sem cd_TC_deliver 5
theorem k_TC_deliver_0 (q : m_C) (Q : m_R → Prop) : mt_T cd_TC_deliver 0 q Q = mt_go [o_aload 0, o_iload 1] q (mt_kk cd_TC_deliver Q (o_callV sm_TC_lineOf 8 2 5)) := mt_blk rfl q Q
theorem k_TC_deliver_5 (q : m_C) (Q : m_R → Prop) : mt_T cd_TC_deliver 5 q Q = mt_go [o_astore 2, o_aload 2] q (mt_kk cd_TC_deliver Q (o_ifnonnull 14 10)) := mt_blk rfl q Q
theorem k_TC_deliver_10 (q : m_C) (Q : m_R → Prop) : mt_T cd_TC_deliver 10 q Q = mt_go [o_null] q (mt_kk cd_TC_deliver Q (o_fall 18)) := mt_blk rfl q Q
theorem k_TC_deliver_14 (q : m_C) (Q : m_R → Prop) : mt_T cd_TC_deliver 14 q Q = mt_go [o_aload 2] q (mt_kk cd_TC_deliver Q (o_callV sm_Li_take 3 1 18)) := mt_blk rfl q Q
theorem k_TC_deliver_18 (q : m_C) (Q : m_R → Prop) : mt_T cd_TC_deliver 18 q Q = mt_go [o_astore 3, o_aload 3] q (mt_kk cd_TC_deliver Q (o_ifnonnull 25 23)) := mt_blk rfl q Q
theorem k_TC_deliver_23 (q : m_C) (Q : m_R → Prop) : mt_T cd_TC_deliver 23 q Q = mt_go [o_const (nI 0)] q (mt_kk cd_TC_deliver Q (o_iret)) := mt_blk rfl q Q
theorem k_TC_deliver_25 (q : m_C) (Q : m_R → Prop) : mt_T cd_TC_deliver 25 q Q = mt_go [o_aload 3, o_get 4 0, o_istore 4, o_aload 2, o_aload 0, o_get 8 3] q (mt_kk cd_TC_deliver Q (o_acne 51 39)) := mt_blk rfl q Q
theorem k_TC_deliver_39 (q : m_C) (Q : m_R → Prop) : mt_T cd_TC_deliver 39 q Q = mt_go [o_aload 0] q (mt_kk cd_TC_deliver Q (o_callV sm_TC_doOldestRecord 8 1 43)) := mt_blk rfl q Q
theorem k_TC_deliver_43 (q : m_C) (Q : m_R → Prop) : mt_T cd_TC_deliver 43 q Q = mt_go [o_aload 0, o_aload 3] q (mt_kk cd_TC_deliver Q (o_callV sm_TC_receive 8 2 48)) := mt_blk rfl q Q
theorem k_TC_deliver_48 (q : m_C) (Q : m_R → Prop) : mt_T cd_TC_deliver 48 q Q = mt_go [] q (mt_kk cd_TC_deliver Q (o_fall 56)) := mt_blk rfl q Q
theorem k_TC_deliver_51 (q : m_C) (Q : m_R → Prop) : mt_T cd_TC_deliver 51 q Q = mt_go [o_aload 0, o_aload 3] q (mt_kk cd_TC_deliver Q (o_callV sm_TC_answerSignature 8 2 56)) := mt_blk rfl q Q
theorem k_TC_deliver_56 (q : m_C) (Q : m_R → Prop) : mt_T cd_TC_deliver 56 q Q = mt_go [o_iload 4] q (mt_kk cd_TC_deliver Q (o_iret)) := mt_blk rfl q Q
-- TreeCarrier.crash ()Z
noncomputable def cd_TC_crash : List m_B := [(0, [o_aload 0, o_get 8 9], o_ifne 9 7), (7, [o_const (nI 0)], o_zret), (9, [o_aload 0], o_callV sm_TC_endSession 8 1 13), (13, [o_const (nI 1)], o_zret)]
noncomputable def sm_TC_crash : List m_V → m_M → Option m_R := mt_sem cd_TC_crash 1
theorem k_TC_crash_0 (q : m_C) (Q : m_R → Prop) : mt_T cd_TC_crash 0 q Q = mt_go [o_aload 0, o_get 8 9] q (mt_kk cd_TC_crash Q (o_ifne 9 7)) := mt_blk rfl q Q
theorem k_TC_crash_7 (q : m_C) (Q : m_R → Prop) : mt_T cd_TC_crash 7 q Q = mt_go [o_const (nI 0)] q (mt_kk cd_TC_crash Q (o_zret)) := mt_blk rfl q Q
theorem k_TC_crash_9 (q : m_C) (Q : m_R → Prop) : mt_T cd_TC_crash 9 q Q = mt_go [o_aload 0] q (mt_kk cd_TC_crash Q (o_callV sm_TC_endSession 8 1 13)) := mt_blk rfl q Q
theorem k_TC_crash_13 (q : m_C) (Q : m_R → Prop) : mt_T cd_TC_crash 13 q Q = mt_go [o_const (nI 1)] q (mt_kk cd_TC_crash Q (o_zret)) := mt_blk rfl q Q
-- TreeCarrier.on ()Z
noncomputable def cd_TC_on : List m_B := [(0, [o_aload 0, o_get 8 9], o_zret)]
noncomputable def sm_TC_on : List m_V → m_M → Option m_R := mt_sem cd_TC_on 1
theorem k_TC_on_0 (q : m_C) (Q : m_R → Prop) : mt_T cd_TC_on 0 q Q = mt_go [o_aload 0, o_get 8 9] q (mt_kk cd_TC_on Q (o_zret)) := mt_blk rfl q Q
-- TreeCarrier.size (II)I
noncomputable def cd_TC_size : List m_B := [(0, [o_aload 0, o_iload 1, o_iload 2], o_callV sm_TC_fileOf 8 3 6), (6, [o_astore 3, o_aload 3], o_ifnonnull 15 11), (11, [o_const (-1)], o_fall 22), (15, [o_aload 3, o_get 7 0, o_get 5 1], o_fall 22), (22, [], o_iret)]
noncomputable def sm_TC_size : List m_V → m_M → Option m_R := mt_sem cd_TC_size 4
theorem k_TC_size_0 (q : m_C) (Q : m_R → Prop) : mt_T cd_TC_size 0 q Q = mt_go [o_aload 0, o_iload 1, o_iload 2] q (mt_kk cd_TC_size Q (o_callV sm_TC_fileOf 8 3 6)) := mt_blk rfl q Q
theorem k_TC_size_6 (q : m_C) (Q : m_R → Prop) : mt_T cd_TC_size 6 q Q = mt_go [o_astore 3, o_aload 3] q (mt_kk cd_TC_size Q (o_ifnonnull 15 11)) := mt_blk rfl q Q
theorem k_TC_size_11 (q : m_C) (Q : m_R → Prop) : mt_T cd_TC_size 11 q Q = mt_go [o_const (-1)] q (mt_kk cd_TC_size Q (o_fall 22)) := mt_blk rfl q Q
theorem k_TC_size_15 (q : m_C) (Q : m_R → Prop) : mt_T cd_TC_size 15 q Q = mt_go [o_aload 3, o_get 7 0, o_get 5 1] q (mt_kk cd_TC_size Q (o_fall 22)) := mt_blk rfl q Q
theorem k_TC_size_22 (q : m_C) (Q : m_R → Prop) : mt_T cd_TC_size 22 q Q = mt_go [] q (mt_kk cd_TC_size Q (o_iret)) := mt_blk rfl q Q
-- TreeCarrier.at (III)I
noncomputable def cd_TC_at : List m_B := [(0, [o_aload 0, o_iload 1, o_iload 2], o_callV sm_TC_fileOf 8 3 6), (6, [o_astore 4, o_aload 4], o_ifnonnull 17 13), (13, [o_const (-1)], o_fall 26), (17, [o_aload 4, o_get 7 0, o_iload 3], o_callV sm_Ro_byteAt 5 2 26), (26, [], o_iret)]
noncomputable def sm_TC_at : List m_V → m_M → Option m_R := mt_sem cd_TC_at 5
theorem k_TC_at_0 (q : m_C) (Q : m_R → Prop) : mt_T cd_TC_at 0 q Q = mt_go [o_aload 0, o_iload 1, o_iload 2] q (mt_kk cd_TC_at Q (o_callV sm_TC_fileOf 8 3 6)) := mt_blk rfl q Q
theorem k_TC_at_6 (q : m_C) (Q : m_R → Prop) : mt_T cd_TC_at 6 q Q = mt_go [o_astore 4, o_aload 4] q (mt_kk cd_TC_at Q (o_ifnonnull 17 13)) := mt_blk rfl q Q
theorem k_TC_at_13 (q : m_C) (Q : m_R → Prop) : mt_T cd_TC_at 13 q Q = mt_go [o_const (-1)] q (mt_kk cd_TC_at Q (o_fall 26)) := mt_blk rfl q Q
theorem k_TC_at_17 (q : m_C) (Q : m_R → Prop) : mt_T cd_TC_at 17 q Q = mt_go [o_aload 4, o_get 7 0, o_iload 3] q (mt_kk cd_TC_at Q (o_callV sm_Ro_byteAt 5 2 26)) := mt_blk rfl q Q
theorem k_TC_at_26 (q : m_C) (Q : m_R → Prop) : mt_T cd_TC_at 26 q Q = mt_go [] q (mt_kk cd_TC_at Q (o_iret)) := mt_blk rfl q Q
-- TreeCarrier.time (II)I
noncomputable def cd_TC_time : List m_B := [(0, [o_aload 0, o_iload 1, o_iload 2], o_callV sm_TC_fileOf 8 3 6), (6, [o_astore 3, o_aload 3], o_ifnonnull 15 11), (11, [o_const (-1)], o_fall 19), (15, [o_aload 3, o_get 7 2], o_fall 19), (19, [], o_iret)]
noncomputable def sm_TC_time : List m_V → m_M → Option m_R := mt_sem cd_TC_time 4
theorem k_TC_time_0 (q : m_C) (Q : m_R → Prop) : mt_T cd_TC_time 0 q Q = mt_go [o_aload 0, o_iload 1, o_iload 2] q (mt_kk cd_TC_time Q (o_callV sm_TC_fileOf 8 3 6)) := mt_blk rfl q Q
theorem k_TC_time_6 (q : m_C) (Q : m_R → Prop) : mt_T cd_TC_time 6 q Q = mt_go [o_astore 3, o_aload 3] q (mt_kk cd_TC_time Q (o_ifnonnull 15 11)) := mt_blk rfl q Q
theorem k_TC_time_11 (q : m_C) (Q : m_R → Prop) : mt_T cd_TC_time 11 q Q = mt_go [o_const (-1)] q (mt_kk cd_TC_time Q (o_fall 19)) := mt_blk rfl q Q
theorem k_TC_time_15 (q : m_C) (Q : m_R → Prop) : mt_T cd_TC_time 15 q Q = mt_go [o_aload 3, o_get 7 2] q (mt_kk cd_TC_time Q (o_fall 19)) := mt_blk rfl q Q
theorem k_TC_time_19 (q : m_C) (Q : m_R → Prop) : mt_T cd_TC_time 19 q Q = mt_go [] q (mt_kk cd_TC_time Q (o_iret)) := mt_blk rfl q Q
-- TreeCarrier.selected (I)Z
noncomputable def cd_TC_selected : List m_B := [(0, [o_iload 1], o_callS sm_TC_isName 1 4), (4, [], o_ifeq 22 7), (7, [o_aload 0, o_get 8 1, o_iload 1], o_callV sm_Ru_select 6 2 15), (15, [], o_ifeq 22 18), (18, [o_const (nI 1)], o_fall 23), (22, [o_const (nI 0)], o_fall 23), (23, [], o_zret)]
noncomputable def sm_TC_selected : List m_V → m_M → Option m_R := mt_sem cd_TC_selected 2
theorem k_TC_selected_0 (q : m_C) (Q : m_R → Prop) : mt_T cd_TC_selected 0 q Q = mt_go [o_iload 1] q (mt_kk cd_TC_selected Q (o_callS sm_TC_isName 1 4)) := mt_blk rfl q Q
theorem k_TC_selected_4 (q : m_C) (Q : m_R → Prop) : mt_T cd_TC_selected 4 q Q = mt_go [] q (mt_kk cd_TC_selected Q (o_ifeq 22 7)) := mt_blk rfl q Q
theorem k_TC_selected_7 (q : m_C) (Q : m_R → Prop) : mt_T cd_TC_selected 7 q Q = mt_go [o_aload 0, o_get 8 1, o_iload 1] q (mt_kk cd_TC_selected Q (o_callV sm_Ru_select 6 2 15)) := mt_blk rfl q Q
theorem k_TC_selected_15 (q : m_C) (Q : m_R → Prop) : mt_T cd_TC_selected 15 q Q = mt_go [] q (mt_kk cd_TC_selected Q (o_ifeq 22 18)) := mt_blk rfl q Q
theorem k_TC_selected_18 (q : m_C) (Q : m_R → Prop) : mt_T cd_TC_selected 18 q Q = mt_go [o_const (nI 1)] q (mt_kk cd_TC_selected Q (o_fall 23)) := mt_blk rfl q Q
theorem k_TC_selected_22 (q : m_C) (Q : m_R → Prop) : mt_T cd_TC_selected 22 q Q = mt_go [o_const (nI 0)] q (mt_kk cd_TC_selected Q (o_fall 23)) := mt_blk rfl q Q
theorem k_TC_selected_23 (q : m_C) (Q : m_R → Prop) : mt_T cd_TC_selected 23 q Q = mt_go [] q (mt_kk cd_TC_selected Q (o_zret)) := mt_blk rfl q Q
-- TreeCarrier.waiting (I)I
noncomputable def cd_TC_waiting : List m_B := [(0, [o_aload 0, o_iload 1], o_callV sm_TC_lineOf 8 2 5), (5, [o_astore 2, o_aload 2], o_ifnonnull 14 10), (10, [o_const (-1)], o_fall 18), (14, [o_aload 2, o_get 3 2], o_fall 18), (18, [], o_iret)]
noncomputable def sm_TC_waiting : List m_V → m_M → Option m_R := mt_sem cd_TC_waiting 3
theorem k_TC_waiting_0 (q : m_C) (Q : m_R → Prop) : mt_T cd_TC_waiting 0 q Q = mt_go [o_aload 0, o_iload 1] q (mt_kk cd_TC_waiting Q (o_callV sm_TC_lineOf 8 2 5)) := mt_blk rfl q Q
theorem k_TC_waiting_5 (q : m_C) (Q : m_R → Prop) : mt_T cd_TC_waiting 5 q Q = mt_go [o_astore 2, o_aload 2] q (mt_kk cd_TC_waiting Q (o_ifnonnull 14 10)) := mt_blk rfl q Q
theorem k_TC_waiting_10 (q : m_C) (Q : m_R → Prop) : mt_T cd_TC_waiting 10 q Q = mt_go [o_const (-1)] q (mt_kk cd_TC_waiting Q (o_fall 18)) := mt_blk rfl q Q
theorem k_TC_waiting_14 (q : m_C) (Q : m_R → Prop) : mt_T cd_TC_waiting 14 q Q = mt_go [o_aload 2, o_get 3 2] q (mt_kk cd_TC_waiting Q (o_fall 18)) := mt_blk rfl q Q
theorem k_TC_waiting_18 (q : m_C) (Q : m_R → Prop) : mt_T cd_TC_waiting 18 q Q = mt_go [] q (mt_kk cd_TC_waiting Q (o_iret)) := mt_blk rfl q Q
-- TreeCarrier.next (I)I
noncomputable def cd_TC_next : List m_B := [(0, [o_aload 0, o_iload 1], o_callV sm_TC_lineOf 8 2 5), (5, [o_astore 2, o_aload 2], o_ifnonnull 14 10), (10, [o_const (nI 0)], o_fall 18), (14, [o_aload 2], o_callV sm_Li_oldestKind 3 1 18), (18, [], o_iret)]
noncomputable def sm_TC_next : List m_V → m_M → Option m_R := mt_sem cd_TC_next 3
theorem k_TC_next_0 (q : m_C) (Q : m_R → Prop) : mt_T cd_TC_next 0 q Q = mt_go [o_aload 0, o_iload 1] q (mt_kk cd_TC_next Q (o_callV sm_TC_lineOf 8 2 5)) := mt_blk rfl q Q
theorem k_TC_next_5 (q : m_C) (Q : m_R → Prop) : mt_T cd_TC_next 5 q Q = mt_go [o_astore 2, o_aload 2] q (mt_kk cd_TC_next Q (o_ifnonnull 14 10)) := mt_blk rfl q Q
theorem k_TC_next_10 (q : m_C) (Q : m_R → Prop) : mt_T cd_TC_next 10 q Q = mt_go [o_const (nI 0)] q (mt_kk cd_TC_next Q (o_fall 18)) := mt_blk rfl q Q
theorem k_TC_next_14 (q : m_C) (Q : m_R → Prop) : mt_T cd_TC_next 14 q Q = mt_go [o_aload 2] q (mt_kk cd_TC_next Q (o_callV sm_Li_oldestKind 3 1 18)) := mt_blk rfl q Q
theorem k_TC_next_18 (q : m_C) (Q : m_R → Prop) : mt_T cd_TC_next 18 q Q = mt_go [] q (mt_kk cd_TC_next Q (o_iret)) := mt_blk rfl q Q
-- TreeCarrier.journal ()I
noncomputable def cd_TC_journal : List m_B := [(0, [o_aload 0, o_get 8 5, o_get 1 2], o_iret)]
noncomputable def sm_TC_journal : List m_V → m_M → Option m_R := mt_sem cd_TC_journal 1
theorem k_TC_journal_0 (q : m_C) (Q : m_R → Prop) : mt_T cd_TC_journal 0 q Q = mt_go [o_aload 0, o_get 8 5, o_get 1 2] q (mt_kk cd_TC_journal Q (o_iret)) := mt_blk rfl q Q
-- TreeCarrier.count (I)I
noncomputable def cd_TC_count : List m_B := [(0, [o_iload 1], o_iflt 10 4), (4, [o_iload 1, o_const (nI 8)], o_iclt 14 10), (10, [o_const (-1)], o_fall 20), (14, [o_aload 0, o_get 8 7, o_iload 1, o_iald], o_fall 20), (20, [], o_iret)]
noncomputable def sm_TC_count : List m_V → m_M → Option m_R := mt_sem cd_TC_count 2
theorem k_TC_count_0 (q : m_C) (Q : m_R → Prop) : mt_T cd_TC_count 0 q Q = mt_go [o_iload 1] q (mt_kk cd_TC_count Q (o_iflt 10 4)) := mt_blk rfl q Q
theorem k_TC_count_4 (q : m_C) (Q : m_R → Prop) : mt_T cd_TC_count 4 q Q = mt_go [o_iload 1, o_const (nI 8)] q (mt_kk cd_TC_count Q (o_iclt 14 10)) := mt_blk rfl q Q
theorem k_TC_count_10 (q : m_C) (Q : m_R → Prop) : mt_T cd_TC_count 10 q Q = mt_go [o_const (-1)] q (mt_kk cd_TC_count Q (o_fall 20)) := mt_blk rfl q Q
theorem k_TC_count_14 (q : m_C) (Q : m_R → Prop) : mt_T cd_TC_count 14 q Q = mt_go [o_aload 0, o_get 8 7, o_iload 1, o_iald] q (mt_kk cd_TC_count Q (o_fall 20)) := mt_blk rfl q Q
theorem k_TC_count_20 (q : m_C) (Q : m_R → Prop) : mt_T cd_TC_count 20 q Q = mt_go [] q (mt_kk cd_TC_count Q (o_iret)) := mt_blk rfl q Q
-- TreeCarrierModel.<init> ()V
noncomputable def cd_MD_init : List m_B := [(0, [o_aload 0, o_objinit, o_aload 0, o_const (nI 24), o_newI 1, o_putA 9 0, o_aload 0, o_const (nI 24), o_newI 0, o_putA 9 1, o_aload 0, o_const (nI 24), o_newI 0, o_putA 9 2, o_aload 0, o_const (nI 960), o_newI 0, o_putA 9 3, o_aload 0, o_const (nI 6), o_newI 1, o_putA 9 6, o_aload 0, o_const (nI 6), o_newI 0, o_putA 9 7, o_aload 0, o_const (nI 6), o_newI 0, o_putA 9 8, o_aload 0, o_const (nI 12), o_newI 0, o_putA 9 13, o_aload 0, o_const (nI 12), o_newI 0, o_putA 9 14, o_aload 0, o_const (nI 12), o_newI 0, o_putA 9 15, o_aload 0, o_const (nI 12), o_newI 1, o_putA 9 16, o_aload 0, o_const (nI 2), o_newI 0, o_putA 9 17, o_aload 0, o_const (nI 2880), o_newI 0, o_putA 9 18, o_aload 0, o_const (nI 16), o_newI 0, o_putA 9 21, o_aload 0, o_const (nI 16), o_newI 0, o_putA 9 22, o_aload 0, o_const (nI 16), o_newI 0, o_putA 9 23, o_aload 0, o_const (nI 640), o_newI 0, o_putA 9 24, o_aload 0, o_const (nI 40), o_newI 0, o_putA 9 25, o_aload 0, o_const (nI 8), o_newI 0, o_putA 9 27], o_ret)]
noncomputable def sm_MD_init : List m_V → m_M → Option m_R := mt_sem cd_MD_init 1
theorem k_MD_init_0 (q : m_C) (Q : m_R → Prop) : mt_T cd_MD_init 0 q Q = mt_go [o_aload 0, o_objinit, o_aload 0, o_const (nI 24), o_newI 1, o_putA 9 0, o_aload 0, o_const (nI 24), o_newI 0, o_putA 9 1, o_aload 0, o_const (nI 24), o_newI 0, o_putA 9 2, o_aload 0, o_const (nI 960), o_newI 0, o_putA 9 3, o_aload 0, o_const (nI 6), o_newI 1, o_putA 9 6, o_aload 0, o_const (nI 6), o_newI 0, o_putA 9 7, o_aload 0, o_const (nI 6), o_newI 0, o_putA 9 8, o_aload 0, o_const (nI 12), o_newI 0, o_putA 9 13, o_aload 0, o_const (nI 12), o_newI 0, o_putA 9 14, o_aload 0, o_const (nI 12), o_newI 0, o_putA 9 15, o_aload 0, o_const (nI 12), o_newI 1, o_putA 9 16, o_aload 0, o_const (nI 2), o_newI 0, o_putA 9 17, o_aload 0, o_const (nI 2880), o_newI 0, o_putA 9 18, o_aload 0, o_const (nI 16), o_newI 0, o_putA 9 21, o_aload 0, o_const (nI 16), o_newI 0, o_putA 9 22, o_aload 0, o_const (nI 16), o_newI 0, o_putA 9 23, o_aload 0, o_const (nI 640), o_newI 0, o_putA 9 24, o_aload 0, o_const (nI 40), o_newI 0, o_putA 9 25, o_aload 0, o_const (nI 8), o_newI 0, o_putA 9 27] q (mt_kk cd_MD_init Q (o_ret)) := mt_blk rfl q Q
-- TreeCarrierModel.in (II)Z
noncomputable def cd_MD_in : List m_B := [(0, [o_iload 0], o_iflt 13 4), (4, [o_iload 0, o_iload 1], o_icgt 13 9), (9, [o_const (nI 1)], o_fall 14), (13, [o_const (nI 0)], o_fall 14), (14, [], o_zret)]
noncomputable def sm_MD_in : List m_V → m_M → Option m_R := mt_sem cd_MD_in 2
theorem k_MD_in_0 (q : m_C) (Q : m_R → Prop) : mt_T cd_MD_in 0 q Q = mt_go [o_iload 0] q (mt_kk cd_MD_in Q (o_iflt 13 4)) := mt_blk rfl q Q
theorem k_MD_in_4 (q : m_C) (Q : m_R → Prop) : mt_T cd_MD_in 4 q Q = mt_go [o_iload 0, o_iload 1] q (mt_kk cd_MD_in Q (o_icgt 13 9)) := mt_blk rfl q Q
theorem k_MD_in_9 (q : m_C) (Q : m_R → Prop) : mt_T cd_MD_in 9 q Q = mt_go [o_const (nI 1)] q (mt_kk cd_MD_in Q (o_fall 14)) := mt_blk rfl q Q
theorem k_MD_in_13 (q : m_C) (Q : m_R → Prop) : mt_T cd_MD_in 13 q Q = mt_go [o_const (nI 0)] q (mt_kk cd_MD_in Q (o_fall 14)) := mt_blk rfl q Q
theorem k_MD_in_14 (q : m_C) (Q : m_R → Prop) : mt_T cd_MD_in 14 q Q = mt_go [] q (mt_kk cd_MD_in Q (o_zret)) := mt_blk rfl q Q
-- TreeCarrierModel.add (I)V
noncomputable def cd_MD_add : List m_B := [(0, [o_aload 0, o_get 9 27, o_iload 1, o_aload 0, o_get 9 27, o_iload 1, o_iald, o_const (nI 1), o_add, o_iast], o_ret)]
noncomputable def sm_MD_add : List m_V → m_M → Option m_R := mt_sem cd_MD_add 2
theorem k_MD_add_0 (q : m_C) (Q : m_R → Prop) : mt_T cd_MD_add 0 q Q = mt_go [o_aload 0, o_get 9 27, o_iload 1, o_aload 0, o_get 9 27, o_iload 1, o_iald, o_const (nI 1), o_add, o_iast] q (mt_kk cd_MD_add Q (o_ret)) := mt_blk rfl q Q
-- TreeCarrierModel.rule (ZII)Z
noncomputable def cd_MD_rule : List m_B := [(0, [o_iload 2, o_const (nI 15)], o_callS sm_MD_in 2 6), (6, [], o_ifeq 27 9), (9, [o_iload 3, o_const (nI 15)], o_callS sm_MD_in 2 15), (15, [], o_ifeq 27 18), (18, [o_aload 0, o_get 9 5, o_const (nI 6)], o_iclt 29 27), (27, [o_const (nI 0)], o_zret), (29, [o_aload 0, o_get 9 6, o_aload 0, o_get 9 5, o_iload 1, o_zast, o_aload 0, o_get 9 7, o_aload 0, o_get 9 5, o_iload 2, o_iast, o_aload 0, o_get 9 8, o_aload 0, o_get 9 5, o_iload 3, o_iast, o_aload 0, o_aload 0, o_get 9 5, o_const (nI 1), o_add, o_putI 9 5, o_const (nI 1)], o_zret)]
noncomputable def sm_MD_rule : List m_V → m_M → Option m_R := mt_sem cd_MD_rule 4
theorem k_MD_rule_0 (q : m_C) (Q : m_R → Prop) : mt_T cd_MD_rule 0 q Q = mt_go [o_iload 2, o_const (nI 15)] q (mt_kk cd_MD_rule Q (o_callS sm_MD_in 2 6)) := mt_blk rfl q Q
theorem k_MD_rule_6 (q : m_C) (Q : m_R → Prop) : mt_T cd_MD_rule 6 q Q = mt_go [] q (mt_kk cd_MD_rule Q (o_ifeq 27 9)) := mt_blk rfl q Q
theorem k_MD_rule_9 (q : m_C) (Q : m_R → Prop) : mt_T cd_MD_rule 9 q Q = mt_go [o_iload 3, o_const (nI 15)] q (mt_kk cd_MD_rule Q (o_callS sm_MD_in 2 15)) := mt_blk rfl q Q
theorem k_MD_rule_15 (q : m_C) (Q : m_R → Prop) : mt_T cd_MD_rule 15 q Q = mt_go [] q (mt_kk cd_MD_rule Q (o_ifeq 27 18)) := mt_blk rfl q Q
theorem k_MD_rule_18 (q : m_C) (Q : m_R → Prop) : mt_T cd_MD_rule 18 q Q = mt_go [o_aload 0, o_get 9 5, o_const (nI 6)] q (mt_kk cd_MD_rule Q (o_iclt 29 27)) := mt_blk rfl q Q
theorem k_MD_rule_27 (q : m_C) (Q : m_R → Prop) : mt_T cd_MD_rule 27 q Q = mt_go [o_const (nI 0)] q (mt_kk cd_MD_rule Q (o_zret)) := mt_blk rfl q Q
theorem k_MD_rule_29 (q : m_C) (Q : m_R → Prop) : mt_T cd_MD_rule 29 q Q = mt_go [o_aload 0, o_get 9 6, o_aload 0, o_get 9 5, o_iload 1, o_zast, o_aload 0, o_get 9 7, o_aload 0, o_get 9 5, o_iload 2, o_iast, o_aload 0, o_get 9 8, o_aload 0, o_get 9 5, o_iload 3, o_iast, o_aload 0, o_aload 0, o_get 9 5, o_const (nI 1), o_add, o_putI 9 5, o_const (nI 1)] q (mt_kk cd_MD_rule Q (o_zret)) := mt_blk rfl q Q
-- TreeCarrierModel.isSelected (I)Z
noncomputable def cd_MD_isSelected : List m_B := [(0, [o_const (nI 1), o_istore 2, o_aload 0, o_get 9 5, o_const (nI 1), o_sub, o_istore 3], o_fall 9), (9, [o_iload 3], o_iflt 47 13), (13, [o_iload 1, o_aload 0, o_get 9 7, o_iload 3, o_iald, o_and, o_aload 0, o_get 9 8, o_iload 3, o_iald], o_icne 39 30), (30, [o_aload 0, o_get 9 6, o_iload 3, o_zald], o_fall 40), (39, [o_iload 2], o_fall 40), (40, [o_istore 2, o_iinc 3 (-1)], o_fall 9), (47, [o_iload 2], o_zret)]
noncomputable def sm_MD_isSelected : List m_V → m_M → Option m_R := mt_sem cd_MD_isSelected 4
theorem k_MD_isSelected_0 (q : m_C) (Q : m_R → Prop) : mt_T cd_MD_isSelected 0 q Q = mt_go [o_const (nI 1), o_istore 2, o_aload 0, o_get 9 5, o_const (nI 1), o_sub, o_istore 3] q (mt_kk cd_MD_isSelected Q (o_fall 9)) := mt_blk rfl q Q
theorem k_MD_isSelected_9 (q : m_C) (Q : m_R → Prop) : mt_T cd_MD_isSelected 9 q Q = mt_go [o_iload 3] q (mt_kk cd_MD_isSelected Q (o_iflt 47 13)) := mt_blk rfl q Q
theorem k_MD_isSelected_13 (q : m_C) (Q : m_R → Prop) : mt_T cd_MD_isSelected 13 q Q = mt_go [o_iload 1, o_aload 0, o_get 9 7, o_iload 3, o_iald, o_and, o_aload 0, o_get 9 8, o_iload 3, o_iald] q (mt_kk cd_MD_isSelected Q (o_icne 39 30)) := mt_blk rfl q Q
theorem k_MD_isSelected_30 (q : m_C) (Q : m_R → Prop) : mt_T cd_MD_isSelected 30 q Q = mt_go [o_aload 0, o_get 9 6, o_iload 3, o_zald] q (mt_kk cd_MD_isSelected Q (o_fall 40)) := mt_blk rfl q Q
theorem k_MD_isSelected_39 (q : m_C) (Q : m_R → Prop) : mt_T cd_MD_isSelected 39 q Q = mt_go [o_iload 2] q (mt_kk cd_MD_isSelected Q (o_fall 40)) := mt_blk rfl q Q
theorem k_MD_isSelected_40 (q : m_C) (Q : m_R → Prop) : mt_T cd_MD_isSelected 40 q Q = mt_go [o_istore 2, o_iinc 3 (-1)] q (mt_kk cd_MD_isSelected Q (o_fall 9)) := mt_blk rfl q Q
theorem k_MD_isSelected_47 (q : m_C) (Q : m_R → Prop) : mt_T cd_MD_isSelected 47 q Q = mt_go [o_iload 2] q (mt_kk cd_MD_isSelected Q (o_zret)) := mt_blk rfl q Q
-- TreeCarrierModel.selected (I)Z
noncomputable def cd_MD_selected : List m_B := [(0, [o_iload 1, o_const (nI 11)], o_callS sm_MD_in 2 6), (6, [], o_ifeq 21 9), (9, [o_aload 0, o_iload 1], o_callV sm_MD_isSelected 9 2 14), (14, [], o_ifeq 21 17), (17, [o_const (nI 1)], o_fall 22), (21, [o_const (nI 0)], o_fall 22), (22, [], o_zret)]
noncomputable def sm_MD_selected : List m_V → m_M → Option m_R := mt_sem cd_MD_selected 2
theorem k_MD_selected_0 (q : m_C) (Q : m_R → Prop) : mt_T cd_MD_selected 0 q Q = mt_go [o_iload 1, o_const (nI 11)] q (mt_kk cd_MD_selected Q (o_callS sm_MD_in 2 6)) := mt_blk rfl q Q
theorem k_MD_selected_6 (q : m_C) (Q : m_R → Prop) : mt_T cd_MD_selected 6 q Q = mt_go [] q (mt_kk cd_MD_selected Q (o_ifeq 21 9)) := mt_blk rfl q Q
theorem k_MD_selected_9 (q : m_C) (Q : m_R → Prop) : mt_T cd_MD_selected 9 q Q = mt_go [o_aload 0, o_iload 1] q (mt_kk cd_MD_selected Q (o_callV sm_MD_isSelected 9 2 14)) := mt_blk rfl q Q
theorem k_MD_selected_14 (q : m_C) (Q : m_R → Prop) : mt_T cd_MD_selected 14 q Q = mt_go [] q (mt_kk cd_MD_selected Q (o_ifeq 21 17)) := mt_blk rfl q Q
theorem k_MD_selected_17 (q : m_C) (Q : m_R → Prop) : mt_T cd_MD_selected 17 q Q = mt_go [o_const (nI 1)] q (mt_kk cd_MD_selected Q (o_fall 22)) := mt_blk rfl q Q
theorem k_MD_selected_21 (q : m_C) (Q : m_R → Prop) : mt_T cd_MD_selected 21 q Q = mt_go [o_const (nI 0)] q (mt_kk cd_MD_selected Q (o_fall 22)) := mt_blk rfl q Q
theorem k_MD_selected_22 (q : m_C) (Q : m_R → Prop) : mt_T cd_MD_selected 22 q Q = mt_go [] q (mt_kk cd_MD_selected Q (o_zret)) := mt_blk rfl q Q
-- TreeCarrierModel.file (II)I
noncomputable def cd_MD_file : List m_B := [(0, [o_iload 1, o_const (nI 1)], o_callS sm_MD_in 2 5), (5, [], o_ifeq 40 8), (8, [o_iload 2, o_const (nI 11)], o_callS sm_MD_in 2 14), (14, [], o_ifeq 40 17), (17, [o_aload 0, o_get 9 0, o_const (nI 12), o_iload 1, o_mul, o_iload 2, o_add, o_zald], o_ifeq 40 31), (31, [o_const (nI 12), o_iload 1, o_mul, o_iload 2, o_add], o_fall 41), (40, [o_const (-1)], o_fall 41), (41, [], o_iret)]
noncomputable def sm_MD_file : List m_V → m_M → Option m_R := mt_sem cd_MD_file 3
theorem k_MD_file_0 (q : m_C) (Q : m_R → Prop) : mt_T cd_MD_file 0 q Q = mt_go [o_iload 1, o_const (nI 1)] q (mt_kk cd_MD_file Q (o_callS sm_MD_in 2 5)) := mt_blk rfl q Q
theorem k_MD_file_5 (q : m_C) (Q : m_R → Prop) : mt_T cd_MD_file 5 q Q = mt_go [] q (mt_kk cd_MD_file Q (o_ifeq 40 8)) := mt_blk rfl q Q
theorem k_MD_file_8 (q : m_C) (Q : m_R → Prop) : mt_T cd_MD_file 8 q Q = mt_go [o_iload 2, o_const (nI 11)] q (mt_kk cd_MD_file Q (o_callS sm_MD_in 2 14)) := mt_blk rfl q Q
theorem k_MD_file_14 (q : m_C) (Q : m_R → Prop) : mt_T cd_MD_file 14 q Q = mt_go [] q (mt_kk cd_MD_file Q (o_ifeq 40 17)) := mt_blk rfl q Q
theorem k_MD_file_17 (q : m_C) (Q : m_R → Prop) : mt_T cd_MD_file 17 q Q = mt_go [o_aload 0, o_get 9 0, o_const (nI 12), o_iload 1, o_mul, o_iload 2, o_add, o_zald] q (mt_kk cd_MD_file Q (o_ifeq 40 31)) := mt_blk rfl q Q
theorem k_MD_file_31 (q : m_C) (Q : m_R → Prop) : mt_T cd_MD_file 31 q Q = mt_go [o_const (nI 12), o_iload 1, o_mul, o_iload 2, o_add] q (mt_kk cd_MD_file Q (o_fall 41)) := mt_blk rfl q Q
theorem k_MD_file_40 (q : m_C) (Q : m_R → Prop) : mt_T cd_MD_file 40 q Q = mt_go [o_const (-1)] q (mt_kk cd_MD_file Q (o_fall 41)) := mt_blk rfl q Q
theorem k_MD_file_41 (q : m_C) (Q : m_R → Prop) : mt_T cd_MD_file 41 q Q = mt_go [] q (mt_kk cd_MD_file Q (o_iret)) := mt_blk rfl q Q
-- TreeCarrierModel.touch (I)V
noncomputable def cd_MD_touch : List m_B := [(0, [o_aload 0, o_aload 0, o_get 9 4, o_const (nI 1), o_add, o_putI 9 4, o_aload 0, o_get 9 2, o_iload 1, o_aload 0, o_get 9 4, o_iast], o_ret)]
noncomputable def sm_MD_touch : List m_V → m_M → Option m_R := mt_sem cd_MD_touch 2
theorem k_MD_touch_0 (q : m_C) (Q : m_R → Prop) : mt_T cd_MD_touch 0 q Q = mt_go [o_aload 0, o_aload 0, o_get 9 4, o_const (nI 1), o_add, o_putI 9 4, o_aload 0, o_get 9 2, o_iload 1, o_aload 0, o_get 9 4, o_iast] q (mt_kk cd_MD_touch Q (o_ret)) := mt_blk rfl q Q
-- TreeCarrierModel.put (III)Z
noncomputable def cd_MD_put : List m_B := [(0, [o_iload 1, o_const (nI 1)], o_callS sm_MD_in 2 5), (5, [], o_ifeq 27 8), (8, [o_iload 2, o_const (nI 11)], o_callS sm_MD_in 2 14), (14, [], o_ifeq 27 17), (17, [o_iload 3, o_const (nI 255)], o_callS sm_MD_in 2 24), (24, [], o_ifne 29 27), (27, [o_const (nI 0)], o_zret), (29, [o_const (nI 12), o_iload 1, o_mul, o_iload 2, o_add, o_istore 4, o_aload 0, o_get 9 0, o_iload 4, o_zald], o_ifeq 57 47), (47, [o_aload 0, o_get 9 1, o_iload 4, o_iald], o_fall 58), (57, [o_const (nI 0)], o_fall 58), (58, [o_istore 5, o_iload 5, o_const (nI 40)], o_iclt 69 67), (67, [o_const (nI 0)], o_zret), (69, [o_aload 0, o_get 9 0, o_iload 4, o_const (nI 1), o_zast, o_aload 0, o_get 9 3, o_const (nI 40), o_iload 4, o_mul, o_iload 5, o_add, o_iload 3, o_iast, o_aload 0, o_get 9 1, o_iload 4, o_iload 5, o_const (nI 1), o_add, o_iast, o_aload 0, o_iload 4], o_callV sm_MD_touch 9 2 108), (108, [o_const (nI 1)], o_zret)]
noncomputable def sm_MD_put : List m_V → m_M → Option m_R := mt_sem cd_MD_put 6
theorem k_MD_put_0 (q : m_C) (Q : m_R → Prop) : mt_T cd_MD_put 0 q Q = mt_go [o_iload 1, o_const (nI 1)] q (mt_kk cd_MD_put Q (o_callS sm_MD_in 2 5)) := mt_blk rfl q Q
theorem k_MD_put_5 (q : m_C) (Q : m_R → Prop) : mt_T cd_MD_put 5 q Q = mt_go [] q (mt_kk cd_MD_put Q (o_ifeq 27 8)) := mt_blk rfl q Q
theorem k_MD_put_8 (q : m_C) (Q : m_R → Prop) : mt_T cd_MD_put 8 q Q = mt_go [o_iload 2, o_const (nI 11)] q (mt_kk cd_MD_put Q (o_callS sm_MD_in 2 14)) := mt_blk rfl q Q
theorem k_MD_put_14 (q : m_C) (Q : m_R → Prop) : mt_T cd_MD_put 14 q Q = mt_go [] q (mt_kk cd_MD_put Q (o_ifeq 27 17)) := mt_blk rfl q Q
theorem k_MD_put_17 (q : m_C) (Q : m_R → Prop) : mt_T cd_MD_put 17 q Q = mt_go [o_iload 3, o_const (nI 255)] q (mt_kk cd_MD_put Q (o_callS sm_MD_in 2 24)) := mt_blk rfl q Q
theorem k_MD_put_24 (q : m_C) (Q : m_R → Prop) : mt_T cd_MD_put 24 q Q = mt_go [] q (mt_kk cd_MD_put Q (o_ifne 29 27)) := mt_blk rfl q Q
theorem k_MD_put_27 (q : m_C) (Q : m_R → Prop) : mt_T cd_MD_put 27 q Q = mt_go [o_const (nI 0)] q (mt_kk cd_MD_put Q (o_zret)) := mt_blk rfl q Q
theorem k_MD_put_29 (q : m_C) (Q : m_R → Prop) : mt_T cd_MD_put 29 q Q = mt_go [o_const (nI 12), o_iload 1, o_mul, o_iload 2, o_add, o_istore 4, o_aload 0, o_get 9 0, o_iload 4, o_zald] q (mt_kk cd_MD_put Q (o_ifeq 57 47)) := mt_blk rfl q Q
theorem k_MD_put_47 (q : m_C) (Q : m_R → Prop) : mt_T cd_MD_put 47 q Q = mt_go [o_aload 0, o_get 9 1, o_iload 4, o_iald] q (mt_kk cd_MD_put Q (o_fall 58)) := mt_blk rfl q Q
theorem k_MD_put_57 (q : m_C) (Q : m_R → Prop) : mt_T cd_MD_put 57 q Q = mt_go [o_const (nI 0)] q (mt_kk cd_MD_put Q (o_fall 58)) := mt_blk rfl q Q
theorem k_MD_put_58 (q : m_C) (Q : m_R → Prop) : mt_T cd_MD_put 58 q Q = mt_go [o_istore 5, o_iload 5, o_const (nI 40)] q (mt_kk cd_MD_put Q (o_iclt 69 67)) := mt_blk rfl q Q
theorem k_MD_put_67 (q : m_C) (Q : m_R → Prop) : mt_T cd_MD_put 67 q Q = mt_go [o_const (nI 0)] q (mt_kk cd_MD_put Q (o_zret)) := mt_blk rfl q Q
theorem k_MD_put_69 (q : m_C) (Q : m_R → Prop) : mt_T cd_MD_put 69 q Q = mt_go [o_aload 0, o_get 9 0, o_iload 4, o_const (nI 1), o_zast, o_aload 0, o_get 9 3, o_const (nI 40), o_iload 4, o_mul, o_iload 5, o_add, o_iload 3, o_iast, o_aload 0, o_get 9 1, o_iload 4, o_iload 5, o_const (nI 1), o_add, o_iast, o_aload 0, o_iload 4] q (mt_kk cd_MD_put Q (o_callV sm_MD_touch 9 2 108)) := mt_blk rfl q Q
theorem k_MD_put_108 (q : m_C) (Q : m_R → Prop) : mt_T cd_MD_put 108 q Q = mt_go [o_const (nI 1)] q (mt_kk cd_MD_put Q (o_zret)) := mt_blk rfl q Q
-- TreeCarrierModel.set (IIII)Z
noncomputable def cd_MD_set : List m_B := [(0, [o_aload 0, o_iload 1, o_iload 2], o_callV sm_MD_file 9 3 6), (6, [o_istore 5, o_iload 5], o_iflt 40 13), (13, [o_iload 3, o_aload 0, o_get 9 1, o_iload 5, o_iald, o_const (nI 1), o_sub], o_callS sm_MD_in 2 26), (26, [], o_ifeq 40 29), (29, [o_iload 4, o_const (nI 255)], o_callS sm_MD_in 2 37), (37, [], o_ifne 42 40), (40, [o_const (nI 0)], o_zret), (42, [o_aload 0, o_get 9 3, o_const (nI 40), o_iload 5, o_mul, o_iload 3, o_add, o_iload 4, o_iast, o_aload 0, o_iload 5], o_callV sm_MD_touch 9 2 62), (62, [o_const (nI 1)], o_zret)]
noncomputable def sm_MD_set : List m_V → m_M → Option m_R := mt_sem cd_MD_set 6
theorem k_MD_set_0 (q : m_C) (Q : m_R → Prop) : mt_T cd_MD_set 0 q Q = mt_go [o_aload 0, o_iload 1, o_iload 2] q (mt_kk cd_MD_set Q (o_callV sm_MD_file 9 3 6)) := mt_blk rfl q Q
theorem k_MD_set_6 (q : m_C) (Q : m_R → Prop) : mt_T cd_MD_set 6 q Q = mt_go [o_istore 5, o_iload 5] q (mt_kk cd_MD_set Q (o_iflt 40 13)) := mt_blk rfl q Q
theorem k_MD_set_13 (q : m_C) (Q : m_R → Prop) : mt_T cd_MD_set 13 q Q = mt_go [o_iload 3, o_aload 0, o_get 9 1, o_iload 5, o_iald, o_const (nI 1), o_sub] q (mt_kk cd_MD_set Q (o_callS sm_MD_in 2 26)) := mt_blk rfl q Q
theorem k_MD_set_26 (q : m_C) (Q : m_R → Prop) : mt_T cd_MD_set 26 q Q = mt_go [] q (mt_kk cd_MD_set Q (o_ifeq 40 29)) := mt_blk rfl q Q
theorem k_MD_set_29 (q : m_C) (Q : m_R → Prop) : mt_T cd_MD_set 29 q Q = mt_go [o_iload 4, o_const (nI 255)] q (mt_kk cd_MD_set Q (o_callS sm_MD_in 2 37)) := mt_blk rfl q Q
theorem k_MD_set_37 (q : m_C) (Q : m_R → Prop) : mt_T cd_MD_set 37 q Q = mt_go [] q (mt_kk cd_MD_set Q (o_ifne 42 40)) := mt_blk rfl q Q
theorem k_MD_set_40 (q : m_C) (Q : m_R → Prop) : mt_T cd_MD_set 40 q Q = mt_go [o_const (nI 0)] q (mt_kk cd_MD_set Q (o_zret)) := mt_blk rfl q Q
theorem k_MD_set_42 (q : m_C) (Q : m_R → Prop) : mt_T cd_MD_set 42 q Q = mt_go [o_aload 0, o_get 9 3, o_const (nI 40), o_iload 5, o_mul, o_iload 3, o_add, o_iload 4, o_iast, o_aload 0, o_iload 5] q (mt_kk cd_MD_set Q (o_callV sm_MD_touch 9 2 62)) := mt_blk rfl q Q
theorem k_MD_set_62 (q : m_C) (Q : m_R → Prop) : mt_T cd_MD_set 62 q Q = mt_go [o_const (nI 1)] q (mt_kk cd_MD_set Q (o_zret)) := mt_blk rfl q Q
-- TreeCarrierModel.remove (II)Z
noncomputable def cd_MD_remove : List m_B := [(0, [o_aload 0, o_iload 1, o_iload 2], o_callV sm_MD_file 9 3 6), (6, [o_istore 3, o_iload 3], o_ifge 13 11), (11, [o_const (nI 0)], o_zret), (13, [o_aload 0, o_get 9 0, o_iload 3, o_const (nI 0), o_zast, o_aload 0, o_aload 0, o_get 9 4, o_const (nI 1), o_add, o_putI 9 4, o_const (nI 1)], o_zret)]
noncomputable def sm_MD_remove : List m_V → m_M → Option m_R := mt_sem cd_MD_remove 4
theorem k_MD_remove_0 (q : m_C) (Q : m_R → Prop) : mt_T cd_MD_remove 0 q Q = mt_go [o_aload 0, o_iload 1, o_iload 2] q (mt_kk cd_MD_remove Q (o_callV sm_MD_file 9 3 6)) := mt_blk rfl q Q
theorem k_MD_remove_6 (q : m_C) (Q : m_R → Prop) : mt_T cd_MD_remove 6 q Q = mt_go [o_istore 3, o_iload 3] q (mt_kk cd_MD_remove Q (o_ifge 13 11)) := mt_blk rfl q Q
theorem k_MD_remove_11 (q : m_C) (Q : m_R → Prop) : mt_T cd_MD_remove 11 q Q = mt_go [o_const (nI 0)] q (mt_kk cd_MD_remove Q (o_zret)) := mt_blk rfl q Q
theorem k_MD_remove_13 (q : m_C) (Q : m_R → Prop) : mt_T cd_MD_remove 13 q Q = mt_go [o_aload 0, o_get 9 0, o_iload 3, o_const (nI 0), o_zast, o_aload 0, o_aload 0, o_get 9 4, o_const (nI 1), o_add, o_putI 9 4, o_const (nI 1)] q (mt_kk cd_MD_remove Q (o_zret)) := mt_blk rfl q Q
-- TreeCarrierModel.size (II)I
noncomputable def cd_MD_size : List m_B := [(0, [o_aload 0, o_iload 1, o_iload 2], o_callV sm_MD_file 9 3 6), (6, [o_istore 3, o_iload 3], o_ifge 15 11), (11, [o_const (-1)], o_fall 21), (15, [o_aload 0, o_get 9 1, o_iload 3, o_iald], o_fall 21), (21, [], o_iret)]
noncomputable def sm_MD_size : List m_V → m_M → Option m_R := mt_sem cd_MD_size 4
theorem k_MD_size_0 (q : m_C) (Q : m_R → Prop) : mt_T cd_MD_size 0 q Q = mt_go [o_aload 0, o_iload 1, o_iload 2] q (mt_kk cd_MD_size Q (o_callV sm_MD_file 9 3 6)) := mt_blk rfl q Q
theorem k_MD_size_6 (q : m_C) (Q : m_R → Prop) : mt_T cd_MD_size 6 q Q = mt_go [o_istore 3, o_iload 3] q (mt_kk cd_MD_size Q (o_ifge 15 11)) := mt_blk rfl q Q
theorem k_MD_size_11 (q : m_C) (Q : m_R → Prop) : mt_T cd_MD_size 11 q Q = mt_go [o_const (-1)] q (mt_kk cd_MD_size Q (o_fall 21)) := mt_blk rfl q Q
theorem k_MD_size_15 (q : m_C) (Q : m_R → Prop) : mt_T cd_MD_size 15 q Q = mt_go [o_aload 0, o_get 9 1, o_iload 3, o_iald] q (mt_kk cd_MD_size Q (o_fall 21)) := mt_blk rfl q Q
theorem k_MD_size_21 (q : m_C) (Q : m_R → Prop) : mt_T cd_MD_size 21 q Q = mt_go [] q (mt_kk cd_MD_size Q (o_iret)) := mt_blk rfl q Q
-- TreeCarrierModel.at (III)I
noncomputable def cd_MD_at : List m_B := [(0, [o_aload 0, o_iload 1, o_iload 2], o_callV sm_MD_file 9 3 6), (6, [o_istore 4, o_iload 4], o_iflt 29 13), (13, [o_iload 3, o_aload 0, o_get 9 1, o_iload 4, o_iald, o_const (nI 1), o_sub], o_callS sm_MD_in 2 26), (26, [], o_ifne 33 29), (29, [o_const (-1)], o_fall 45), (33, [o_aload 0, o_get 9 3, o_const (nI 40), o_iload 4, o_mul, o_iload 3, o_add, o_iald], o_fall 45), (45, [], o_iret)]
noncomputable def sm_MD_at : List m_V → m_M → Option m_R := mt_sem cd_MD_at 5
theorem k_MD_at_0 (q : m_C) (Q : m_R → Prop) : mt_T cd_MD_at 0 q Q = mt_go [o_aload 0, o_iload 1, o_iload 2] q (mt_kk cd_MD_at Q (o_callV sm_MD_file 9 3 6)) := mt_blk rfl q Q
theorem k_MD_at_6 (q : m_C) (Q : m_R → Prop) : mt_T cd_MD_at 6 q Q = mt_go [o_istore 4, o_iload 4] q (mt_kk cd_MD_at Q (o_iflt 29 13)) := mt_blk rfl q Q
theorem k_MD_at_13 (q : m_C) (Q : m_R → Prop) : mt_T cd_MD_at 13 q Q = mt_go [o_iload 3, o_aload 0, o_get 9 1, o_iload 4, o_iald, o_const (nI 1), o_sub] q (mt_kk cd_MD_at Q (o_callS sm_MD_in 2 26)) := mt_blk rfl q Q
theorem k_MD_at_26 (q : m_C) (Q : m_R → Prop) : mt_T cd_MD_at 26 q Q = mt_go [] q (mt_kk cd_MD_at Q (o_ifne 33 29)) := mt_blk rfl q Q
theorem k_MD_at_29 (q : m_C) (Q : m_R → Prop) : mt_T cd_MD_at 29 q Q = mt_go [o_const (-1)] q (mt_kk cd_MD_at Q (o_fall 45)) := mt_blk rfl q Q
theorem k_MD_at_33 (q : m_C) (Q : m_R → Prop) : mt_T cd_MD_at 33 q Q = mt_go [o_aload 0, o_get 9 3, o_const (nI 40), o_iload 4, o_mul, o_iload 3, o_add, o_iald] q (mt_kk cd_MD_at Q (o_fall 45)) := mt_blk rfl q Q
theorem k_MD_at_45 (q : m_C) (Q : m_R → Prop) : mt_T cd_MD_at 45 q Q = mt_go [] q (mt_kk cd_MD_at Q (o_iret)) := mt_blk rfl q Q
-- TreeCarrierModel.time (II)I
noncomputable def cd_MD_time : List m_B := [(0, [o_aload 0, o_iload 1, o_iload 2], o_callV sm_MD_file 9 3 6), (6, [o_istore 3, o_iload 3], o_ifge 15 11), (11, [o_const (-1)], o_fall 21), (15, [o_aload 0, o_get 9 2, o_iload 3, o_iald], o_fall 21), (21, [], o_iret)]
noncomputable def sm_MD_time : List m_V → m_M → Option m_R := mt_sem cd_MD_time 4
theorem k_MD_time_0 (q : m_C) (Q : m_R → Prop) : mt_T cd_MD_time 0 q Q = mt_go [o_aload 0, o_iload 1, o_iload 2] q (mt_kk cd_MD_time Q (o_callV sm_MD_file 9 3 6)) := mt_blk rfl q Q
theorem k_MD_time_6 (q : m_C) (Q : m_R → Prop) : mt_T cd_MD_time 6 q Q = mt_go [o_istore 3, o_iload 3] q (mt_kk cd_MD_time Q (o_ifge 15 11)) := mt_blk rfl q Q
theorem k_MD_time_11 (q : m_C) (Q : m_R → Prop) : mt_T cd_MD_time 11 q Q = mt_go [o_const (-1)] q (mt_kk cd_MD_time Q (o_fall 21)) := mt_blk rfl q Q
theorem k_MD_time_15 (q : m_C) (Q : m_R → Prop) : mt_T cd_MD_time 15 q Q = mt_go [o_aload 0, o_get 9 2, o_iload 3, o_iald] q (mt_kk cd_MD_time Q (o_fall 21)) := mt_blk rfl q Q
theorem k_MD_time_21 (q : m_C) (Q : m_R → Prop) : mt_T cd_MD_time 21 q Q = mt_go [] q (mt_kk cd_MD_time Q (o_iret)) := mt_blk rfl q Q
-- TreeCarrierModel.weak (II)I
noncomputable def cd_MD_weak : List m_B := [(0, [o_const (nI 0), o_istore 3, o_const (nI 0), o_istore 4, o_const (nI 0), o_istore 5], o_fall 8), (8, [o_iload 5, o_iload 2], o_icge 51 14), (14, [o_iload 3, o_aload 0, o_get 9 3, o_iload 1, o_iload 5, o_add, o_iald, o_add, o_istore 3, o_iload 4, o_iload 2, o_iload 5, o_sub, o_aload 0, o_get 9 3, o_iload 1, o_iload 5, o_add, o_iald, o_mul, o_add, o_istore 4, o_iinc 5 (nI 1)], o_fall 8), (51, [o_iload 3, o_const (nI 16), o_rem, o_const (nI 16), o_iload 4, o_const (nI 16), o_rem, o_mul, o_add], o_iret)]
noncomputable def sm_MD_weak : List m_V → m_M → Option m_R := mt_sem cd_MD_weak 6
theorem k_MD_weak_0 (q : m_C) (Q : m_R → Prop) : mt_T cd_MD_weak 0 q Q = mt_go [o_const (nI 0), o_istore 3, o_const (nI 0), o_istore 4, o_const (nI 0), o_istore 5] q (mt_kk cd_MD_weak Q (o_fall 8)) := mt_blk rfl q Q
theorem k_MD_weak_8 (q : m_C) (Q : m_R → Prop) : mt_T cd_MD_weak 8 q Q = mt_go [o_iload 5, o_iload 2] q (mt_kk cd_MD_weak Q (o_icge 51 14)) := mt_blk rfl q Q
theorem k_MD_weak_14 (q : m_C) (Q : m_R → Prop) : mt_T cd_MD_weak 14 q Q = mt_go [o_iload 3, o_aload 0, o_get 9 3, o_iload 1, o_iload 5, o_add, o_iald, o_add, o_istore 3, o_iload 4, o_iload 2, o_iload 5, o_sub, o_aload 0, o_get 9 3, o_iload 1, o_iload 5, o_add, o_iald, o_mul, o_add, o_istore 4, o_iinc 5 (nI 1)] q (mt_kk cd_MD_weak Q (o_fall 8)) := mt_blk rfl q Q
theorem k_MD_weak_51 (q : m_C) (Q : m_R → Prop) : mt_T cd_MD_weak 51 q Q = mt_go [o_iload 3, o_const (nI 16), o_rem, o_const (nI 16), o_iload 4, o_const (nI 16), o_rem, o_mul, o_add] q (mt_kk cd_MD_weak Q (o_iret)) := mt_blk rfl q Q
-- TreeCarrierModel.strong (III)I
noncomputable def cd_MD_strong : List m_B := [(0, [o_const (nI 0), o_istore 4, o_const (nI 0), o_istore 5], o_fall 6), (6, [o_iload 5, o_iload 2], o_icge 40 12), (12, [o_iload 4, o_const (nI 31), o_mul, o_aload 0, o_get 9 3, o_iload 1, o_iload 5, o_add, o_iald, o_add, o_const (nI 1), o_add, o_const (nI 65521), o_rem, o_istore 4, o_iinc 5 (nI 1)], o_fall 6), (40, [o_iload 3, o_const (nI 1)], o_icne 52 45), (45, [o_iload 4, o_const (nI 4), o_rem], o_fall 54), (52, [o_iload 4], o_fall 54), (54, [], o_iret)]
noncomputable def sm_MD_strong : List m_V → m_M → Option m_R := mt_sem cd_MD_strong 6
theorem k_MD_strong_0 (q : m_C) (Q : m_R → Prop) : mt_T cd_MD_strong 0 q Q = mt_go [o_const (nI 0), o_istore 4, o_const (nI 0), o_istore 5] q (mt_kk cd_MD_strong Q (o_fall 6)) := mt_blk rfl q Q
theorem k_MD_strong_6 (q : m_C) (Q : m_R → Prop) : mt_T cd_MD_strong 6 q Q = mt_go [o_iload 5, o_iload 2] q (mt_kk cd_MD_strong Q (o_icge 40 12)) := mt_blk rfl q Q
theorem k_MD_strong_12 (q : m_C) (Q : m_R → Prop) : mt_T cd_MD_strong 12 q Q = mt_go [o_iload 4, o_const (nI 31), o_mul, o_aload 0, o_get 9 3, o_iload 1, o_iload 5, o_add, o_iald, o_add, o_const (nI 1), o_add, o_const (nI 65521), o_rem, o_istore 4, o_iinc 5 (nI 1)] q (mt_kk cd_MD_strong Q (o_fall 6)) := mt_blk rfl q Q
theorem k_MD_strong_40 (q : m_C) (Q : m_R → Prop) : mt_T cd_MD_strong 40 q Q = mt_go [o_iload 3, o_const (nI 1)] q (mt_kk cd_MD_strong Q (o_icne 52 45)) := mt_blk rfl q Q
theorem k_MD_strong_45 (q : m_C) (Q : m_R → Prop) : mt_T cd_MD_strong 45 q Q = mt_go [o_iload 4, o_const (nI 4), o_rem] q (mt_kk cd_MD_strong Q (o_fall 54)) := mt_blk rfl q Q
theorem k_MD_strong_52 (q : m_C) (Q : m_R → Prop) : mt_T cd_MD_strong 52 q Q = mt_go [o_iload 4] q (mt_kk cd_MD_strong Q (o_fall 54)) := mt_blk rfl q Q
theorem k_MD_strong_54 (q : m_C) (Q : m_R → Prop) : mt_T cd_MD_strong 54 q Q = mt_go [] q (mt_kk cd_MD_strong Q (o_iret)) := mt_blk rfl q Q
-- TreeCarrierModel.message (IIIIII)V
noncomputable def cd_MD_message : List m_B := [(0, [o_aload 0, o_const (nI 1440), o_iload 1, o_mul, o_const (nI 90), o_aload 0, o_get 9 17, o_iload 1, o_iald, o_mul, o_add, o_putI 9 19, o_aload 0, o_get 9 17, o_iload 1, o_aload 0, o_get 9 17, o_iload 1, o_iald, o_const (nI 1), o_add, o_iast, o_aload 0, o_get 9 18, o_aload 0, o_get 9 19, o_iload 2, o_iast, o_aload 0, o_get 9 18, o_aload 0, o_get 9 19, o_const (nI 1), o_add, o_iload 3, o_iast, o_aload 0, o_get 9 18, o_aload 0, o_get 9 19, o_const (nI 2), o_add, o_iload 4, o_iast, o_aload 0, o_get 9 18, o_aload 0, o_get 9 19, o_const (nI 3), o_add, o_iload 5, o_iast, o_aload 0, o_get 9 18, o_aload 0, o_get 9 19, o_const (nI 4), o_add, o_iload 6, o_iast, o_aload 0, o_get 9 18, o_aload 0, o_get 9 19, o_const (nI 5), o_add, o_const (nI 0), o_iast], o_ret)]
noncomputable def sm_MD_message : List m_V → m_M → Option m_R := mt_sem cd_MD_message 7
theorem k_MD_message_0 (q : m_C) (Q : m_R → Prop) : mt_T cd_MD_message 0 q Q = mt_go [o_aload 0, o_const (nI 1440), o_iload 1, o_mul, o_const (nI 90), o_aload 0, o_get 9 17, o_iload 1, o_iald, o_mul, o_add, o_putI 9 19, o_aload 0, o_get 9 17, o_iload 1, o_aload 0, o_get 9 17, o_iload 1, o_iald, o_const (nI 1), o_add, o_iast, o_aload 0, o_get 9 18, o_aload 0, o_get 9 19, o_iload 2, o_iast, o_aload 0, o_get 9 18, o_aload 0, o_get 9 19, o_const (nI 1), o_add, o_iload 3, o_iast, o_aload 0, o_get 9 18, o_aload 0, o_get 9 19, o_const (nI 2), o_add, o_iload 4, o_iast, o_aload 0, o_get 9 18, o_aload 0, o_get 9 19, o_const (nI 3), o_add, o_iload 5, o_iast, o_aload 0, o_get 9 18, o_aload 0, o_get 9 19, o_const (nI 4), o_add, o_iload 6, o_iast, o_aload 0, o_get 9 18, o_aload 0, o_get 9 19, o_const (nI 5), o_add, o_const (nI 0), o_iast] q (mt_kk cd_MD_message Q (o_ret)) := mt_blk rfl q Q
-- TreeCarrierModel.more (I)V
noncomputable def cd_MD_more : List m_B := [(0, [o_aload 0, o_get 9 18, o_aload 0, o_get 9 19, o_const (nI 6), o_add, o_aload 0, o_get 9 18, o_aload 0, o_get 9 19, o_const (nI 5), o_add, o_iald, o_add, o_iload 1, o_iast, o_aload 0, o_get 9 18, o_aload 0, o_get 9 19, o_const (nI 5), o_add, o_aload 0, o_get 9 18, o_aload 0, o_get 9 19, o_const (nI 5), o_add, o_iald, o_const (nI 1), o_add, o_iast], o_ret)]
noncomputable def sm_MD_more : List m_V → m_M → Option m_R := mt_sem cd_MD_more 2
theorem k_MD_more_0 (q : m_C) (Q : m_R → Prop) : mt_T cd_MD_more 0 q Q = mt_go [o_aload 0, o_get 9 18, o_aload 0, o_get 9 19, o_const (nI 6), o_add, o_aload 0, o_get 9 18, o_aload 0, o_get 9 19, o_const (nI 5), o_add, o_iald, o_add, o_iload 1, o_iast, o_aload 0, o_get 9 18, o_aload 0, o_get 9 19, o_const (nI 5), o_add, o_aload 0, o_get 9 18, o_aload 0, o_get 9 19, o_const (nI 5), o_add, o_iald, o_const (nI 1), o_add, o_iast] q (mt_kk cd_MD_more Q (o_ret)) := mt_blk rfl q Q
-- TreeCarrierModel.sendSignature (II)V
noncomputable def cd_MD_sendSignature : List m_B := [(0, [o_aload 0, o_const (nI 0), o_const (nI 3), o_iload 1, o_iload 2, o_const (nI 0), o_const (nI 0)], o_callV sm_MD_message 9 7 10), (10, [o_aload 0, o_const (nI 1), o_iload 1], o_callV sm_MD_file 9 3 16), (16, [o_istore 3, o_iload 3], o_ifge 25 21), (21, [o_const (nI 0)], o_fall 36), (25, [o_aload 0, o_get 9 1, o_iload 3, o_iald, o_aload 0, o_get 9 10, o_div], o_fall 36), (36, [o_istore 4, o_const (nI 0), o_istore 5], o_fall 41), (41, [o_iload 5, o_iload 4], o_icge 97 48), (48, [o_const (nI 40), o_iload 3, o_mul, o_iload 5, o_aload 0, o_get 9 10, o_mul, o_add, o_istore 6, o_aload 0, o_aload 0, o_iload 6, o_aload 0, o_get 9 10], o_callV sm_MD_weak 9 3 73), (73, [], o_callV sm_MD_more 9 2 76), (76, [o_aload 0, o_aload 0, o_iload 6, o_aload 0, o_get 9 10, o_iload 2], o_callV sm_MD_strong 9 4 88), (88, [], o_callV sm_MD_more 9 2 91), (91, [o_iinc 5 (nI 1)], o_fall 41), (97, [], o_ret)]
noncomputable def sm_MD_sendSignature : List m_V → m_M → Option m_R := mt_sem cd_MD_sendSignature 7
theorem k_MD_sendSignature_0 (q : m_C) (Q : m_R → Prop) : mt_T cd_MD_sendSignature 0 q Q = mt_go [o_aload 0, o_const (nI 0), o_const (nI 3), o_iload 1, o_iload 2, o_const (nI 0), o_const (nI 0)] q (mt_kk cd_MD_sendSignature Q (o_callV sm_MD_message 9 7 10)) := mt_blk rfl q Q
theorem k_MD_sendSignature_10 (q : m_C) (Q : m_R → Prop) : mt_T cd_MD_sendSignature 10 q Q = mt_go [o_aload 0, o_const (nI 1), o_iload 1] q (mt_kk cd_MD_sendSignature Q (o_callV sm_MD_file 9 3 16)) := mt_blk rfl q Q
theorem k_MD_sendSignature_16 (q : m_C) (Q : m_R → Prop) : mt_T cd_MD_sendSignature 16 q Q = mt_go [o_istore 3, o_iload 3] q (mt_kk cd_MD_sendSignature Q (o_ifge 25 21)) := mt_blk rfl q Q
theorem k_MD_sendSignature_21 (q : m_C) (Q : m_R → Prop) : mt_T cd_MD_sendSignature 21 q Q = mt_go [o_const (nI 0)] q (mt_kk cd_MD_sendSignature Q (o_fall 36)) := mt_blk rfl q Q
theorem k_MD_sendSignature_25 (q : m_C) (Q : m_R → Prop) : mt_T cd_MD_sendSignature 25 q Q = mt_go [o_aload 0, o_get 9 1, o_iload 3, o_iald, o_aload 0, o_get 9 10, o_div] q (mt_kk cd_MD_sendSignature Q (o_fall 36)) := mt_blk rfl q Q
theorem k_MD_sendSignature_36 (q : m_C) (Q : m_R → Prop) : mt_T cd_MD_sendSignature 36 q Q = mt_go [o_istore 4, o_const (nI 0), o_istore 5] q (mt_kk cd_MD_sendSignature Q (o_fall 41)) := mt_blk rfl q Q
theorem k_MD_sendSignature_41 (q : m_C) (Q : m_R → Prop) : mt_T cd_MD_sendSignature 41 q Q = mt_go [o_iload 5, o_iload 4] q (mt_kk cd_MD_sendSignature Q (o_icge 97 48)) := mt_blk rfl q Q
theorem k_MD_sendSignature_48 (q : m_C) (Q : m_R → Prop) : mt_T cd_MD_sendSignature 48 q Q = mt_go [o_const (nI 40), o_iload 3, o_mul, o_iload 5, o_aload 0, o_get 9 10, o_mul, o_add, o_istore 6, o_aload 0, o_aload 0, o_iload 6, o_aload 0, o_get 9 10] q (mt_kk cd_MD_sendSignature Q (o_callV sm_MD_weak 9 3 73)) := mt_blk rfl q Q
theorem k_MD_sendSignature_73 (q : m_C) (Q : m_R → Prop) : mt_T cd_MD_sendSignature 73 q Q = mt_go [] q (mt_kk cd_MD_sendSignature Q (o_callV sm_MD_more 9 2 76)) := mt_blk rfl q Q
theorem k_MD_sendSignature_76 (q : m_C) (Q : m_R → Prop) : mt_T cd_MD_sendSignature 76 q Q = mt_go [o_aload 0, o_aload 0, o_iload 6, o_aload 0, o_get 9 10, o_iload 2] q (mt_kk cd_MD_sendSignature Q (o_callV sm_MD_strong 9 4 88)) := mt_blk rfl q Q
theorem k_MD_sendSignature_88 (q : m_C) (Q : m_R → Prop) : mt_T cd_MD_sendSignature 88 q Q = mt_go [] q (mt_kk cd_MD_sendSignature Q (o_callV sm_MD_more 9 2 91)) := mt_blk rfl q Q
theorem k_MD_sendSignature_91 (q : m_C) (Q : m_R → Prop) : mt_T cd_MD_sendSignature 91 q Q = mt_go [o_iinc 5 (nI 1)] q (mt_kk cd_MD_sendSignature Q (o_fall 41)) := mt_blk rfl q Q
theorem k_MD_sendSignature_97 (q : m_C) (Q : m_R → Prop) : mt_T cd_MD_sendSignature 97 q Q = mt_go [] q (mt_kk cd_MD_sendSignature Q (o_ret)) := mt_blk rfl q Q
-- TreeCarrierModel.finishRecord ()V
noncomputable def cd_MD_finishRecord : List m_B := [(0, [o_const (nI 12), o_aload 0, o_get 9 21, o_const (nI 0), o_iald, o_add, o_istore 1, o_aload 0, o_get 9 0, o_iload 1, o_const (nI 1), o_zast, o_aload 0, o_get 9 1, o_iload 1, o_aload 0, o_get 9 23, o_const (nI 0), o_iald, o_iast, o_aload 0, o_get 9 2, o_iload 1, o_aload 0, o_get 9 22, o_const (nI 0), o_iald, o_iast, o_const (nI 0), o_istore 2], o_fall 43), (43, [o_iload 2, o_const (nI 40)], o_icge 72 49), (49, [o_aload 0, o_get 9 3, o_const (nI 40), o_iload 1, o_mul, o_iload 2, o_add, o_aload 0, o_get 9 24, o_iload 2, o_iald, o_iast, o_iinc 2 (nI 1)], o_fall 43), (72, [o_aload 0, o_aload 0, o_get 9 20, o_const (nI 1), o_sub, o_putI 9 20, o_const (nI 0), o_istore 2], o_fall 84), (84, [o_iload 2, o_aload 0, o_get 9 20], o_icge 140 92), (92, [o_aload 0, o_get 9 21, o_iload 2, o_aload 0, o_get 9 21, o_iload 2, o_const (nI 1), o_add, o_iald, o_iast, o_aload 0, o_get 9 22, o_iload 2, o_aload 0, o_get 9 22, o_iload 2, o_const (nI 1), o_add, o_iald, o_iast, o_aload 0, o_get 9 23, o_iload 2, o_aload 0, o_get 9 23, o_iload 2, o_const (nI 1), o_add, o_iald, o_iast, o_iinc 2 (nI 1)], o_fall 84), (140, [o_const (nI 0), o_istore 2], o_fall 142), (142, [o_iload 2, o_const (nI 40), o_aload 0, o_get 9 20, o_mul], o_icge 174 153), (153, [o_aload 0, o_get 9 24, o_iload 2, o_aload 0, o_get 9 24, o_iload 2, o_const (nI 40), o_add, o_iald, o_iast, o_iinc 2 (nI 1)], o_fall 142), (174, [o_aload 0, o_const (nI 7)], o_callV sm_MD_add 9 2 180), (180, [], o_ret)]
noncomputable def sm_MD_finishRecord : List m_V → m_M → Option m_R := mt_sem cd_MD_finishRecord 3
theorem k_MD_finishRecord_0 (q : m_C) (Q : m_R → Prop) : mt_T cd_MD_finishRecord 0 q Q = mt_go [o_const (nI 12), o_aload 0, o_get 9 21, o_const (nI 0), o_iald, o_add, o_istore 1, o_aload 0, o_get 9 0, o_iload 1, o_const (nI 1), o_zast, o_aload 0, o_get 9 1, o_iload 1, o_aload 0, o_get 9 23, o_const (nI 0), o_iald, o_iast, o_aload 0, o_get 9 2, o_iload 1, o_aload 0, o_get 9 22, o_const (nI 0), o_iald, o_iast, o_const (nI 0), o_istore 2] q (mt_kk cd_MD_finishRecord Q (o_fall 43)) := mt_blk rfl q Q
theorem k_MD_finishRecord_43 (q : m_C) (Q : m_R → Prop) : mt_T cd_MD_finishRecord 43 q Q = mt_go [o_iload 2, o_const (nI 40)] q (mt_kk cd_MD_finishRecord Q (o_icge 72 49)) := mt_blk rfl q Q
theorem k_MD_finishRecord_49 (q : m_C) (Q : m_R → Prop) : mt_T cd_MD_finishRecord 49 q Q = mt_go [o_aload 0, o_get 9 3, o_const (nI 40), o_iload 1, o_mul, o_iload 2, o_add, o_aload 0, o_get 9 24, o_iload 2, o_iald, o_iast, o_iinc 2 (nI 1)] q (mt_kk cd_MD_finishRecord Q (o_fall 43)) := mt_blk rfl q Q
theorem k_MD_finishRecord_72 (q : m_C) (Q : m_R → Prop) : mt_T cd_MD_finishRecord 72 q Q = mt_go [o_aload 0, o_aload 0, o_get 9 20, o_const (nI 1), o_sub, o_putI 9 20, o_const (nI 0), o_istore 2] q (mt_kk cd_MD_finishRecord Q (o_fall 84)) := mt_blk rfl q Q
theorem k_MD_finishRecord_84 (q : m_C) (Q : m_R → Prop) : mt_T cd_MD_finishRecord 84 q Q = mt_go [o_iload 2, o_aload 0, o_get 9 20] q (mt_kk cd_MD_finishRecord Q (o_icge 140 92)) := mt_blk rfl q Q
theorem k_MD_finishRecord_92 (q : m_C) (Q : m_R → Prop) : mt_T cd_MD_finishRecord 92 q Q = mt_go [o_aload 0, o_get 9 21, o_iload 2, o_aload 0, o_get 9 21, o_iload 2, o_const (nI 1), o_add, o_iald, o_iast, o_aload 0, o_get 9 22, o_iload 2, o_aload 0, o_get 9 22, o_iload 2, o_const (nI 1), o_add, o_iald, o_iast, o_aload 0, o_get 9 23, o_iload 2, o_aload 0, o_get 9 23, o_iload 2, o_const (nI 1), o_add, o_iald, o_iast, o_iinc 2 (nI 1)] q (mt_kk cd_MD_finishRecord Q (o_fall 84)) := mt_blk rfl q Q
theorem k_MD_finishRecord_140 (q : m_C) (Q : m_R → Prop) : mt_T cd_MD_finishRecord 140 q Q = mt_go [o_const (nI 0), o_istore 2] q (mt_kk cd_MD_finishRecord Q (o_fall 142)) := mt_blk rfl q Q
theorem k_MD_finishRecord_142 (q : m_C) (Q : m_R → Prop) : mt_T cd_MD_finishRecord 142 q Q = mt_go [o_iload 2, o_const (nI 40), o_aload 0, o_get 9 20, o_mul] q (mt_kk cd_MD_finishRecord Q (o_icge 174 153)) := mt_blk rfl q Q
theorem k_MD_finishRecord_153 (q : m_C) (Q : m_R → Prop) : mt_T cd_MD_finishRecord 153 q Q = mt_go [o_aload 0, o_get 9 24, o_iload 2, o_aload 0, o_get 9 24, o_iload 2, o_const (nI 40), o_add, o_iald, o_iast, o_iinc 2 (nI 1)] q (mt_kk cd_MD_finishRecord Q (o_fall 142)) := mt_blk rfl q Q
theorem k_MD_finishRecord_174 (q : m_C) (Q : m_R → Prop) : mt_T cd_MD_finishRecord 174 q Q = mt_go [o_aload 0, o_const (nI 7)] q (mt_kk cd_MD_finishRecord Q (o_callV sm_MD_add 9 2 180)) := mt_blk rfl q Q
theorem k_MD_finishRecord_180 (q : m_C) (Q : m_R → Prop) : mt_T cd_MD_finishRecord 180 q Q = mt_go [] q (mt_kk cd_MD_finishRecord Q (o_ret)) := mt_blk rfl q Q
-- TreeCarrierModel.finishAll ()V
noncomputable def cd_MD_finishAll : List m_B := [(0, [o_aload 0, o_get 9 20, o_istore 1], o_fall 5), (5, [o_iload 1], o_ifle 19 9), (9, [o_aload 0], o_callV sm_MD_finishRecord 9 1 13), (13, [o_iinc 1 (-1)], o_fall 5), (19, [], o_ret)]
noncomputable def sm_MD_finishAll : List m_V → m_M → Option m_R := mt_sem cd_MD_finishAll 2
theorem k_MD_finishAll_0 (q : m_C) (Q : m_R → Prop) : mt_T cd_MD_finishAll 0 q Q = mt_go [o_aload 0, o_get 9 20, o_istore 1] q (mt_kk cd_MD_finishAll Q (o_fall 5)) := mt_blk rfl q Q
theorem k_MD_finishAll_5 (q : m_C) (Q : m_R → Prop) : mt_T cd_MD_finishAll 5 q Q = mt_go [o_iload 1] q (mt_kk cd_MD_finishAll Q (o_ifle 19 9)) := mt_blk rfl q Q
theorem k_MD_finishAll_9 (q : m_C) (Q : m_R → Prop) : mt_T cd_MD_finishAll 9 q Q = mt_go [o_aload 0] q (mt_kk cd_MD_finishAll Q (o_callV sm_MD_finishRecord 9 1 13)) := mt_blk rfl q Q
theorem k_MD_finishAll_13 (q : m_C) (Q : m_R → Prop) : mt_T cd_MD_finishAll 13 q Q = mt_go [o_iinc 1 (-1)] q (mt_kk cd_MD_finishAll Q (o_fall 5)) := mt_blk rfl q Q
theorem k_MD_finishAll_19 (q : m_C) (Q : m_R → Prop) : mt_T cd_MD_finishAll 19 q Q = mt_go [] q (mt_kk cd_MD_finishAll Q (o_ret)) := mt_blk rfl q Q
-- TreeCarrierModel.begin (IZ)Z
noncomputable def cd_MD_begin : List m_B := [(0, [o_aload 0, o_get 9 9], o_ifne 18 7), (7, [o_iload 1, o_const (nI 1)], o_iclt 18 12), (12, [o_iload 1, o_const (nI 8)], o_icle 20 18), (18, [o_const (nI 0)], o_zret), (20, [o_aload 0, o_const (nI 1), o_putZ 9 9, o_aload 0, o_iload 1, o_putI 9 10, o_aload 0, o_iload 2, o_putZ 9 11, o_aload 0, o_const (nI 0), o_putI 9 12, o_aload 0], o_callV sm_MD_finishAll 9 1 44), (44, [o_const (nI 0), o_istore 3], o_fall 46), (46, [o_iload 3, o_const (nI 12)], o_icge 95 52), (52, [o_aload 0, o_iload 3], o_callV sm_MD_isSelected 9 2 57), (57, [], o_ifeq 89 60), (60, [o_aload 0, o_get 9 0, o_iload 3, o_zald], o_ifeq 89 69), (69, [o_aload 0, o_const (nI 1), o_const (nI 1), o_iload 3, o_const (nI 0), o_aload 0, o_get 9 1, o_iload 3, o_iald, o_aload 0, o_get 9 2, o_iload 3, o_iald], o_callV sm_MD_message 9 7 89), (89, [o_iinc 3 (nI 1)], o_fall 46), (95, [o_aload 0, o_const (nI 1), o_const (nI 2), o_const (nI 0), o_const (nI 0), o_const (nI 0), o_const (nI 0)], o_callV sm_MD_message 9 7 105), (105, [o_const (nI 1)], o_zret)]
noncomputable def sm_MD_begin : List m_V → m_M → Option m_R := mt_sem cd_MD_begin 4
theorem k_MD_begin_0 (q : m_C) (Q : m_R → Prop) : mt_T cd_MD_begin 0 q Q = mt_go [o_aload 0, o_get 9 9] q (mt_kk cd_MD_begin Q (o_ifne 18 7)) := mt_blk rfl q Q
theorem k_MD_begin_7 (q : m_C) (Q : m_R → Prop) : mt_T cd_MD_begin 7 q Q = mt_go [o_iload 1, o_const (nI 1)] q (mt_kk cd_MD_begin Q (o_iclt 18 12)) := mt_blk rfl q Q
theorem k_MD_begin_12 (q : m_C) (Q : m_R → Prop) : mt_T cd_MD_begin 12 q Q = mt_go [o_iload 1, o_const (nI 8)] q (mt_kk cd_MD_begin Q (o_icle 20 18)) := mt_blk rfl q Q
theorem k_MD_begin_18 (q : m_C) (Q : m_R → Prop) : mt_T cd_MD_begin 18 q Q = mt_go [o_const (nI 0)] q (mt_kk cd_MD_begin Q (o_zret)) := mt_blk rfl q Q
theorem k_MD_begin_20 (q : m_C) (Q : m_R → Prop) : mt_T cd_MD_begin 20 q Q = mt_go [o_aload 0, o_const (nI 1), o_putZ 9 9, o_aload 0, o_iload 1, o_putI 9 10, o_aload 0, o_iload 2, o_putZ 9 11, o_aload 0, o_const (nI 0), o_putI 9 12, o_aload 0] q (mt_kk cd_MD_begin Q (o_callV sm_MD_finishAll 9 1 44)) := mt_blk rfl q Q
theorem k_MD_begin_44 (q : m_C) (Q : m_R → Prop) : mt_T cd_MD_begin 44 q Q = mt_go [o_const (nI 0), o_istore 3] q (mt_kk cd_MD_begin Q (o_fall 46)) := mt_blk rfl q Q
theorem k_MD_begin_46 (q : m_C) (Q : m_R → Prop) : mt_T cd_MD_begin 46 q Q = mt_go [o_iload 3, o_const (nI 12)] q (mt_kk cd_MD_begin Q (o_icge 95 52)) := mt_blk rfl q Q
theorem k_MD_begin_52 (q : m_C) (Q : m_R → Prop) : mt_T cd_MD_begin 52 q Q = mt_go [o_aload 0, o_iload 3] q (mt_kk cd_MD_begin Q (o_callV sm_MD_isSelected 9 2 57)) := mt_blk rfl q Q
theorem k_MD_begin_57 (q : m_C) (Q : m_R → Prop) : mt_T cd_MD_begin 57 q Q = mt_go [] q (mt_kk cd_MD_begin Q (o_ifeq 89 60)) := mt_blk rfl q Q
theorem k_MD_begin_60 (q : m_C) (Q : m_R → Prop) : mt_T cd_MD_begin 60 q Q = mt_go [o_aload 0, o_get 9 0, o_iload 3, o_zald] q (mt_kk cd_MD_begin Q (o_ifeq 89 69)) := mt_blk rfl q Q
theorem k_MD_begin_69 (q : m_C) (Q : m_R → Prop) : mt_T cd_MD_begin 69 q Q = mt_go [o_aload 0, o_const (nI 1), o_const (nI 1), o_iload 3, o_const (nI 0), o_aload 0, o_get 9 1, o_iload 3, o_iald, o_aload 0, o_get 9 2, o_iload 3, o_iald] q (mt_kk cd_MD_begin Q (o_callV sm_MD_message 9 7 89)) := mt_blk rfl q Q
theorem k_MD_begin_89 (q : m_C) (Q : m_R → Prop) : mt_T cd_MD_begin 89 q Q = mt_go [o_iinc 3 (nI 1)] q (mt_kk cd_MD_begin Q (o_fall 46)) := mt_blk rfl q Q
theorem k_MD_begin_95 (q : m_C) (Q : m_R → Prop) : mt_T cd_MD_begin 95 q Q = mt_go [o_aload 0, o_const (nI 1), o_const (nI 2), o_const (nI 0), o_const (nI 0), o_const (nI 0), o_const (nI 0)] q (mt_kk cd_MD_begin Q (o_callV sm_MD_message 9 7 105)) := mt_blk rfl q Q
theorem k_MD_begin_105 (q : m_C) (Q : m_R → Prop) : mt_T cd_MD_begin 105 q Q = mt_go [o_const (nI 1)] q (mt_kk cd_MD_begin Q (o_zret)) := mt_blk rfl q Q
-- TreeCarrierModel.over ()V
noncomputable def cd_MD_over : List m_B := [(0, [o_aload 0, o_const (nI 0), o_putZ 9 9, o_aload 0, o_const (nI 0), o_putI 9 12, o_aload 0, o_get 9 17, o_const (nI 0), o_const (nI 0), o_iast, o_aload 0, o_get 9 17, o_const (nI 1), o_const (nI 0), o_iast], o_ret)]
noncomputable def sm_MD_over : List m_V → m_M → Option m_R := mt_sem cd_MD_over 1
theorem k_MD_over_0 (q : m_C) (Q : m_R → Prop) : mt_T cd_MD_over 0 q Q = mt_go [o_aload 0, o_const (nI 0), o_putZ 9 9, o_aload 0, o_const (nI 0), o_putI 9 12, o_aload 0, o_get 9 17, o_const (nI 0), o_const (nI 0), o_iast, o_aload 0, o_get 9 17, o_const (nI 1), o_const (nI 0), o_iast] q (mt_kk cd_MD_over Q (o_ret)) := mt_blk rfl q Q
-- TreeCarrierModel.crash ()Z
noncomputable def cd_MD_crash : List m_B := [(0, [o_aload 0, o_get 9 9], o_ifne 9 7), (7, [o_const (nI 0)], o_zret), (9, [o_aload 0], o_callV sm_MD_over 9 1 13), (13, [o_const (nI 1)], o_zret)]
noncomputable def sm_MD_crash : List m_V → m_M → Option m_R := mt_sem cd_MD_crash 1
theorem k_MD_crash_0 (q : m_C) (Q : m_R → Prop) : mt_T cd_MD_crash 0 q Q = mt_go [o_aload 0, o_get 9 9] q (mt_kk cd_MD_crash Q (o_ifne 9 7)) := mt_blk rfl q Q
theorem k_MD_crash_7 (q : m_C) (Q : m_R → Prop) : mt_T cd_MD_crash 7 q Q = mt_go [o_const (nI 0)] q (mt_kk cd_MD_crash Q (o_zret)) := mt_blk rfl q Q
theorem k_MD_crash_9 (q : m_C) (Q : m_R → Prop) : mt_T cd_MD_crash 9 q Q = mt_go [o_aload 0] q (mt_kk cd_MD_crash Q (o_callV sm_MD_over 9 1 13)) := mt_blk rfl q Q
theorem k_MD_crash_13 (q : m_C) (Q : m_R → Prop) : mt_T cd_MD_crash 13 q Q = mt_go [o_const (nI 1)] q (mt_kk cd_MD_crash Q (o_zret)) := mt_blk rfl q Q
-- TreeCarrierModel.concludeIfDone ()V
noncomputable def cd_MD_concludeIfDone : List m_B := [(0, [o_const (nI 1), o_istore 1, o_const (nI 0), o_istore 2], o_fall 4), (4, [o_iload 2, o_aload 0, o_get 9 12], o_icge 37 12), (12, [o_iload 1], o_ifeq 29 16), (16, [o_aload 0, o_get 9 16, o_iload 2, o_zald], o_ifne 29 25), (25, [o_const (nI 1)], o_fall 30), (29, [o_const (nI 0)], o_fall 30), (30, [o_istore 1, o_iinc 2 (nI 1)], o_fall 4), (37, [o_iload 1], o_ifne 42 41), (41, [], o_ret), (42, [o_aload 0], o_callV sm_MD_finishAll 9 1 46), (46, [o_const (nI 0), o_istore 2], o_fall 48), (48, [o_iload 2, o_const (nI 12)], o_icge 148 54), (54, [o_const (nI 0), o_istore 3, o_const (nI 0), o_istore 4], o_fall 59), (59, [o_iload 4, o_aload 0, o_get 9 12], o_icge 95 68), (68, [o_iload 3], o_ifne 83 72), (72, [o_aload 0, o_get 9 13, o_iload 4, o_iald, o_iload 2], o_icne 87 83), (83, [o_const (nI 1)], o_fall 88), (87, [o_const (nI 0)], o_fall 88), (88, [o_istore 3, o_iinc 4 (nI 1)], o_fall 59), (95, [o_aload 0, o_get 9 11], o_ifeq 142 102), (102, [o_aload 0, o_get 9 0, o_const (nI 12), o_iload 2, o_add, o_zald], o_ifeq 142 114), (114, [o_aload 0, o_iload 2], o_callV sm_MD_isSelected 9 2 119), (119, [], o_ifeq 142 122), (122, [o_iload 3], o_ifne 142 126), (126, [o_aload 0, o_get 9 0, o_const (nI 12), o_iload 2, o_add, o_const (nI 0), o_zast, o_aload 0, o_const (nI 6)], o_callV sm_MD_add 9 2 142), (142, [o_iinc 2 (nI 1)], o_fall 48), (148, [o_aload 0], o_callV sm_MD_over 9 1 152), (152, [o_aload 0, o_const (nI 4)], o_callV sm_MD_add 9 2 157), (157, [], o_ret)]
noncomputable def sm_MD_concludeIfDone : List m_V → m_M → Option m_R := mt_sem cd_MD_concludeIfDone 5
theorem k_MD_concludeIfDone_0 (q : m_C) (Q : m_R → Prop) : mt_T cd_MD_concludeIfDone 0 q Q = mt_go [o_const (nI 1), o_istore 1, o_const (nI 0), o_istore 2] q (mt_kk cd_MD_concludeIfDone Q (o_fall 4)) := mt_blk rfl q Q
theorem k_MD_concludeIfDone_4 (q : m_C) (Q : m_R → Prop) : mt_T cd_MD_concludeIfDone 4 q Q = mt_go [o_iload 2, o_aload 0, o_get 9 12] q (mt_kk cd_MD_concludeIfDone Q (o_icge 37 12)) := mt_blk rfl q Q
theorem k_MD_concludeIfDone_12 (q : m_C) (Q : m_R → Prop) : mt_T cd_MD_concludeIfDone 12 q Q = mt_go [o_iload 1] q (mt_kk cd_MD_concludeIfDone Q (o_ifeq 29 16)) := mt_blk rfl q Q
theorem k_MD_concludeIfDone_16 (q : m_C) (Q : m_R → Prop) : mt_T cd_MD_concludeIfDone 16 q Q = mt_go [o_aload 0, o_get 9 16, o_iload 2, o_zald] q (mt_kk cd_MD_concludeIfDone Q (o_ifne 29 25)) := mt_blk rfl q Q
theorem k_MD_concludeIfDone_25 (q : m_C) (Q : m_R → Prop) : mt_T cd_MD_concludeIfDone 25 q Q = mt_go [o_const (nI 1)] q (mt_kk cd_MD_concludeIfDone Q (o_fall 30)) := mt_blk rfl q Q
theorem k_MD_concludeIfDone_29 (q : m_C) (Q : m_R → Prop) : mt_T cd_MD_concludeIfDone 29 q Q = mt_go [o_const (nI 0)] q (mt_kk cd_MD_concludeIfDone Q (o_fall 30)) := mt_blk rfl q Q
theorem k_MD_concludeIfDone_30 (q : m_C) (Q : m_R → Prop) : mt_T cd_MD_concludeIfDone 30 q Q = mt_go [o_istore 1, o_iinc 2 (nI 1)] q (mt_kk cd_MD_concludeIfDone Q (o_fall 4)) := mt_blk rfl q Q
theorem k_MD_concludeIfDone_37 (q : m_C) (Q : m_R → Prop) : mt_T cd_MD_concludeIfDone 37 q Q = mt_go [o_iload 1] q (mt_kk cd_MD_concludeIfDone Q (o_ifne 42 41)) := mt_blk rfl q Q
theorem k_MD_concludeIfDone_41 (q : m_C) (Q : m_R → Prop) : mt_T cd_MD_concludeIfDone 41 q Q = mt_go [] q (mt_kk cd_MD_concludeIfDone Q (o_ret)) := mt_blk rfl q Q
theorem k_MD_concludeIfDone_42 (q : m_C) (Q : m_R → Prop) : mt_T cd_MD_concludeIfDone 42 q Q = mt_go [o_aload 0] q (mt_kk cd_MD_concludeIfDone Q (o_callV sm_MD_finishAll 9 1 46)) := mt_blk rfl q Q
theorem k_MD_concludeIfDone_46 (q : m_C) (Q : m_R → Prop) : mt_T cd_MD_concludeIfDone 46 q Q = mt_go [o_const (nI 0), o_istore 2] q (mt_kk cd_MD_concludeIfDone Q (o_fall 48)) := mt_blk rfl q Q
theorem k_MD_concludeIfDone_48 (q : m_C) (Q : m_R → Prop) : mt_T cd_MD_concludeIfDone 48 q Q = mt_go [o_iload 2, o_const (nI 12)] q (mt_kk cd_MD_concludeIfDone Q (o_icge 148 54)) := mt_blk rfl q Q
theorem k_MD_concludeIfDone_54 (q : m_C) (Q : m_R → Prop) : mt_T cd_MD_concludeIfDone 54 q Q = mt_go [o_const (nI 0), o_istore 3, o_const (nI 0), o_istore 4] q (mt_kk cd_MD_concludeIfDone Q (o_fall 59)) := mt_blk rfl q Q
theorem k_MD_concludeIfDone_59 (q : m_C) (Q : m_R → Prop) : mt_T cd_MD_concludeIfDone 59 q Q = mt_go [o_iload 4, o_aload 0, o_get 9 12] q (mt_kk cd_MD_concludeIfDone Q (o_icge 95 68)) := mt_blk rfl q Q
theorem k_MD_concludeIfDone_68 (q : m_C) (Q : m_R → Prop) : mt_T cd_MD_concludeIfDone 68 q Q = mt_go [o_iload 3] q (mt_kk cd_MD_concludeIfDone Q (o_ifne 83 72)) := mt_blk rfl q Q
theorem k_MD_concludeIfDone_72 (q : m_C) (Q : m_R → Prop) : mt_T cd_MD_concludeIfDone 72 q Q = mt_go [o_aload 0, o_get 9 13, o_iload 4, o_iald, o_iload 2] q (mt_kk cd_MD_concludeIfDone Q (o_icne 87 83)) := mt_blk rfl q Q
theorem k_MD_concludeIfDone_83 (q : m_C) (Q : m_R → Prop) : mt_T cd_MD_concludeIfDone 83 q Q = mt_go [o_const (nI 1)] q (mt_kk cd_MD_concludeIfDone Q (o_fall 88)) := mt_blk rfl q Q
theorem k_MD_concludeIfDone_87 (q : m_C) (Q : m_R → Prop) : mt_T cd_MD_concludeIfDone 87 q Q = mt_go [o_const (nI 0)] q (mt_kk cd_MD_concludeIfDone Q (o_fall 88)) := mt_blk rfl q Q
theorem k_MD_concludeIfDone_88 (q : m_C) (Q : m_R → Prop) : mt_T cd_MD_concludeIfDone 88 q Q = mt_go [o_istore 3, o_iinc 4 (nI 1)] q (mt_kk cd_MD_concludeIfDone Q (o_fall 59)) := mt_blk rfl q Q
theorem k_MD_concludeIfDone_95 (q : m_C) (Q : m_R → Prop) : mt_T cd_MD_concludeIfDone 95 q Q = mt_go [o_aload 0, o_get 9 11] q (mt_kk cd_MD_concludeIfDone Q (o_ifeq 142 102)) := mt_blk rfl q Q
theorem k_MD_concludeIfDone_102 (q : m_C) (Q : m_R → Prop) : mt_T cd_MD_concludeIfDone 102 q Q = mt_go [o_aload 0, o_get 9 0, o_const (nI 12), o_iload 2, o_add, o_zald] q (mt_kk cd_MD_concludeIfDone Q (o_ifeq 142 114)) := mt_blk rfl q Q
theorem k_MD_concludeIfDone_114 (q : m_C) (Q : m_R → Prop) : mt_T cd_MD_concludeIfDone 114 q Q = mt_go [o_aload 0, o_iload 2] q (mt_kk cd_MD_concludeIfDone Q (o_callV sm_MD_isSelected 9 2 119)) := mt_blk rfl q Q
theorem k_MD_concludeIfDone_119 (q : m_C) (Q : m_R → Prop) : mt_T cd_MD_concludeIfDone 119 q Q = mt_go [] q (mt_kk cd_MD_concludeIfDone Q (o_ifeq 142 122)) := mt_blk rfl q Q
theorem k_MD_concludeIfDone_122 (q : m_C) (Q : m_R → Prop) : mt_T cd_MD_concludeIfDone 122 q Q = mt_go [o_iload 3] q (mt_kk cd_MD_concludeIfDone Q (o_ifne 142 126)) := mt_blk rfl q Q
theorem k_MD_concludeIfDone_126 (q : m_C) (Q : m_R → Prop) : mt_T cd_MD_concludeIfDone 126 q Q = mt_go [o_aload 0, o_get 9 0, o_const (nI 12), o_iload 2, o_add, o_const (nI 0), o_zast, o_aload 0, o_const (nI 6)] q (mt_kk cd_MD_concludeIfDone Q (o_callV sm_MD_add 9 2 142)) := mt_blk rfl q Q
theorem k_MD_concludeIfDone_142 (q : m_C) (Q : m_R → Prop) : mt_T cd_MD_concludeIfDone 142 q Q = mt_go [o_iinc 2 (nI 1)] q (mt_kk cd_MD_concludeIfDone Q (o_fall 48)) := mt_blk rfl q Q
theorem k_MD_concludeIfDone_148 (q : m_C) (Q : m_R → Prop) : mt_T cd_MD_concludeIfDone 148 q Q = mt_go [o_aload 0] q (mt_kk cd_MD_concludeIfDone Q (o_callV sm_MD_over 9 1 152)) := mt_blk rfl q Q
theorem k_MD_concludeIfDone_152 (q : m_C) (Q : m_R → Prop) : mt_T cd_MD_concludeIfDone 152 q Q = mt_go [o_aload 0, o_const (nI 4)] q (mt_kk cd_MD_concludeIfDone Q (o_callV sm_MD_add 9 2 157)) := mt_blk rfl q Q
theorem k_MD_concludeIfDone_157 (q : m_C) (Q : m_R → Prop) : mt_T cd_MD_concludeIfDone 157 q Q = mt_go [] q (mt_kk cd_MD_concludeIfDone Q (o_ret)) := mt_blk rfl q Q
-- TreeCarrierModel.entryOf (I)I
noncomputable def cd_MD_entryOf : List m_B := [(0, [o_const (nI 0), o_istore 2, o_const (nI 0), o_istore 3], o_fall 4), (4, [o_iload 3, o_aload 0, o_get 9 12], o_icge 34 12), (12, [o_aload 0, o_get 9 13, o_iload 3, o_iald, o_iload 1], o_icne 26 22), (22, [o_iload 3], o_fall 27), (26, [o_iload 2], o_fall 27), (27, [o_istore 2, o_iinc 3 (nI 1)], o_fall 4), (34, [o_iload 2], o_iret)]
noncomputable def sm_MD_entryOf : List m_V → m_M → Option m_R := mt_sem cd_MD_entryOf 4
theorem k_MD_entryOf_0 (q : m_C) (Q : m_R → Prop) : mt_T cd_MD_entryOf 0 q Q = mt_go [o_const (nI 0), o_istore 2, o_const (nI 0), o_istore 3] q (mt_kk cd_MD_entryOf Q (o_fall 4)) := mt_blk rfl q Q
theorem k_MD_entryOf_4 (q : m_C) (Q : m_R → Prop) : mt_T cd_MD_entryOf 4 q Q = mt_go [o_iload 3, o_aload 0, o_get 9 12] q (mt_kk cd_MD_entryOf Q (o_icge 34 12)) := mt_blk rfl q Q
theorem k_MD_entryOf_12 (q : m_C) (Q : m_R → Prop) : mt_T cd_MD_entryOf 12 q Q = mt_go [o_aload 0, o_get 9 13, o_iload 3, o_iald, o_iload 1] q (mt_kk cd_MD_entryOf Q (o_icne 26 22)) := mt_blk rfl q Q
theorem k_MD_entryOf_22 (q : m_C) (Q : m_R → Prop) : mt_T cd_MD_entryOf 22 q Q = mt_go [o_iload 3] q (mt_kk cd_MD_entryOf Q (o_fall 27)) := mt_blk rfl q Q
theorem k_MD_entryOf_26 (q : m_C) (Q : m_R → Prop) : mt_T cd_MD_entryOf 26 q Q = mt_go [o_iload 2] q (mt_kk cd_MD_entryOf Q (o_fall 27)) := mt_blk rfl q Q
theorem k_MD_entryOf_27 (q : m_C) (Q : m_R → Prop) : mt_T cd_MD_entryOf 27 q Q = mt_go [o_istore 2, o_iinc 3 (nI 1)] q (mt_kk cd_MD_entryOf Q (o_fall 4)) := mt_blk rfl q Q
theorem k_MD_entryOf_34 (q : m_C) (Q : m_R → Prop) : mt_T cd_MD_entryOf 34 q Q = mt_go [o_iload 2] q (mt_kk cd_MD_entryOf Q (o_iret)) := mt_blk rfl q Q
-- TreeCarrierModel.end ()V
noncomputable def cd_MD_end : List m_B := [(0, [o_const (nI 0), o_istore 1], o_fall 2), (2, [o_iload 1, o_aload 0, o_get 9 12], o_icge 106 10), (10, [o_aload 0, o_const (nI 1), o_aload 0, o_get 9 13, o_iload 1, o_iald], o_callV sm_MD_file 9 3 21), (21, [o_istore 2, o_iload 2], o_iflt 60 26), (26, [o_aload 0, o_get 9 1, o_iload 2, o_iald, o_aload 0, o_get 9 14, o_iload 1, o_iald], o_icne 60 41), (41, [o_aload 0, o_get 9 2, o_iload 2, o_iald, o_aload 0, o_get 9 15, o_iload 1, o_iald], o_icne 60 56), (56, [o_const (nI 1)], o_fall 61), (60, [o_const (nI 0)], o_fall 61), (61, [o_istore 3, o_aload 0, o_get 9 16, o_iload 1, o_iload 3], o_ifne 75 71), (71, [o_const (nI 1)], o_fall 76), (75, [o_const (nI 0)], o_fall 76), (76, [o_zast, o_iload 3], o_ifeq 89 81), (81, [o_aload 0, o_const (nI 5)], o_callV sm_MD_add 9 2 86), (86, [], o_fall 100), (89, [o_aload 0, o_aload 0, o_get 9 13, o_iload 1, o_iald, o_const (nI 1)], o_callV sm_MD_sendSignature 9 3 100), (100, [o_iinc 1 (nI 1)], o_fall 2), (106, [o_aload 0], o_callV sm_MD_concludeIfDone 9 1 110), (110, [], o_ret)]
noncomputable def sm_MD_end : List m_V → m_M → Option m_R := mt_sem cd_MD_end 4
theorem k_MD_end_0 (q : m_C) (Q : m_R → Prop) : mt_T cd_MD_end 0 q Q = mt_go [o_const (nI 0), o_istore 1] q (mt_kk cd_MD_end Q (o_fall 2)) := mt_blk rfl q Q
theorem k_MD_end_2 (q : m_C) (Q : m_R → Prop) : mt_T cd_MD_end 2 q Q = mt_go [o_iload 1, o_aload 0, o_get 9 12] q (mt_kk cd_MD_end Q (o_icge 106 10)) := mt_blk rfl q Q
theorem k_MD_end_10 (q : m_C) (Q : m_R → Prop) : mt_T cd_MD_end 10 q Q = mt_go [o_aload 0, o_const (nI 1), o_aload 0, o_get 9 13, o_iload 1, o_iald] q (mt_kk cd_MD_end Q (o_callV sm_MD_file 9 3 21)) := mt_blk rfl q Q
theorem k_MD_end_21 (q : m_C) (Q : m_R → Prop) : mt_T cd_MD_end 21 q Q = mt_go [o_istore 2, o_iload 2] q (mt_kk cd_MD_end Q (o_iflt 60 26)) := mt_blk rfl q Q
theorem k_MD_end_26 (q : m_C) (Q : m_R → Prop) : mt_T cd_MD_end 26 q Q = mt_go [o_aload 0, o_get 9 1, o_iload 2, o_iald, o_aload 0, o_get 9 14, o_iload 1, o_iald] q (mt_kk cd_MD_end Q (o_icne 60 41)) := mt_blk rfl q Q
theorem k_MD_end_41 (q : m_C) (Q : m_R → Prop) : mt_T cd_MD_end 41 q Q = mt_go [o_aload 0, o_get 9 2, o_iload 2, o_iald, o_aload 0, o_get 9 15, o_iload 1, o_iald] q (mt_kk cd_MD_end Q (o_icne 60 56)) := mt_blk rfl q Q
theorem k_MD_end_56 (q : m_C) (Q : m_R → Prop) : mt_T cd_MD_end 56 q Q = mt_go [o_const (nI 1)] q (mt_kk cd_MD_end Q (o_fall 61)) := mt_blk rfl q Q
theorem k_MD_end_60 (q : m_C) (Q : m_R → Prop) : mt_T cd_MD_end 60 q Q = mt_go [o_const (nI 0)] q (mt_kk cd_MD_end Q (o_fall 61)) := mt_blk rfl q Q
theorem k_MD_end_61 (q : m_C) (Q : m_R → Prop) : mt_T cd_MD_end 61 q Q = mt_go [o_istore 3, o_aload 0, o_get 9 16, o_iload 1, o_iload 3] q (mt_kk cd_MD_end Q (o_ifne 75 71)) := mt_blk rfl q Q
theorem k_MD_end_71 (q : m_C) (Q : m_R → Prop) : mt_T cd_MD_end 71 q Q = mt_go [o_const (nI 1)] q (mt_kk cd_MD_end Q (o_fall 76)) := mt_blk rfl q Q
theorem k_MD_end_75 (q : m_C) (Q : m_R → Prop) : mt_T cd_MD_end 75 q Q = mt_go [o_const (nI 0)] q (mt_kk cd_MD_end Q (o_fall 76)) := mt_blk rfl q Q
theorem k_MD_end_76 (q : m_C) (Q : m_R → Prop) : mt_T cd_MD_end 76 q Q = mt_go [o_zast, o_iload 3] q (mt_kk cd_MD_end Q (o_ifeq 89 81)) := mt_blk rfl q Q
theorem k_MD_end_81 (q : m_C) (Q : m_R → Prop) : mt_T cd_MD_end 81 q Q = mt_go [o_aload 0, o_const (nI 5)] q (mt_kk cd_MD_end Q (o_callV sm_MD_add 9 2 86)) := mt_blk rfl q Q
theorem k_MD_end_86 (q : m_C) (Q : m_R → Prop) : mt_T cd_MD_end 86 q Q = mt_go [] q (mt_kk cd_MD_end Q (o_fall 100)) := mt_blk rfl q Q
theorem k_MD_end_89 (q : m_C) (Q : m_R → Prop) : mt_T cd_MD_end 89 q Q = mt_go [o_aload 0, o_aload 0, o_get 9 13, o_iload 1, o_iald, o_const (nI 1)] q (mt_kk cd_MD_end Q (o_callV sm_MD_sendSignature 9 3 100)) := mt_blk rfl q Q
theorem k_MD_end_100 (q : m_C) (Q : m_R → Prop) : mt_T cd_MD_end 100 q Q = mt_go [o_iinc 1 (nI 1)] q (mt_kk cd_MD_end Q (o_fall 2)) := mt_blk rfl q Q
theorem k_MD_end_106 (q : m_C) (Q : m_R → Prop) : mt_T cd_MD_end 106 q Q = mt_go [o_aload 0] q (mt_kk cd_MD_end Q (o_callV sm_MD_concludeIfDone 9 1 110)) := mt_blk rfl q Q
theorem k_MD_end_110 (q : m_C) (Q : m_R → Prop) : mt_T cd_MD_end 110 q Q = mt_go [] q (mt_kk cd_MD_end Q (o_ret)) := mt_blk rfl q Q
-- TreeCarrierModel.match (III)I
noncomputable def cd_MD_match : List m_B := [(0, [o_aload 0, o_iload 2, o_aload 0, o_get 9 10], o_callV sm_MD_weak 9 3 9), (9, [o_istore 4, o_aload 0, o_iload 2, o_aload 0, o_get 9 10, o_iload 3], o_callV sm_MD_strong 9 4 21), (21, [o_istore 5, o_const (-1), o_istore 6, o_aload 0, o_get 9 18, o_iload 1, o_const (nI 5), o_add, o_iald, o_const (nI 2), o_div, o_const (nI 1), o_sub, o_istore 7], o_fall 40), (40, [o_iload 7], o_iflt 98 45), (45, [o_aload 0, o_get 9 18, o_iload 1, o_const (nI 6), o_add, o_const (nI 2), o_iload 7, o_mul, o_add, o_iald, o_iload 4], o_icne 88 64), (64, [o_aload 0, o_get 9 18, o_iload 1, o_const (nI 7), o_add, o_const (nI 2), o_iload 7, o_mul, o_add, o_iald, o_iload 5], o_icne 88 83), (83, [o_iload 7], o_fall 90), (88, [o_iload 6], o_fall 90), (90, [o_istore 6, o_iinc 7 (-1)], o_fall 40), (98, [o_iload 6], o_iret)]
noncomputable def sm_MD_match : List m_V → m_M → Option m_R := mt_sem cd_MD_match 8
theorem k_MD_match_0 (q : m_C) (Q : m_R → Prop) : mt_T cd_MD_match 0 q Q = mt_go [o_aload 0, o_iload 2, o_aload 0, o_get 9 10] q (mt_kk cd_MD_match Q (o_callV sm_MD_weak 9 3 9)) := mt_blk rfl q Q
theorem k_MD_match_9 (q : m_C) (Q : m_R → Prop) : mt_T cd_MD_match 9 q Q = mt_go [o_istore 4, o_aload 0, o_iload 2, o_aload 0, o_get 9 10, o_iload 3] q (mt_kk cd_MD_match Q (o_callV sm_MD_strong 9 4 21)) := mt_blk rfl q Q
theorem k_MD_match_21 (q : m_C) (Q : m_R → Prop) : mt_T cd_MD_match 21 q Q = mt_go [o_istore 5, o_const (-1), o_istore 6, o_aload 0, o_get 9 18, o_iload 1, o_const (nI 5), o_add, o_iald, o_const (nI 2), o_div, o_const (nI 1), o_sub, o_istore 7] q (mt_kk cd_MD_match Q (o_fall 40)) := mt_blk rfl q Q
theorem k_MD_match_40 (q : m_C) (Q : m_R → Prop) : mt_T cd_MD_match 40 q Q = mt_go [o_iload 7] q (mt_kk cd_MD_match Q (o_iflt 98 45)) := mt_blk rfl q Q
theorem k_MD_match_45 (q : m_C) (Q : m_R → Prop) : mt_T cd_MD_match 45 q Q = mt_go [o_aload 0, o_get 9 18, o_iload 1, o_const (nI 6), o_add, o_const (nI 2), o_iload 7, o_mul, o_add, o_iald, o_iload 4] q (mt_kk cd_MD_match Q (o_icne 88 64)) := mt_blk rfl q Q
theorem k_MD_match_64 (q : m_C) (Q : m_R → Prop) : mt_T cd_MD_match 64 q Q = mt_go [o_aload 0, o_get 9 18, o_iload 1, o_const (nI 7), o_add, o_const (nI 2), o_iload 7, o_mul, o_add, o_iald, o_iload 5] q (mt_kk cd_MD_match Q (o_icne 88 83)) := mt_blk rfl q Q
theorem k_MD_match_83 (q : m_C) (Q : m_R → Prop) : mt_T cd_MD_match 83 q Q = mt_go [o_iload 7] q (mt_kk cd_MD_match Q (o_fall 90)) := mt_blk rfl q Q
theorem k_MD_match_88 (q : m_C) (Q : m_R → Prop) : mt_T cd_MD_match 88 q Q = mt_go [o_iload 6] q (mt_kk cd_MD_match Q (o_fall 90)) := mt_blk rfl q Q
theorem k_MD_match_90 (q : m_C) (Q : m_R → Prop) : mt_T cd_MD_match 90 q Q = mt_go [o_istore 6, o_iinc 7 (-1)] q (mt_kk cd_MD_match Q (o_fall 40)) := mt_blk rfl q Q
theorem k_MD_match_98 (q : m_C) (Q : m_R → Prop) : mt_T cd_MD_match 98 q Q = mt_go [o_iload 6] q (mt_kk cd_MD_match Q (o_iret)) := mt_blk rfl q Q
-- TreeCarrierModel.answer (I)V
noncomputable def cd_MD_answer : List m_B := [(0, [o_aload 0, o_get 9 18, o_iload 1, o_const (nI 1), o_add, o_iald, o_istore 2, o_aload 0, o_get 9 18, o_iload 1, o_const (nI 2), o_add, o_iald, o_istore 3, o_aload 0, o_const (nI 0), o_iload 2], o_callV sm_MD_file 9 3 24), (24, [o_istore 4, o_iload 4], o_ifge 42 31), (31, [o_aload 0, o_const (nI 1), o_const (nI 5), o_iload 2, o_iload 3, o_const (nI 0), o_const (nI 0)], o_callV sm_MD_message 9 7 41), (41, [], o_ret), (42, [o_const (-2128831035), o_istore 5, o_const (nI 0), o_istore 6], o_fall 49), (49, [o_iload 6, o_aload 0, o_get 9 1, o_iload 4, o_iald], o_icge 88 61), (61, [o_iload 5, o_aload 0, o_get 9 3, o_const (nI 40), o_iload 4, o_mul, o_iload 6, o_add, o_iald, o_xor, o_const (nI 16777619), o_mul, o_istore 5, o_iinc 6 (nI 1)], o_fall 49), (88, [o_aload 0, o_const (nI 1), o_const (nI 4), o_iload 2, o_iload 3, o_iload 5, o_const (nI 0)], o_callV sm_MD_message 9 7 99), (99, [o_const (nI 0), o_istore 6], o_fall 102), (102, [o_iload 6, o_aload 0, o_get 9 1, o_iload 4, o_iald], o_icge 220 114), (114, [o_iload 6, o_aload 0, o_get 9 10, o_add, o_aload 0, o_get 9 1, o_iload 4, o_iald], o_icgt 148 131), (131, [o_aload 0, o_iload 1, o_const (nI 40), o_iload 4, o_mul, o_iload 6, o_add, o_iload 3], o_callV sm_MD_match 9 4 145), (145, [], o_fall 149), (148, [o_const (-1)], o_fall 149), (149, [o_istore 7, o_aload 0, o_iload 7], o_iflt 166 157), (157, [o_const (nI 256), o_iload 7, o_add], o_fall 179), (166, [o_aload 0, o_get 9 3, o_const (nI 40), o_iload 4, o_mul, o_iload 6, o_add, o_iald], o_fall 179), (179, [], o_callV sm_MD_more 9 2 182), (182, [o_aload 0, o_iload 7], o_iflt 192 188), (188, [o_const (nI 1)], o_fall 193), (192, [o_const (nI 0)], o_fall 193), (193, [], o_callV sm_MD_add 9 2 196), (196, [o_iload 7], o_iflt 211 201), (201, [o_iload 6, o_aload 0, o_get 9 10, o_add], o_fall 215), (211, [o_iload 6, o_const (nI 1), o_add], o_fall 215), (215, [o_istore 6], o_fall 102), (220, [], o_ret)]
noncomputable def sm_MD_answer : List m_V → m_M → Option m_R := mt_sem cd_MD_answer 8
theorem k_MD_answer_0 (q : m_C) (Q : m_R → Prop) : mt_T cd_MD_answer 0 q Q = mt_go [o_aload 0, o_get 9 18, o_iload 1, o_const (nI 1), o_add, o_iald, o_istore 2, o_aload 0, o_get 9 18, o_iload 1, o_const (nI 2), o_add, o_iald, o_istore 3, o_aload 0, o_const (nI 0), o_iload 2] q (mt_kk cd_MD_answer Q (o_callV sm_MD_file 9 3 24)) := mt_blk rfl q Q
theorem k_MD_answer_24 (q : m_C) (Q : m_R → Prop) : mt_T cd_MD_answer 24 q Q = mt_go [o_istore 4, o_iload 4] q (mt_kk cd_MD_answer Q (o_ifge 42 31)) := mt_blk rfl q Q
theorem k_MD_answer_31 (q : m_C) (Q : m_R → Prop) : mt_T cd_MD_answer 31 q Q = mt_go [o_aload 0, o_const (nI 1), o_const (nI 5), o_iload 2, o_iload 3, o_const (nI 0), o_const (nI 0)] q (mt_kk cd_MD_answer Q (o_callV sm_MD_message 9 7 41)) := mt_blk rfl q Q
theorem k_MD_answer_41 (q : m_C) (Q : m_R → Prop) : mt_T cd_MD_answer 41 q Q = mt_go [] q (mt_kk cd_MD_answer Q (o_ret)) := mt_blk rfl q Q
theorem k_MD_answer_42 (q : m_C) (Q : m_R → Prop) : mt_T cd_MD_answer 42 q Q = mt_go [o_const (-2128831035), o_istore 5, o_const (nI 0), o_istore 6] q (mt_kk cd_MD_answer Q (o_fall 49)) := mt_blk rfl q Q
theorem k_MD_answer_49 (q : m_C) (Q : m_R → Prop) : mt_T cd_MD_answer 49 q Q = mt_go [o_iload 6, o_aload 0, o_get 9 1, o_iload 4, o_iald] q (mt_kk cd_MD_answer Q (o_icge 88 61)) := mt_blk rfl q Q
theorem k_MD_answer_61 (q : m_C) (Q : m_R → Prop) : mt_T cd_MD_answer 61 q Q = mt_go [o_iload 5, o_aload 0, o_get 9 3, o_const (nI 40), o_iload 4, o_mul, o_iload 6, o_add, o_iald, o_xor, o_const (nI 16777619), o_mul, o_istore 5, o_iinc 6 (nI 1)] q (mt_kk cd_MD_answer Q (o_fall 49)) := mt_blk rfl q Q
theorem k_MD_answer_88 (q : m_C) (Q : m_R → Prop) : mt_T cd_MD_answer 88 q Q = mt_go [o_aload 0, o_const (nI 1), o_const (nI 4), o_iload 2, o_iload 3, o_iload 5, o_const (nI 0)] q (mt_kk cd_MD_answer Q (o_callV sm_MD_message 9 7 99)) := mt_blk rfl q Q
theorem k_MD_answer_99 (q : m_C) (Q : m_R → Prop) : mt_T cd_MD_answer 99 q Q = mt_go [o_const (nI 0), o_istore 6] q (mt_kk cd_MD_answer Q (o_fall 102)) := mt_blk rfl q Q
theorem k_MD_answer_102 (q : m_C) (Q : m_R → Prop) : mt_T cd_MD_answer 102 q Q = mt_go [o_iload 6, o_aload 0, o_get 9 1, o_iload 4, o_iald] q (mt_kk cd_MD_answer Q (o_icge 220 114)) := mt_blk rfl q Q
theorem k_MD_answer_114 (q : m_C) (Q : m_R → Prop) : mt_T cd_MD_answer 114 q Q = mt_go [o_iload 6, o_aload 0, o_get 9 10, o_add, o_aload 0, o_get 9 1, o_iload 4, o_iald] q (mt_kk cd_MD_answer Q (o_icgt 148 131)) := mt_blk rfl q Q
theorem k_MD_answer_131 (q : m_C) (Q : m_R → Prop) : mt_T cd_MD_answer 131 q Q = mt_go [o_aload 0, o_iload 1, o_const (nI 40), o_iload 4, o_mul, o_iload 6, o_add, o_iload 3] q (mt_kk cd_MD_answer Q (o_callV sm_MD_match 9 4 145)) := mt_blk rfl q Q
theorem k_MD_answer_145 (q : m_C) (Q : m_R → Prop) : mt_T cd_MD_answer 145 q Q = mt_go [] q (mt_kk cd_MD_answer Q (o_fall 149)) := mt_blk rfl q Q
theorem k_MD_answer_148 (q : m_C) (Q : m_R → Prop) : mt_T cd_MD_answer 148 q Q = mt_go [o_const (-1)] q (mt_kk cd_MD_answer Q (o_fall 149)) := mt_blk rfl q Q
theorem k_MD_answer_149 (q : m_C) (Q : m_R → Prop) : mt_T cd_MD_answer 149 q Q = mt_go [o_istore 7, o_aload 0, o_iload 7] q (mt_kk cd_MD_answer Q (o_iflt 166 157)) := mt_blk rfl q Q
theorem k_MD_answer_157 (q : m_C) (Q : m_R → Prop) : mt_T cd_MD_answer 157 q Q = mt_go [o_const (nI 256), o_iload 7, o_add] q (mt_kk cd_MD_answer Q (o_fall 179)) := mt_blk rfl q Q
theorem k_MD_answer_166 (q : m_C) (Q : m_R → Prop) : mt_T cd_MD_answer 166 q Q = mt_go [o_aload 0, o_get 9 3, o_const (nI 40), o_iload 4, o_mul, o_iload 6, o_add, o_iald] q (mt_kk cd_MD_answer Q (o_fall 179)) := mt_blk rfl q Q
theorem k_MD_answer_179 (q : m_C) (Q : m_R → Prop) : mt_T cd_MD_answer 179 q Q = mt_go [] q (mt_kk cd_MD_answer Q (o_callV sm_MD_more 9 2 182)) := mt_blk rfl q Q
theorem k_MD_answer_182 (q : m_C) (Q : m_R → Prop) : mt_T cd_MD_answer 182 q Q = mt_go [o_aload 0, o_iload 7] q (mt_kk cd_MD_answer Q (o_iflt 192 188)) := mt_blk rfl q Q
theorem k_MD_answer_188 (q : m_C) (Q : m_R → Prop) : mt_T cd_MD_answer 188 q Q = mt_go [o_const (nI 1)] q (mt_kk cd_MD_answer Q (o_fall 193)) := mt_blk rfl q Q
theorem k_MD_answer_192 (q : m_C) (Q : m_R → Prop) : mt_T cd_MD_answer 192 q Q = mt_go [o_const (nI 0)] q (mt_kk cd_MD_answer Q (o_fall 193)) := mt_blk rfl q Q
theorem k_MD_answer_193 (q : m_C) (Q : m_R → Prop) : mt_T cd_MD_answer 193 q Q = mt_go [] q (mt_kk cd_MD_answer Q (o_callV sm_MD_add 9 2 196)) := mt_blk rfl q Q
theorem k_MD_answer_196 (q : m_C) (Q : m_R → Prop) : mt_T cd_MD_answer 196 q Q = mt_go [o_iload 7] q (mt_kk cd_MD_answer Q (o_iflt 211 201)) := mt_blk rfl q Q
theorem k_MD_answer_201 (q : m_C) (Q : m_R → Prop) : mt_T cd_MD_answer 201 q Q = mt_go [o_iload 6, o_aload 0, o_get 9 10, o_add] q (mt_kk cd_MD_answer Q (o_fall 215)) := mt_blk rfl q Q
theorem k_MD_answer_211 (q : m_C) (Q : m_R → Prop) : mt_T cd_MD_answer 211 q Q = mt_go [o_iload 6, o_const (nI 1), o_add] q (mt_kk cd_MD_answer Q (o_fall 215)) := mt_blk rfl q Q
theorem k_MD_answer_215 (q : m_C) (Q : m_R → Prop) : mt_T cd_MD_answer 215 q Q = mt_go [o_istore 6] q (mt_kk cd_MD_answer Q (o_fall 102)) := mt_blk rfl q Q
theorem k_MD_answer_220 (q : m_C) (Q : m_R → Prop) : mt_T cd_MD_answer 220 q Q = mt_go [] q (mt_kk cd_MD_answer Q (o_ret)) := mt_blk rfl q Q
-- TreeCarrierModel.rebuild (I)I
noncomputable def cd_MD_rebuild : List m_B := [(0, [o_aload 0, o_const (nI 1), o_aload 0, o_get 9 18, o_iload 1, o_const (nI 1), o_add, o_iald], o_callV sm_MD_file 9 3 13), (13, [o_istore 2, o_aload 0, o_const (nI 0), o_putI 9 26, o_const (nI 0), o_istore 3], o_fall 21), (21, [o_iload 3, o_aload 0, o_get 9 18, o_iload 1, o_const (nI 5), o_add, o_iald], o_icge 190 33), (33, [o_aload 0, o_get 9 18, o_iload 1, o_const (nI 6), o_add, o_iload 3, o_add, o_iald, o_istore 4, o_iload 4, o_const (nI 256)], o_icge 58 54), (54, [o_const (nI 0)], o_fall 69), (58, [o_iload 4, o_const (nI 256), o_sub, o_aload 0, o_get 9 10, o_mul], o_fall 69), (69, [o_istore 5, o_iload 5, o_istore 6], o_fall 75), (75, [o_iload 6, o_iload 5, o_iload 4, o_const (nI 256)], o_icge 91 87), (87, [o_const (nI 1)], o_fall 95), (91, [o_aload 0, o_get 9 10], o_fall 95), (95, [o_add], o_icge 184 99), (99, [o_iload 4, o_const (nI 256)], o_iclt 122 107), (107, [o_iload 2], o_iflt 126 111), (111, [o_iload 6, o_aload 0, o_get 9 1, o_iload 2, o_iald], o_icge 126 122), (122, [o_const (nI 1)], o_fall 127), (126, [o_const (nI 0)], o_fall 127), (127, [o_istore 7, o_iload 7], o_ifeq 178 134), (134, [o_aload 0, o_get 9 25, o_aload 0, o_get 9 26, o_iload 4, o_const (nI 256)], o_icge 155 150), (150, [o_iload 4], o_fall 167), (155, [o_aload 0, o_get 9 3, o_const (nI 40), o_iload 2, o_mul, o_iload 6, o_add, o_iald], o_fall 167), (167, [o_iast, o_aload 0, o_aload 0, o_get 9 26, o_const (nI 1), o_add, o_putI 9 26], o_fall 178), (178, [o_iinc 6 (nI 1)], o_fall 75), (184, [o_iinc 3 (nI 1)], o_fall 21), (190, [o_const (-2128831035), o_istore 3, o_const (nI 0), o_istore 4], o_fall 196), (196, [o_iload 4, o_aload 0, o_get 9 26], o_icge 224 205), (205, [o_iload 3, o_aload 0, o_get 9 25, o_iload 4, o_iald, o_xor, o_const (nI 16777619), o_mul, o_istore 3, o_iinc 4 (nI 1)], o_fall 196), (224, [o_iload 3], o_iret)]
noncomputable def sm_MD_rebuild : List m_V → m_M → Option m_R := mt_sem cd_MD_rebuild 8
theorem k_MD_rebuild_0 (q : m_C) (Q : m_R → Prop) : mt_T cd_MD_rebuild 0 q Q = mt_go [o_aload 0, o_const (nI 1), o_aload 0, o_get 9 18, o_iload 1, o_const (nI 1), o_add, o_iald] q (mt_kk cd_MD_rebuild Q (o_callV sm_MD_file 9 3 13)) := mt_blk rfl q Q
theorem k_MD_rebuild_13 (q : m_C) (Q : m_R → Prop) : mt_T cd_MD_rebuild 13 q Q = mt_go [o_istore 2, o_aload 0, o_const (nI 0), o_putI 9 26, o_const (nI 0), o_istore 3] q (mt_kk cd_MD_rebuild Q (o_fall 21)) := mt_blk rfl q Q
theorem k_MD_rebuild_21 (q : m_C) (Q : m_R → Prop) : mt_T cd_MD_rebuild 21 q Q = mt_go [o_iload 3, o_aload 0, o_get 9 18, o_iload 1, o_const (nI 5), o_add, o_iald] q (mt_kk cd_MD_rebuild Q (o_icge 190 33)) := mt_blk rfl q Q
theorem k_MD_rebuild_33 (q : m_C) (Q : m_R → Prop) : mt_T cd_MD_rebuild 33 q Q = mt_go [o_aload 0, o_get 9 18, o_iload 1, o_const (nI 6), o_add, o_iload 3, o_add, o_iald, o_istore 4, o_iload 4, o_const (nI 256)] q (mt_kk cd_MD_rebuild Q (o_icge 58 54)) := mt_blk rfl q Q
theorem k_MD_rebuild_54 (q : m_C) (Q : m_R → Prop) : mt_T cd_MD_rebuild 54 q Q = mt_go [o_const (nI 0)] q (mt_kk cd_MD_rebuild Q (o_fall 69)) := mt_blk rfl q Q
theorem k_MD_rebuild_58 (q : m_C) (Q : m_R → Prop) : mt_T cd_MD_rebuild 58 q Q = mt_go [o_iload 4, o_const (nI 256), o_sub, o_aload 0, o_get 9 10, o_mul] q (mt_kk cd_MD_rebuild Q (o_fall 69)) := mt_blk rfl q Q
theorem k_MD_rebuild_69 (q : m_C) (Q : m_R → Prop) : mt_T cd_MD_rebuild 69 q Q = mt_go [o_istore 5, o_iload 5, o_istore 6] q (mt_kk cd_MD_rebuild Q (o_fall 75)) := mt_blk rfl q Q
theorem k_MD_rebuild_75 (q : m_C) (Q : m_R → Prop) : mt_T cd_MD_rebuild 75 q Q = mt_go [o_iload 6, o_iload 5, o_iload 4, o_const (nI 256)] q (mt_kk cd_MD_rebuild Q (o_icge 91 87)) := mt_blk rfl q Q
theorem k_MD_rebuild_87 (q : m_C) (Q : m_R → Prop) : mt_T cd_MD_rebuild 87 q Q = mt_go [o_const (nI 1)] q (mt_kk cd_MD_rebuild Q (o_fall 95)) := mt_blk rfl q Q
theorem k_MD_rebuild_91 (q : m_C) (Q : m_R → Prop) : mt_T cd_MD_rebuild 91 q Q = mt_go [o_aload 0, o_get 9 10] q (mt_kk cd_MD_rebuild Q (o_fall 95)) := mt_blk rfl q Q
theorem k_MD_rebuild_95 (q : m_C) (Q : m_R → Prop) : mt_T cd_MD_rebuild 95 q Q = mt_go [o_add] q (mt_kk cd_MD_rebuild Q (o_icge 184 99)) := mt_blk rfl q Q
theorem k_MD_rebuild_99 (q : m_C) (Q : m_R → Prop) : mt_T cd_MD_rebuild 99 q Q = mt_go [o_iload 4, o_const (nI 256)] q (mt_kk cd_MD_rebuild Q (o_iclt 122 107)) := mt_blk rfl q Q
theorem k_MD_rebuild_107 (q : m_C) (Q : m_R → Prop) : mt_T cd_MD_rebuild 107 q Q = mt_go [o_iload 2] q (mt_kk cd_MD_rebuild Q (o_iflt 126 111)) := mt_blk rfl q Q
theorem k_MD_rebuild_111 (q : m_C) (Q : m_R → Prop) : mt_T cd_MD_rebuild 111 q Q = mt_go [o_iload 6, o_aload 0, o_get 9 1, o_iload 2, o_iald] q (mt_kk cd_MD_rebuild Q (o_icge 126 122)) := mt_blk rfl q Q
theorem k_MD_rebuild_122 (q : m_C) (Q : m_R → Prop) : mt_T cd_MD_rebuild 122 q Q = mt_go [o_const (nI 1)] q (mt_kk cd_MD_rebuild Q (o_fall 127)) := mt_blk rfl q Q
theorem k_MD_rebuild_126 (q : m_C) (Q : m_R → Prop) : mt_T cd_MD_rebuild 126 q Q = mt_go [o_const (nI 0)] q (mt_kk cd_MD_rebuild Q (o_fall 127)) := mt_blk rfl q Q
theorem k_MD_rebuild_127 (q : m_C) (Q : m_R → Prop) : mt_T cd_MD_rebuild 127 q Q = mt_go [o_istore 7, o_iload 7] q (mt_kk cd_MD_rebuild Q (o_ifeq 178 134)) := mt_blk rfl q Q
theorem k_MD_rebuild_134 (q : m_C) (Q : m_R → Prop) : mt_T cd_MD_rebuild 134 q Q = mt_go [o_aload 0, o_get 9 25, o_aload 0, o_get 9 26, o_iload 4, o_const (nI 256)] q (mt_kk cd_MD_rebuild Q (o_icge 155 150)) := mt_blk rfl q Q
theorem k_MD_rebuild_150 (q : m_C) (Q : m_R → Prop) : mt_T cd_MD_rebuild 150 q Q = mt_go [o_iload 4] q (mt_kk cd_MD_rebuild Q (o_fall 167)) := mt_blk rfl q Q
theorem k_MD_rebuild_155 (q : m_C) (Q : m_R → Prop) : mt_T cd_MD_rebuild 155 q Q = mt_go [o_aload 0, o_get 9 3, o_const (nI 40), o_iload 2, o_mul, o_iload 6, o_add, o_iald] q (mt_kk cd_MD_rebuild Q (o_fall 167)) := mt_blk rfl q Q
theorem k_MD_rebuild_167 (q : m_C) (Q : m_R → Prop) : mt_T cd_MD_rebuild 167 q Q = mt_go [o_iast, o_aload 0, o_aload 0, o_get 9 26, o_const (nI 1), o_add, o_putI 9 26] q (mt_kk cd_MD_rebuild Q (o_fall 178)) := mt_blk rfl q Q
theorem k_MD_rebuild_178 (q : m_C) (Q : m_R → Prop) : mt_T cd_MD_rebuild 178 q Q = mt_go [o_iinc 6 (nI 1)] q (mt_kk cd_MD_rebuild Q (o_fall 75)) := mt_blk rfl q Q
theorem k_MD_rebuild_184 (q : m_C) (Q : m_R → Prop) : mt_T cd_MD_rebuild 184 q Q = mt_go [o_iinc 3 (nI 1)] q (mt_kk cd_MD_rebuild Q (o_fall 21)) := mt_blk rfl q Q
theorem k_MD_rebuild_190 (q : m_C) (Q : m_R → Prop) : mt_T cd_MD_rebuild 190 q Q = mt_go [o_const (-2128831035), o_istore 3, o_const (nI 0), o_istore 4] q (mt_kk cd_MD_rebuild Q (o_fall 196)) := mt_blk rfl q Q
theorem k_MD_rebuild_196 (q : m_C) (Q : m_R → Prop) : mt_T cd_MD_rebuild 196 q Q = mt_go [o_iload 4, o_aload 0, o_get 9 26] q (mt_kk cd_MD_rebuild Q (o_icge 224 205)) := mt_blk rfl q Q
theorem k_MD_rebuild_205 (q : m_C) (Q : m_R → Prop) : mt_T cd_MD_rebuild 205 q Q = mt_go [o_iload 3, o_aload 0, o_get 9 25, o_iload 4, o_iald, o_xor, o_const (nI 16777619), o_mul, o_istore 3, o_iinc 4 (nI 1)] q (mt_kk cd_MD_rebuild Q (o_fall 196)) := mt_blk rfl q Q
theorem k_MD_rebuild_224 (q : m_C) (Q : m_R → Prop) : mt_T cd_MD_rebuild 224 q Q = mt_go [o_iload 3] q (mt_kk cd_MD_rebuild Q (o_iret)) := mt_blk rfl q Q
-- TreeCarrierModel.delta (I)V
noncomputable def cd_MD_delta : List m_B := [(0, [o_aload 0, o_get 9 18, o_iload 1, o_const (nI 1), o_add, o_iald, o_istore 2, o_aload 0, o_iload 2], o_callV sm_MD_entryOf 9 2 14), (14, [o_istore 3, o_aload 0, o_iload 1], o_callV sm_MD_rebuild 9 2 20), (20, [o_istore 4, o_iload 4, o_aload 0, o_get 9 18, o_iload 1, o_const (nI 3), o_add, o_iald], o_icne 133 35), (35, [o_aload 0, o_get 9 21, o_aload 0, o_get 9 20, o_iload 2, o_iast, o_aload 0, o_get 9 22, o_aload 0, o_get 9 20, o_aload 0, o_get 9 15, o_iload 3, o_iald, o_iast, o_aload 0, o_get 9 23, o_aload 0, o_get 9 20, o_aload 0, o_get 9 26, o_iast, o_const (nI 0), o_istore 5], o_fall 76), (76, [o_iload 5, o_aload 0, o_get 9 26], o_icge 113 85), (85, [o_aload 0, o_get 9 24, o_const (nI 40), o_aload 0, o_get 9 20, o_mul, o_iload 5, o_add, o_aload 0, o_get 9 25, o_iload 5, o_iald, o_iast, o_iinc 5 (nI 1)], o_fall 76), (113, [o_aload 0, o_aload 0, o_get 9 20, o_const (nI 1), o_add, o_putI 9 20, o_aload 0, o_get 9 16, o_iload 3, o_const (nI 0), o_zast], o_fall 171), (133, [o_aload 0, o_get 9 18, o_iload 1, o_const (nI 2), o_add, o_iald, o_const (nI 1)], o_icne 159 145), (145, [o_aload 0, o_iload 2, o_const (nI 2)], o_callV sm_MD_sendSignature 9 3 151), (151, [o_aload 0, o_const (nI 2)], o_callV sm_MD_add 9 2 156), (156, [], o_fall 171), (159, [o_aload 0, o_const (nI 3)], o_callV sm_MD_add 9 2 164), (164, [o_aload 0, o_get 9 16, o_iload 3, o_const (nI 0), o_zast], o_fall 171), (171, [o_aload 0], o_callV sm_MD_concludeIfDone 9 1 175), (175, [], o_ret)]
noncomputable def sm_MD_delta : List m_V → m_M → Option m_R := mt_sem cd_MD_delta 6
theorem k_MD_delta_0 (q : m_C) (Q : m_R → Prop) : mt_T cd_MD_delta 0 q Q = mt_go [o_aload 0, o_get 9 18, o_iload 1, o_const (nI 1), o_add, o_iald, o_istore 2, o_aload 0, o_iload 2] q (mt_kk cd_MD_delta Q (o_callV sm_MD_entryOf 9 2 14)) := mt_blk rfl q Q
theorem k_MD_delta_14 (q : m_C) (Q : m_R → Prop) : mt_T cd_MD_delta 14 q Q = mt_go [o_istore 3, o_aload 0, o_iload 1] q (mt_kk cd_MD_delta Q (o_callV sm_MD_rebuild 9 2 20)) := mt_blk rfl q Q
theorem k_MD_delta_20 (q : m_C) (Q : m_R → Prop) : mt_T cd_MD_delta 20 q Q = mt_go [o_istore 4, o_iload 4, o_aload 0, o_get 9 18, o_iload 1, o_const (nI 3), o_add, o_iald] q (mt_kk cd_MD_delta Q (o_icne 133 35)) := mt_blk rfl q Q
theorem k_MD_delta_35 (q : m_C) (Q : m_R → Prop) : mt_T cd_MD_delta 35 q Q = mt_go [o_aload 0, o_get 9 21, o_aload 0, o_get 9 20, o_iload 2, o_iast, o_aload 0, o_get 9 22, o_aload 0, o_get 9 20, o_aload 0, o_get 9 15, o_iload 3, o_iald, o_iast, o_aload 0, o_get 9 23, o_aload 0, o_get 9 20, o_aload 0, o_get 9 26, o_iast, o_const (nI 0), o_istore 5] q (mt_kk cd_MD_delta Q (o_fall 76)) := mt_blk rfl q Q
theorem k_MD_delta_76 (q : m_C) (Q : m_R → Prop) : mt_T cd_MD_delta 76 q Q = mt_go [o_iload 5, o_aload 0, o_get 9 26] q (mt_kk cd_MD_delta Q (o_icge 113 85)) := mt_blk rfl q Q
theorem k_MD_delta_85 (q : m_C) (Q : m_R → Prop) : mt_T cd_MD_delta 85 q Q = mt_go [o_aload 0, o_get 9 24, o_const (nI 40), o_aload 0, o_get 9 20, o_mul, o_iload 5, o_add, o_aload 0, o_get 9 25, o_iload 5, o_iald, o_iast, o_iinc 5 (nI 1)] q (mt_kk cd_MD_delta Q (o_fall 76)) := mt_blk rfl q Q
theorem k_MD_delta_113 (q : m_C) (Q : m_R → Prop) : mt_T cd_MD_delta 113 q Q = mt_go [o_aload 0, o_aload 0, o_get 9 20, o_const (nI 1), o_add, o_putI 9 20, o_aload 0, o_get 9 16, o_iload 3, o_const (nI 0), o_zast] q (mt_kk cd_MD_delta Q (o_fall 171)) := mt_blk rfl q Q
theorem k_MD_delta_133 (q : m_C) (Q : m_R → Prop) : mt_T cd_MD_delta 133 q Q = mt_go [o_aload 0, o_get 9 18, o_iload 1, o_const (nI 2), o_add, o_iald, o_const (nI 1)] q (mt_kk cd_MD_delta Q (o_icne 159 145)) := mt_blk rfl q Q
theorem k_MD_delta_145 (q : m_C) (Q : m_R → Prop) : mt_T cd_MD_delta 145 q Q = mt_go [o_aload 0, o_iload 2, o_const (nI 2)] q (mt_kk cd_MD_delta Q (o_callV sm_MD_sendSignature 9 3 151)) := mt_blk rfl q Q
theorem k_MD_delta_151 (q : m_C) (Q : m_R → Prop) : mt_T cd_MD_delta 151 q Q = mt_go [o_aload 0, o_const (nI 2)] q (mt_kk cd_MD_delta Q (o_callV sm_MD_add 9 2 156)) := mt_blk rfl q Q
theorem k_MD_delta_156 (q : m_C) (Q : m_R → Prop) : mt_T cd_MD_delta 156 q Q = mt_go [] q (mt_kk cd_MD_delta Q (o_fall 171)) := mt_blk rfl q Q
theorem k_MD_delta_159 (q : m_C) (Q : m_R → Prop) : mt_T cd_MD_delta 159 q Q = mt_go [o_aload 0, o_const (nI 3)] q (mt_kk cd_MD_delta Q (o_callV sm_MD_add 9 2 164)) := mt_blk rfl q Q
theorem k_MD_delta_164 (q : m_C) (Q : m_R → Prop) : mt_T cd_MD_delta 164 q Q = mt_go [o_aload 0, o_get 9 16, o_iload 3, o_const (nI 0), o_zast] q (mt_kk cd_MD_delta Q (o_fall 171)) := mt_blk rfl q Q
theorem k_MD_delta_171 (q : m_C) (Q : m_R → Prop) : mt_T cd_MD_delta 171 q Q = mt_go [o_aload 0] q (mt_kk cd_MD_delta Q (o_callV sm_MD_concludeIfDone 9 1 175)) := mt_blk rfl q Q
theorem k_MD_delta_175 (q : m_C) (Q : m_R → Prop) : mt_T cd_MD_delta 175 q Q = mt_go [] q (mt_kk cd_MD_delta Q (o_ret)) := mt_blk rfl q Q
-- TreeCarrierModel.note (I)V
noncomputable def cd_MD_note : List m_B := [(0, [o_aload 0, o_get 9 13, o_aload 0, o_get 9 12, o_aload 0, o_get 9 18, o_iload 1, o_const (nI 1), o_add, o_iald, o_iast, o_aload 0, o_get 9 14, o_aload 0, o_get 9 12, o_aload 0, o_get 9 18, o_iload 1, o_const (nI 3), o_add, o_iald, o_iast, o_aload 0, o_get 9 15, o_aload 0, o_get 9 12, o_aload 0, o_get 9 18, o_iload 1, o_const (nI 4), o_add, o_iald, o_iast, o_aload 0, o_get 9 16, o_aload 0, o_get 9 12, o_const (nI 1), o_zast, o_aload 0, o_aload 0, o_get 9 12, o_const (nI 1), o_add, o_putI 9 12], o_ret)]
noncomputable def sm_MD_note : List m_V → m_M → Option m_R := mt_sem cd_MD_note 2
theorem k_MD_note_0 (q : m_C) (Q : m_R → Prop) : mt_T cd_MD_note 0 q Q = mt_go [o_aload 0, o_get 9 13, o_aload 0, o_get 9 12, o_aload 0, o_get 9 18, o_iload 1, o_const (nI 1), o_add, o_iald, o_iast, o_aload 0, o_get 9 14, o_aload 0, o_get 9 12, o_aload 0, o_get 9 18, o_iload 1, o_const (nI 3), o_add, o_iald, o_iast, o_aload 0, o_get 9 15, o_aload 0, o_get 9 12, o_aload 0, o_get 9 18, o_iload 1, o_const (nI 4), o_add, o_iald, o_iast, o_aload 0, o_get 9 16, o_aload 0, o_get 9 12, o_const (nI 1), o_zast, o_aload 0, o_aload 0, o_get 9 12, o_const (nI 1), o_add, o_putI 9 12] q (mt_kk cd_MD_note Q (o_ret)) := mt_blk rfl q Q
-- TreeCarrierModel.take (I)I
noncomputable def cd_MD_take : List m_B := [(0, [o_const (nI 1440), o_iload 1, o_mul, o_istore 2, o_const (nI 2790), o_istore 3, o_aload 0, o_get 9 17, o_iload 1, o_aload 0, o_get 9 17, o_iload 1, o_iald, o_const (nI 1), o_sub, o_iast, o_const (nI 0), o_istore 4], o_fall 27), (27, [o_iload 4, o_const (nI 90)], o_icge 58 34), (34, [o_aload 0, o_get 9 18, o_iload 3, o_iload 4, o_add, o_aload 0, o_get 9 18, o_iload 2, o_iload 4, o_add, o_iald, o_iast, o_iinc 4 (nI 1)], o_fall 27), (58, [o_iload 2, o_istore 4], o_fall 61), (61, [o_iload 4, o_iload 2, o_const (nI 90), o_aload 0, o_get 9 17, o_iload 1, o_iald, o_mul, o_add], o_icge 100 77), (77, [o_aload 0, o_get 9 18, o_iload 4, o_aload 0, o_get 9 18, o_iload 4, o_const (nI 90), o_add, o_iald, o_iast, o_iinc 4 (nI 1)], o_fall 61), (100, [o_iload 3], o_iret)]
noncomputable def sm_MD_take : List m_V → m_M → Option m_R := mt_sem cd_MD_take 5
theorem k_MD_take_0 (q : m_C) (Q : m_R → Prop) : mt_T cd_MD_take 0 q Q = mt_go [o_const (nI 1440), o_iload 1, o_mul, o_istore 2, o_const (nI 2790), o_istore 3, o_aload 0, o_get 9 17, o_iload 1, o_aload 0, o_get 9 17, o_iload 1, o_iald, o_const (nI 1), o_sub, o_iast, o_const (nI 0), o_istore 4] q (mt_kk cd_MD_take Q (o_fall 27)) := mt_blk rfl q Q
theorem k_MD_take_27 (q : m_C) (Q : m_R → Prop) : mt_T cd_MD_take 27 q Q = mt_go [o_iload 4, o_const (nI 90)] q (mt_kk cd_MD_take Q (o_icge 58 34)) := mt_blk rfl q Q
theorem k_MD_take_34 (q : m_C) (Q : m_R → Prop) : mt_T cd_MD_take 34 q Q = mt_go [o_aload 0, o_get 9 18, o_iload 3, o_iload 4, o_add, o_aload 0, o_get 9 18, o_iload 2, o_iload 4, o_add, o_iald, o_iast, o_iinc 4 (nI 1)] q (mt_kk cd_MD_take Q (o_fall 27)) := mt_blk rfl q Q
theorem k_MD_take_58 (q : m_C) (Q : m_R → Prop) : mt_T cd_MD_take 58 q Q = mt_go [o_iload 2, o_istore 4] q (mt_kk cd_MD_take Q (o_fall 61)) := mt_blk rfl q Q
theorem k_MD_take_61 (q : m_C) (Q : m_R → Prop) : mt_T cd_MD_take 61 q Q = mt_go [o_iload 4, o_iload 2, o_const (nI 90), o_aload 0, o_get 9 17, o_iload 1, o_iald, o_mul, o_add] q (mt_kk cd_MD_take Q (o_icge 100 77)) := mt_blk rfl q Q
theorem k_MD_take_77 (q : m_C) (Q : m_R → Prop) : mt_T cd_MD_take 77 q Q = mt_go [o_aload 0, o_get 9 18, o_iload 4, o_aload 0, o_get 9 18, o_iload 4, o_const (nI 90), o_add, o_iald, o_iast, o_iinc 4 (nI 1)] q (mt_kk cd_MD_take Q (o_fall 61)) := mt_blk rfl q Q
theorem k_MD_take_100 (q : m_C) (Q : m_R → Prop) : mt_T cd_MD_take 100 q Q = mt_go [o_iload 3] q (mt_kk cd_MD_take Q (o_iret)) := mt_blk rfl q Q
-- TreeCarrierModel.deliver (I)I
noncomputable def cd_MD_deliver : List m_B := [(0, [o_iload 1, o_const (nI 1)], o_callS sm_MD_in 2 5), (5, [], o_ifeq 17 8), (8, [o_aload 0, o_get 9 17, o_iload 1, o_iald], o_ifne 19 17), (17, [o_const (nI 0)], o_iret), (19, [o_iload 1, o_const (nI 1)], o_icne 35 24), (24, [o_aload 0, o_get 9 20], o_ifle 35 31), (31, [o_aload 0], o_callV sm_MD_finishRecord 9 1 35), (35, [o_aload 0, o_iload 1], o_callV sm_MD_take 9 2 40), (40, [o_istore 2, o_aload 0, o_get 9 18, o_iload 2, o_iald, o_istore 3, o_iload 3, o_const (nI 1)], o_icne 61 53), (53, [o_aload 0, o_iload 2], o_callV sm_MD_note 9 2 58), (58, [], o_fall 126), (61, [o_iload 3, o_const (nI 2)], o_icne 73 66), (66, [o_aload 0], o_callV sm_MD_end 9 1 70), (70, [], o_fall 126), (73, [o_iload 3, o_const (nI 3)], o_icne 86 78), (78, [o_aload 0, o_iload 2], o_callV sm_MD_answer 9 2 83), (83, [], o_fall 126), (86, [o_iload 3, o_const (nI 4)], o_icne 99 91), (91, [o_aload 0, o_iload 2], o_callV sm_MD_delta 9 2 96), (96, [], o_fall 126), (99, [o_aload 0, o_get 9 16, o_aload 0, o_aload 0, o_get 9 18, o_iload 2, o_const (nI 1), o_add, o_iald], o_callV sm_MD_entryOf 9 2 115), (115, [o_const (nI 0), o_zast, o_aload 0, o_const (nI 3)], o_callV sm_MD_add 9 2 122), (122, [o_aload 0], o_callV sm_MD_concludeIfDone 9 1 126), (126, [o_iload 3], o_iret)]
noncomputable def sm_MD_deliver : List m_V → m_M → Option m_R := mt_sem cd_MD_deliver 4
theorem k_MD_deliver_0 (q : m_C) (Q : m_R → Prop) : mt_T cd_MD_deliver 0 q Q = mt_go [o_iload 1, o_const (nI 1)] q (mt_kk cd_MD_deliver Q (o_callS sm_MD_in 2 5)) := mt_blk rfl q Q
theorem k_MD_deliver_5 (q : m_C) (Q : m_R → Prop) : mt_T cd_MD_deliver 5 q Q = mt_go [] q (mt_kk cd_MD_deliver Q (o_ifeq 17 8)) := mt_blk rfl q Q
theorem k_MD_deliver_8 (q : m_C) (Q : m_R → Prop) : mt_T cd_MD_deliver 8 q Q = mt_go [o_aload 0, o_get 9 17, o_iload 1, o_iald] q (mt_kk cd_MD_deliver Q (o_ifne 19 17)) := mt_blk rfl q Q
theorem k_MD_deliver_17 (q : m_C) (Q : m_R → Prop) : mt_T cd_MD_deliver 17 q Q = mt_go [o_const (nI 0)] q (mt_kk cd_MD_deliver Q (o_iret)) := mt_blk rfl q Q
theorem k_MD_deliver_19 (q : m_C) (Q : m_R → Prop) : mt_T cd_MD_deliver 19 q Q = mt_go [o_iload 1, o_const (nI 1)] q (mt_kk cd_MD_deliver Q (o_icne 35 24)) := mt_blk rfl q Q
theorem k_MD_deliver_24 (q : m_C) (Q : m_R → Prop) : mt_T cd_MD_deliver 24 q Q = mt_go [o_aload 0, o_get 9 20] q (mt_kk cd_MD_deliver Q (o_ifle 35 31)) := mt_blk rfl q Q
theorem k_MD_deliver_31 (q : m_C) (Q : m_R → Prop) : mt_T cd_MD_deliver 31 q Q = mt_go [o_aload 0] q (mt_kk cd_MD_deliver Q (o_callV sm_MD_finishRecord 9 1 35)) := mt_blk rfl q Q
theorem k_MD_deliver_35 (q : m_C) (Q : m_R → Prop) : mt_T cd_MD_deliver 35 q Q = mt_go [o_aload 0, o_iload 1] q (mt_kk cd_MD_deliver Q (o_callV sm_MD_take 9 2 40)) := mt_blk rfl q Q
theorem k_MD_deliver_40 (q : m_C) (Q : m_R → Prop) : mt_T cd_MD_deliver 40 q Q = mt_go [o_istore 2, o_aload 0, o_get 9 18, o_iload 2, o_iald, o_istore 3, o_iload 3, o_const (nI 1)] q (mt_kk cd_MD_deliver Q (o_icne 61 53)) := mt_blk rfl q Q
theorem k_MD_deliver_53 (q : m_C) (Q : m_R → Prop) : mt_T cd_MD_deliver 53 q Q = mt_go [o_aload 0, o_iload 2] q (mt_kk cd_MD_deliver Q (o_callV sm_MD_note 9 2 58)) := mt_blk rfl q Q
theorem k_MD_deliver_58 (q : m_C) (Q : m_R → Prop) : mt_T cd_MD_deliver 58 q Q = mt_go [] q (mt_kk cd_MD_deliver Q (o_fall 126)) := mt_blk rfl q Q
theorem k_MD_deliver_61 (q : m_C) (Q : m_R → Prop) : mt_T cd_MD_deliver 61 q Q = mt_go [o_iload 3, o_const (nI 2)] q (mt_kk cd_MD_deliver Q (o_icne 73 66)) := mt_blk rfl q Q
theorem k_MD_deliver_66 (q : m_C) (Q : m_R → Prop) : mt_T cd_MD_deliver 66 q Q = mt_go [o_aload 0] q (mt_kk cd_MD_deliver Q (o_callV sm_MD_end 9 1 70)) := mt_blk rfl q Q
theorem k_MD_deliver_70 (q : m_C) (Q : m_R → Prop) : mt_T cd_MD_deliver 70 q Q = mt_go [] q (mt_kk cd_MD_deliver Q (o_fall 126)) := mt_blk rfl q Q
theorem k_MD_deliver_73 (q : m_C) (Q : m_R → Prop) : mt_T cd_MD_deliver 73 q Q = mt_go [o_iload 3, o_const (nI 3)] q (mt_kk cd_MD_deliver Q (o_icne 86 78)) := mt_blk rfl q Q
theorem k_MD_deliver_78 (q : m_C) (Q : m_R → Prop) : mt_T cd_MD_deliver 78 q Q = mt_go [o_aload 0, o_iload 2] q (mt_kk cd_MD_deliver Q (o_callV sm_MD_answer 9 2 83)) := mt_blk rfl q Q
theorem k_MD_deliver_83 (q : m_C) (Q : m_R → Prop) : mt_T cd_MD_deliver 83 q Q = mt_go [] q (mt_kk cd_MD_deliver Q (o_fall 126)) := mt_blk rfl q Q
theorem k_MD_deliver_86 (q : m_C) (Q : m_R → Prop) : mt_T cd_MD_deliver 86 q Q = mt_go [o_iload 3, o_const (nI 4)] q (mt_kk cd_MD_deliver Q (o_icne 99 91)) := mt_blk rfl q Q
theorem k_MD_deliver_91 (q : m_C) (Q : m_R → Prop) : mt_T cd_MD_deliver 91 q Q = mt_go [o_aload 0, o_iload 2] q (mt_kk cd_MD_deliver Q (o_callV sm_MD_delta 9 2 96)) := mt_blk rfl q Q
theorem k_MD_deliver_96 (q : m_C) (Q : m_R → Prop) : mt_T cd_MD_deliver 96 q Q = mt_go [] q (mt_kk cd_MD_deliver Q (o_fall 126)) := mt_blk rfl q Q
theorem k_MD_deliver_99 (q : m_C) (Q : m_R → Prop) : mt_T cd_MD_deliver 99 q Q = mt_go [o_aload 0, o_get 9 16, o_aload 0, o_aload 0, o_get 9 18, o_iload 2, o_const (nI 1), o_add, o_iald] q (mt_kk cd_MD_deliver Q (o_callV sm_MD_entryOf 9 2 115)) := mt_blk rfl q Q
theorem k_MD_deliver_115 (q : m_C) (Q : m_R → Prop) : mt_T cd_MD_deliver 115 q Q = mt_go [o_const (nI 0), o_zast, o_aload 0, o_const (nI 3)] q (mt_kk cd_MD_deliver Q (o_callV sm_MD_add 9 2 122)) := mt_blk rfl q Q
theorem k_MD_deliver_122 (q : m_C) (Q : m_R → Prop) : mt_T cd_MD_deliver 122 q Q = mt_go [o_aload 0] q (mt_kk cd_MD_deliver Q (o_callV sm_MD_concludeIfDone 9 1 126)) := mt_blk rfl q Q
theorem k_MD_deliver_126 (q : m_C) (Q : m_R → Prop) : mt_T cd_MD_deliver 126 q Q = mt_go [o_iload 3] q (mt_kk cd_MD_deliver Q (o_iret)) := mt_blk rfl q Q
-- TreeCarrierModel.on ()Z
noncomputable def cd_MD_on : List m_B := [(0, [o_aload 0, o_get 9 9], o_zret)]
noncomputable def sm_MD_on : List m_V → m_M → Option m_R := mt_sem cd_MD_on 1
theorem k_MD_on_0 (q : m_C) (Q : m_R → Prop) : mt_T cd_MD_on 0 q Q = mt_go [o_aload 0, o_get 9 9] q (mt_kk cd_MD_on Q (o_zret)) := mt_blk rfl q Q
-- TreeCarrierModel.waiting (I)I
noncomputable def cd_MD_waiting : List m_B := [(0, [o_iload 1, o_const (nI 1)], o_callS sm_MD_in 2 5), (5, [], o_ifeq 17 8), (8, [o_aload 0, o_get 9 17, o_iload 1, o_iald], o_fall 18), (17, [o_const (-1)], o_fall 18), (18, [], o_iret)]
noncomputable def sm_MD_waiting : List m_V → m_M → Option m_R := mt_sem cd_MD_waiting 2
theorem k_MD_waiting_0 (q : m_C) (Q : m_R → Prop) : mt_T cd_MD_waiting 0 q Q = mt_go [o_iload 1, o_const (nI 1)] q (mt_kk cd_MD_waiting Q (o_callS sm_MD_in 2 5)) := mt_blk rfl q Q
theorem k_MD_waiting_5 (q : m_C) (Q : m_R → Prop) : mt_T cd_MD_waiting 5 q Q = mt_go [] q (mt_kk cd_MD_waiting Q (o_ifeq 17 8)) := mt_blk rfl q Q
theorem k_MD_waiting_8 (q : m_C) (Q : m_R → Prop) : mt_T cd_MD_waiting 8 q Q = mt_go [o_aload 0, o_get 9 17, o_iload 1, o_iald] q (mt_kk cd_MD_waiting Q (o_fall 18)) := mt_blk rfl q Q
theorem k_MD_waiting_17 (q : m_C) (Q : m_R → Prop) : mt_T cd_MD_waiting 17 q Q = mt_go [o_const (-1)] q (mt_kk cd_MD_waiting Q (o_fall 18)) := mt_blk rfl q Q
theorem k_MD_waiting_18 (q : m_C) (Q : m_R → Prop) : mt_T cd_MD_waiting 18 q Q = mt_go [] q (mt_kk cd_MD_waiting Q (o_iret)) := mt_blk rfl q Q
-- TreeCarrierModel.next (I)I
noncomputable def cd_MD_next : List m_B := [(0, [o_iload 1, o_const (nI 1)], o_callS sm_MD_in 2 5), (5, [], o_ifeq 30 8), (8, [o_aload 0, o_get 9 17, o_iload 1, o_iald], o_ifle 30 17), (17, [o_aload 0, o_get 9 18, o_const (nI 1440), o_iload 1, o_mul, o_iald], o_fall 31), (30, [o_const (nI 0)], o_fall 31), (31, [], o_iret)]
noncomputable def sm_MD_next : List m_V → m_M → Option m_R := mt_sem cd_MD_next 2
theorem k_MD_next_0 (q : m_C) (Q : m_R → Prop) : mt_T cd_MD_next 0 q Q = mt_go [o_iload 1, o_const (nI 1)] q (mt_kk cd_MD_next Q (o_callS sm_MD_in 2 5)) := mt_blk rfl q Q
theorem k_MD_next_5 (q : m_C) (Q : m_R → Prop) : mt_T cd_MD_next 5 q Q = mt_go [] q (mt_kk cd_MD_next Q (o_ifeq 30 8)) := mt_blk rfl q Q
theorem k_MD_next_8 (q : m_C) (Q : m_R → Prop) : mt_T cd_MD_next 8 q Q = mt_go [o_aload 0, o_get 9 17, o_iload 1, o_iald] q (mt_kk cd_MD_next Q (o_ifle 30 17)) := mt_blk rfl q Q
theorem k_MD_next_17 (q : m_C) (Q : m_R → Prop) : mt_T cd_MD_next 17 q Q = mt_go [o_aload 0, o_get 9 18, o_const (nI 1440), o_iload 1, o_mul, o_iald] q (mt_kk cd_MD_next Q (o_fall 31)) := mt_blk rfl q Q
theorem k_MD_next_30 (q : m_C) (Q : m_R → Prop) : mt_T cd_MD_next 30 q Q = mt_go [o_const (nI 0)] q (mt_kk cd_MD_next Q (o_fall 31)) := mt_blk rfl q Q
theorem k_MD_next_31 (q : m_C) (Q : m_R → Prop) : mt_T cd_MD_next 31 q Q = mt_go [] q (mt_kk cd_MD_next Q (o_iret)) := mt_blk rfl q Q
-- TreeCarrierModel.journal ()I
noncomputable def cd_MD_journal : List m_B := [(0, [o_aload 0, o_get 9 20], o_iret)]
noncomputable def sm_MD_journal : List m_V → m_M → Option m_R := mt_sem cd_MD_journal 1
theorem k_MD_journal_0 (q : m_C) (Q : m_R → Prop) : mt_T cd_MD_journal 0 q Q = mt_go [o_aload 0, o_get 9 20] q (mt_kk cd_MD_journal Q (o_iret)) := mt_blk rfl q Q
-- TreeCarrierModel.count (I)I
noncomputable def cd_MD_count : List m_B := [(0, [o_iload 1, o_const (nI 7)], o_callS sm_MD_in 2 6), (6, [], o_ifeq 18 9), (9, [o_aload 0, o_get 9 27, o_iload 1, o_iald], o_fall 19), (18, [o_const (-1)], o_fall 19), (19, [], o_iret)]
noncomputable def sm_MD_count : List m_V → m_M → Option m_R := mt_sem cd_MD_count 2
theorem k_MD_count_0 (q : m_C) (Q : m_R → Prop) : mt_T cd_MD_count 0 q Q = mt_go [o_iload 1, o_const (nI 7)] q (mt_kk cd_MD_count Q (o_callS sm_MD_in 2 6)) := mt_blk rfl q Q
theorem k_MD_count_6 (q : m_C) (Q : m_R → Prop) : mt_T cd_MD_count 6 q Q = mt_go [] q (mt_kk cd_MD_count Q (o_ifeq 18 9)) := mt_blk rfl q Q
theorem k_MD_count_9 (q : m_C) (Q : m_R → Prop) : mt_T cd_MD_count 9 q Q = mt_go [o_aload 0, o_get 9 27, o_iload 1, o_iald] q (mt_kk cd_MD_count Q (o_fall 19)) := mt_blk rfl q Q
theorem k_MD_count_18 (q : m_C) (Q : m_R → Prop) : mt_T cd_MD_count 18 q Q = mt_go [o_const (-1)] q (mt_kk cd_MD_count Q (o_fall 19)) := mt_blk rfl q Q
theorem k_MD_count_19 (q : m_C) (Q : m_R → Prop) : mt_T cd_MD_count 19 q Q = mt_go [] q (mt_kk cd_MD_count Q (o_iret)) := mt_blk rfl q Q
noncomputable def cdL (sb L : Nat) (xs : Nat → Int32) : List m_B := [(0, [o_new 8 n_fs_TC, o_dup], o_callI sm_TC_init 1 7), (7, [o_astore 1, o_new 9 n_fs_MD, o_dup], o_callI sm_MD_init 1 15), (15, [o_astore 2, o_const (nI 0), o_istore 3], o_fall 18), (18, [o_iload 3, o_aload 0, o_slen sb L, o_const (nI 5), o_sub], o_icgt 618 26), (26, [o_aload 0, o_iload 3, o_sld sb L xs, o_const (nI 15), o_and], o_tsw 0 15 612 [112, 171, 214, 267, 300, 349, 372, 385, 398, 431, 474, 507, 530, 553, 576, 589]), (112, [o_aload 1, o_aload 0, o_iload 3, o_const (nI 1), o_add, o_sld sb L xs], o_ifeq 125 121), (121, [o_const (nI 1)], o_fall 126), (125, [o_const (nI 0)], o_fall 126), (126, [o_aload 0, o_iload 3, o_const (nI 2), o_add, o_sld sb L xs, o_aload 0, o_iload 3, o_const (nI 3), o_add, o_sld sb L xs], o_callV sm_TC_rule 8 4 139), (139, [o_aload 2, o_aload 0, o_iload 3, o_const (nI 1), o_add, o_sld sb L xs], o_ifeq 152 148), (148, [o_const (nI 1)], o_fall 153), (152, [o_const (nI 0)], o_fall 153), (153, [o_aload 0, o_iload 3, o_const (nI 2), o_add, o_sld sb L xs, o_aload 0, o_iload 3, o_const (nI 3), o_add, o_sld sb L xs], o_callV sm_MD_rule 9 4 166), (166, [], o_iceq 612 169), (169, [o_const (nI 0)], o_zret), (171, [o_aload 1, o_aload 0, o_iload 3, o_const (nI 1), o_add, o_sld sb L xs, o_aload 0, o_iload 3, o_const (nI 2), o_add, o_sld sb L xs, o_aload 0, o_iload 3, o_const (nI 3), o_add, o_sld sb L xs], o_callV sm_TC_put 8 4 190), (190, [o_aload 2, o_aload 0, o_iload 3, o_const (nI 1), o_add, o_sld sb L xs, o_aload 0, o_iload 3, o_const (nI 2), o_add, o_sld sb L xs, o_aload 0, o_iload 3, o_const (nI 3), o_add, o_sld sb L xs], o_callV sm_MD_put 9 4 209), (209, [], o_iceq 612 212), (212, [o_const (nI 0)], o_zret), (214, [o_aload 1, o_aload 0, o_iload 3, o_const (nI 1), o_add, o_sld sb L xs, o_aload 0, o_iload 3, o_const (nI 2), o_add, o_sld sb L xs, o_aload 0, o_iload 3, o_const (nI 3), o_add, o_sld sb L xs, o_aload 0, o_iload 3, o_const (nI 4), o_add, o_sld sb L xs], o_callV sm_TC_set 8 5 238), (238, [o_aload 2, o_aload 0, o_iload 3, o_const (nI 1), o_add, o_sld sb L xs, o_aload 0, o_iload 3, o_const (nI 2), o_add, o_sld sb L xs, o_aload 0, o_iload 3, o_const (nI 3), o_add, o_sld sb L xs, o_aload 0, o_iload 3, o_const (nI 4), o_add, o_sld sb L xs], o_callV sm_MD_set 9 5 262), (262, [], o_iceq 612 265), (265, [o_const (nI 0)], o_zret), (267, [o_aload 1, o_aload 0, o_iload 3, o_const (nI 1), o_add, o_sld sb L xs, o_aload 0, o_iload 3, o_const (nI 2), o_add, o_sld sb L xs], o_callV sm_TC_remove 8 3 281), (281, [o_aload 2, o_aload 0, o_iload 3, o_const (nI 1), o_add, o_sld sb L xs, o_aload 0, o_iload 3, o_const (nI 2), o_add, o_sld sb L xs], o_callV sm_MD_remove 9 3 295), (295, [], o_iceq 612 298), (298, [o_const (nI 0)], o_zret), (300, [o_aload 1, o_aload 0, o_iload 3, o_const (nI 1), o_add, o_sld sb L xs, o_aload 0, o_iload 3, o_const (nI 2), o_add, o_sld sb L xs], o_ifeq 318 314), (314, [o_const (nI 1)], o_fall 319), (318, [o_const (nI 0)], o_fall 319), (319, [], o_callV sm_TC_begin 8 3 322), (322, [o_aload 2, o_aload 0, o_iload 3, o_const (nI 1), o_add, o_sld sb L xs, o_aload 0, o_iload 3, o_const (nI 2), o_add, o_sld sb L xs], o_ifeq 340 336), (336, [o_const (nI 1)], o_fall 341), (340, [o_const (nI 0)], o_fall 341), (341, [], o_callV sm_MD_begin 9 3 344), (344, [], o_iceq 612 347), (347, [o_const (nI 0)], o_zret), (349, [o_aload 1, o_aload 0, o_iload 3, o_const (nI 1), o_add, o_sld sb L xs], o_callV sm_TC_deliver 8 2 358), (358, [o_aload 2, o_aload 0, o_iload 3, o_const (nI 1), o_add, o_sld sb L xs], o_callV sm_MD_deliver 9 2 367), (367, [], o_iceq 612 370), (370, [o_const (nI 0)], o_zret), (372, [o_aload 1], o_callV sm_TC_crash 8 1 376), (376, [o_aload 2], o_callV sm_MD_crash 9 1 380), (380, [], o_iceq 612 383), (383, [o_const (nI 0)], o_zret), (385, [o_aload 1], o_callV sm_TC_on 8 1 389), (389, [o_aload 2], o_callV sm_MD_on 9 1 393), (393, [], o_iceq 612 396), (396, [o_const (nI 0)], o_zret), (398, [o_aload 1, o_aload 0, o_iload 3, o_const (nI 1), o_add, o_sld sb L xs, o_aload 0, o_iload 3, o_const (nI 2), o_add, o_sld sb L xs], o_callV sm_TC_size 8 3 412), (412, [o_aload 2, o_aload 0, o_iload 3, o_const (nI 1), o_add, o_sld sb L xs, o_aload 0, o_iload 3, o_const (nI 2), o_add, o_sld sb L xs], o_callV sm_MD_size 9 3 426), (426, [], o_iceq 612 429), (429, [o_const (nI 0)], o_zret), (431, [o_aload 1, o_aload 0, o_iload 3, o_const (nI 1), o_add, o_sld sb L xs, o_aload 0, o_iload 3, o_const (nI 2), o_add, o_sld sb L xs, o_aload 0, o_iload 3, o_const (nI 3), o_add, o_sld sb L xs], o_callV sm_TC_at 8 4 450), (450, [o_aload 2, o_aload 0, o_iload 3, o_const (nI 1), o_add, o_sld sb L xs, o_aload 0, o_iload 3, o_const (nI 2), o_add, o_sld sb L xs, o_aload 0, o_iload 3, o_const (nI 3), o_add, o_sld sb L xs], o_callV sm_MD_at 9 4 469), (469, [], o_iceq 612 472), (472, [o_const (nI 0)], o_zret), (474, [o_aload 1, o_aload 0, o_iload 3, o_const (nI 1), o_add, o_sld sb L xs, o_aload 0, o_iload 3, o_const (nI 2), o_add, o_sld sb L xs], o_callV sm_TC_time 8 3 488), (488, [o_aload 2, o_aload 0, o_iload 3, o_const (nI 1), o_add, o_sld sb L xs, o_aload 0, o_iload 3, o_const (nI 2), o_add, o_sld sb L xs], o_callV sm_MD_time 9 3 502), (502, [], o_iceq 612 505), (505, [o_const (nI 0)], o_zret), (507, [o_aload 1, o_aload 0, o_iload 3, o_const (nI 1), o_add, o_sld sb L xs], o_callV sm_TC_selected 8 2 516), (516, [o_aload 2, o_aload 0, o_iload 3, o_const (nI 1), o_add, o_sld sb L xs], o_callV sm_MD_selected 9 2 525), (525, [], o_iceq 612 528), (528, [o_const (nI 0)], o_zret), (530, [o_aload 1, o_aload 0, o_iload 3, o_const (nI 1), o_add, o_sld sb L xs], o_callV sm_TC_waiting 8 2 539), (539, [o_aload 2, o_aload 0, o_iload 3, o_const (nI 1), o_add, o_sld sb L xs], o_callV sm_MD_waiting 9 2 548), (548, [], o_iceq 612 551), (551, [o_const (nI 0)], o_zret), (553, [o_aload 1, o_aload 0, o_iload 3, o_const (nI 1), o_add, o_sld sb L xs], o_callV sm_TC_next 8 2 562), (562, [o_aload 2, o_aload 0, o_iload 3, o_const (nI 1), o_add, o_sld sb L xs], o_callV sm_MD_next 9 2 571), (571, [], o_iceq 612 574), (574, [o_const (nI 0)], o_zret), (576, [o_aload 1], o_callV sm_TC_journal 8 1 580), (580, [o_aload 2], o_callV sm_MD_journal 9 1 584), (584, [], o_iceq 612 587), (587, [o_const (nI 0)], o_zret), (589, [o_aload 1, o_aload 0, o_iload 3, o_const (nI 1), o_add, o_sld sb L xs], o_callV sm_TC_count 8 2 598), (598, [o_aload 2, o_aload 0, o_iload 3, o_const (nI 1), o_add, o_sld sb L xs], o_callV sm_MD_count 9 2 607), (607, [], o_iceq 612 610), (610, [o_const (nI 0)], o_zret), (612, [o_iinc 3 (nI 5)], o_fall 18), (618, [o_const (nI 1)], o_zret)]
theorem kL_0 (sb L : Nat) (xs : Nat → Int32) (q : m_C) (Q : m_R → Prop) : mt_T (cdL sb L xs) 0 q Q = mt_go [o_new 8 n_fs_TC, o_dup] q (mt_kk (cdL sb L xs) Q (o_callI sm_TC_init 1 7)) := mt_blk rfl q Q
theorem kL_7 (sb L : Nat) (xs : Nat → Int32) (q : m_C) (Q : m_R → Prop) : mt_T (cdL sb L xs) 7 q Q = mt_go [o_astore 1, o_new 9 n_fs_MD, o_dup] q (mt_kk (cdL sb L xs) Q (o_callI sm_MD_init 1 15)) := mt_blk rfl q Q
theorem kL_15 (sb L : Nat) (xs : Nat → Int32) (q : m_C) (Q : m_R → Prop) : mt_T (cdL sb L xs) 15 q Q = mt_go [o_astore 2, o_const (nI 0), o_istore 3] q (mt_kk (cdL sb L xs) Q (o_fall 18)) := mt_blk rfl q Q
theorem kL_18 (sb L : Nat) (xs : Nat → Int32) (q : m_C) (Q : m_R → Prop) : mt_T (cdL sb L xs) 18 q Q = mt_go [o_iload 3, o_aload 0, o_slen sb L, o_const (nI 5), o_sub] q (mt_kk (cdL sb L xs) Q (o_icgt 618 26)) := mt_blk rfl q Q
theorem kL_26 (sb L : Nat) (xs : Nat → Int32) (q : m_C) (Q : m_R → Prop) : mt_T (cdL sb L xs) 26 q Q = mt_go [o_aload 0, o_iload 3, o_sld sb L xs, o_const (nI 15), o_and] q (mt_kk (cdL sb L xs) Q (o_tsw 0 15 612 [112, 171, 214, 267, 300, 349, 372, 385, 398, 431, 474, 507, 530, 553, 576, 589])) := mt_blk rfl q Q
theorem kL_112 (sb L : Nat) (xs : Nat → Int32) (q : m_C) (Q : m_R → Prop) : mt_T (cdL sb L xs) 112 q Q = mt_go [o_aload 1, o_aload 0, o_iload 3, o_const (nI 1), o_add, o_sld sb L xs] q (mt_kk (cdL sb L xs) Q (o_ifeq 125 121)) := mt_blk rfl q Q
theorem kL_121 (sb L : Nat) (xs : Nat → Int32) (q : m_C) (Q : m_R → Prop) : mt_T (cdL sb L xs) 121 q Q = mt_go [o_const (nI 1)] q (mt_kk (cdL sb L xs) Q (o_fall 126)) := mt_blk rfl q Q
theorem kL_125 (sb L : Nat) (xs : Nat → Int32) (q : m_C) (Q : m_R → Prop) : mt_T (cdL sb L xs) 125 q Q = mt_go [o_const (nI 0)] q (mt_kk (cdL sb L xs) Q (o_fall 126)) := mt_blk rfl q Q
theorem kL_126 (sb L : Nat) (xs : Nat → Int32) (q : m_C) (Q : m_R → Prop) : mt_T (cdL sb L xs) 126 q Q = mt_go [o_aload 0, o_iload 3, o_const (nI 2), o_add, o_sld sb L xs, o_aload 0, o_iload 3, o_const (nI 3), o_add, o_sld sb L xs] q (mt_kk (cdL sb L xs) Q (o_callV sm_TC_rule 8 4 139)) := mt_blk rfl q Q
theorem kL_139 (sb L : Nat) (xs : Nat → Int32) (q : m_C) (Q : m_R → Prop) : mt_T (cdL sb L xs) 139 q Q = mt_go [o_aload 2, o_aload 0, o_iload 3, o_const (nI 1), o_add, o_sld sb L xs] q (mt_kk (cdL sb L xs) Q (o_ifeq 152 148)) := mt_blk rfl q Q
theorem kL_148 (sb L : Nat) (xs : Nat → Int32) (q : m_C) (Q : m_R → Prop) : mt_T (cdL sb L xs) 148 q Q = mt_go [o_const (nI 1)] q (mt_kk (cdL sb L xs) Q (o_fall 153)) := mt_blk rfl q Q
theorem kL_152 (sb L : Nat) (xs : Nat → Int32) (q : m_C) (Q : m_R → Prop) : mt_T (cdL sb L xs) 152 q Q = mt_go [o_const (nI 0)] q (mt_kk (cdL sb L xs) Q (o_fall 153)) := mt_blk rfl q Q
theorem kL_153 (sb L : Nat) (xs : Nat → Int32) (q : m_C) (Q : m_R → Prop) : mt_T (cdL sb L xs) 153 q Q = mt_go [o_aload 0, o_iload 3, o_const (nI 2), o_add, o_sld sb L xs, o_aload 0, o_iload 3, o_const (nI 3), o_add, o_sld sb L xs] q (mt_kk (cdL sb L xs) Q (o_callV sm_MD_rule 9 4 166)) := mt_blk rfl q Q
theorem kL_166 (sb L : Nat) (xs : Nat → Int32) (q : m_C) (Q : m_R → Prop) : mt_T (cdL sb L xs) 166 q Q = mt_go [] q (mt_kk (cdL sb L xs) Q (o_iceq 612 169)) := mt_blk rfl q Q
theorem kL_169 (sb L : Nat) (xs : Nat → Int32) (q : m_C) (Q : m_R → Prop) : mt_T (cdL sb L xs) 169 q Q = mt_go [o_const (nI 0)] q (mt_kk (cdL sb L xs) Q (o_zret)) := mt_blk rfl q Q
theorem kL_171 (sb L : Nat) (xs : Nat → Int32) (q : m_C) (Q : m_R → Prop) : mt_T (cdL sb L xs) 171 q Q = mt_go [o_aload 1, o_aload 0, o_iload 3, o_const (nI 1), o_add, o_sld sb L xs, o_aload 0, o_iload 3, o_const (nI 2), o_add, o_sld sb L xs, o_aload 0, o_iload 3, o_const (nI 3), o_add, o_sld sb L xs] q (mt_kk (cdL sb L xs) Q (o_callV sm_TC_put 8 4 190)) := mt_blk rfl q Q
theorem kL_190 (sb L : Nat) (xs : Nat → Int32) (q : m_C) (Q : m_R → Prop) : mt_T (cdL sb L xs) 190 q Q = mt_go [o_aload 2, o_aload 0, o_iload 3, o_const (nI 1), o_add, o_sld sb L xs, o_aload 0, o_iload 3, o_const (nI 2), o_add, o_sld sb L xs, o_aload 0, o_iload 3, o_const (nI 3), o_add, o_sld sb L xs] q (mt_kk (cdL sb L xs) Q (o_callV sm_MD_put 9 4 209)) := mt_blk rfl q Q
theorem kL_209 (sb L : Nat) (xs : Nat → Int32) (q : m_C) (Q : m_R → Prop) : mt_T (cdL sb L xs) 209 q Q = mt_go [] q (mt_kk (cdL sb L xs) Q (o_iceq 612 212)) := mt_blk rfl q Q
theorem kL_212 (sb L : Nat) (xs : Nat → Int32) (q : m_C) (Q : m_R → Prop) : mt_T (cdL sb L xs) 212 q Q = mt_go [o_const (nI 0)] q (mt_kk (cdL sb L xs) Q (o_zret)) := mt_blk rfl q Q
theorem kL_214 (sb L : Nat) (xs : Nat → Int32) (q : m_C) (Q : m_R → Prop) : mt_T (cdL sb L xs) 214 q Q = mt_go [o_aload 1, o_aload 0, o_iload 3, o_const (nI 1), o_add, o_sld sb L xs, o_aload 0, o_iload 3, o_const (nI 2), o_add, o_sld sb L xs, o_aload 0, o_iload 3, o_const (nI 3), o_add, o_sld sb L xs, o_aload 0, o_iload 3, o_const (nI 4), o_add, o_sld sb L xs] q (mt_kk (cdL sb L xs) Q (o_callV sm_TC_set 8 5 238)) := mt_blk rfl q Q
theorem kL_238 (sb L : Nat) (xs : Nat → Int32) (q : m_C) (Q : m_R → Prop) : mt_T (cdL sb L xs) 238 q Q = mt_go [o_aload 2, o_aload 0, o_iload 3, o_const (nI 1), o_add, o_sld sb L xs, o_aload 0, o_iload 3, o_const (nI 2), o_add, o_sld sb L xs, o_aload 0, o_iload 3, o_const (nI 3), o_add, o_sld sb L xs, o_aload 0, o_iload 3, o_const (nI 4), o_add, o_sld sb L xs] q (mt_kk (cdL sb L xs) Q (o_callV sm_MD_set 9 5 262)) := mt_blk rfl q Q
theorem kL_262 (sb L : Nat) (xs : Nat → Int32) (q : m_C) (Q : m_R → Prop) : mt_T (cdL sb L xs) 262 q Q = mt_go [] q (mt_kk (cdL sb L xs) Q (o_iceq 612 265)) := mt_blk rfl q Q
theorem kL_265 (sb L : Nat) (xs : Nat → Int32) (q : m_C) (Q : m_R → Prop) : mt_T (cdL sb L xs) 265 q Q = mt_go [o_const (nI 0)] q (mt_kk (cdL sb L xs) Q (o_zret)) := mt_blk rfl q Q
theorem kL_267 (sb L : Nat) (xs : Nat → Int32) (q : m_C) (Q : m_R → Prop) : mt_T (cdL sb L xs) 267 q Q = mt_go [o_aload 1, o_aload 0, o_iload 3, o_const (nI 1), o_add, o_sld sb L xs, o_aload 0, o_iload 3, o_const (nI 2), o_add, o_sld sb L xs] q (mt_kk (cdL sb L xs) Q (o_callV sm_TC_remove 8 3 281)) := mt_blk rfl q Q
theorem kL_281 (sb L : Nat) (xs : Nat → Int32) (q : m_C) (Q : m_R → Prop) : mt_T (cdL sb L xs) 281 q Q = mt_go [o_aload 2, o_aload 0, o_iload 3, o_const (nI 1), o_add, o_sld sb L xs, o_aload 0, o_iload 3, o_const (nI 2), o_add, o_sld sb L xs] q (mt_kk (cdL sb L xs) Q (o_callV sm_MD_remove 9 3 295)) := mt_blk rfl q Q
theorem kL_295 (sb L : Nat) (xs : Nat → Int32) (q : m_C) (Q : m_R → Prop) : mt_T (cdL sb L xs) 295 q Q = mt_go [] q (mt_kk (cdL sb L xs) Q (o_iceq 612 298)) := mt_blk rfl q Q
theorem kL_298 (sb L : Nat) (xs : Nat → Int32) (q : m_C) (Q : m_R → Prop) : mt_T (cdL sb L xs) 298 q Q = mt_go [o_const (nI 0)] q (mt_kk (cdL sb L xs) Q (o_zret)) := mt_blk rfl q Q
theorem kL_300 (sb L : Nat) (xs : Nat → Int32) (q : m_C) (Q : m_R → Prop) : mt_T (cdL sb L xs) 300 q Q = mt_go [o_aload 1, o_aload 0, o_iload 3, o_const (nI 1), o_add, o_sld sb L xs, o_aload 0, o_iload 3, o_const (nI 2), o_add, o_sld sb L xs] q (mt_kk (cdL sb L xs) Q (o_ifeq 318 314)) := mt_blk rfl q Q
theorem kL_314 (sb L : Nat) (xs : Nat → Int32) (q : m_C) (Q : m_R → Prop) : mt_T (cdL sb L xs) 314 q Q = mt_go [o_const (nI 1)] q (mt_kk (cdL sb L xs) Q (o_fall 319)) := mt_blk rfl q Q
theorem kL_318 (sb L : Nat) (xs : Nat → Int32) (q : m_C) (Q : m_R → Prop) : mt_T (cdL sb L xs) 318 q Q = mt_go [o_const (nI 0)] q (mt_kk (cdL sb L xs) Q (o_fall 319)) := mt_blk rfl q Q
theorem kL_319 (sb L : Nat) (xs : Nat → Int32) (q : m_C) (Q : m_R → Prop) : mt_T (cdL sb L xs) 319 q Q = mt_go [] q (mt_kk (cdL sb L xs) Q (o_callV sm_TC_begin 8 3 322)) := mt_blk rfl q Q
theorem kL_322 (sb L : Nat) (xs : Nat → Int32) (q : m_C) (Q : m_R → Prop) : mt_T (cdL sb L xs) 322 q Q = mt_go [o_aload 2, o_aload 0, o_iload 3, o_const (nI 1), o_add, o_sld sb L xs, o_aload 0, o_iload 3, o_const (nI 2), o_add, o_sld sb L xs] q (mt_kk (cdL sb L xs) Q (o_ifeq 340 336)) := mt_blk rfl q Q
theorem kL_336 (sb L : Nat) (xs : Nat → Int32) (q : m_C) (Q : m_R → Prop) : mt_T (cdL sb L xs) 336 q Q = mt_go [o_const (nI 1)] q (mt_kk (cdL sb L xs) Q (o_fall 341)) := mt_blk rfl q Q
theorem kL_340 (sb L : Nat) (xs : Nat → Int32) (q : m_C) (Q : m_R → Prop) : mt_T (cdL sb L xs) 340 q Q = mt_go [o_const (nI 0)] q (mt_kk (cdL sb L xs) Q (o_fall 341)) := mt_blk rfl q Q
theorem kL_341 (sb L : Nat) (xs : Nat → Int32) (q : m_C) (Q : m_R → Prop) : mt_T (cdL sb L xs) 341 q Q = mt_go [] q (mt_kk (cdL sb L xs) Q (o_callV sm_MD_begin 9 3 344)) := mt_blk rfl q Q
theorem kL_344 (sb L : Nat) (xs : Nat → Int32) (q : m_C) (Q : m_R → Prop) : mt_T (cdL sb L xs) 344 q Q = mt_go [] q (mt_kk (cdL sb L xs) Q (o_iceq 612 347)) := mt_blk rfl q Q
theorem kL_347 (sb L : Nat) (xs : Nat → Int32) (q : m_C) (Q : m_R → Prop) : mt_T (cdL sb L xs) 347 q Q = mt_go [o_const (nI 0)] q (mt_kk (cdL sb L xs) Q (o_zret)) := mt_blk rfl q Q
theorem kL_349 (sb L : Nat) (xs : Nat → Int32) (q : m_C) (Q : m_R → Prop) : mt_T (cdL sb L xs) 349 q Q = mt_go [o_aload 1, o_aload 0, o_iload 3, o_const (nI 1), o_add, o_sld sb L xs] q (mt_kk (cdL sb L xs) Q (o_callV sm_TC_deliver 8 2 358)) := mt_blk rfl q Q
theorem kL_358 (sb L : Nat) (xs : Nat → Int32) (q : m_C) (Q : m_R → Prop) : mt_T (cdL sb L xs) 358 q Q = mt_go [o_aload 2, o_aload 0, o_iload 3, o_const (nI 1), o_add, o_sld sb L xs] q (mt_kk (cdL sb L xs) Q (o_callV sm_MD_deliver 9 2 367)) := mt_blk rfl q Q
theorem kL_367 (sb L : Nat) (xs : Nat → Int32) (q : m_C) (Q : m_R → Prop) : mt_T (cdL sb L xs) 367 q Q = mt_go [] q (mt_kk (cdL sb L xs) Q (o_iceq 612 370)) := mt_blk rfl q Q
theorem kL_370 (sb L : Nat) (xs : Nat → Int32) (q : m_C) (Q : m_R → Prop) : mt_T (cdL sb L xs) 370 q Q = mt_go [o_const (nI 0)] q (mt_kk (cdL sb L xs) Q (o_zret)) := mt_blk rfl q Q
theorem kL_372 (sb L : Nat) (xs : Nat → Int32) (q : m_C) (Q : m_R → Prop) : mt_T (cdL sb L xs) 372 q Q = mt_go [o_aload 1] q (mt_kk (cdL sb L xs) Q (o_callV sm_TC_crash 8 1 376)) := mt_blk rfl q Q
theorem kL_376 (sb L : Nat) (xs : Nat → Int32) (q : m_C) (Q : m_R → Prop) : mt_T (cdL sb L xs) 376 q Q = mt_go [o_aload 2] q (mt_kk (cdL sb L xs) Q (o_callV sm_MD_crash 9 1 380)) := mt_blk rfl q Q
theorem kL_380 (sb L : Nat) (xs : Nat → Int32) (q : m_C) (Q : m_R → Prop) : mt_T (cdL sb L xs) 380 q Q = mt_go [] q (mt_kk (cdL sb L xs) Q (o_iceq 612 383)) := mt_blk rfl q Q
theorem kL_383 (sb L : Nat) (xs : Nat → Int32) (q : m_C) (Q : m_R → Prop) : mt_T (cdL sb L xs) 383 q Q = mt_go [o_const (nI 0)] q (mt_kk (cdL sb L xs) Q (o_zret)) := mt_blk rfl q Q
theorem kL_385 (sb L : Nat) (xs : Nat → Int32) (q : m_C) (Q : m_R → Prop) : mt_T (cdL sb L xs) 385 q Q = mt_go [o_aload 1] q (mt_kk (cdL sb L xs) Q (o_callV sm_TC_on 8 1 389)) := mt_blk rfl q Q
theorem kL_389 (sb L : Nat) (xs : Nat → Int32) (q : m_C) (Q : m_R → Prop) : mt_T (cdL sb L xs) 389 q Q = mt_go [o_aload 2] q (mt_kk (cdL sb L xs) Q (o_callV sm_MD_on 9 1 393)) := mt_blk rfl q Q
theorem kL_393 (sb L : Nat) (xs : Nat → Int32) (q : m_C) (Q : m_R → Prop) : mt_T (cdL sb L xs) 393 q Q = mt_go [] q (mt_kk (cdL sb L xs) Q (o_iceq 612 396)) := mt_blk rfl q Q
theorem kL_396 (sb L : Nat) (xs : Nat → Int32) (q : m_C) (Q : m_R → Prop) : mt_T (cdL sb L xs) 396 q Q = mt_go [o_const (nI 0)] q (mt_kk (cdL sb L xs) Q (o_zret)) := mt_blk rfl q Q
theorem kL_398 (sb L : Nat) (xs : Nat → Int32) (q : m_C) (Q : m_R → Prop) : mt_T (cdL sb L xs) 398 q Q = mt_go [o_aload 1, o_aload 0, o_iload 3, o_const (nI 1), o_add, o_sld sb L xs, o_aload 0, o_iload 3, o_const (nI 2), o_add, o_sld sb L xs] q (mt_kk (cdL sb L xs) Q (o_callV sm_TC_size 8 3 412)) := mt_blk rfl q Q
theorem kL_412 (sb L : Nat) (xs : Nat → Int32) (q : m_C) (Q : m_R → Prop) : mt_T (cdL sb L xs) 412 q Q = mt_go [o_aload 2, o_aload 0, o_iload 3, o_const (nI 1), o_add, o_sld sb L xs, o_aload 0, o_iload 3, o_const (nI 2), o_add, o_sld sb L xs] q (mt_kk (cdL sb L xs) Q (o_callV sm_MD_size 9 3 426)) := mt_blk rfl q Q
theorem kL_426 (sb L : Nat) (xs : Nat → Int32) (q : m_C) (Q : m_R → Prop) : mt_T (cdL sb L xs) 426 q Q = mt_go [] q (mt_kk (cdL sb L xs) Q (o_iceq 612 429)) := mt_blk rfl q Q
theorem kL_429 (sb L : Nat) (xs : Nat → Int32) (q : m_C) (Q : m_R → Prop) : mt_T (cdL sb L xs) 429 q Q = mt_go [o_const (nI 0)] q (mt_kk (cdL sb L xs) Q (o_zret)) := mt_blk rfl q Q
theorem kL_431 (sb L : Nat) (xs : Nat → Int32) (q : m_C) (Q : m_R → Prop) : mt_T (cdL sb L xs) 431 q Q = mt_go [o_aload 1, o_aload 0, o_iload 3, o_const (nI 1), o_add, o_sld sb L xs, o_aload 0, o_iload 3, o_const (nI 2), o_add, o_sld sb L xs, o_aload 0, o_iload 3, o_const (nI 3), o_add, o_sld sb L xs] q (mt_kk (cdL sb L xs) Q (o_callV sm_TC_at 8 4 450)) := mt_blk rfl q Q
theorem kL_450 (sb L : Nat) (xs : Nat → Int32) (q : m_C) (Q : m_R → Prop) : mt_T (cdL sb L xs) 450 q Q = mt_go [o_aload 2, o_aload 0, o_iload 3, o_const (nI 1), o_add, o_sld sb L xs, o_aload 0, o_iload 3, o_const (nI 2), o_add, o_sld sb L xs, o_aload 0, o_iload 3, o_const (nI 3), o_add, o_sld sb L xs] q (mt_kk (cdL sb L xs) Q (o_callV sm_MD_at 9 4 469)) := mt_blk rfl q Q
theorem kL_469 (sb L : Nat) (xs : Nat → Int32) (q : m_C) (Q : m_R → Prop) : mt_T (cdL sb L xs) 469 q Q = mt_go [] q (mt_kk (cdL sb L xs) Q (o_iceq 612 472)) := mt_blk rfl q Q
theorem kL_472 (sb L : Nat) (xs : Nat → Int32) (q : m_C) (Q : m_R → Prop) : mt_T (cdL sb L xs) 472 q Q = mt_go [o_const (nI 0)] q (mt_kk (cdL sb L xs) Q (o_zret)) := mt_blk rfl q Q
theorem kL_474 (sb L : Nat) (xs : Nat → Int32) (q : m_C) (Q : m_R → Prop) : mt_T (cdL sb L xs) 474 q Q = mt_go [o_aload 1, o_aload 0, o_iload 3, o_const (nI 1), o_add, o_sld sb L xs, o_aload 0, o_iload 3, o_const (nI 2), o_add, o_sld sb L xs] q (mt_kk (cdL sb L xs) Q (o_callV sm_TC_time 8 3 488)) := mt_blk rfl q Q
theorem kL_488 (sb L : Nat) (xs : Nat → Int32) (q : m_C) (Q : m_R → Prop) : mt_T (cdL sb L xs) 488 q Q = mt_go [o_aload 2, o_aload 0, o_iload 3, o_const (nI 1), o_add, o_sld sb L xs, o_aload 0, o_iload 3, o_const (nI 2), o_add, o_sld sb L xs] q (mt_kk (cdL sb L xs) Q (o_callV sm_MD_time 9 3 502)) := mt_blk rfl q Q
theorem kL_502 (sb L : Nat) (xs : Nat → Int32) (q : m_C) (Q : m_R → Prop) : mt_T (cdL sb L xs) 502 q Q = mt_go [] q (mt_kk (cdL sb L xs) Q (o_iceq 612 505)) := mt_blk rfl q Q
theorem kL_505 (sb L : Nat) (xs : Nat → Int32) (q : m_C) (Q : m_R → Prop) : mt_T (cdL sb L xs) 505 q Q = mt_go [o_const (nI 0)] q (mt_kk (cdL sb L xs) Q (o_zret)) := mt_blk rfl q Q
theorem kL_507 (sb L : Nat) (xs : Nat → Int32) (q : m_C) (Q : m_R → Prop) : mt_T (cdL sb L xs) 507 q Q = mt_go [o_aload 1, o_aload 0, o_iload 3, o_const (nI 1), o_add, o_sld sb L xs] q (mt_kk (cdL sb L xs) Q (o_callV sm_TC_selected 8 2 516)) := mt_blk rfl q Q
theorem kL_516 (sb L : Nat) (xs : Nat → Int32) (q : m_C) (Q : m_R → Prop) : mt_T (cdL sb L xs) 516 q Q = mt_go [o_aload 2, o_aload 0, o_iload 3, o_const (nI 1), o_add, o_sld sb L xs] q (mt_kk (cdL sb L xs) Q (o_callV sm_MD_selected 9 2 525)) := mt_blk rfl q Q
theorem kL_525 (sb L : Nat) (xs : Nat → Int32) (q : m_C) (Q : m_R → Prop) : mt_T (cdL sb L xs) 525 q Q = mt_go [] q (mt_kk (cdL sb L xs) Q (o_iceq 612 528)) := mt_blk rfl q Q
theorem kL_528 (sb L : Nat) (xs : Nat → Int32) (q : m_C) (Q : m_R → Prop) : mt_T (cdL sb L xs) 528 q Q = mt_go [o_const (nI 0)] q (mt_kk (cdL sb L xs) Q (o_zret)) := mt_blk rfl q Q
theorem kL_530 (sb L : Nat) (xs : Nat → Int32) (q : m_C) (Q : m_R → Prop) : mt_T (cdL sb L xs) 530 q Q = mt_go [o_aload 1, o_aload 0, o_iload 3, o_const (nI 1), o_add, o_sld sb L xs] q (mt_kk (cdL sb L xs) Q (o_callV sm_TC_waiting 8 2 539)) := mt_blk rfl q Q
theorem kL_539 (sb L : Nat) (xs : Nat → Int32) (q : m_C) (Q : m_R → Prop) : mt_T (cdL sb L xs) 539 q Q = mt_go [o_aload 2, o_aload 0, o_iload 3, o_const (nI 1), o_add, o_sld sb L xs] q (mt_kk (cdL sb L xs) Q (o_callV sm_MD_waiting 9 2 548)) := mt_blk rfl q Q
theorem kL_548 (sb L : Nat) (xs : Nat → Int32) (q : m_C) (Q : m_R → Prop) : mt_T (cdL sb L xs) 548 q Q = mt_go [] q (mt_kk (cdL sb L xs) Q (o_iceq 612 551)) := mt_blk rfl q Q
theorem kL_551 (sb L : Nat) (xs : Nat → Int32) (q : m_C) (Q : m_R → Prop) : mt_T (cdL sb L xs) 551 q Q = mt_go [o_const (nI 0)] q (mt_kk (cdL sb L xs) Q (o_zret)) := mt_blk rfl q Q
theorem kL_553 (sb L : Nat) (xs : Nat → Int32) (q : m_C) (Q : m_R → Prop) : mt_T (cdL sb L xs) 553 q Q = mt_go [o_aload 1, o_aload 0, o_iload 3, o_const (nI 1), o_add, o_sld sb L xs] q (mt_kk (cdL sb L xs) Q (o_callV sm_TC_next 8 2 562)) := mt_blk rfl q Q
theorem kL_562 (sb L : Nat) (xs : Nat → Int32) (q : m_C) (Q : m_R → Prop) : mt_T (cdL sb L xs) 562 q Q = mt_go [o_aload 2, o_aload 0, o_iload 3, o_const (nI 1), o_add, o_sld sb L xs] q (mt_kk (cdL sb L xs) Q (o_callV sm_MD_next 9 2 571)) := mt_blk rfl q Q
theorem kL_571 (sb L : Nat) (xs : Nat → Int32) (q : m_C) (Q : m_R → Prop) : mt_T (cdL sb L xs) 571 q Q = mt_go [] q (mt_kk (cdL sb L xs) Q (o_iceq 612 574)) := mt_blk rfl q Q
theorem kL_574 (sb L : Nat) (xs : Nat → Int32) (q : m_C) (Q : m_R → Prop) : mt_T (cdL sb L xs) 574 q Q = mt_go [o_const (nI 0)] q (mt_kk (cdL sb L xs) Q (o_zret)) := mt_blk rfl q Q
theorem kL_576 (sb L : Nat) (xs : Nat → Int32) (q : m_C) (Q : m_R → Prop) : mt_T (cdL sb L xs) 576 q Q = mt_go [o_aload 1] q (mt_kk (cdL sb L xs) Q (o_callV sm_TC_journal 8 1 580)) := mt_blk rfl q Q
theorem kL_580 (sb L : Nat) (xs : Nat → Int32) (q : m_C) (Q : m_R → Prop) : mt_T (cdL sb L xs) 580 q Q = mt_go [o_aload 2] q (mt_kk (cdL sb L xs) Q (o_callV sm_MD_journal 9 1 584)) := mt_blk rfl q Q
theorem kL_584 (sb L : Nat) (xs : Nat → Int32) (q : m_C) (Q : m_R → Prop) : mt_T (cdL sb L xs) 584 q Q = mt_go [] q (mt_kk (cdL sb L xs) Q (o_iceq 612 587)) := mt_blk rfl q Q
theorem kL_587 (sb L : Nat) (xs : Nat → Int32) (q : m_C) (Q : m_R → Prop) : mt_T (cdL sb L xs) 587 q Q = mt_go [o_const (nI 0)] q (mt_kk (cdL sb L xs) Q (o_zret)) := mt_blk rfl q Q
theorem kL_589 (sb L : Nat) (xs : Nat → Int32) (q : m_C) (Q : m_R → Prop) : mt_T (cdL sb L xs) 589 q Q = mt_go [o_aload 1, o_aload 0, o_iload 3, o_const (nI 1), o_add, o_sld sb L xs] q (mt_kk (cdL sb L xs) Q (o_callV sm_TC_count 8 2 598)) := mt_blk rfl q Q
theorem kL_598 (sb L : Nat) (xs : Nat → Int32) (q : m_C) (Q : m_R → Prop) : mt_T (cdL sb L xs) 598 q Q = mt_go [o_aload 2, o_aload 0, o_iload 3, o_const (nI 1), o_add, o_sld sb L xs] q (mt_kk (cdL sb L xs) Q (o_callV sm_MD_count 9 2 607)) := mt_blk rfl q Q
theorem kL_607 (sb L : Nat) (xs : Nat → Int32) (q : m_C) (Q : m_R → Prop) : mt_T (cdL sb L xs) 607 q Q = mt_go [] q (mt_kk (cdL sb L xs) Q (o_iceq 612 610)) := mt_blk rfl q Q
theorem kL_610 (sb L : Nat) (xs : Nat → Int32) (q : m_C) (Q : m_R → Prop) : mt_T (cdL sb L xs) 610 q Q = mt_go [o_const (nI 0)] q (mt_kk (cdL sb L xs) Q (o_zret)) := mt_blk rfl q Q
theorem kL_612 (sb L : Nat) (xs : Nat → Int32) (q : m_C) (Q : m_R → Prop) : mt_T (cdL sb L xs) 612 q Q = mt_go [o_iinc 3 (nI 5)] q (mt_kk (cdL sb L xs) Q (o_fall 18)) := mt_blk rfl q Q
theorem kL_618 (sb L : Nat) (xs : Nat → Int32) (q : m_C) (Q : m_R → Prop) : mt_T (cdL sb L xs) 618 q Q = mt_go [o_const (nI 1)] q (mt_kk (cdL sb L xs) Q (o_zret)) := mt_blk rfl q Q
end
section
/-! The small machine over the kit: what its memory is in the heap, and that each of its ops is sound at its instruction. -/
def lw_good : List Cond := lw_tbl.filter goodWord
theorem lw_good_ok {w : Cond} (h : w ∈ lw_good) : (w.onTables && w.keeps) = true ∨ ∃ ty, w = .arrayClass ty := by
  have h2 := (List.mem_filter.mp h).2
  unfold goodWord at h2
  split at h2
  · exact Or.inr ⟨_, rfl⟩
  · exact Or.inl h2
def tv : m_V → Value
  | .inl x => .int x
  | .inr r => va_rf r
theorem tv_cat (x : m_V) : (tv x).category = 1 := by
  cases x with
  | inl _ => rfl
  | inr r => cases r <;> rfl
def te (ca : Nat → ClassId) : m_E → va_E
  | .inl (c, fs) => .inr (c, fs.map tv)
  | .inr (t, n, .inl f) => .inl (ca t, n, .inl f)
  | .inr (t, n, .inr f) => .inl (ca t, n, .inr (.inr (.inr (.inr f))))
def tm (ca : Nat → ClassId) (f : Nat → Option m_E) : Nat → va_E := fun a => match f a with
  | some e => te ca e
  | none => .inr (0, [])
theorem tm_at {ca : Nat → ClassId} {f : Nat → Option m_E} {a : Nat} {e : m_E} (h : f a = some e) : tm ca f a = te ca e := by
  unfold tm
  rw [h]
theorem tm_up {ca : Nat → ClassId} {f : Nat → Option m_E} {a : Nat} {e : m_E} : tm ca (va_up f a (some e)) = va_up (tm ca f) a (te ca e) := by
  funext b
  unfold tm va_up
  by_cases h : b = a
  · simp [h]
  · simp [h]
def mt_rg (b0 n : Nat) : List Nat := List.range' b0 (n - b0)
def mt_ws (ca : Nat → ClassId) (b0 : Nat) (M : m_M) : va_W := va_pl (mt_rg b0 M.1) (tm ca M.2.2)
def mt_A (b0 : Nat) : Nat → Prop := fun q => b0 ≤ q
def mt_wf (b0 : Nat) (M : m_M) : Prop := ∀ (a : Nat) (e : m_E), M.2.2 a = some e → b0 ≤ a ∧ a < M.1
theorem mt_mem {b0 n a : Nat} : a ∈ mt_rg b0 n ↔ b0 ≤ a ∧ a < n := by
  unfold mt_rg
  rw [List.mem_range'_1]
  omega
theorem mt_push {b0 n : Nat} (h : b0 ≤ n) : mt_rg b0 (n + 1) = mt_rg b0 n ++ [n] := by
  unfold mt_rg
  rw [show n + 1 - b0 = (n - b0) + 1 by omega, List.range'_concat]
  congr 2
  omega
theorem mt_at {ca : Nat → ClassId} {b0 i : Nat} {M : m_M} {q : Nat × va_E} (h : (mt_ws ca b0 M)[i]? = some q) : q.1 = b0 + i ∧ b0 ≤ q.1 ∧ q.1 < M.1 := by
  unfold mt_ws va_pl at h
  rw [List.getElem?_map] at h
  cases hb : (mt_rg b0 M.1)[i]? with
  | none => rw [hb] at h; cases h
  | some a =>
    rw [hb] at h
    have h' : (a, tm ca M.2.2 a) = q := Option.some.inj h
    subst h'
    unfold mt_rg at hb
    obtain ⟨hl, he⟩ := List.getElem?_eq_some_iff.mp hb
    rw [List.getElem_range'] at he
    rw [List.length_range'] at hl
    refine ⟨?_, ?_, ?_⟩
    · show a = b0 + i
      omega
    · show b0 ≤ a
      omega
    · show a < M.1
      omega
theorem mt_D (ca : Nat → ClassId) (b0 : Nat) (M : m_M) : va_D (mt_A b0) (mt_ws ca b0 M) := by
  refine ⟨fun i j p q hi hj hpq => ?_, fun k q hk => (mt_at hk).2.1⟩
  have h1 := (mt_at hi).1
  have h2 := (mt_at hj).1
  omega
theorem mt_pl {ca : Nat → ClassId} {b0 a : Nat} {M : m_M} {e : m_E} (hw : mt_wf b0 M) (h : M.2.2 a = some e) : ∃ k : Nat, (mt_ws ca b0 M)[k]? = some (a, te ca e) := by
  obtain ⟨k, hk⟩ := va_pl_get (X := []) (f := tm ca M.2.2) (mt_mem.mpr (hw a e h))
  rw [tm_at h] at hk
  exact ⟨k, hk⟩
theorem mt_set {ca : Nat → ClassId} {b0 a k : Nat} {M : m_M} {e0 e : m_E} (hw : mt_wf b0 M) (h : M.2.2 a = some e0) (hk : (mt_ws ca b0 M)[k]? = some (a, te ca e0)) : (mt_ws ca b0 M).set k (a, te ca e) = mt_ws ca b0 (mup M a e) := by
  have hk2 : ([] ++ va_pl (mt_rg b0 M.1) (tm ca M.2.2))[k]? = some (a, tm ca M.2.2 a) := by
    rw [tm_at h]
    exact hk
  have h3 := va_pl_set (X := []) (e := te ca e) (mt_D ca b0 M) (mt_mem.mpr (hw a e0 h)) hk2
  show (va_pl (mt_rg b0 M.1) (tm ca M.2.2)).set k (a, te ca e) = va_pl (mt_rg b0 M.1) (tm ca (va_up M.2.2 a (some e)))
  rw [tm_up]
  exact h3
theorem mt_new {ca : Nat → ClassId} {b0 w : Nat} {M : m_M} {e : m_E} (h : b0 ≤ M.1) : mt_ws ca b0 M ++ [(M.1, te ca e)] = mt_ws ca b0 (mnew M w e) := by
  show va_pl (mt_rg b0 M.1) (tm ca M.2.2) ++ [(M.1, te ca e)] = va_pl (mt_rg b0 (M.1 + 1)) (tm ca (va_up M.2.2 M.1 (some e)))
  rw [mt_push h, tm_up]
  exact va_pl_push (fun q => by have := (mt_mem.mp q).2; omega)
theorem wf_up {b0 a : Nat} {M : m_M} {e0 e : m_E} (hw : mt_wf b0 M) (h : M.2.2 a = some e0) : mt_wf b0 (mup M a e) := by
  intro b e1 h1
  by_cases hb : b = a
  · subst hb
    exact hw _ _ h
  · have h2 : M.2.2 b = some e1 := by
      simp only [mup, va_up, hb, if_false] at h1
      exact h1
    exact hw _ _ h2
theorem wf_new {b0 w : Nat} {M : m_M} {e : m_E} (hw : mt_wf b0 M) (h : b0 ≤ M.1) : mt_wf b0 (mnew M w e) := by
  intro b e1 h1
  by_cases hb : b = M.1
  · subst hb
    exact ⟨h, Nat.lt_succ_self _⟩
  · have h2 : M.2.2 b = some e1 := by
      simp only [mnew, va_up, hb, if_false] at h1
      exact h1
    have h3 := hw _ _ h2
    exact ⟨h3.1, Nat.lt_succ_of_lt h3.2⟩
-- locals
def ml : Nat → List (Option m_V) → List (Nat × Value)
  | _, [] => []
  | i, none :: t => ml (i + 1) t
  | i, some x :: t => (i, tv x) :: ml (i + 1) t
theorem ml_mem {q : Nat × Value} : ∀ {L : List (Option m_V)} {i : Nat}, q ∈ ml i L → ∃ (j : Nat) (x : m_V), q = (i + j, tv x) ∧ lget L j = some x
  | [], i, h => by cases h
  | none :: t, i, h => by
    obtain ⟨j, x, h1, h2⟩ := ml_mem (L := t) (i := i + 1) h
    exact ⟨j + 1, x, by rw [h1, Nat.add_assoc, Nat.add_comm 1 j], h2⟩
  | some y :: t, i, h => by
    rcases List.mem_cons.mp h with h | h
    · exact ⟨0, y, h, rfl⟩
    · obtain ⟨j, x, h1, h2⟩ := ml_mem (L := t) (i := i + 1) h
      exact ⟨j + 1, x, by rw [h1, Nat.add_assoc, Nat.add_comm 1 j], h2⟩
theorem ml_in {x : m_V} : ∀ {L : List (Option m_V)} {i j : Nat}, lget L j = some x → (i + j, tv x) ∈ ml i L
  | [], i, j, h => by simp [lget] at h
  | none :: t, i, 0, h => by simp [lget] at h
  | some y :: t, i, 0, h => by
    simp only [lget, Option.some.injEq] at h
    subst h
    exact List.mem_cons_self
  | none :: t, i, j + 1, h => by
    have h2 := ml_in (i := i + 1) (show lget t j = some x from h)
    rw [Nat.add_assoc, Nat.add_comm 1 j] at h2
    exact h2
  | some y :: t, i, j + 1, h => by
    have h2 := ml_in (i := i + 1) (show lget t j = some x from h)
    rw [Nat.add_assoc, Nat.add_comm 1 j] at h2
    exact List.mem_cons_of_mem _ h2
theorem lget_put {x y : m_V} : ∀ {L : List (Option m_V)} {i j : Nat}, lget (lput L i x) j = some y → (j = i ∧ y = x) ∨ (j ≠ i ∧ lget L j = some y)
  | [], i, j, h => by simp [lput, lget] at h
  | a :: t, 0, 0, h => by
    simp only [lput, lget, Option.some.injEq] at h
    exact Or.inl ⟨rfl, h.symm⟩
  | a :: t, 0, j + 1, h => Or.inr ⟨by omega, h⟩
  | a :: t, i + 1, 0, h => Or.inr ⟨by omega, h⟩
  | a :: t, i + 1, j + 1, h => by
    rcases lget_put (L := t) (i := i) (j := j) h with ⟨h1, h2⟩ | ⟨h1, h2⟩
    · exact Or.inl ⟨by omega, h2⟩
    · exact Or.inr ⟨by omega, h2⟩
theorem lget_at {ls : Array Slot} {nL i : Nat} {L : List (Option m_V)} {x : m_V} (h : lv_has ls nL (ml 0 L)) (hl : lget L i = some x) : ls[i]? = some (.val (tv x)) := by
  have h2 := ml_in (i := 0) hl
  rw [Nat.zero_add] at h2
  exact h.2.2 _ h2
theorem lput_at {ls : Array Slot} {nL i : Nat} {L : List (Option m_V)} {x : m_V} (h : lv_has ls nL ((i, tv x) :: (ml 0 L).filter (fun q => !(q.1 == i) && !(q.1 + 1 == i && q.2.category == 2)))) : lv_has ls nL (ml 0 (lput L i x)) := by
  refine ⟨h.1, h.2.1, fun q hq => h.2.2 q ?_⟩
  obtain ⟨j, y, h1, h2⟩ := ml_mem hq
  rw [Nat.zero_add] at h1
  subst h1
  rcases lget_put h2 with ⟨h3, h4⟩ | ⟨h3, h4⟩
  · subst h3; subst h4
    exact List.mem_cons_self
  · refine List.mem_cons_of_mem _ (List.mem_filter.mpr ⟨?_, ?_⟩)
    · have h5 := ml_in (i := 0) h4
      rw [Nat.zero_add] at h5
      exact h5
    · have h6 := tv_cat y
      simp [h3, h6]
theorem ml_args : ∀ (n i : Nat) (av : List m_V) (q : Nat × Value), q ∈ ml i (mt_l0 n av) → q ∈ lv_args i (av.map tv)
  | 0, i, av, q, h => by cases h
  | n + 1, i, [], q, h => by
    have h2 := ml_args n (i + 1) [] q h
    cases h2
  | n + 1, i, x :: t, q, h => by
    have hc : (if (tv x).category = 2 then i + 2 else i + 1) = i + 1 := by rw [tv_cat]; rfl
    show q ∈ (i, tv x) :: lv_args (if (tv x).category = 2 then i + 2 else i + 1) (t.map tv)
    rw [hc]
    rcases List.mem_cons.mp h with h | h
    · rw [h]; exact List.mem_cons_self
    · exact List.mem_cons_of_mem _ (ml_args n (i + 1) t q h)
theorem tv_len : ∀ (av : List m_V), (lg_sl (av.map tv)).length = av.length
  | [] => rfl
  | x :: t => by
    have h := tv_len t
    have hc := tv_cat x
    simp only [lg_sl, List.map_cons, List.flatMap_cons, List.length_append] at h ⊢
    rw [h, hc]
    simp
    omega
theorem tv_sum : ∀ (st : List m_V), ((st.map tv).map fun v => v.category).sum = st.length
  | [] => rfl
  | x :: t => by
    have h := tv_sum t
    have hc := tv_cat x
    simp only [List.map_cons, List.sum_cons, List.length_cons]
    rw [h, hc]
    omega
theorem mt_pop_ok : ∀ (n : Nat) (acc st av st' : List m_V), mt_pop n acc st = some (av, st') → av.reverse ++ st' = acc.reverse ++ st ∧ av.length = acc.length + n
  | 0, acc, st, av, st', h => by
    simp only [mt_pop, Option.some.injEq, Prod.mk.injEq] at h
    rw [h.1, h.2]
    exact ⟨rfl, rfl⟩
  | n + 1, acc, [], av, st', h => by simp [mt_pop] at h
  | n + 1, acc, x :: st, av, st', h => by
    obtain ⟨h1, h2⟩ := mt_pop_ok n (x :: acc) st av st' h
    rw [h1]
    refine ⟨by simp, ?_⟩
    rw [h2, List.length_cons]
    omega
-- array classes, and what goes with every state
def mt_tys (ca : Nat → ClassId) : List (ClassId × FieldType) := [(ca 0, .int), (ca 1, .boolean), (ca 2, .object "TreeCarrier$Message"), (ca 3, .object "TreeCarrier$StoredFile"), (ca 4, .object "TreeCarrier$Entry"), (ca 5, .object "TreeCarrier$JournalRecord")]
def mt_isN : Cond → Bool
  | .fieldLinkNest .. => true
  | .methodLinkNest .. => true
  | _ => false
theorem lw_nest_is : lw_nest.all mt_isN = true := by decide +kernel
theorem mt_isN_on {w : Cond} (h : mt_isN w = true) : w.onTables = true := by
  unfold mt_isN at h
  split at h
  · rfl
  · rfl
  · cases h
theorem mt_isN_warm {w : Cond} (h : mt_isN w = true) {s U : State} (hW : s.WarmedH U.vm) (hz : va_Nw w s) : va_Nw w U := by
  unfold mt_isN at h
  split at h
  · exact va_Nw.warmF hW hz
  · exact va_Nw.warmM hW hz
  · cases h
def mt_K (D : va_G) (ca : Nat → ClassId) (U : State) : Prop := va_K D mCl (mt_tys ca) U ∧ (∀ w ∈ lw_nest, va_Nw w U) ∧ va_AO "TreeCarrier$Message" U ∧ va_AO "TreeCarrier$StoredFile" U ∧ va_AO "TreeCarrier$Entry" U ∧ va_AO "TreeCarrier$JournalRecord" U
theorem mt_K_warm {D : va_G} {ca : Nat → ClassId} {s U : State} (hW : s.WarmedH U.vm) (h : mt_K D ca s) : mt_K D ca U :=
  ⟨va_K.moved hW.alike h.1, fun w hw => mt_isN_warm (List.all_eq_true.mp lw_nest_is w hw) hW (h.2.1 w hw), va_AO.moved hW.alike h.2.2.1, va_AO.moved hW.alike h.2.2.2.1, va_AO.moved hW.alike h.2.2.2.2.1, va_AO.moved hW.alike h.2.2.2.2.2⟩
theorem mt_K_same {D : va_G} {ca : Nat → ClassId} {u U : State} (hv : u.vm = U.vm) (h : mt_K D ca u) : mt_K D ca U := by
  have ha : u.vm.Alike U.vm := by rw [hv]; exact Vm.Alike.refl U.vm
  exact ⟨va_K.moved ha h.1, fun w hw => va_Nw.same (mt_isN_on (List.all_eq_true.mp lw_nest_is w hw)) hv (h.2.1 w hw), va_AO.moved ha h.2.2.1, va_AO.moved ha h.2.2.2.1, va_AO.moved ha h.2.2.2.2.1, va_AO.moved ha h.2.2.2.2.2⟩
/-- a method's world at its start, and its end -/
def mt_U (D : va_G) (ca : Nat → ClassId) (b0 : Nat) (M : m_M) (U : State) : Prop := U.heap.size = M.1 ∧ b0 ≤ M.1 ∧ mt_wf b0 M ∧ va_P D mCl (mt_ws ca b0 M) U.heap ∧ mt_K D ca U
def mt_Q (D : va_G) (ca : Nat → ClassId) (b0 : Nat) (v : Option m_V) (M : m_M) : Array Value → State → Outcome → State → Prop := fun _ s o t => o = .returned (v.map tv) ∧ mt_wf b0 M ∧ va_P D mCl (mt_ws ca b0 M) t.heap ∧ va_F (mt_A b0) s t
def mt_mo (M M1 : m_M) : Prop := M.1 ≤ M1.1 ∧ M.2.1 ≤ M1.2.1
theorem mt_mo0 {M : m_M} : mt_mo M M := ⟨Nat.le_refl _, Nat.le_refl _⟩
theorem mt_mo2 {M M1 M2 : m_M} (h : mt_mo M M1) (h2 : mt_mo M1 M2) : mt_mo M M2 := ⟨Nat.le_trans h.1 h2.1, Nat.le_trans h.2 h2.2⟩
/-- method y, of frames fr and locals lo, called with av on memory M, returns v with memory M' -/
def mt_Ok (l : Launch) (D : va_G) (ca : Nat → ClassId) (b0 : Nat) (y : MethodName) (cc : ByteArray) (nL : Nat) (ret : Option FieldType) (fr lo : Nat) (av : List m_V) (M : m_M) (v : Option m_V) (M' : m_M) : Prop :=
  Met l y (.code y cc nL ret :: lw_good) { frames := fr, cells := M'.1 - M.1, slots := M'.2.1 - M.2.1, locals := lo } (va_Pc (av.map tv) (mt_U D ca b0 M)) (mt_Q D ca b0 v M') (M'.1 - M.1) (M'.2.1 - M.2.1) (mt_A b0)
def mt_OkS (y : MethodName) (cc : ByteArray) (nL : Nat) (ret : Option FieldType) (fr lo : Nat) (sem : List m_V → m_M → Option m_R) : Prop :=
  ∀ (av : List m_V) (M : m_M) (r : m_R), av.length ≤ nL → sem av M = some r → mt_mo M r.2 ∧ ∀ (l : Launch) (D : va_G) (ca : Nat → ClassId) (b0 : Nat), mt_Ok l D ca b0 y cc nL ret fr lo av M r.1 r.2
/-- which return instruction goes with which answer -/
def mt_ret (cc : ByteArray) (ret : Option FieldType) (pc : Nat) (v : Option m_V) : Prop :=
  (decode cc pc = .ok (.return_, 1) ∧ ret = none ∧ v = none) ∨
  (decode cc pc = .ok (.ireturn, 1) ∧ ∃ (ty : FieldType) (x : Int32), ret = some ty ∧ v = some (.inl x) ∧ narrow ty (.int x) = .int x) ∨
  (decode cc pc = .ok (.areturn, 1) ∧ ∃ (n : String) (x : Option Nat), ret = some (.object n) ∧ v = some (.inr x))
/-- the machine stands in a method's body at pc with q, and will come to Q -/
def mt_G (p : Program) (l : Launch) (e : Env) (R : Room) (s : State) (m : MethodId) (args : Array Value) (below : List Frame) (meth : Method) (c : Code) (Q : State → Prop) (nL : Nat) (D : va_G) (ca : Nat → ClassId) (b0 w0 : Nat) (M' : m_M) (pc : Nat) (q : m_C) : Prop :=
  (q.2.2.1 ≤ M'.1 ∧ q.2.2.2.1 ≤ M'.2.1) ∧ (mt_wf b0 q.2.2 → ∀ (H : Heap) (locs : List Loc) (ls : Array Slot) (cells slots : Nat), va_P D mCl (mt_ws ca b0 q.2.2) H → va_S (mt_A b0) s.heap H locs → cells + s.heap.size = q.2.2.1 → slots + w0 = q.2.2.2.1 → lv_has ls nL (ml 0 q.1) → W p l e R s m args below meth c H locs cells slots Q (F0 m pc ls (q.2.1.map tv)))
def mt_C (p : Program) (l : Launch) (e : Env) (R : Room) (s : State) (m : MethodId) (args : Array Value) (below : List Frame) (meth : Method) (c : Code) (Q : State → Prop) (cc : ByteArray) (nL : Nat) (own nm : String) (ret : Option FieldType) (fr lo : Nat) (D : va_G) (ca : Nat → ClassId) (b0 w0 : Nat) (v : Option m_V) (M' : m_M) : Prop :=
  p.tables.exec = Jvm.exec ∧ c.code = cc ∧ c.maxLocals = nL ∧ s.vm.findClass own = some m.cls ∧ (∀ w ∈ lw_good, w.before args s = true) ∧ mt_K D ca s ∧ b0 ≤ s.heap.size ∧ (fr ≤ R.frames ∧ lo ≤ R.locals ∧ M'.1 ≤ R.cells + s.heap.size ∧ M'.2.1 ≤ R.slots + w0) ∧ meth.name = nm ∧
  ∀ (H : Heap) (locs : List Loc) (ls : Array Slot) (cells slots pc : Nat), mt_ret cc ret pc v → mt_wf b0 M' → va_P D mCl (mt_ws ca b0 M') H → va_S (mt_A b0) s.heap H locs → cells + s.heap.size = M'.1 → slots + w0 = M'.2.1 → W p l e R s m args below meth c H locs cells slots Q (F0 m pc ls (v.toList.map tv))
/-- a plain op, from pc to pc'; a block's last op, at pc: heap and slots only grow, and the machine follows -/
def mt_Sp (Z : Nat → State → Prop) (cc : ByteArray) (nL : Nat) (own nm : String) (ret : Option FieldType) (fr lo pc pc' : Nat) (o : m_S) : Prop :=
  ∀ (q q' : m_C), o q = some q' → mt_mo q.2.2 q'.2.2 ∧ ∀ (p : Program) (l : Launch) (e : Env) (R : Room) (s : State) (m : MethodId) (args : Array Value) (below : List Frame) (meth : Method) (c : Code) (Q : State → Prop) (D : va_G) (ca : Nat → ClassId) (b0 w0 : Nat) (v : Option m_V) (M' : m_M),
    mt_C p l e R s m args below meth c Q cc nL own nm ret fr lo D ca b0 w0 v M' → Z b0 s → mt_G p l e R s m args below meth c Q nL D ca b0 w0 M' pc' q' → mt_G p l e R s m args below meth c Q nL D ca b0 w0 M' pc q
def mt_Sl (Z : Nat → State → Prop) (cc : ByteArray) (nL : Nat) (own nm : String) (ret : Option FieldType) (fr lo pc : Nat) (o : m_O) : Prop :=
  ∀ (q : m_C) (z : (Nat × m_C) ⊕ m_R), o q = some z → (∀ x, z = .inl x → mt_mo q.2.2 x.2.2.2) ∧ (∀ r, z = .inr r → mt_mo q.2.2 r.2) ∧ ∀ (p : Program) (l : Launch) (e : Env) (R : Room) (s : State) (m : MethodId) (args : Array Value) (below : List Frame) (meth : Method) (c : Code) (Q : State → Prop) (D : va_G) (ca : Nat → ClassId) (b0 w0 : Nat) (v : Option m_V) (M' : m_M),
    mt_C p l e R s m args below meth c Q cc nL own nm ret fr lo D ca b0 w0 v M' → Z b0 s →
    (∀ x, z = .inl x → mt_G p l e R s m args below meth c Q nL D ca b0 w0 M' x.1 x.2) → (∀ r, z = .inr r → r = (v, M')) → mt_G p l e R s m args below meth c Q nL D ca b0 w0 M' pc q
section SB
variable {Z : Nat → State → Prop} {cc : ByteArray} {nL : Nat} {own nm : String} {ret : Option FieldType} {fr lo pc pc' : Nat}
theorem mt_nil {last : m_O} (h : mt_Sl Z cc nL own nm ret fr lo pc last) : mt_Sl Z cc nL own nm ret fr lo pc (mt_b ([], last)) := h
theorem mt_cons {o : m_S} {ops : List m_S} {last : m_O} (h1 : mt_Sp Z cc nL own nm ret fr lo pc pc' o) (h2 : mt_Sl Z cc nL own nm ret fr lo pc' (mt_b (ops, last))) : mt_Sl Z cc nL own nm ret fr lo pc (mt_b (o :: ops, last)) := by
  intro q z hq
  simp only [mt_b, mt_seq] at hq
  cases ho : o q with
  | none => simp [ho] at hq
  | some q1 =>
    simp only [ho] at hq
    obtain ⟨ha, hb⟩ := h1 q q1 ho
    obtain ⟨hc, hd, he⟩ := h2 q1 z hq
    exact ⟨fun x hx => mt_mo2 ha (hc x hx), fun r hr => mt_mo2 ha (hd r hr), fun p l e R s m args below meth c Q D ca b0 w0 v M' C hz hg hr => hb p l e R s m args below meth c Q D ca b0 w0 v M' C hz (he p l e R s m args below meth c Q D ca b0 w0 v M' C hz hg hr)⟩
/-- a method's code is sound: each of its blocks is -/
def mt_Sc (Z : Nat → State → Prop) (cc : ByteArray) (nL : Nat) (own nm : String) (ret : Option FieldType) (fr lo : Nat) (code : List m_B) : Prop := ∀ x ∈ code, mt_Sl Z cc nL own nm ret fr lo x.1 (mt_b x.2)
theorem mt_sc0 : mt_Sc Z cc nL own nm ret fr lo [] := fun x h => by cases h
theorem mt_sc1 {x : m_B} {t : List m_B} (h1 : mt_Sl Z cc nL own nm ret fr lo x.1 (mt_b x.2)) (h2 : mt_Sc Z cc nL own nm ret fr lo t) : mt_Sc Z cc nL own nm ret fr lo (x :: t) := fun y hy => by
  rcases List.mem_cons.mp hy with h | h
  · rw [h]; exact h1
  · exact h2 y h
theorem mt_cd_mem {i : Nat} {y : List m_S × m_O} : ∀ {code : List m_B}, mt_cd code i = some y → (i, y) ∈ code
  | [], h => by simp [mt_cd] at h
  | x :: t, h => by
    simp only [mt_cd] at h
    split at h
    · next he =>
      have h2 : x.2 = y := Option.some.inj h
      rw [← he, ← h2]
      exact List.mem_cons_self
    · exact List.mem_cons_of_mem _ (mt_cd_mem h)
theorem mt_grow {code : List m_B} {r : m_R} (hs : mt_Sc Z cc nL own nm ret fr lo code) : ∀ (n pc : Nat) (q : m_C), mt_run code n pc q = some r → mt_mo q.2.2 r.2
  | 0, pc, q, h => by simp [mt_run] at h
  | n + 1, pc, q, h => by
    simp only [mt_run] at h
    cases h1 : mt_cd code pc with
    | none => simp [h1] at h
    | some x =>
      simp only [h1] at h
      cases h2 : mt_b x q with
      | none => simp [h2] at h
      | some z =>
        simp only [h2] at h
        obtain ⟨ha, hb, -⟩ := hs _ (mt_cd_mem h1) q z h2
        cases z with
        | inl y => exact mt_mo2 (ha y rfl) (mt_grow hs n y.1 y.2 h)
        | inr r' =>
          have h3 : r' = r := Option.some.inj h
          rw [← h3]
          exact hb r' rfl
theorem mt_sound {p : Program} {l : Launch} {e : Env} {R : Room} {s : State} {m : MethodId} {args : Array Value} {below : List Frame} {meth : Method} {c : Code} {Q : State → Prop} {D : va_G} {ca : Nat → ClassId} {b0 w0 : Nat} {v : Option m_V} {M' : m_M} {code : List m_B}
    (hs : mt_Sc Z cc nL own nm ret fr lo code) (C : mt_C p l e R s m args below meth c Q cc nL own nm ret fr lo D ca b0 w0 v M') (hz : Z b0 s) : ∀ (n pc : Nat) (q : m_C), mt_run code n pc q = some (v, M') → mt_G p l e R s m args below meth c Q nL D ca b0 w0 M' pc q
  | 0, pc, q, h => by simp [mt_run] at h
  | n + 1, pc, q, h => by
    simp only [mt_run] at h
    cases h1 : mt_cd code pc with
    | none => simp [h1] at h
    | some x =>
      simp only [h1] at h
      cases h2 : mt_b x q with
      | none => simp [h2] at h
      | some z =>
        simp only [h2] at h
        refine (hs _ (mt_cd_mem h1) q z h2).2.2 p l e R s m args below meth c Q D ca b0 w0 v M' C hz (fun y hy => ?_) (fun r hr => ?_)
        · subst hy
          exact mt_sound hs C hz n y.1 y.2 h
        · subst hr
          exact Option.some.inj h
end SB
/-- the heap is no larger than the room that was used -/
theorem mt_size {p : Program} {l : Launch} {e : Env} {R : Room} {s : State} {m : MethodId} {args : Array Value} {below : List Frame} {meth : Method} {c : Code} {Q : State → Prop} {H : Heap} {locs : List Loc} {cells slots : Nat} {g : JFrame} (k : H.size ≤ s.heap.size + cells → W p l e R s m args below meth c H locs cells slots Q g) : W p l e R s m args below meth c H locs cells slots Q g := by
  intro T hT X
  refine k ?_ T hT X
  have h := X.same.2.2.1
  have h2 : (T.setVm s.vm).heap = H := hT
  rw [h2] at h
  exact h
theorem va_at_lt {D : va_G} {cl : List vw_C} {q : Nat × va_E} {H : Heap} (h : va_at D cl q H) : q.1 < H.size := h.lt
theorem mt_size2 {s : State} {D : va_G} {ca : Nat → ClassId} {b0 : Nat} {M : m_M} {H : Heap} {locs : List Loc} (hb : b0 ≤ s.heap.size) (hP : va_P D mCl (mt_ws ca b0 M) H) (hS : va_S (mt_A b0) s.heap H locs) (hM : s.heap.size ≤ M.1) : M.1 ≤ H.size := by
  by_cases h : s.heap.size < M.1
  · obtain ⟨k, hk⟩ := va_pl_get (X := []) (f := tm ca M.2.2) (mt_mem.mpr (show b0 ≤ M.1 - 1 ∧ M.1 - 1 < M.1 by omega))
    have h2 := va_at_lt (hP k _ hk)
    simp only at h2
    omega
  · have := hS.1
    omega

section SN
variable {Z : Nat → State → Prop} {cc : ByteArray} {nL : Nat} {own nm : String} {ret : Option FieldType} {fr lo pc n : Nat}
theorem sn_iconst {i : Int} {x : Int32} (d : decode cc pc = .ok (.iconst i, 1)) (hv : Int32.ofInt i = x) (hn : pc + 1 = n) : mt_Sp Z cc nL own nm ret fr lo pc n (o_const x) := by
  rintro ⟨lv, st, M⟩ q' hq
  simp only [o_const, reduceCtorEq, Option.some.injEq] at hq
  subst hq
  subst hn
  exact ⟨mt_mo0, fun p l e R s m args below meth c Q D ca b0 w0 v M' C hz hg => ⟨hg.1, fun hw H locs ls cells slots h1 h2 h3 h4 h5 => lv_iconst C.1 C.2.1 d hv (hg.2 hw H locs ls cells slots h1 h2 h3 h4 h5)⟩⟩
theorem sn_bipush {i : Int} {x : Int32} (d : decode cc pc = .ok (.bipush i, 2)) (hv : (Int8.ofInt i).toInt32 = x) (hn : pc + 2 = n) : mt_Sp Z cc nL own nm ret fr lo pc n (o_const x) := by
  rintro ⟨lv, st, M⟩ q' hq
  simp only [o_const, reduceCtorEq, Option.some.injEq] at hq
  subst hq
  subst hn
  exact ⟨mt_mo0, fun p l e R s m args below meth c Q D ca b0 w0 v M' C hz hg => ⟨hg.1, fun hw H locs ls cells slots h1 h2 h3 h4 h5 => lv_bipush C.1 C.2.1 d hv (hg.2 hw H locs ls cells slots h1 h2 h3 h4 h5)⟩⟩
theorem sn_sipush {i : Int} {x : Int32} (d : decode cc pc = .ok (.sipush i, 3)) (hv : (Int16.ofInt i).toInt32 = x) (hn : pc + 3 = n) : mt_Sp Z cc nL own nm ret fr lo pc n (o_const x) := by
  rintro ⟨lv, st, M⟩ q' hq
  simp only [o_const, reduceCtorEq, Option.some.injEq] at hq
  subst hq
  subst hn
  exact ⟨mt_mo0, fun p l e R s m args below meth c Q D ca b0 w0 v M' C hz hg => ⟨hg.1, fun hw H locs ls cells slots h1 h2 h3 h4 h5 => lv_sipush C.1 C.2.1 d hv (hg.2 hw H locs ls cells slots h1 h2 h3 h4 h5)⟩⟩
theorem sn_ldc {i : Nat} {x : Int32} (d : decode cc pc = .ok (.ldc i, 2)) (hword : Cond.constant own i x ∈ lw_good) (hn : pc + 2 = n) : mt_Sp Z cc nL own nm ret fr lo pc n (o_const x) := by
  rintro ⟨lv, st, M⟩ q' hq
  simp only [o_const, reduceCtorEq, Option.some.injEq] at hq
  subst hq
  subst hn
  exact ⟨mt_mo0, fun p l e R s m args below meth c Q D ca b0 w0 v M' C hz hg => ⟨hg.1, fun hw H locs ls cells slots h1 h2 h3 h4 h5 => lv_ldc C.1 C.2.1 C.2.2.2.1 (C.2.2.2.2.1 _ hword) d (hg.2 hw H locs ls cells slots h1 h2 h3 h4 h5)⟩⟩
theorem sn_null (d : decode cc pc = .ok (.aconst_null, 1)) (hn : pc + 1 = n) : mt_Sp Z cc nL own nm ret fr lo pc n (o_null) := by
  rintro ⟨lv, st, M⟩ q' hq
  simp only [o_null, reduceCtorEq, Option.some.injEq] at hq
  subst hq
  subst hn
  exact ⟨mt_mo0, fun p l e R s m args below meth c Q D ca b0 w0 v M' C hz hg => ⟨hg.1, fun hw H locs ls cells slots h1 h2 h3 h4 h5 => lv_null C.1 C.2.1 d (hg.2 hw H locs ls cells slots h1 h2 h3 h4 h5)⟩⟩
theorem sn_add (d : decode cc pc = .ok (.iadd, 1)) (hn : pc + 1 = n) : mt_Sp Z cc nL own nm ret fr lo pc n (o_add) := by
  rintro ⟨lv, st, M⟩ q' hq
  rcases st with _ | ⟨y | y, _ | ⟨x | x, st⟩⟩ <;> simp only [o_add, reduceCtorEq, Option.some.injEq] at hq
  subst hq
  subst hn
  exact ⟨mt_mo0, fun p l e R s m args below meth c Q D ca b0 w0 v M' C hz hg => ⟨hg.1, fun hw H locs ls cells slots h1 h2 h3 h4 h5 => lv_iadd C.1 C.2.1 d (hg.2 hw H locs ls cells slots h1 h2 h3 h4 h5)⟩⟩
theorem sn_sub (d : decode cc pc = .ok (.isub, 1)) (hn : pc + 1 = n) : mt_Sp Z cc nL own nm ret fr lo pc n (o_sub) := by
  rintro ⟨lv, st, M⟩ q' hq
  rcases st with _ | ⟨y | y, _ | ⟨x | x, st⟩⟩ <;> simp only [o_sub, reduceCtorEq, Option.some.injEq] at hq
  subst hq
  subst hn
  exact ⟨mt_mo0, fun p l e R s m args below meth c Q D ca b0 w0 v M' C hz hg => ⟨hg.1, fun hw H locs ls cells slots h1 h2 h3 h4 h5 => lv_isub C.1 C.2.1 d (hg.2 hw H locs ls cells slots h1 h2 h3 h4 h5)⟩⟩
theorem sn_mul (d : decode cc pc = .ok (.imul, 1)) (hn : pc + 1 = n) : mt_Sp Z cc nL own nm ret fr lo pc n (o_mul) := by
  rintro ⟨lv, st, M⟩ q' hq
  rcases st with _ | ⟨y | y, _ | ⟨x | x, st⟩⟩ <;> simp only [o_mul, reduceCtorEq, Option.some.injEq] at hq
  subst hq
  subst hn
  exact ⟨mt_mo0, fun p l e R s m args below meth c Q D ca b0 w0 v M' C hz hg => ⟨hg.1, fun hw H locs ls cells slots h1 h2 h3 h4 h5 => lv_imul C.1 C.2.1 d (hg.2 hw H locs ls cells slots h1 h2 h3 h4 h5)⟩⟩
theorem sn_and (d : decode cc pc = .ok (.iand, 1)) (hn : pc + 1 = n) : mt_Sp Z cc nL own nm ret fr lo pc n (o_and) := by
  rintro ⟨lv, st, M⟩ q' hq
  rcases st with _ | ⟨y | y, _ | ⟨x | x, st⟩⟩ <;> simp only [o_and, reduceCtorEq, Option.some.injEq] at hq
  subst hq
  subst hn
  exact ⟨mt_mo0, fun p l e R s m args below meth c Q D ca b0 w0 v M' C hz hg => ⟨hg.1, fun hw H locs ls cells slots h1 h2 h3 h4 h5 => lv_iand C.1 C.2.1 d (hg.2 hw H locs ls cells slots h1 h2 h3 h4 h5)⟩⟩
theorem sn_xor (d : decode cc pc = .ok (.ixor, 1)) (hn : pc + 1 = n) : mt_Sp Z cc nL own nm ret fr lo pc n (o_xor) := by
  rintro ⟨lv, st, M⟩ q' hq
  rcases st with _ | ⟨y | y, _ | ⟨x | x, st⟩⟩ <;> simp only [o_xor, reduceCtorEq, Option.some.injEq] at hq
  subst hq
  subst hn
  exact ⟨mt_mo0, fun p l e R s m args below meth c Q D ca b0 w0 v M' C hz hg => ⟨hg.1, fun hw H locs ls cells slots h1 h2 h3 h4 h5 => lv_ixor C.1 C.2.1 d (hg.2 hw H locs ls cells slots h1 h2 h3 h4 h5)⟩⟩
theorem sn_div (d : decode cc pc = .ok (.idiv, 1)) (hn : pc + 1 = n) : mt_Sp Z cc nL own nm ret fr lo pc n o_div := by
  rintro ⟨lv, st, M⟩ q' hq
  rcases st with _ | ⟨y | y, _ | ⟨x | x, st⟩⟩ <;> simp only [o_div, reduceCtorEq, Option.some.injEq] at hq
  by_cases hne : y = 0
  · rw [if_pos hne] at hq; cases hq
  · rw [if_neg hne] at hq
    have hq := Option.some.inj hq
    subst hq
    subst hn
    exact ⟨mt_mo0, fun p l e R s m args below meth c Q D ca b0 w0 v M' C hz hg => ⟨hg.1, fun hw H locs ls cells slots h1 h2 h3 h4 h5 => lv_idiv C.1 C.2.1 d hne (hg.2 hw H locs ls cells slots h1 h2 h3 h4 h5)⟩⟩
theorem sn_rem (d : decode cc pc = .ok (.irem, 1)) (hn : pc + 1 = n) : mt_Sp Z cc nL own nm ret fr lo pc n o_rem := by
  rintro ⟨lv, st, M⟩ q' hq
  rcases st with _ | ⟨y | y, _ | ⟨x | x, st⟩⟩ <;> simp only [o_rem, reduceCtorEq, Option.some.injEq] at hq
  by_cases hne : y = 0
  · rw [if_pos hne] at hq; cases hq
  · rw [if_neg hne] at hq
    have hq := Option.some.inj hq
    subst hq
    subst hn
    exact ⟨mt_mo0, fun p l e R s m args below meth c Q D ca b0 w0 v M' C hz hg => ⟨hg.1, fun hw H locs ls cells slots h1 h2 h3 h4 h5 => lv_irem C.1 C.2.1 d hne (hg.2 hw H locs ls cells slots h1 h2 h3 h4 h5)⟩⟩
theorem sn_dup (d : decode cc pc = .ok (.dup, 1)) (hn : pc + 1 = n) : mt_Sp Z cc nL own nm ret fr lo pc n (o_dup) := by
  rintro ⟨lv, st, M⟩ q' hq
  rcases st with _ | ⟨x, st⟩ <;> simp only [o_dup, reduceCtorEq, Option.some.injEq] at hq
  subst hq
  subst hn
  exact ⟨mt_mo0, fun p l e R s m args below meth c Q D ca b0 w0 v M' C hz hg => ⟨hg.1, fun hw H locs ls cells slots h1 h2 h3 h4 h5 => lv_dup C.1 C.2.1 d (tv_cat x) (hg.2 hw H locs ls cells slots h1 h2 h3 h4 h5)⟩⟩
theorem sn_dup2 (d : decode cc pc = .ok (.dup2, 1)) (hn : pc + 1 = n) : mt_Sp Z cc nL own nm ret fr lo pc n (o_dup2) := by
  rintro ⟨lv, st, M⟩ q' hq
  rcases st with _ | ⟨x, _ | ⟨y, st⟩⟩ <;> simp only [o_dup2, reduceCtorEq, Option.some.injEq] at hq
  subst hq
  subst hn
  exact ⟨mt_mo0, fun p l e R s m args below meth c Q D ca b0 w0 v M' C hz hg => ⟨hg.1, fun hw H locs ls cells slots h1 h2 h3 h4 h5 => lv_dup2_11 C.1 C.2.1 d (tv_cat x) (tv_cat y) (hg.2 hw H locs ls cells slots h1 h2 h3 h4 h5)⟩⟩
theorem sn_pop (d : decode cc pc = .ok (.pop, 1)) (hn : pc + 1 = n) : mt_Sp Z cc nL own nm ret fr lo pc n (o_pop) := by
  rintro ⟨lv, st, M⟩ q' hq
  rcases st with _ | ⟨x, st⟩ <;> simp only [o_pop, reduceCtorEq, Option.some.injEq] at hq
  subst hq
  subst hn
  exact ⟨mt_mo0, fun p l e R s m args below meth c Q D ca b0 w0 v M' C hz hg => ⟨hg.1, fun hw H locs ls cells slots h1 h2 h3 h4 h5 => lv_pop C.1 C.2.1 d (tv_cat x) (hg.2 hw H locs ls cells slots h1 h2 h3 h4 h5)⟩⟩
theorem sn_iload_n {k : Fin 4} {i : Nat} (hi : (k : Nat) = i) (d : decode cc pc = .ok (.iload_n k, 1)) (hn : pc + 1 = n) : mt_Sp Z cc nL own nm ret fr lo pc n (o_iload i) := by
  rintro ⟨lv, st, M⟩ q' hq
  simp only [o_iload] at hq
  cases hl : lget lv i with
  | none => simp [hl] at hq
  | some x =>
    simp only [hl] at hq
    subst hn
    cases x with
    | inr x => simp at hq
    | inl x =>
      simp only [Option.some.injEq] at hq
      subst hq
      exact ⟨mt_mo0, fun p l e R s m args below meth c Q D ca b0 w0 v M' C hz hg => ⟨hg.1, fun hw H locs ls cells slots h1 h2 h3 h4 h5 => lv_iload_n C.1 C.2.1 d hi (lget_at h5 hl) (hg.2 hw H locs ls cells slots h1 h2 h3 h4 h5)⟩⟩
theorem sn_iload {i : Nat} (d : decode cc pc = .ok (.iload i, 2)) (hn : pc + 2 = n) : mt_Sp Z cc nL own nm ret fr lo pc n (o_iload i) := by
  rintro ⟨lv, st, M⟩ q' hq
  simp only [o_iload] at hq
  cases hl : lget lv i with
  | none => simp [hl] at hq
  | some x =>
    simp only [hl] at hq
    subst hn
    cases x with
    | inr x => simp at hq
    | inl x =>
      simp only [Option.some.injEq] at hq
      subst hq
      exact ⟨mt_mo0, fun p l e R s m args below meth c Q D ca b0 w0 v M' C hz hg => ⟨hg.1, fun hw H locs ls cells slots h1 h2 h3 h4 h5 => lv_iload C.1 C.2.1 d (lget_at h5 hl) (hg.2 hw H locs ls cells slots h1 h2 h3 h4 h5)⟩⟩
theorem sn_aload_n {k : Fin 4} {i : Nat} (hi : (k : Nat) = i) (d : decode cc pc = .ok (.aload_n k, 1)) (hn : pc + 1 = n) : mt_Sp Z cc nL own nm ret fr lo pc n (o_aload i) := by
  rintro ⟨lv, st, M⟩ q' hq
  simp only [o_aload] at hq
  cases hl : lget lv i with
  | none => simp [hl] at hq
  | some x =>
    simp only [hl] at hq
    subst hn
    cases x with
    | inl x => simp at hq
    | inr x =>
      simp only [Option.some.injEq] at hq
      subst hq
      cases x with
      | none => exact ⟨mt_mo0, fun p l e R s m args below meth c Q D ca b0 w0 v M' C hz hg => ⟨hg.1, fun hw H locs ls cells slots h1 h2 h3 h4 h5 => lv_aload_nN C.1 C.2.1 d hi (lget_at h5 hl) (hg.2 hw H locs ls cells slots h1 h2 h3 h4 h5)⟩⟩
      | some x => exact ⟨mt_mo0, fun p l e R s m args below meth c Q D ca b0 w0 v M' C hz hg => ⟨hg.1, fun hw H locs ls cells slots h1 h2 h3 h4 h5 => lv_aload_n C.1 C.2.1 d hi (lget_at h5 hl) (hg.2 hw H locs ls cells slots h1 h2 h3 h4 h5)⟩⟩
theorem sn_aload {i : Nat} (d : decode cc pc = .ok (.aload i, 2)) (hn : pc + 2 = n) : mt_Sp Z cc nL own nm ret fr lo pc n (o_aload i) := by
  rintro ⟨lv, st, M⟩ q' hq
  simp only [o_aload] at hq
  cases hl : lget lv i with
  | none => simp [hl] at hq
  | some x =>
    simp only [hl] at hq
    subst hn
    cases x with
    | inl x => simp at hq
    | inr x =>
      simp only [Option.some.injEq] at hq
      subst hq
      cases x with
      | none => exact ⟨mt_mo0, fun p l e R s m args below meth c Q D ca b0 w0 v M' C hz hg => ⟨hg.1, fun hw H locs ls cells slots h1 h2 h3 h4 h5 => lv_aloadN C.1 C.2.1 d (lget_at h5 hl) (hg.2 hw H locs ls cells slots h1 h2 h3 h4 h5)⟩⟩
      | some x => exact ⟨mt_mo0, fun p l e R s m args below meth c Q D ca b0 w0 v M' C hz hg => ⟨hg.1, fun hw H locs ls cells slots h1 h2 h3 h4 h5 => lv_aload C.1 C.2.1 d (lget_at h5 hl) (hg.2 hw H locs ls cells slots h1 h2 h3 h4 h5)⟩⟩
theorem sn_istore_n {k : Fin 4} {i : Nat} (hi : (k : Nat) = i) (d : decode cc pc = .ok (.istore_n k, 1)) (hi2 : i < nL) (hn : pc + 1 = n) : mt_Sp Z cc nL own nm ret fr lo pc n (o_istore i) := by
  rintro ⟨lv, st, M⟩ q' hq
  rcases st with _ | ⟨x | x, st⟩ <;> simp only [o_istore, reduceCtorEq, Option.some.injEq] at hq
  subst hq
  subst hn
  exact ⟨mt_mo0, fun p l e R s m args below meth c Q D ca b0 w0 v M' C hz hg => ⟨hg.1, fun hw H locs ls cells slots h1 h2 h3 h4 h5 => lv_istore_n C.1 C.2.1 d hi h5 hi2 rfl (fun ls' h6 => hg.2 hw H locs ls' cells slots h1 h2 h3 h4 (lput_at h6))⟩⟩
theorem sn_istore {i : Nat} (d : decode cc pc = .ok (.istore i, 2)) (hi2 : i < nL) (hn : pc + 2 = n) : mt_Sp Z cc nL own nm ret fr lo pc n (o_istore i) := by
  rintro ⟨lv, st, M⟩ q' hq
  rcases st with _ | ⟨x | x, st⟩ <;> simp only [o_istore, reduceCtorEq, Option.some.injEq] at hq
  subst hq
  subst hn
  exact ⟨mt_mo0, fun p l e R s m args below meth c Q D ca b0 w0 v M' C hz hg => ⟨hg.1, fun hw H locs ls cells slots h1 h2 h3 h4 h5 => lv_istore C.1 C.2.1 d h5 hi2 rfl (fun ls' h6 => hg.2 hw H locs ls' cells slots h1 h2 h3 h4 (lput_at h6))⟩⟩
theorem sn_astore_n {k : Fin 4} {i : Nat} (hi : (k : Nat) = i) (d : decode cc pc = .ok (.astore_n k, 1)) (hi2 : i < nL) (hn : pc + 1 = n) : mt_Sp Z cc nL own nm ret fr lo pc n (o_astore i) := by
  rintro ⟨lv, st, M⟩ q' hq
  rcases st with _ | ⟨x | x, st⟩ <;> simp only [o_astore, reduceCtorEq, Option.some.injEq] at hq
  subst hq
  subst hn
  cases x with
  | none => exact ⟨mt_mo0, fun p l e R s m args below meth c Q D ca b0 w0 v M' C hz hg => ⟨hg.1, fun hw H locs ls cells slots h1 h2 h3 h4 h5 => lv_astore_nN C.1 C.2.1 d hi h5 hi2 rfl (fun ls' h6 => hg.2 hw H locs ls' cells slots h1 h2 h3 h4 (lput_at h6))⟩⟩
  | some x => exact ⟨mt_mo0, fun p l e R s m args below meth c Q D ca b0 w0 v M' C hz hg => ⟨hg.1, fun hw H locs ls cells slots h1 h2 h3 h4 h5 => lv_astore_n C.1 C.2.1 d hi h5 hi2 rfl (fun ls' h6 => hg.2 hw H locs ls' cells slots h1 h2 h3 h4 (lput_at h6))⟩⟩
theorem sn_astore {i : Nat} (d : decode cc pc = .ok (.astore i, 2)) (hi2 : i < nL) (hn : pc + 2 = n) : mt_Sp Z cc nL own nm ret fr lo pc n (o_astore i) := by
  rintro ⟨lv, st, M⟩ q' hq
  rcases st with _ | ⟨x | x, st⟩ <;> simp only [o_astore, reduceCtorEq, Option.some.injEq] at hq
  subst hq
  subst hn
  cases x with
  | none => exact ⟨mt_mo0, fun p l e R s m args below meth c Q D ca b0 w0 v M' C hz hg => ⟨hg.1, fun hw H locs ls cells slots h1 h2 h3 h4 h5 => lv_astoreN C.1 C.2.1 d h5 hi2 rfl (fun ls' h6 => hg.2 hw H locs ls' cells slots h1 h2 h3 h4 (lput_at h6))⟩⟩
  | some x => exact ⟨mt_mo0, fun p l e R s m args below meth c Q D ca b0 w0 v M' C hz hg => ⟨hg.1, fun hw H locs ls cells slots h1 h2 h3 h4 h5 => lv_astore C.1 C.2.1 d h5 hi2 rfl (fun ls' h6 => hg.2 hw H locs ls' cells slots h1 h2 h3 h4 (lput_at h6))⟩⟩
theorem sn_iinc {i : Nat} {k : Int} {x : Int32} (d : decode cc pc = .ok (.iinc i k, 3)) (hi2 : i < nL) (hv : Int32.ofInt k = x) (hn : pc + 3 = n) : mt_Sp Z cc nL own nm ret fr lo pc n (o_iinc i x) := by
  rintro ⟨lv, st, M⟩ q' hq
  simp only [o_iinc] at hq
  cases hl : lget lv i with
  | none => simp [hl] at hq
  | some y =>
    simp only [hl] at hq
    subst hn
    cases y with
    | inr y => simp at hq
    | inl y =>
      simp only [Option.some.injEq] at hq
      subst hq
      refine ⟨mt_mo0, fun p l e R s m args below meth c Q D ca b0 w0 v M' C hz hg => ⟨hg.1, fun hw H locs ls cells slots h1 h2 h3 h4 h5 => ?_⟩⟩
      obtain ⟨k2, hk2⟩ := List.getElem?_of_mem (ml_in (i := 0) hl)
      rw [Nat.zero_add] at hk2
      exact lv_iinc C.1 C.2.1 d h5 hk2 (by rw [hv]) hi2 rfl (fun ls' h6 => hg.2 hw H locs ls' cells slots h1 h2 h3 h4 (lput_at h6))
theorem sn_ifeq {off : Int} {t : Nat} (d : decode cc pc = .ok (.ifCond .eq off, 3)) (ht : (pc : Int) + off = (t : Int)) (hn : pc + 3 = n) : mt_Sl Z cc nL own nm ret fr lo pc (o_ifeq t n) := by
  rintro ⟨lv, st, M⟩ z hq
  rcases st with _ | ⟨x | x, st⟩ <;> simp only [o_ifeq, reduceCtorEq] at hq
  subst hn
  by_cases hc : x = 0
  · rw [if_pos hc] at hq
    have hq := Option.some.inj hq
    subst hq
    refine ⟨fun x hx => by cases hx; exact mt_mo0, fun r hx => (by cases hx), fun p l e R s m args below meth c Q D ca b0 w0 v M' C hz hg hr => ?_⟩
    have hg := hg _ rfl
    exact ⟨hg.1, fun hw H locs ls cells slots h1 h2 h3 h4 h5 => lv_if_eq C.1 C.2.1 d ht (fun _ => (hg.2 hw H locs ls cells slots h1 h2 h3 h4 h5)) (fun h => absurd hc h)⟩
  · rw [if_neg hc] at hq
    have hq := Option.some.inj hq
    subst hq
    refine ⟨fun x hx => by cases hx; exact mt_mo0, fun r hx => (by cases hx), fun p l e R s m args below meth c Q D ca b0 w0 v M' C hz hg hr => ?_⟩
    have hg := hg _ rfl
    exact ⟨hg.1, fun hw H locs ls cells slots h1 h2 h3 h4 h5 => lv_if_eq C.1 C.2.1 d ht (fun h => absurd h hc) (fun _ => (hg.2 hw H locs ls cells slots h1 h2 h3 h4 h5))⟩
theorem sn_iceq {off : Int} {t : Nat} (d : decode cc pc = .ok (.if_icmp .eq off, 3)) (ht : (pc : Int) + off = (t : Int)) (hn : pc + 3 = n) : mt_Sl Z cc nL own nm ret fr lo pc (o_iceq t n) := by
  rintro ⟨lv, st, M⟩ z hq
  rcases st with _ | ⟨y | y, _ | ⟨x | x, st⟩⟩ <;> simp only [o_iceq, reduceCtorEq] at hq
  subst hn
  by_cases hc : x = y
  · rw [if_pos hc] at hq
    have hq := Option.some.inj hq
    subst hq
    refine ⟨fun x hx => by cases hx; exact mt_mo0, fun r hx => (by cases hx), fun p l e R s m args below meth c Q D ca b0 w0 v M' C hz hg hr => ?_⟩
    have hg := hg _ rfl
    exact ⟨hg.1, fun hw H locs ls cells slots h1 h2 h3 h4 h5 => lv_icmp_eq C.1 C.2.1 d ht (fun _ => (hg.2 hw H locs ls cells slots h1 h2 h3 h4 h5)) (fun h => absurd hc h)⟩
  · rw [if_neg hc] at hq
    have hq := Option.some.inj hq
    subst hq
    refine ⟨fun x hx => by cases hx; exact mt_mo0, fun r hx => (by cases hx), fun p l e R s m args below meth c Q D ca b0 w0 v M' C hz hg hr => ?_⟩
    have hg := hg _ rfl
    exact ⟨hg.1, fun hw H locs ls cells slots h1 h2 h3 h4 h5 => lv_icmp_eq C.1 C.2.1 d ht (fun h => absurd h hc) (fun _ => (hg.2 hw H locs ls cells slots h1 h2 h3 h4 h5))⟩
theorem sn_ifne {off : Int} {t : Nat} (d : decode cc pc = .ok (.ifCond .ne off, 3)) (ht : (pc : Int) + off = (t : Int)) (hn : pc + 3 = n) : mt_Sl Z cc nL own nm ret fr lo pc (o_ifne t n) := by
  rintro ⟨lv, st, M⟩ z hq
  rcases st with _ | ⟨x | x, st⟩ <;> simp only [o_ifne, reduceCtorEq] at hq
  subst hn
  by_cases hc : x = 0
  · rw [if_pos hc] at hq
    have hq := Option.some.inj hq
    subst hq
    refine ⟨fun x hx => by cases hx; exact mt_mo0, fun r hx => (by cases hx), fun p l e R s m args below meth c Q D ca b0 w0 v M' C hz hg hr => ?_⟩
    have hg := hg _ rfl
    exact ⟨hg.1, fun hw H locs ls cells slots h1 h2 h3 h4 h5 => lv_if_ne C.1 C.2.1 d ht (fun h => absurd hc h) (fun _ => (hg.2 hw H locs ls cells slots h1 h2 h3 h4 h5))⟩
  · rw [if_neg hc] at hq
    have hq := Option.some.inj hq
    subst hq
    refine ⟨fun x hx => by cases hx; exact mt_mo0, fun r hx => (by cases hx), fun p l e R s m args below meth c Q D ca b0 w0 v M' C hz hg hr => ?_⟩
    have hg := hg _ rfl
    exact ⟨hg.1, fun hw H locs ls cells slots h1 h2 h3 h4 h5 => lv_if_ne C.1 C.2.1 d ht (fun _ => (hg.2 hw H locs ls cells slots h1 h2 h3 h4 h5)) (fun h => absurd h hc)⟩
theorem sn_icne {off : Int} {t : Nat} (d : decode cc pc = .ok (.if_icmp .ne off, 3)) (ht : (pc : Int) + off = (t : Int)) (hn : pc + 3 = n) : mt_Sl Z cc nL own nm ret fr lo pc (o_icne t n) := by
  rintro ⟨lv, st, M⟩ z hq
  rcases st with _ | ⟨y | y, _ | ⟨x | x, st⟩⟩ <;> simp only [o_icne, reduceCtorEq] at hq
  subst hn
  by_cases hc : x = y
  · rw [if_pos hc] at hq
    have hq := Option.some.inj hq
    subst hq
    refine ⟨fun x hx => by cases hx; exact mt_mo0, fun r hx => (by cases hx), fun p l e R s m args below meth c Q D ca b0 w0 v M' C hz hg hr => ?_⟩
    have hg := hg _ rfl
    exact ⟨hg.1, fun hw H locs ls cells slots h1 h2 h3 h4 h5 => lv_icmp_ne C.1 C.2.1 d ht (fun h => absurd hc h) (fun _ => (hg.2 hw H locs ls cells slots h1 h2 h3 h4 h5))⟩
  · rw [if_neg hc] at hq
    have hq := Option.some.inj hq
    subst hq
    refine ⟨fun x hx => by cases hx; exact mt_mo0, fun r hx => (by cases hx), fun p l e R s m args below meth c Q D ca b0 w0 v M' C hz hg hr => ?_⟩
    have hg := hg _ rfl
    exact ⟨hg.1, fun hw H locs ls cells slots h1 h2 h3 h4 h5 => lv_icmp_ne C.1 C.2.1 d ht (fun _ => (hg.2 hw H locs ls cells slots h1 h2 h3 h4 h5)) (fun h => absurd h hc)⟩
theorem sn_iflt {off : Int} {t : Nat} (d : decode cc pc = .ok (.ifCond .lt off, 3)) (ht : (pc : Int) + off = (t : Int)) (hn : pc + 3 = n) : mt_Sl Z cc nL own nm ret fr lo pc (o_iflt t n) := by
  rintro ⟨lv, st, M⟩ z hq
  rcases st with _ | ⟨x | x, st⟩ <;> simp only [o_iflt, reduceCtorEq] at hq
  subst hn
  by_cases hc : x < 0
  · rw [if_pos hc] at hq
    have hq := Option.some.inj hq
    subst hq
    refine ⟨fun x hx => by cases hx; exact mt_mo0, fun r hx => (by cases hx), fun p l e R s m args below meth c Q D ca b0 w0 v M' C hz hg hr => ?_⟩
    have hg := hg _ rfl
    exact ⟨hg.1, fun hw H locs ls cells slots h1 h2 h3 h4 h5 => lv_if_lt C.1 C.2.1 d ht (fun _ => (hg.2 hw H locs ls cells slots h1 h2 h3 h4 h5)) (fun h => absurd hc h)⟩
  · rw [if_neg hc] at hq
    have hq := Option.some.inj hq
    subst hq
    refine ⟨fun x hx => by cases hx; exact mt_mo0, fun r hx => (by cases hx), fun p l e R s m args below meth c Q D ca b0 w0 v M' C hz hg hr => ?_⟩
    have hg := hg _ rfl
    exact ⟨hg.1, fun hw H locs ls cells slots h1 h2 h3 h4 h5 => lv_if_lt C.1 C.2.1 d ht (fun h => absurd h hc) (fun _ => (hg.2 hw H locs ls cells slots h1 h2 h3 h4 h5))⟩
theorem sn_iclt {off : Int} {t : Nat} (d : decode cc pc = .ok (.if_icmp .lt off, 3)) (ht : (pc : Int) + off = (t : Int)) (hn : pc + 3 = n) : mt_Sl Z cc nL own nm ret fr lo pc (o_iclt t n) := by
  rintro ⟨lv, st, M⟩ z hq
  rcases st with _ | ⟨y | y, _ | ⟨x | x, st⟩⟩ <;> simp only [o_iclt, reduceCtorEq] at hq
  subst hn
  by_cases hc : x < y
  · rw [if_pos hc] at hq
    have hq := Option.some.inj hq
    subst hq
    refine ⟨fun x hx => by cases hx; exact mt_mo0, fun r hx => (by cases hx), fun p l e R s m args below meth c Q D ca b0 w0 v M' C hz hg hr => ?_⟩
    have hg := hg _ rfl
    exact ⟨hg.1, fun hw H locs ls cells slots h1 h2 h3 h4 h5 => lv_icmp_lt C.1 C.2.1 d ht (fun _ => (hg.2 hw H locs ls cells slots h1 h2 h3 h4 h5)) (fun h => absurd hc h)⟩
  · rw [if_neg hc] at hq
    have hq := Option.some.inj hq
    subst hq
    refine ⟨fun x hx => by cases hx; exact mt_mo0, fun r hx => (by cases hx), fun p l e R s m args below meth c Q D ca b0 w0 v M' C hz hg hr => ?_⟩
    have hg := hg _ rfl
    exact ⟨hg.1, fun hw H locs ls cells slots h1 h2 h3 h4 h5 => lv_icmp_lt C.1 C.2.1 d ht (fun h => absurd h hc) (fun _ => (hg.2 hw H locs ls cells slots h1 h2 h3 h4 h5))⟩
theorem sn_ifge {off : Int} {t : Nat} (d : decode cc pc = .ok (.ifCond .ge off, 3)) (ht : (pc : Int) + off = (t : Int)) (hn : pc + 3 = n) : mt_Sl Z cc nL own nm ret fr lo pc (o_ifge t n) := by
  rintro ⟨lv, st, M⟩ z hq
  rcases st with _ | ⟨x | x, st⟩ <;> simp only [o_ifge, reduceCtorEq] at hq
  subst hn
  by_cases hc : 0 ≤ x
  · rw [if_pos hc] at hq
    have hq := Option.some.inj hq
    subst hq
    refine ⟨fun x hx => by cases hx; exact mt_mo0, fun r hx => (by cases hx), fun p l e R s m args below meth c Q D ca b0 w0 v M' C hz hg hr => ?_⟩
    have hg := hg _ rfl
    exact ⟨hg.1, fun hw H locs ls cells slots h1 h2 h3 h4 h5 => lv_if_ge C.1 C.2.1 d ht (fun _ => (hg.2 hw H locs ls cells slots h1 h2 h3 h4 h5)) (fun h => absurd hc h)⟩
  · rw [if_neg hc] at hq
    have hq := Option.some.inj hq
    subst hq
    refine ⟨fun x hx => by cases hx; exact mt_mo0, fun r hx => (by cases hx), fun p l e R s m args below meth c Q D ca b0 w0 v M' C hz hg hr => ?_⟩
    have hg := hg _ rfl
    exact ⟨hg.1, fun hw H locs ls cells slots h1 h2 h3 h4 h5 => lv_if_ge C.1 C.2.1 d ht (fun h => absurd h hc) (fun _ => (hg.2 hw H locs ls cells slots h1 h2 h3 h4 h5))⟩
theorem sn_icge {off : Int} {t : Nat} (d : decode cc pc = .ok (.if_icmp .ge off, 3)) (ht : (pc : Int) + off = (t : Int)) (hn : pc + 3 = n) : mt_Sl Z cc nL own nm ret fr lo pc (o_icge t n) := by
  rintro ⟨lv, st, M⟩ z hq
  rcases st with _ | ⟨y | y, _ | ⟨x | x, st⟩⟩ <;> simp only [o_icge, reduceCtorEq] at hq
  subst hn
  by_cases hc : y ≤ x
  · rw [if_pos hc] at hq
    have hq := Option.some.inj hq
    subst hq
    refine ⟨fun x hx => by cases hx; exact mt_mo0, fun r hx => (by cases hx), fun p l e R s m args below meth c Q D ca b0 w0 v M' C hz hg hr => ?_⟩
    have hg := hg _ rfl
    exact ⟨hg.1, fun hw H locs ls cells slots h1 h2 h3 h4 h5 => lv_icmp_ge C.1 C.2.1 d ht (fun _ => (hg.2 hw H locs ls cells slots h1 h2 h3 h4 h5)) (fun h => absurd hc h)⟩
  · rw [if_neg hc] at hq
    have hq := Option.some.inj hq
    subst hq
    refine ⟨fun x hx => by cases hx; exact mt_mo0, fun r hx => (by cases hx), fun p l e R s m args below meth c Q D ca b0 w0 v M' C hz hg hr => ?_⟩
    have hg := hg _ rfl
    exact ⟨hg.1, fun hw H locs ls cells slots h1 h2 h3 h4 h5 => lv_icmp_ge C.1 C.2.1 d ht (fun h => absurd h hc) (fun _ => (hg.2 hw H locs ls cells slots h1 h2 h3 h4 h5))⟩
theorem sn_ifgt {off : Int} {t : Nat} (d : decode cc pc = .ok (.ifCond .gt off, 3)) (ht : (pc : Int) + off = (t : Int)) (hn : pc + 3 = n) : mt_Sl Z cc nL own nm ret fr lo pc (o_ifgt t n) := by
  rintro ⟨lv, st, M⟩ z hq
  rcases st with _ | ⟨x | x, st⟩ <;> simp only [o_ifgt, reduceCtorEq] at hq
  subst hn
  by_cases hc : 0 < x
  · rw [if_pos hc] at hq
    have hq := Option.some.inj hq
    subst hq
    refine ⟨fun x hx => by cases hx; exact mt_mo0, fun r hx => (by cases hx), fun p l e R s m args below meth c Q D ca b0 w0 v M' C hz hg hr => ?_⟩
    have hg := hg _ rfl
    exact ⟨hg.1, fun hw H locs ls cells slots h1 h2 h3 h4 h5 => lv_if_gt C.1 C.2.1 d ht (fun _ => (hg.2 hw H locs ls cells slots h1 h2 h3 h4 h5)) (fun h => absurd hc h)⟩
  · rw [if_neg hc] at hq
    have hq := Option.some.inj hq
    subst hq
    refine ⟨fun x hx => by cases hx; exact mt_mo0, fun r hx => (by cases hx), fun p l e R s m args below meth c Q D ca b0 w0 v M' C hz hg hr => ?_⟩
    have hg := hg _ rfl
    exact ⟨hg.1, fun hw H locs ls cells slots h1 h2 h3 h4 h5 => lv_if_gt C.1 C.2.1 d ht (fun h => absurd h hc) (fun _ => (hg.2 hw H locs ls cells slots h1 h2 h3 h4 h5))⟩
theorem sn_icgt {off : Int} {t : Nat} (d : decode cc pc = .ok (.if_icmp .gt off, 3)) (ht : (pc : Int) + off = (t : Int)) (hn : pc + 3 = n) : mt_Sl Z cc nL own nm ret fr lo pc (o_icgt t n) := by
  rintro ⟨lv, st, M⟩ z hq
  rcases st with _ | ⟨y | y, _ | ⟨x | x, st⟩⟩ <;> simp only [o_icgt, reduceCtorEq] at hq
  subst hn
  by_cases hc : y < x
  · rw [if_pos hc] at hq
    have hq := Option.some.inj hq
    subst hq
    refine ⟨fun x hx => by cases hx; exact mt_mo0, fun r hx => (by cases hx), fun p l e R s m args below meth c Q D ca b0 w0 v M' C hz hg hr => ?_⟩
    have hg := hg _ rfl
    exact ⟨hg.1, fun hw H locs ls cells slots h1 h2 h3 h4 h5 => lv_icmp_gt C.1 C.2.1 d ht (fun _ => (hg.2 hw H locs ls cells slots h1 h2 h3 h4 h5)) (fun h => absurd hc h)⟩
  · rw [if_neg hc] at hq
    have hq := Option.some.inj hq
    subst hq
    refine ⟨fun x hx => by cases hx; exact mt_mo0, fun r hx => (by cases hx), fun p l e R s m args below meth c Q D ca b0 w0 v M' C hz hg hr => ?_⟩
    have hg := hg _ rfl
    exact ⟨hg.1, fun hw H locs ls cells slots h1 h2 h3 h4 h5 => lv_icmp_gt C.1 C.2.1 d ht (fun h => absurd h hc) (fun _ => (hg.2 hw H locs ls cells slots h1 h2 h3 h4 h5))⟩
theorem sn_ifle {off : Int} {t : Nat} (d : decode cc pc = .ok (.ifCond .le off, 3)) (ht : (pc : Int) + off = (t : Int)) (hn : pc + 3 = n) : mt_Sl Z cc nL own nm ret fr lo pc (o_ifle t n) := by
  rintro ⟨lv, st, M⟩ z hq
  rcases st with _ | ⟨x | x, st⟩ <;> simp only [o_ifle, reduceCtorEq] at hq
  subst hn
  by_cases hc : x ≤ 0
  · rw [if_pos hc] at hq
    have hq := Option.some.inj hq
    subst hq
    refine ⟨fun x hx => by cases hx; exact mt_mo0, fun r hx => (by cases hx), fun p l e R s m args below meth c Q D ca b0 w0 v M' C hz hg hr => ?_⟩
    have hg := hg _ rfl
    exact ⟨hg.1, fun hw H locs ls cells slots h1 h2 h3 h4 h5 => lv_if_le C.1 C.2.1 d ht (fun _ => (hg.2 hw H locs ls cells slots h1 h2 h3 h4 h5)) (fun h => absurd hc h)⟩
  · rw [if_neg hc] at hq
    have hq := Option.some.inj hq
    subst hq
    refine ⟨fun x hx => by cases hx; exact mt_mo0, fun r hx => (by cases hx), fun p l e R s m args below meth c Q D ca b0 w0 v M' C hz hg hr => ?_⟩
    have hg := hg _ rfl
    exact ⟨hg.1, fun hw H locs ls cells slots h1 h2 h3 h4 h5 => lv_if_le C.1 C.2.1 d ht (fun h => absurd h hc) (fun _ => (hg.2 hw H locs ls cells slots h1 h2 h3 h4 h5))⟩
theorem sn_icle {off : Int} {t : Nat} (d : decode cc pc = .ok (.if_icmp .le off, 3)) (ht : (pc : Int) + off = (t : Int)) (hn : pc + 3 = n) : mt_Sl Z cc nL own nm ret fr lo pc (o_icle t n) := by
  rintro ⟨lv, st, M⟩ z hq
  rcases st with _ | ⟨y | y, _ | ⟨x | x, st⟩⟩ <;> simp only [o_icle, reduceCtorEq] at hq
  subst hn
  by_cases hc : x ≤ y
  · rw [if_pos hc] at hq
    have hq := Option.some.inj hq
    subst hq
    refine ⟨fun x hx => by cases hx; exact mt_mo0, fun r hx => (by cases hx), fun p l e R s m args below meth c Q D ca b0 w0 v M' C hz hg hr => ?_⟩
    have hg := hg _ rfl
    exact ⟨hg.1, fun hw H locs ls cells slots h1 h2 h3 h4 h5 => lv_icmp_le C.1 C.2.1 d ht (fun _ => (hg.2 hw H locs ls cells slots h1 h2 h3 h4 h5)) (fun h => absurd hc h)⟩
  · rw [if_neg hc] at hq
    have hq := Option.some.inj hq
    subst hq
    refine ⟨fun x hx => by cases hx; exact mt_mo0, fun r hx => (by cases hx), fun p l e R s m args below meth c Q D ca b0 w0 v M' C hz hg hr => ?_⟩
    have hg := hg _ rfl
    exact ⟨hg.1, fun hw H locs ls cells slots h1 h2 h3 h4 h5 => lv_icmp_le C.1 C.2.1 d ht (fun h => absurd h hc) (fun _ => (hg.2 hw H locs ls cells slots h1 h2 h3 h4 h5))⟩
theorem sn_acne {off : Int} {t : Nat} (d : decode cc pc = .ok (.if_acmp .ne off, 3)) (ht : (pc : Int) + off = (t : Int)) (hn : pc + 3 = n) : mt_Sl Z cc nL own nm ret fr lo pc (o_acne t n) := by
  rintro ⟨lv, st, M⟩ z hq
  rcases st with _ | ⟨y | y, _ | ⟨x | x, st⟩⟩ <;> simp only [o_acne, reduceCtorEq] at hq
  subst hn
  by_cases hc : x = y
  · rw [if_pos hc] at hq
    have hq := Option.some.inj hq
    subst hq
    refine ⟨fun x hx => by cases hx; exact mt_mo0, fun r hx => (by cases hx), fun p l e R s m args below meth c Q D ca b0 w0 v M' C hz hg hr => ?_⟩
    have hg := hg _ rfl
    exact ⟨hg.1, fun hw H locs ls cells slots h1 h2 h3 h4 h5 => lv_acmp_ne C.1 C.2.1 d ht (fun h => absurd hc h) (fun _ => (hg.2 hw H locs ls cells slots h1 h2 h3 h4 h5))⟩
  · rw [if_neg hc] at hq
    have hq := Option.some.inj hq
    subst hq
    refine ⟨fun x hx => by cases hx; exact mt_mo0, fun r hx => (by cases hx), fun p l e R s m args below meth c Q D ca b0 w0 v M' C hz hg hr => ?_⟩
    have hg := hg _ rfl
    exact ⟨hg.1, fun hw H locs ls cells slots h1 h2 h3 h4 h5 => lv_acmp_ne C.1 C.2.1 d ht (fun _ => (hg.2 hw H locs ls cells slots h1 h2 h3 h4 h5)) (fun h => absurd h hc)⟩
theorem sn_ifnull {off : Int} {t : Nat} (d : decode cc pc = .ok (.ifnull off, 3)) (ht : (pc : Int) + off = (t : Int)) (hn : pc + 3 = n) : mt_Sl Z cc nL own nm ret fr lo pc (o_ifnull t n) := by
  rintro ⟨lv, st, M⟩ z hq
  rcases st with _ | ⟨x | _ | x, st⟩ <;> simp only [o_ifnull, reduceCtorEq, Option.some.injEq] at hq
  · subst hq
    refine ⟨fun x hx => by cases hx; exact mt_mo0, fun r hx => (by cases hx), fun p l e R s m args below meth c Q D ca b0 w0 v M' C hz hg hr => ?_⟩
    have hg := hg _ rfl
    exact ⟨hg.1, fun hw H locs ls cells slots h1 h2 h3 h4 h5 => lv_ifnullN C.1 C.2.1 d ht (hg.2 hw H locs ls cells slots h1 h2 h3 h4 h5)⟩
  · subst hq
    refine ⟨fun x hx => by cases hx; exact mt_mo0, fun r hx => (by cases hx), fun p l e R s m args below meth c Q D ca b0 w0 v M' C hz hg hr => ?_⟩
    have hg := hg _ rfl
    subst hn
    exact ⟨hg.1, fun hw H locs ls cells slots h1 h2 h3 h4 h5 => lv_ifnull C.1 C.2.1 d (hg.2 hw H locs ls cells slots h1 h2 h3 h4 h5)⟩
theorem sn_ifnonnull {off : Int} {t : Nat} (d : decode cc pc = .ok (.ifnonnull off, 3)) (ht : (pc : Int) + off = (t : Int)) (hn : pc + 3 = n) : mt_Sl Z cc nL own nm ret fr lo pc (o_ifnonnull t n) := by
  rintro ⟨lv, st, M⟩ z hq
  rcases st with _ | ⟨x | _ | x, st⟩ <;> simp only [o_ifnonnull, reduceCtorEq, Option.some.injEq] at hq
  · subst hq
    refine ⟨fun x hx => by cases hx; exact mt_mo0, fun r hx => (by cases hx), fun p l e R s m args below meth c Q D ca b0 w0 v M' C hz hg hr => ?_⟩
    have hg := hg _ rfl
    subst hn
    exact ⟨hg.1, fun hw H locs ls cells slots h1 h2 h3 h4 h5 => lv_ifnonnullN C.1 C.2.1 d (hg.2 hw H locs ls cells slots h1 h2 h3 h4 h5)⟩
  · subst hq
    refine ⟨fun x hx => by cases hx; exact mt_mo0, fun r hx => (by cases hx), fun p l e R s m args below meth c Q D ca b0 w0 v M' C hz hg hr => ?_⟩
    have hg := hg _ rfl
    exact ⟨hg.1, fun hw H locs ls cells slots h1 h2 h3 h4 h5 => lv_ifnonnull C.1 C.2.1 d ht (hg.2 hw H locs ls cells slots h1 h2 h3 h4 h5)⟩
theorem sn_goto {off : Int} (d : decode cc pc = .ok (.goto off, 3)) (ht : (pc : Int) + off = (n : Int)) : mt_Sl Z cc nL own nm ret fr lo pc (o_fall n) := by
  rintro ⟨lv, st, M⟩ z hq
  simp only [o_fall, Option.some.injEq] at hq
  subst hq
  refine ⟨fun x hx => by cases hx; exact mt_mo0, fun r hx => (by cases hx), fun p l e R s m args below meth c Q D ca b0 w0 v M' C hz hg hr => ?_⟩
  have hg := hg _ rfl
  exact ⟨hg.1, fun hw H locs ls cells slots h1 h2 h3 h4 h5 => lv_goto C.1 C.2.1 d ht (hg.2 hw H locs ls cells slots h1 h2 h3 h4 h5)⟩
theorem sn_fall : mt_Sl Z cc nL own nm ret fr lo pc (o_fall pc) := by
  rintro ⟨lv, st, M⟩ z hq
  simp only [o_fall, Option.some.injEq] at hq
  subst hq
  refine ⟨fun x hx => by cases hx; exact mt_mo0, fun r hx => (by cases hx), fun p l e R s m args below meth c Q D ca b0 w0 v M' C hz hg hr => ?_⟩
  exact hg _ rfl
theorem sn_tsw {dflt lw hi : Int} {offs : Array Int} {len : Nat} {t : Nat} {ts : List Nat} (d : decode cc pc = .ok (.tableswitch dflt lw hi offs, len)) (ht : (pc : Int) + dflt = (t : Int)) (ho : ts.map (fun x : Nat => (x : Int)) = offs.toList.map (fun x => (pc : Int) + x)) : mt_Sl Z cc nL own nm ret fr lo pc (o_tsw lw hi t ts) := by
  rintro ⟨lv, st, M⟩ z hq
  rcases st with _ | ⟨x | x, st⟩ <;> simp only [o_tsw, reduceCtorEq] at hq
  by_cases hc : x.toInt < lw ∨ hi < x.toInt
  · rw [if_pos hc] at hq
    have hq := Option.some.inj hq
    subst hq
    refine ⟨fun x hx => by cases hx; exact mt_mo0, fun r hx => (by cases hx), fun p l e R s m args below meth c Q D ca b0 w0 v M' C hz hg hr => ?_⟩
    have hg := hg _ rfl
    exact ⟨hg.1, fun hw H locs ls cells slots h1 h2 h3 h4 h5 => lv_tableOut C.1 C.2.1 d hc ht (hg.2 hw H locs ls cells slots h1 h2 h3 h4 h5)⟩
  · rw [if_neg hc] at hq
    cases ht2 : ts[(x.toInt - lw).toNat]? with
    | none => simp [ht2] at hq
    | some t2 =>
      simp only [ht2, Option.some.injEq] at hq
      subst hq
      refine ⟨fun x hx => by cases hx; exact mt_mo0, fun r hx => (by cases hx), fun p l e R s m args below meth c Q D ca b0 w0 v M' C hz hg hr => ?_⟩
      have hg := hg _ rfl
      have h7 : (ts.map (fun x : Nat => (x : Int)))[(x.toInt - lw).toNat]? = some (t2 : Int) := by rw [List.getElem?_map, ht2]; rfl
      rw [ho, List.getElem?_map] at h7
      cases hof : offs.toList[(x.toInt - lw).toNat]? with
      | none => rw [hof] at h7; cases h7
      | some off =>
        rw [hof] at h7
        have h8 : (pc : Int) + off = (t2 : Int) := Option.some.inj h7
        rw [Array.getElem?_toList] at hof
        exact ⟨hg.1, fun hw H locs ls cells slots h1 h2 h3 h4 h5 => lv_tableIn C.1 C.2.1 d (fun h => hc (Or.inl h)) (fun h => hc (Or.inr h)) hof h8 (hg.2 hw H locs ls cells slots h1 h2 h3 h4 h5)⟩
-- returns
theorem sn_ret (d : decode cc pc = .ok (.return_, 1)) (hr0 : ret = none) : mt_Sl Z cc nL own nm ret fr lo pc o_ret := by
  rintro ⟨lv, st, M⟩ z hq
  rcases st with _ | ⟨x, st⟩ <;> simp only [o_ret, reduceCtorEq, Option.some.injEq] at hq
  subst hq
  refine ⟨fun x hx => (by cases hx), fun r hx => by cases hx; exact mt_mo0, fun p l e R s m args below meth c Q D ca b0 w0 v M' C hz hg hr => ?_⟩
  have hr := hr _ rfl
  cases hr
  exact ⟨⟨Nat.le_refl _, Nat.le_refl _⟩, fun hw H locs ls cells slots h1 h2 h3 h4 _ => C.2.2.2.2.2.2.2.2.2 H locs ls cells slots pc (Or.inl ⟨d, hr0, rfl⟩) hw h1 h2 h3 h4⟩
theorem sn_iret (d : decode cc pc = .ok (.ireturn, 1)) (hr0 : ret = some .int) : mt_Sl Z cc nL own nm ret fr lo pc o_iret := by
  rintro ⟨lv, st, M⟩ z hq
  rcases st with _ | ⟨x | x, _ | ⟨y, st⟩⟩ <;> simp only [o_iret, reduceCtorEq, Option.some.injEq] at hq
  subst hq
  refine ⟨fun x hx => (by cases hx), fun r hx => by cases hx; exact mt_mo0, fun p l e R s m args below meth c Q D ca b0 w0 v M' C hz hg hr => ?_⟩
  have hr := hr _ rfl
  cases hr
  exact ⟨⟨Nat.le_refl _, Nat.le_refl _⟩, fun hw H locs ls cells slots h1 h2 h3 h4 _ => C.2.2.2.2.2.2.2.2.2 H locs ls cells slots pc (Or.inr (Or.inl ⟨d, .int, x, hr0, rfl, rfl⟩)) hw h1 h2 h3 h4⟩
theorem mt_z_ok {x : Int32} (h : mt_z x = true) : narrow .boolean (.int x) = .int x ∧ fits .boolean (.int x) = true ∧ vp_nar .boolean x = x := by
  have h2 : x = 0 ∨ x = 1 := by
    unfold mt_z at h
    simpa using h
  rcases h2 with h2 | h2 <;> subst h2 <;> decide
theorem sn_zret (d : decode cc pc = .ok (.ireturn, 1)) (hr0 : ret = some .boolean) : mt_Sl Z cc nL own nm ret fr lo pc o_zret := by
  rintro ⟨lv, st, M⟩ z hq
  rcases st with _ | ⟨x | x, _ | ⟨y, st⟩⟩ <;> simp only [o_zret, reduceCtorEq] at hq
  by_cases hc : mt_z x = true
  · rw [if_pos hc] at hq
    have hq := Option.some.inj hq
    subst hq
    refine ⟨fun x hx => (by cases hx), fun r hx => by cases hx; exact mt_mo0, fun p l e R s m args below meth c Q D ca b0 w0 v M' C hz hg hr => ?_⟩
    have hr := hr _ rfl
    cases hr
    exact ⟨⟨Nat.le_refl _, Nat.le_refl _⟩, fun hw H locs ls cells slots h1 h2 h3 h4 _ => C.2.2.2.2.2.2.2.2.2 H locs ls cells slots pc (Or.inr (Or.inl ⟨d, .boolean, x, hr0, rfl, (mt_z_ok hc).1⟩)) hw h1 h2 h3 h4⟩
  · rw [if_neg hc] at hq; cases hq
theorem sn_aret {cn : String} (d : decode cc pc = .ok (.areturn, 1)) (hr0 : ret = some (.object cn)) : mt_Sl Z cc nL own nm ret fr lo pc o_aret := by
  rintro ⟨lv, st, M⟩ z hq
  rcases st with _ | ⟨x | x, _ | ⟨y, st⟩⟩ <;> simp only [o_aret, reduceCtorEq, Option.some.injEq] at hq
  subst hq
  refine ⟨fun x hx => (by cases hx), fun r hx => by cases hx; exact mt_mo0, fun p l e R s m args below meth c Q D ca b0 w0 v M' C hz hg hr => ?_⟩
  have hr := hr _ rfl
  cases hr
  exact ⟨⟨Nat.le_refl _, Nat.le_refl _⟩, fun hw H locs ls cells slots h1 h2 h3 h4 _ => C.2.2.2.2.2.2.2.2.2 H locs ls cells slots pc (Or.inr (Or.inr ⟨d, cn, x, hr0, rfl⟩)) hw h1 h2 h3 h4⟩
end SN
end
section
/-! Soundness, second part: fields, arrays, new cells, calls, and a method's contract out of its code. -/
theorem gf_ok {M : m_M} {ci a k : Nat} {x : m_V} (h : gf M ci a k = some x) : ∃ fs : List m_V, M.2.2 a = some (.inl (ci, fs)) ∧ fnth fs k = some x := by
  unfold gf at h
  split at h
  · next c fs hm =>
    split at h
    · next hc =>
      subst hc
      exact ⟨fs, hm, h⟩
    · cases h
  · cases h
theorem pf_ok {M M1 : m_M} {ci a k : Nat} {x : m_V} (h : pf M ci a k x = some M1) : ∃ fs : List m_V, M.2.2 a = some (.inl (ci, fs)) ∧ k < fs.length ∧ M1 = mup M a (.inl (ci, fset fs k x)) := by
  unfold pf at h
  split at h
  · next c fs hm =>
    split at h
    · next hc =>
      obtain ⟨hc, hk⟩ := hc
      subst hc
      exact ⟨fs, hm, hk, (Option.some.inj h).symm⟩
    · cases h
  · cases h
theorem gi_ok {M : m_M} {t a n : Nat} {f : Nat → Int32} (h : gi t M a = some (n, f)) : M.2.2 a = some (.inr (t, n, .inl f)) := by
  unfold gi at h
  split at h
  · next c n2 f2 hm =>
    split at h
    · next hc =>
      subst hc
      cases h
      exact hm
    · cases h
  · cases h
theorem ga_ok {M : m_M} {t a n : Nat} {f : Nat → Option Nat} (h : ga t M a = some (n, f)) : M.2.2 a = some (.inr (t, n, .inr f)) := by
  unfold ga at h
  split at h
  · next c n2 f2 hm =>
    split at h
    · next hc =>
      subst hc
      cases h
      exact hm
    · cases h
  · cases h
theorem is_ok {M : m_M} {ci a : Nat} (h : mt_is M ci a = true) : ∃ fs : List m_V, M.2.2 a = some (.inl (ci, fs)) := by
  unfold mt_is at h
  split at h
  · next c fs hm =>
    have hc : c = ci := by simpa using h
    subst hc
    exact ⟨fs, hm⟩
  · cases h
theorem ix_ok {i : Int32} {n j : Nat} (h : mt_ix i n = some j) : vp_in i n ∧ j = i.toNatClampNeg := by
  unfold mt_ix at h
  split at h
  · cases h
  · next hc => exact ⟨hc, (Option.some.inj h).symm⟩
theorem fnth_map {x : m_V} : ∀ {fs : List m_V} {k : Nat}, fnth fs k = some x → (fs.map tv)[k]? = some (tv x)
  | [], k, h => by simp [fnth] at h
  | y :: t, 0, h => by
    simp only [fnth, Option.some.injEq] at h
    subst h
    rfl
  | y :: t, k + 1, h => fnth_map (fs := t) (k := k) h
theorem fset_map {x : m_V} : ∀ {fs : List m_V} {k : Nat}, (fset fs k x).map tv = (fs.map tv).set k (tv x)
  | [], k => rfl
  | y :: t, 0 => rfl
  | y :: t, k + 1 => by
    show tv y :: (fset t k x).map tv = tv y :: (t.map tv).set k (tv x)
    rw [fset_map]
def mt_cls (ci : Nat) (C : String) (T : u_T) (N : Nat) (t : Nat → FieldType) : Prop := mCl[ci]? = some (C, T, N) ∧ (∀ w ∈ u_ws C T N, w ∈ lw_good) ∧ (∀ k, k < N → parseFieldDescriptor (T k).2.2.1 = some (t k)) ∧ (∀ a, a < N → ∀ b, b < N → a ≠ b → (T a).2.1 ≠ (T b).2.1) ∧ Cond.instantiable C N ∈ lw_good ∧ Cond.initialized C ∈ lw_good
def mt_lk (own : String) (idx : Nat) (C : String) (T : u_T) (k : Nat) : Prop := Cond.fieldLink own idx C (T k).2.1 (T k).2.2.1 ∈ lw_good ∨ ∃ host, Cond.fieldLinkNest own idx C (T k).2.1 (T k).2.2.1 host ∈ lw_nest
section SN
variable {Z : Nat → State → Prop} {cc : ByteArray} {nL : Nat} {own nm : String} {ret : Option FieldType} {fr lo pc n : Nat}
theorem sn_get {ci k idx N : Nat} {C0 : String} {T : u_T} {t : Nat → FieldType} (d : decode cc pc = .ok (.getfield idx, 3)) (hc : mt_cls ci C0 T N t) (hk : k < N) (hd : (T k).1 = C0) (hl : mt_lk own idx C0 T k) (hn : pc + 3 = n) : mt_Sp Z cc nL own nm ret fr lo pc n (o_get ci k) := by
  rintro ⟨lv, st, M⟩ q' hq
  rcases st with _ | ⟨x | _ | a, st⟩ <;> simp only [o_get, reduceCtorEq] at hq
  cases hgf : gf M ci a k with
  | none => simp [hgf] at hq
  | some x =>
    simp only [hgf, Option.some.injEq] at hq
    subst hq
    subst hn
    obtain ⟨fs, hfs, hx⟩ := gf_ok hgf
    refine ⟨mt_mo0, fun p l e R s m args below meth c Q D ca b0 w0 v M' C hz hg => ⟨hg.1, fun hw H locs ls cells slots h1 h2 h3 h4 h5 => ?_⟩⟩
    obtain ⟨q0, hq0⟩ := mt_pl (ca := ca) hw hfs
    have hq0 : (mt_ws ca b0 M)[q0]? = some (a, .inr (ci, fs.map tv)) := hq0
    have hsame : ∀ x, s.fieldFound? (T k).1 (T k).2.1 (T k).2.2.1 = some x → s.fieldFound? C0 (T k).2.1 (T k).2.2.1 = some x := fun x h => by rw [hd] at h; exact h
    rcases hl with hl | ⟨host, hl⟩
    · exact va_get C.1 C.2.1 C.2.2.2.2.1 hc.2.1 C.2.2.2.1 C.2.2.2.2.2.1.1 h1 q0 hq0 hc.1 k hk (C.2.2.2.2.1 _ hl) hsame (fnth_map hx) d (hg.2 hw H locs ls cells slots h1 h2 h3 h4 h5)
    · exact va_getN C.1 C.2.1 C.2.2.2.2.1 hc.2.1 C.2.2.2.1 C.2.2.2.2.2.1.1 h1 q0 hq0 hc.1 k hk (va_Nw.use rfl (C.2.2.2.2.2.1.2.1 _ hl)) hsame (fnth_map hx) d (hg.2 hw H locs ls cells slots h1 h2 h3 h4 h5)
theorem mt_put {x : m_V} {ci k a idx N : Nat} {C0 : String} {T : u_T} {t : Nat → FieldType} {lv : List (Option m_V)} {st : List m_V} {M : m_M} {fs : List m_V} (hfs : M.2.2 a = some (.inl (ci, fs))) (hkl : k < fs.length) (d : decode cc pc = .ok (.putfield idx, 3)) (hc : mt_cls ci C0 T N t) (hk : k < N) (hd : (T k).1 = C0) (hl : mt_lk own idx C0 T k) (hfin : (T k).2.2.2 = false) (hnar : narrow (t k) (tv x) = tv x) (hfit : fits (t k) (tv x) = true)
    {p : Program} {l : Launch} {e : Env} {R : Room} {s : State} {m : MethodId} {args : Array Value} {below : List Frame} {meth : Method} {c : Code} {Q : State → Prop} {D : va_G} {ca : Nat → ClassId} {b0 w0 : Nat} {v : Option m_V} {M' : m_M} (C : mt_C p l e R s m args below meth c Q cc nL own nm ret fr lo D ca b0 w0 v M') (hg : mt_G p l e R s m args below meth c Q nL D ca b0 w0 M' (pc + 3) (lv, st, mup M a (.inl (ci, fset fs k x)))) : mt_G p l e R s m args below meth c Q nL D ca b0 w0 M' pc (lv, x :: .inr (some a) :: st, M) := by
  refine ⟨hg.1, fun hw H locs ls cells slots h1 h2 h3 h4 h5 => ?_⟩
  obtain ⟨q0, hq0⟩ := mt_pl (ca := ca) hw hfs
  have hset := fun e => mt_set (e := e) hw hfs hq0
  have hq0 : (mt_ws ca b0 M)[q0]? = some (a, .inr (ci, fs.map tv)) := hq0
  have hsame : ∀ x, s.fieldFound? (T k).1 (T k).2.1 (T k).2.2.1 = some x → s.fieldFound? C0 (T k).2.1 (T k).2.2.1 = some x := fun x h => by rw [hd] at h; exact h
  have hset2 : (mt_ws ca b0 M).set q0 (a, .inr (ci, (fs.map tv).set k (tv x))) = mt_ws ca b0 (mup M a (.inl (ci, fset fs k x))) := by
    rw [← hset (.inl (ci, fset fs k x)), ← fset_map]
    rfl
  have hkl2 : k < (fs.map tv).length := by rw [List.length_map]; exact hkl
  rcases hl with hl | ⟨host, hl⟩
  · refine va_put C.1 C.2.1 C.2.2.2.2.1 hc.2.1 t hc.2.2.1 hc.2.2.2.1 C.2.2.2.1 C.2.2.2.2.2.1.1 h1 (mt_D ca b0 M) h2 q0 hq0 hc.1 k hk (C.2.2.2.2.1 _ hl) hsame hfin (hc.2.2.1 k hk) hnar hfit hkl2 d (fun H1 locs1 hP1 _ hS1 => ?_)
    rw [hset2] at hP1
    exact hg.2 (wf_up hw hfs) H1 locs1 ls cells slots hP1 hS1 h3 h4 h5
  · refine va_putN C.1 C.2.1 C.2.2.2.2.1 hc.2.1 t hc.2.2.1 hc.2.2.2.1 C.2.2.2.1 C.2.2.2.2.2.1.1 h1 (mt_D ca b0 M) h2 q0 hq0 hc.1 k hk (va_Nw.use rfl (C.2.2.2.2.2.1.2.1 _ hl)) hsame hfin (hc.2.2.1 k hk) hnar hfit hkl2 d (fun H1 locs1 hP1 _ hS1 => ?_)
    rw [hset2] at hP1
    exact hg.2 (wf_up hw hfs) H1 locs1 ls cells slots hP1 hS1 h3 h4 h5
theorem mt_putF {x : m_V} {ci k a idx N : Nat} {C0 : String} {T : u_T} {t : Nat → FieldType} {lv : List (Option m_V)} {st : List m_V} {M : m_M} {fs : List m_V} (hfs : M.2.2 a = some (.inl (ci, fs))) (hkl : k < fs.length) (d : decode cc pc = .ok (.putfield idx, 3)) (hc : mt_cls ci C0 T N t) (hk : k < N) (hd : (T k).1 = C0) (hl : Cond.fieldLink own idx C0 (T k).2.1 (T k).2.2.1 ∈ lw_good) (hfin : (T k).2.2.2 = true) (hown : C0 = own) (hini : nm = "<init>") (hnar : narrow (t k) (tv x) = tv x) (hfit : fits (t k) (tv x) = true)
    {p : Program} {l : Launch} {e : Env} {R : Room} {s : State} {m : MethodId} {args : Array Value} {below : List Frame} {meth : Method} {c : Code} {Q : State → Prop} {D : va_G} {ca : Nat → ClassId} {b0 w0 : Nat} {v : Option m_V} {M' : m_M} (C : mt_C p l e R s m args below meth c Q cc nL own nm ret fr lo D ca b0 w0 v M') (hg : mt_G p l e R s m args below meth c Q nL D ca b0 w0 M' (pc + 3) (lv, st, mup M a (.inl (ci, fset fs k x)))) : mt_G p l e R s m args below meth c Q nL D ca b0 w0 M' pc (lv, x :: .inr (some a) :: st, M) := by
  refine ⟨hg.1, fun hw H locs ls cells slots h1 h2 h3 h4 h5 => ?_⟩
  obtain ⟨q0, hq0⟩ := mt_pl (ca := ca) hw hfs
  have hset := fun e => mt_set (e := e) hw hfs hq0
  have hq0 : (mt_ws ca b0 M)[q0]? = some (a, .inr (ci, fs.map tv)) := hq0
  have hsame : ∀ x, s.fieldFound? (T k).1 (T k).2.1 (T k).2.2.1 = some x → s.fieldFound? C0 (T k).2.1 (T k).2.2.1 = some x := fun x h => by rw [hd] at h; exact h
  have hset2 : (mt_ws ca b0 M).set q0 (a, .inr (ci, (fs.map tv).set k (tv x))) = mt_ws ca b0 (mup M a (.inl (ci, fset fs k x))) := by
    rw [← hset (.inl (ci, fset fs k x)), ← fset_map]
    rfl
  have hkl2 : k < (fs.map tv).length := by rw [List.length_map]; exact hkl
  refine va_putF C.1 C.2.1 C.2.2.2.2.1 hc.2.1 t hc.2.2.1 hc.2.2.2.1 C.2.2.2.1 C.2.2.2.2.2.1.1 h1 (mt_D ca b0 M) h2 q0 hq0 hc.1 k hk (C.2.2.2.2.1 _ hl) hsame hfin (by rw [C.2.2.2.2.2.2.2.2.1]; exact hini) (by rw [hd]; exact hown) (hc.2.2.1 k hk) hnar hfit hkl2 d (fun H1 locs1 hP1 _ hS1 => ?_)
  rw [hset2] at hP1
  exact hg.2 (wf_up hw hfs) H1 locs1 ls cells slots hP1 hS1 h3 h4 h5
theorem sn_putI {ci k idx N : Nat} {C0 : String} {T : u_T} {t : Nat → FieldType} (d : decode cc pc = .ok (.putfield idx, 3)) (hc : mt_cls ci C0 T N t) (hk : k < N) (hd : (T k).1 = C0) (hl : mt_lk own idx C0 T k) (hfin : (T k).2.2.2 = false) (ht : t k = .int) (hn : pc + 3 = n) : mt_Sp Z cc nL own nm ret fr lo pc n (o_putI ci k) := by
  rintro ⟨lv, st, M⟩ q' hq
  rcases st with _ | ⟨x | x, _ | ⟨y | _ | a, st⟩⟩ <;> simp only [o_putI, reduceCtorEq] at hq
  cases hpf : pf M ci a k (.inl x) with
  | none => simp [hpf] at hq
  | some M1 =>
    simp only [hpf, Option.some.injEq] at hq
    subst hq
    subst hn
    obtain ⟨fs, hfs, hkl, hM⟩ := pf_ok hpf
    subst hM
    exact ⟨mt_mo0, fun p l e R s m args below meth c Q D ca b0 w0 v M' C hz hg => mt_put hfs hkl d hc hk hd hl hfin (by rw [ht]; rfl) (by rw [ht]; rfl) C hg⟩
theorem sn_putZ {ci k idx N : Nat} {C0 : String} {T : u_T} {t : Nat → FieldType} (d : decode cc pc = .ok (.putfield idx, 3)) (hc : mt_cls ci C0 T N t) (hk : k < N) (hd : (T k).1 = C0) (hl : mt_lk own idx C0 T k) (hfin : (T k).2.2.2 = false) (ht : t k = .boolean) (hn : pc + 3 = n) : mt_Sp Z cc nL own nm ret fr lo pc n (o_putZ ci k) := by
  rintro ⟨lv, st, M⟩ q' hq
  rcases st with _ | ⟨x | x, _ | ⟨y | _ | a, st⟩⟩ <;> simp only [o_putZ, reduceCtorEq] at hq
  by_cases hzx : mt_z x = true
  · rw [if_pos hzx] at hq
    cases hpf : pf M ci a k (.inl x) with
    | none => simp [hpf] at hq
    | some M1 =>
      simp only [hpf, Option.some.injEq] at hq
      subst hq
      subst hn
      obtain ⟨fs, hfs, hkl, hM⟩ := pf_ok hpf
      subst hM
      exact ⟨mt_mo0, fun p l e R s m args below meth c Q D ca b0 w0 v M' C hz hg => mt_put hfs hkl d hc hk hd hl hfin (by rw [ht]; exact (mt_z_ok hzx).1) (by rw [ht]; exact (mt_z_ok hzx).2.1) C hg⟩
  · rw [if_neg hzx] at hq
    cases hq
theorem sn_putA {ci k idx N : Nat} {C0 : String} {T : u_T} {t : Nat → FieldType} (d : decode cc pc = .ok (.putfield idx, 3)) (hc : mt_cls ci C0 T N t) (hk : k < N) (hd : (T k).1 = C0) (hl : mt_lk own idx C0 T k) (hfin : (T k).2.2.2 = false) (ht : ∀ a : Nat, narrow (t k) (.ref a) = .ref a ∧ fits (t k) (.ref a) = true) (hn : pc + 3 = n) : mt_Sp Z cc nL own nm ret fr lo pc n (o_putA ci k) := by
  rintro ⟨lv, st, M⟩ q' hq
  rcases st with _ | ⟨x | _ | x, _ | ⟨y | _ | a, st⟩⟩ <;> simp only [o_putA, reduceCtorEq] at hq
  cases hpf : pf M ci a k (.inr (some x)) with
  | none => simp [hpf] at hq
  | some M1 =>
    simp only [hpf, Option.some.injEq] at hq
    subst hq
    subst hn
    obtain ⟨fs, hfs, hkl, hM⟩ := pf_ok hpf
    subst hM
    exact ⟨mt_mo0, fun p l e R s m args below meth c Q D ca b0 w0 v M' C hz hg => mt_put (x := .inr (some x)) hfs hkl d hc hk hd hl hfin (ht x).1 (ht x).2 C hg⟩
theorem sn_putF {ci k idx N : Nat} {C0 : String} {T : u_T} {t : Nat → FieldType} (d : decode cc pc = .ok (.putfield idx, 3)) (hc : mt_cls ci C0 T N t) (hk : k < N) (hd : (T k).1 = C0) (hl : Cond.fieldLink own idx C0 (T k).2.1 (T k).2.2.1 ∈ lw_good) (hfin : (T k).2.2.2 = true) (hown : C0 = own) (hini : nm = "<init>") (ht : ∀ a : Nat, narrow (t k) (.ref a) = .ref a ∧ fits (t k) (.ref a) = true) (hn : pc + 3 = n) : mt_Sp Z cc nL own nm ret fr lo pc n (o_putA ci k) := by
  rintro ⟨lv, st, M⟩ q' hq
  rcases st with _ | ⟨x | _ | x, _ | ⟨y | _ | a, st⟩⟩ <;> simp only [o_putA, reduceCtorEq] at hq
  cases hpf : pf M ci a k (.inr (some x)) with
  | none => simp [hpf] at hq
  | some M1 =>
    simp only [hpf, Option.some.injEq] at hq
    subst hq
    subst hn
    obtain ⟨fs, hfs, hkl, hM⟩ := pf_ok hpf
    subst hM
    exact ⟨mt_mo0, fun p l e R s m args below meth c Q D ca b0 w0 v M' C hz hg => mt_putF (x := .inr (some x)) hfs hkl d hc hk hd hl hfin hown hini (ht x).1 (ht x).2 C hg⟩
theorem sn_iald (d : decode cc pc = .ok (.iaload, 1)) (hn : pc + 1 = n) : mt_Sp Z cc nL own nm ret fr lo pc n o_iald := by
  rintro ⟨lv, st, M⟩ q' hq
  rcases st with _ | ⟨i | i, _ | ⟨y | _ | a, st⟩⟩ <;> simp only [o_iald, reduceCtorEq] at hq
  cases hgi : gi 0 M a with
  | none => simp [hgi] at hq
  | some nf =>
    obtain ⟨N, f⟩ := nf
    simp only [hgi] at hq
    cases hix : mt_ix i N with
    | none => simp [hix] at hq
    | some j =>
      simp only [hix, Option.some.injEq] at hq
      subst hq
      subst hn
      have hm := gi_ok hgi
      obtain ⟨hin, hj⟩ := ix_ok hix
      subst hj
      refine ⟨mt_mo0, fun p l e R s m args below meth c Q D ca b0 w0 v M' C hz hg => ⟨hg.1, fun hw H locs ls cells slots h1 h2 h3 h4 h5 => ?_⟩⟩
      obtain ⟨q0, hq0⟩ := mt_pl (ca := ca) hw hm
      exact va_iald C.1 C.2.1 C.2.2.2.2.2.1.1 h1 q0 0 hq0 rfl hin d (hg.2 hw H locs ls cells slots h1 h2 h3 h4 h5)
theorem sn_zald (d : decode cc pc = .ok (.baload, 1)) (hn : pc + 1 = n) : mt_Sp Z cc nL own nm ret fr lo pc n o_zald := by
  rintro ⟨lv, st, M⟩ q' hq
  rcases st with _ | ⟨i | i, _ | ⟨y | _ | a, st⟩⟩ <;> simp only [o_zald, reduceCtorEq] at hq
  cases hgi : gi 1 M a with
  | none => simp [hgi] at hq
  | some nf =>
    obtain ⟨N, f⟩ := nf
    simp only [hgi] at hq
    cases hix : mt_ix i N with
    | none => simp [hix] at hq
    | some j =>
      simp only [hix, Option.some.injEq] at hq
      subst hq
      subst hn
      have hm := gi_ok hgi
      obtain ⟨hin, hj⟩ := ix_ok hix
      subst hj
      refine ⟨mt_mo0, fun p l e R s m args below meth c Q D ca b0 w0 v M' C hz hg => ⟨hg.1, fun hw H locs ls cells slots h1 h2 h3 h4 h5 => ?_⟩⟩
      obtain ⟨q0, hq0⟩ := mt_pl (ca := ca) hw hm
      exact va_zald C.1 C.2.1 C.2.2.2.2.2.1.1 h1 q0 1 hq0 rfl hin d (hg.2 hw H locs ls cells slots h1 h2 h3 h4 h5)
theorem sn_aald {t : Nat} {C0 : String} (ht : ∀ ca, (mt_tys ca)[t]? = some (ca t, .object C0)) (d : decode cc pc = .ok (.aaload, 1)) (hn : pc + 1 = n) : mt_Sp Z cc nL own nm ret fr lo pc n (o_aald t) := by
  rintro ⟨lv, st, M⟩ q' hq
  rcases st with _ | ⟨i | i, _ | ⟨y | _ | a, st⟩⟩ <;> simp only [o_aald, reduceCtorEq] at hq
  cases hgi : ga t M a with
  | none => simp [hgi] at hq
  | some nf =>
    obtain ⟨N, f⟩ := nf
    simp only [hgi] at hq
    cases hix : mt_ix i N with
    | none => simp [hix] at hq
    | some j =>
      simp only [hix, Option.some.injEq] at hq
      subst hq
      subst hn
      have hm := ga_ok hgi
      obtain ⟨hin, hj⟩ := ix_ok hix
      subst hj
      refine ⟨mt_mo0, fun p l e R s m args below meth c Q D ca b0 w0 v M' C hz hg => ⟨hg.1, fun hw H locs ls cells slots h1 h2 h3 h4 h5 => ?_⟩⟩
      obtain ⟨q0, hq0⟩ := mt_pl (ca := ca) hw hm
      exact va_aldq C.1 C.2.1 C.2.2.2.2.2.1.1 h1 q0 t hq0 (ht ca) hin d (hg.2 hw H locs ls cells slots h1 h2 h3 h4 h5)
theorem sn_iast (d : decode cc pc = .ok (.iastore, 1)) (hn : pc + 1 = n) : mt_Sp Z cc nL own nm ret fr lo pc n o_iast := by
  rintro ⟨lv, st, M⟩ q' hq
  rcases st with _ | ⟨x | x, _ | ⟨i | i, _ | ⟨y | _ | a, st⟩⟩⟩ <;> simp only [o_iast, reduceCtorEq] at hq
  cases hgi : gi 0 M a with
  | none => simp [hgi] at hq
  | some nf =>
    obtain ⟨N, f⟩ := nf
    simp only [hgi] at hq
    cases hix : mt_ix i N with
    | none => simp [hix] at hq
    | some j =>
      simp only [hix] at hq
      have hq := Option.some.inj hq
      subst hq
      subst hn
      have hm := gi_ok hgi
      obtain ⟨hin, hj⟩ := ix_ok hix
      subst hj
      refine ⟨mt_mo0, fun p l e R s m args below meth c Q D ca b0 w0 v M' C hz hg => ⟨hg.1, fun hw H locs ls cells slots h1 h2 h3 h4 h5 => ?_⟩⟩
      obtain ⟨q0, hq0⟩ := mt_pl (ca := ca) hw hm
      have hset := mt_set (ca := ca) (e := .inr (0, N, .inl (upd f i.toNatClampNeg x))) hw hm hq0
      refine va_iast C.1 C.2.1 C.2.2.2.2.2.1.1 h1 (mt_D ca b0 M) h2 q0 0 hq0 rfl hin d (fun H1 locs1 hP1 _ hS1 => ?_)
      exact hg.2 (wf_up hw hm) H1 locs1 ls cells slots (hset ▸ hP1) hS1 h3 h4 h5
theorem sn_zast (d : decode cc pc = .ok (.bastore, 1)) (hn : pc + 1 = n) : mt_Sp Z cc nL own nm ret fr lo pc n o_zast := by
  rintro ⟨lv, st, M⟩ q' hq
  rcases st with _ | ⟨x | x, _ | ⟨i | i, _ | ⟨y | _ | a, st⟩⟩⟩ <;> simp only [o_zast, reduceCtorEq] at hq
  cases hgi : gi 1 M a with
  | none => simp [hgi] at hq
  | some nf =>
    obtain ⟨N, f⟩ := nf
    simp only [hgi] at hq
    cases hix : mt_ix i N with
    | none => simp [hix] at hq
    | some j =>
      simp only [hix] at hq
      by_cases hzx : mt_z x = true
      case neg =>
        rw [if_neg hzx] at hq
        cases hq
      rw [if_pos hzx] at hq
      have hq := Option.some.inj hq
      subst hq
      subst hn
      have hm := gi_ok hgi
      obtain ⟨hin, hj⟩ := ix_ok hix
      subst hj
      refine ⟨mt_mo0, fun p l e R s m args below meth c Q D ca b0 w0 v M' C hz hg => ⟨hg.1, fun hw H locs ls cells slots h1 h2 h3 h4 h5 => ?_⟩⟩
      obtain ⟨q0, hq0⟩ := mt_pl (ca := ca) hw hm
      have hset := mt_set (ca := ca) (e := .inr (1, N, .inl (upd f i.toNatClampNeg x))) hw hm hq0
      refine va_zast C.1 C.2.1 C.2.2.2.2.2.1.1 h1 (mt_D ca b0 M) h2 q0 1 hq0 rfl hin d (fun H1 locs1 hP1 _ hS1 => ?_)
      rw [(mt_z_ok hzx).2.2] at hP1
      exact hg.2 (wf_up hw hm) H1 locs1 ls cells slots (hset ▸ hP1) hS1 h3 h4 h5
theorem sn_aast {t ci : Nat} {r : vw_C} (hc : mCl[ci]? = some r) (ht : ∀ ca, (mt_tys ca)[t]? = some (ca t, .object r.1)) (d : decode cc pc = .ok (.aastore, 1)) (hn : pc + 1 = n) : mt_Sp Z cc nL own nm ret fr lo pc n (o_aast t ci) := by
  rintro ⟨lv, st, M⟩ q' hq
  rcases st with _ | ⟨x | _ | x, _ | ⟨i | i, _ | ⟨y | _ | a, st⟩⟩⟩ <;> simp only [o_aast, reduceCtorEq] at hq
  cases hgi : ga t M a with
  | none => simp [hgi] at hq
  | some nf =>
    obtain ⟨N, f⟩ := nf
    simp only [hgi] at hq
    cases hix : mt_ix i N with
    | none => simp [hix] at hq
    | some j =>
      simp only [hix] at hq
      by_cases hzx : mt_is M ci x = true
      case neg =>
        rw [if_neg hzx] at hq
        cases hq
      rw [if_pos hzx] at hq
      have hq := Option.some.inj hq
      subst hq
      subst hn
      have hm := ga_ok hgi
      obtain ⟨hin, hj⟩ := ix_ok hix
      subst hj
      obtain ⟨fs, hfs⟩ := is_ok hzx
      refine ⟨mt_mo0, fun p l e R s m args below meth c Q D ca b0 w0 v M' C hz hg => ⟨hg.1, fun hw H locs ls cells slots h1 h2 h3 h4 h5 => ?_⟩⟩
      obtain ⟨q0, hq0⟩ := mt_pl (ca := ca) hw hm
      obtain ⟨qk, hqk⟩ := mt_pl (ca := ca) hw hfs
      have hset := mt_set (ca := ca) (e := .inr (t, N, .inr (va_up f i.toNatClampNeg (some x)))) hw hm hq0
      refine va_astq C.1 C.2.1 C.2.2.2.2.2.1.1 h1 (mt_D ca b0 M) h2 q0 t qk ci hq0 (ht ca) hqk hc hin d (fun H1 locs1 hP1 _ hS1 => ?_)
      exact hg.2 (wf_up hw hm) H1 locs1 ls cells slots (hset ▸ hP1) hS1 h3 h4 h5
theorem sn_alen {t : Nat} {C0 : String} (ht : ∀ ca, (mt_tys ca)[t]? = some (ca t, .object C0)) (d : decode cc pc = .ok (.arraylength, 1)) (hn : pc + 1 = n) : mt_Sp Z cc nL own nm ret fr lo pc n (o_alen t) := by
  rintro ⟨lv, st, M⟩ q' hq
  rcases st with _ | ⟨y | _ | a, st⟩ <;> simp only [o_alen, reduceCtorEq] at hq
  cases hgi : ga t M a with
  | none => simp [hgi] at hq
  | some nf =>
    obtain ⟨N, f⟩ := nf
    simp only [hgi, Option.some.injEq] at hq
    subst hq
    subst hn
    have hm := ga_ok hgi
    refine ⟨mt_mo0, fun p l e R s m args below meth c Q D ca b0 w0 v M' C hz hg => ⟨hg.1, fun hw H locs ls cells slots h1 h2 h3 h4 h5 => ?_⟩⟩
    obtain ⟨q0, hq0⟩ := mt_pl (ca := ca) hw hm
    exact va_alen C.1 C.2.1 C.2.2.2.2.2.1.1 h1 q0 t hq0 (ht ca) rfl d (hg.2 hw H locs ls cells slots h1 h2 h3 h4 h5)
/-- a new cell lies at the heap's end -/
theorem mt_q {D : va_G} {ca : Nat → ClassId} {b0 q : Nat} {M : m_M} {x : va_E} {H1 : Heap} (hD : va_D (mt_A b0) (mt_ws ca b0 M ++ [(q, x)])) (hP : va_P D mCl (mt_ws ca b0 M ++ [(q, x)]) H1) (hs : H1.size ≤ M.1 + 1) : q = M.1 := by
  have hlast : (mt_ws ca b0 M ++ [(q, x)])[(mt_ws ca b0 M).length]? = some (q, x) := by
    rw [List.getElem?_append_right (Nat.le_refl _), Nat.sub_self]
    rfl
  have h1 := va_at_lt (hP _ _ hlast)
  have h2 : b0 ≤ q := hD.2 _ _ hlast
  have h1 : q < H1.size := h1
  by_cases h : q < M.1
  · exfalso
    obtain ⟨k, hk⟩ := va_pl_get (X := []) (f := tm ca M.2.2) (mt_mem.mpr (⟨h2, h⟩ : b0 ≤ q ∧ q < M.1))
    have hk : (mt_ws ca b0 M)[k]? = some (q, tm ca M.2.2 q) := hk
    have hkl : k < (mt_ws ca b0 M).length := by
      obtain ⟨h3, -⟩ := List.getElem?_eq_some_iff.mp hk
      exact h3
    have hk2 : (mt_ws ca b0 M ++ [(q, x)])[k]? = some (q, tm ca M.2.2 q) := by
      rw [List.getElem?_append_left hkl]
      exact hk
    have h4 := hD.1 k _ _ _ hk2 hlast rfl
    omega
  · omega
theorem sn_new {ci idx N : Nat} {C0 : String} {T : u_T} {t : Nat → FieldType} {fs : List m_V} (d : decode cc pc = .ok (.new idx, 3)) (hc : mt_cls ci C0 T N t) (hl : Cond.classLink own idx C0 ∈ lw_good) (hfs : ∀ j, j < N → defaultValue (t j) = vp_V (fs.map tv) j) (hN : fs.length = N) (hn : pc + 3 = n) : mt_Sp Z cc nL own nm ret fr lo pc n (o_new ci fs) := by
  rintro ⟨lv, st, M⟩ q' hq
  simp only [o_new, Option.some.injEq] at hq
  subst hq
  subst hn
  subst hN
  refine ⟨⟨Nat.le_succ _, Nat.le_add_right _ _⟩, fun p l e R s m args below meth c Q D ca b0 w0 v M' C hz hg => ⟨⟨Nat.le_trans (Nat.le_succ _) hg.1.1, Nat.le_trans (Nat.le_add_right _ _) hg.1.2⟩, fun hw H locs ls cells slots h1 h2 h3 h4 h5 => ?_⟩⟩
  obtain ⟨hgm, hg⟩ := hg
  have hr := C.2.2.2.2.2.2.2.1
  have hgm1 : M.1 + 1 ≤ M'.1 := hgm.1
  have hgm2 : M.2.1 + fs.length ≤ M'.2.1 := hgm.2
  have h3 : cells + s.heap.size = M.1 := h3
  have h4 : slots + w0 = M.2.1 := h4
  have hb0 : b0 ≤ M.1 := Nat.le_trans C.2.2.2.2.2.2.1 (by omega)
  refine va_new C.1 C.2.1 C.2.2.2.2.1 hc.2.1 t hc.2.2.1 C.2.2.2.1 (C.2.2.2.2.1 _ hl) (C.2.2.2.2.1 _ hc.2.2.2.2.1) (C.2.2.2.2.1 _ hc.2.2.2.2.2) C.2.2.2.2.2.1.1 h1 (mt_D ca b0 M) h2 (fun q hq => Nat.le_trans C.2.2.2.2.2.2.1 hq) hc.1 hfs (by omega) (by omega) d (fun q H1 hP1 hD1 hS1 => ?_)
  refine mt_size (fun hsz => ?_)
  have hqe := mt_q hD1 hP1 (by omega)
  subst hqe
  have hP2 : va_P D mCl (mt_ws ca b0 (mnew M fs.length (.inl (ci, fs)))) H1 := by
    rw [← mt_new hb0]
    exact hP1
  exact hg (wf_new hw hb0) H1 locs ls (cells + 1) (slots + fs.length) hP2 hS1 (by show cells + 1 + s.heap.size = M.1 + 1; omega) (by show slots + fs.length + w0 = M.2.1 + fs.length; omega) h5
theorem sn_newI {t : Nat} {at0 : ArrayType} {ty : FieldType} (d : decode cc pc = .ok (.newarray at0, 2)) (hty : newarray.typeOf at0 = ty) (hw0 : Cond.arrayClass ty ∈ lw_good) (hcell : ∀ (cA : ClassId) (N : Nat), vp_cell cA (N, .inl (fun _ => 0)) = arrV cA N (fun _ => defaultValue ty)) (hcb : componentBytes ty ≤ 4) (ht : ∀ ca, (mt_tys ca)[t]? = some (ca t, ty)) (hra : ∀ (U : State) (c1 c2 : ClassId), va_RA U c1 ty → va_RA U c2 ty → c1 = c2) (hn : pc + 2 = n) : mt_Sp Z cc nL own nm ret fr lo pc n (o_newI t) := by
  rintro ⟨lv, st, M⟩ q' hq
  rcases st with _ | ⟨k | k, st⟩ <;> simp only [o_newI, reduceCtorEq] at hq
  by_cases hk : k < 0 ∨ 65536 < k.toNatClampNeg
  · rw [if_pos hk] at hq
    cases hq
  · rw [if_neg hk] at hq
    have hq := Option.some.inj hq
    subst hq
    subst hn
    obtain ⟨hk0, hk1⟩ := not_or.mp hk
    generalize hkk : k.toNatClampNeg = kk
    rw [hkk] at hk1
    refine ⟨⟨Nat.le_succ _, Nat.le_add_right _ _⟩, fun p l e R s m args below meth c Q D ca b0 w0 v M' C hz hg => ⟨⟨Nat.le_trans (Nat.le_succ _) hg.1.1, Nat.le_trans (Nat.le_add_right _ _) hg.1.2⟩, fun hw H locs ls cells slots h1 h2 h3 h4 h5 => ?_⟩⟩
    obtain ⟨hgm, hg⟩ := hg
    have hr := C.2.2.2.2.2.2.2.1
    have hgm1 : M.1 + 1 ≤ M'.1 := hgm.1
    have hgm2 : M.2.1 + kk ≤ M'.2.1 := hgm.2
    have h3 : cells + s.heap.size = M.1 := h3
    have h4 : slots + w0 = M.2.1 := h4
    have hb0 : b0 ≤ M.1 := Nat.le_trans C.2.2.2.2.2.2.1 (by omega)
    have hbytes : kk * componentBytes ty ≤ 536870912 := Nat.le_trans (Nat.mul_le_mul (show kk ≤ 65536 by omega) hcb) (by decide)
    refine va_newa C.1 C.2.1 (by rw [hty]; exact C.2.2.2.2.1 _ hw0) hty C.2.2.2.2.2.1.1 h1 (mt_D ca b0 M) h2 (fun q hq => Nat.le_trans C.2.2.2.2.2.2.1 hq) (a0 := (kk, .inl (fun _ => 0))) (fun cA => hcell cA kk) hk0 hkk hbytes (by omega) (by omega) d (fun q cA H1 hK1 hP1 hD1 hS1 => ?_)
    refine mt_size (fun hsz => ?_)
    have hcA : ca t = cA := hra s _ _ (C.2.2.2.2.2.1.1.2 t _ (ht ca)).2 (hK1.2 6 (cA, ty) rfl).2
    subst hcA
    have hqe := mt_q hD1 hP1 (by omega)
    subst hqe
    have hP2 : va_P D mCl (mt_ws ca b0 (mnew M kk (.inr (t, kk, .inl (fun _ => 0))))) H1 := by
      rw [← mt_new hb0]
      exact hP1
    exact hg (wf_new hw hb0) H1 locs ls (cells + 1) (slots + kk) hP2 hS1 (by show cells + 1 + s.heap.size = M.1 + 1; omega) (by show slots + kk + w0 = M.2.1 + kk; omega) h5
theorem sn_newA {t idx : Nat} {C0 : String} (d : decode cc pc = .ok (.anewarray idx, 3)) (hl : Cond.classLink own idx C0 ∈ lw_good) (hao : ∀ (D : va_G) (ca : Nat → ClassId) (s : State), mt_K D ca s → va_AO C0 s) (ht : ∀ ca, (mt_tys ca)[t]? = some (ca t, .object C0)) (hn : pc + 3 = n) : mt_Sp Z cc nL own nm ret fr lo pc n (o_newA t) := by
  rintro ⟨lv, st, M⟩ q' hq
  rcases st with _ | ⟨k | k, st⟩ <;> simp only [o_newA, reduceCtorEq] at hq
  by_cases hk : k < 0 ∨ 65536 < k.toNatClampNeg
  · rw [if_pos hk] at hq
    cases hq
  · rw [if_neg hk] at hq
    have hq := Option.some.inj hq
    subst hq
    subst hn
    obtain ⟨hk0, hk1⟩ := not_or.mp hk
    generalize hkk : k.toNatClampNeg = kk
    rw [hkk] at hk1
    refine ⟨⟨Nat.le_succ _, Nat.le_add_right _ _⟩, fun p l e R s m args below meth c Q D ca b0 w0 v M' C hz hg => ⟨⟨Nat.le_trans (Nat.le_succ _) hg.1.1, Nat.le_trans (Nat.le_add_right _ _) hg.1.2⟩, fun hw H locs ls cells slots h1 h2 h3 h4 h5 => ?_⟩⟩
    obtain ⟨hgm, hg⟩ := hg
    have hr := C.2.2.2.2.2.2.2.1
    have hgm1 : M.1 + 1 ≤ M'.1 := hgm.1
    have hgm2 : M.2.1 + kk ≤ M'.2.1 := hgm.2
    have h3 : cells + s.heap.size = M.1 := h3
    have h4 : slots + w0 = M.2.1 := h4
    have hb0 : b0 ≤ M.1 := Nat.le_trans C.2.2.2.2.2.2.1 (by omega)
    refine va_newq C.1 C.2.1 C.2.2.2.1 (C.2.2.2.2.1 _ hl) (hao D ca s C.2.2.2.2.2.1) C.2.2.2.2.2.1.1 h1 (mt_D ca b0 M) h2 (fun q hq => Nat.le_trans C.2.2.2.2.2.2.1 hq) hk0 hkk (by omega) (by omega) (by omega) d (fun q cA H1 hK1 hP1 hD1 hS1 => ?_)
    refine mt_size (fun hsz => ?_)
    have hcA : ca t = cA := by
      obtain ⟨_, _, _, _, _, e1⟩ := (C.2.2.2.2.2.1.1.2 t _ (ht ca)).2
      obtain ⟨_, _, _, _, _, e2⟩ := (hK1.2 6 (cA, .object C0) rfl).2
      exact Option.some.inj (e1.symm.trans e2)
    subst hcA
    have hqe := mt_q hD1 hP1 (by omega)
    subst hqe
    have hP2 : va_P D mCl (mt_ws ca b0 (mnew M kk (.inr (t, kk, .inr (fun _ => none))))) H1 := by
      rw [← mt_new hb0]
      exact hP1
    exact hg (wf_new hw hb0) H1 locs ls (cells + 1) (slots + kk) hP2 hS1 (by show cells + 1 + s.heap.size = M.1 + 1; omega) (by show slots + kk + w0 = M.2.1 + kk; omega) h5
def mt_Zs (sb L : Nat) (xs : Nat → Int32) : Nat → State → Prop := fun b0 s => va_X sb L xs s s.heap ∧ sb < s.heap.size ∧ sb < b0
theorem sn_slen {sb L : Nat} {xs : Nat → Int32} (d : decode cc pc = .ok (.arraylength, 1)) (hn : pc + 1 = n) : mt_Sp (mt_Zs sb L xs) cc nL own nm ret fr lo pc n (o_slen sb L) := by
  rintro ⟨lv, st, M⟩ q' hq
  rcases st with _ | ⟨y | _ | a, st⟩ <;> simp only [o_slen, reduceCtorEq] at hq
  by_cases hk : a = sb
  · rw [if_pos hk] at hq
    have hq := Option.some.inj hq
    subst hq
    subst hn
    subst hk
    exact ⟨mt_mo0, fun p l e R s m args below meth c Q D ca b0 w0 v M' C hz hg => ⟨hg.1, fun hw H locs ls cells slots h1 h2 h3 h4 h5 => va_slen C.1 C.2.1 hz.1 hz.2.1 (fun h => Nat.lt_irrefl _ (Nat.lt_of_lt_of_le hz.2.2 h)) h2 d (hg.2 hw H locs ls cells slots h1 h2 h3 h4 h5)⟩⟩
  · rw [if_neg hk] at hq
    cases hq
theorem sn_sld {sb L : Nat} {xs : Nat → Int32} (d : decode cc pc = .ok (.iaload, 1)) (hn : pc + 1 = n) : mt_Sp (mt_Zs sb L xs) cc nL own nm ret fr lo pc n (o_sld sb L xs) := by
  rintro ⟨lv, st, M⟩ q' hq
  rcases st with _ | ⟨i | i, _ | ⟨y | _ | a, st⟩⟩ <;> simp only [o_sld, reduceCtorEq] at hq
  by_cases hk : a = sb
  · rw [if_pos hk] at hq
    cases hix : mt_ix i L with
    | none => simp [hix] at hq
    | some j =>
      simp only [hix, Option.some.injEq] at hq
      subst hq
      subst hn
      subst hk
      obtain ⟨hin, hj⟩ := ix_ok hix
      subst hj
      exact ⟨mt_mo0, fun p l e R s m args below meth c Q D ca b0 w0 v M' C hz hg => ⟨hg.1, fun hw H locs ls cells slots h1 h2 h3 h4 h5 => va_sld C.1 C.2.1 hz.1 hz.2.1 (fun h => Nat.lt_irrefl _ (Nat.lt_of_lt_of_le hz.2.2 h)) h2 hin d (hg.2 hw H locs ls cells slots h1 h2 h3 h4 h5)⟩⟩
  · rw [if_neg hk] at hq
    cases hq
theorem sn_objinit {idx : Nat} (d : decode cc pc = .ok (.invokespecial idx, 3)) (hl : Cond.methodLink own idx Lib.objectInit ∈ lw_good) (hi : Cond.instanceMethod Lib.objectInit ∈ lw_good) (hcd : Cond.code Lib.objectInit ⟨#[0xb1]⟩ 1 none ∈ lw_good) (hR : 1 ≤ fr ∧ 20 ≤ lo) (hn : pc + 3 = n) : mt_Sp Z cc nL own nm ret fr lo pc n o_objinit := by
  rintro ⟨lv, st, M⟩ q' hq
  rcases st with _ | ⟨y | _ | a, st⟩ <;> simp only [o_objinit, reduceCtorEq] at hq
  by_cases hk : st.length ≤ 8
  · rw [if_pos hk] at hq
    have hq := Option.some.inj hq
    subst hq
    subst hn
    refine ⟨mt_mo0, fun p l e R s m args below meth c Q D ca b0 w0 v M' C hz hg => ⟨hg.1, fun hw H locs ls cells slots h1 h2 h3 h4 h5 => ?_⟩⟩
    have hr := C.2.2.2.2.2.2.2.1
    have hm8 := lv_room (m := m) (pc := pc) (ls := ls) (rest := (Sum.inr (some a) :: st : List m_V).map tv) (st := st.map tv) (by rw [tv_sum]; exact hk)
    exact W.objInit C.1 C.2.1 C.2.2.2.1 (C.2.2.2.2.1 _ hl) (C.2.2.2.2.1 _ hi) (C.2.2.2.2.1 _ hcd) (g := F0 m pc ls ((Sum.inr (some a) :: st : List m_V).map tv)) rfl (by rw [C.2.2.1]; exact h5.1) (a := a) (rest := st.map tv) rfl d (Nat.le_trans hR.1 hr.1) (by have := hr.2.1; omega) (hg.2 hw H locs ls cells slots h1 h2 h3 h4 h5)
  · rw [if_neg hk] at hq
    cases hq
end SN
section CL
variable {p : Program} {l : Launch} {e : Env} {R : Room} {s : State} {m : MethodId} {args : Array Value} {below : List Frame} {meth : Method} {c : Code} {Q : State → Prop} {D : va_G} {ca : Nat → ClassId} {b0 w0 nL : Nat} {M' : m_M}
theorem mt_aft {H : Heap} {locs : List Loc} {cells slots mc ms pc n : Nat} {ls : Array Slot} {st0 : List Value} {a' : Array Value} {r : m_R} {lv : List (Option m_V)} {st' : List m_V} (hrun : va_Run p l e R s m args below meth c H locs cells slots mc ms (F0 m pc ls st0) (st'.map tv) (mt_Q D ca b0 r.1 r.2 a') (mt_A b0)) (hS : va_S (mt_A b0) s.heap H locs) (hc : cells + mc + s.heap.size = r.2.1) (hs : slots + ms + w0 = r.2.2.1) (h5 : lv_has ls nL (ml 0 lv)) (hn : pc + 3 = n) (hg : mt_G p l e R s m args below meth c Q nL D ca b0 w0 M' n (lv, r.1.toList ++ st', r.2)) : W p l e R s m args below meth c H locs cells slots Q (F0 m pc ls st0) := by
  intro T hT X
  obtain ⟨v1, st₀, t, T', L, h0, X', hL, e1, e2, ⟨hv, hw', hP', hz, hk⟩, hgo⟩ := hrun T hT X
  have hv : v1 = r.1.map tv := by cases hv; rfl
  subst hv
  rw [h0] at hz hk
  have hg2 := hg.2 hw' T'.heap (locs ++ L) ls (cells + mc) (slots + ms) (by rw [e1]; exact hP')
    ⟨Nat.le_trans hS.1 (by rw [e1]; exact hz), fun q h1 h2 => by rw [e1, hk q (Nat.lt_of_lt_of_le h1 hS.1) h2]; exact hS.2.1 q h1 h2, fun q hq => by
      rcases List.mem_append.mp hq with h | h
      · exact hS.2.2 q h
      · exact hL q h⟩ hc hs h5
  obtain ⟨t2, a1, b1⟩ := hg2 T' rfl X'
  subst hn
  refine ⟨t2, hgo t2 ?_, b1⟩
  have hst : (r.1.map tv).toList ++ st'.map tv = (r.1.toList ++ st').map tv := by
    cases r.1 <;> simp
  show Steps p.tables e below (T'.setTop (F0 m (pc + 3) ls ((r.1.map tv).toList ++ st'.map tv))) t2
  rw [hst]
  exact a1
theorem mt_blind {av : List Value} {M : m_M} : FrameBlind (va_Pc av (mt_U D ca b0 M)) := fun a U g mk q => by
  obtain ⟨q0, q1, q2, q3, q4, q5⟩ := q
  exact ⟨q0, q1, q2, q3, q4, mt_K_same (u := U) (U := U.calling g mk a) rfl q5⟩
theorem mt_pre {M : m_M} {H : Heap} {av : List Value} (hK : mt_K D ca s) (hz : H.size = M.1) (hb : b0 ≤ M.1) (hw : mt_wf b0 M) (hP : va_P D mCl (mt_ws ca b0 M) H) : ∀ U : State, U.heap = H → s.WarmedH U.vm → va_Pc av (mt_U D ca b0 M) av.toArray U := fun U hU hW => by
  refine ⟨rfl, ?_, hb, hw, ?_, mt_K_warm hW hK⟩
  · rw [hU]; exact hz
  · rw [hU]; exact hP
end CL
def mt_lm (own : String) (idx : Nat) (y : MethodName) (cY : ByteArray) (nY : Nat) (rY : Option FieldType) (k : Nat) : Prop :=
  (y.cls ≠ "java/lang/invoke/MethodHandle" ∧ y.cls ≠ "java/lang/invoke/VarHandle" ∧ (parseMethodDescriptor y.desc).map (fun d => d.parameters.length) = some k) ∧ Cond.code y cY nY rY ∈ lw_good ∧ Cond.initialized y.cls ∈ lw_good ∧ (Cond.methodLink own idx y ∈ lw_good ∨ ∃ host, Cond.methodLinkNest own idx y host ∈ lw_nest)
theorem mt_words {y : MethodName} {cY : ByteArray} {nY : Nat} {rY : Option FieldType} (h : Cond.code y cY nY rY ∈ lw_good) : GoodIn lw_good (Cond.code y cY nY rY :: lw_good) := fun w hw => by
  have h2 : w ∈ lw_good := by
    rcases List.mem_cons.mp hw with h1 | h1
    · rw [h1]; exact h
    · exact h1
  exact ⟨h2, lw_good_ok h2⟩
theorem mt_wordsA {ys : List Cond} {y : MethodName} {cY : ByteArray} {nY : Nat} {rY : Option FieldType} (hy : ∀ w ∈ ys, w ∈ lw_good) (h : Cond.code y cY nY rY ∈ lw_good) : GoodIn lw_good (ys ++ (Cond.code y cY nY rY :: lw_good)) := fun w hw => by
  rcases List.mem_append.mp hw with h1 | h1
  · exact ⟨hy w h1, lw_good_ok (hy w h1)⟩
  · exact mt_words h w h1
theorem mt_cat_ref {av : List m_V} {st' st : List m_V} {a : Nat} (h : (Sum.inr (some a) :: av : List m_V).reverse ++ st' = st) : st.map tv = (av.map tv).reverse ++ Value.ref a :: st'.map tv := by
  rw [← h]
  simp [tv, va_rf]
theorem mt_cat_all {av : List m_V} {st' st : List m_V} (h : av.reverse ++ st' = st) : st.map tv = (av.map tv).reverse ++ st'.map tv := by
  rw [← h]
  simp
section SN
variable {Z : Nat → State → Prop} {cc : ByteArray} {nL : Nat} {own nm : String} {ret : Option FieldType} {fr lo pc n : Nat}
theorem sn_callV {y : MethodName} {cY : ByteArray} {nY : Nat} {rY : Option FieldType} {fY lY : Nat} {sem : List m_V → m_M → Option m_R} {ci : Nat} {r : vw_C} {k idx : Nat} (d : decode cc pc = .ok (.invokevirtual idx, 3)) (os : mt_OkS y cY nY rY fY lY sem) (hc : mCl[ci]? = some r) (hy : y.cls = r.1) (hm : mt_lm own idx y cY nY rY k) (hin : Cond.instanceMethod y ∈ lw_good) (hse : Cond.selects r.1 y y ∈ lw_good) (hR : fY + 1 ≤ fr ∧ 8 + (nY + 11) + lY ≤ lo) (hk : k + 1 ≤ nY) (hn : pc + 3 = n) : mt_Sl Z cc nL own nm ret fr lo pc (o_callV sem ci (k + 1) n) := by
  rintro ⟨lv, st, M⟩ z hq
  simp only [o_callV] at hq
  cases hp : mt_pop (k + 1) [] st with
  | none => simp [hp] at hq
  | some ab =>
    obtain ⟨av, st'⟩ := ab
    rcases av with _ | ⟨x | _ | a, av⟩ <;> simp only [hp, reduceCtorEq] at hq
    by_cases hcond : st'.length ≤ 8 ∧ mt_is M ci a = true
    case neg =>
      rw [if_neg hcond] at hq
      cases hq
    rw [if_pos hcond] at hq
    cases hs : sem (.inr (some a) :: av) M with
    | none => simp [hs, mt_after] at hq
    | some r1 =>
      simp only [hs, mt_after, Option.some.injEq] at hq
      subst hq
      obtain ⟨hp1, hp2⟩ := mt_pop_ok _ _ _ _ _ hp
      have hp2 : av.length = k := by simpa using hp2
      obtain ⟨hmo, hmet⟩ := os _ M r1 (by simp only [List.length_cons]; omega) hs
      refine ⟨fun x hx => by cases hx; exact hmo, fun r hx => (by cases hx), fun p l e R s m args below meth c Q D ca b0 w0 v M' C hz hg hr => ?_⟩
      have hg := hg _ rfl
      refine ⟨⟨Nat.le_trans hmo.1 hg.1.1, Nat.le_trans hmo.2 hg.1.2⟩, fun hw H locs ls cells slots h1 h2 h3 h4 h5 => ?_⟩
      refine mt_size (fun hsz => ?_)
      have hrm := C.2.2.2.2.2.2.2.1
      have hK := C.2.2.2.2.2.1
      have hws := C.2.2.2.2.1
      have h3 : cells + s.heap.size = M.1 := h3
      have h4 : slots + w0 = M.2.1 := h4
      have hb0 : b0 ≤ M.1 := Nat.le_trans C.2.2.2.2.2.2.1 (by omega)
      have h1 : va_P D mCl (mt_ws ca b0 M) H := h1
      have hz2 : H.size = M.1 := by
        have := mt_size2 C.2.2.2.2.2.2.1 h1 h2 (by omega)
        omega
      have hmo1 : M.1 ≤ r1.2.1 := hmo.1
      have hmo2 : M.2.1 ≤ r1.2.2.1 := hmo.2
      have hgm1 : r1.2.1 ≤ M'.1 := hg.1.1
      have hgm2 : r1.2.2.1 ≤ M'.2.1 := hg.1.2
      have hroom : fY + 1 ≤ R.frames ∧ 8 + (nY + 11) + lY ≤ R.locals := ⟨Nat.le_trans hR.1 hrm.1, Nat.le_trans hR.2 hrm.2.1⟩
      have hfix : CallFix p m c cc nL s args lw_good own := ⟨C.1, C.2.1, C.2.2.1, C.2.2.2.1, hws⟩
      obtain ⟨fs, hfs⟩ := is_ok hcond.2
      obtain ⟨q0, hq0⟩ := mt_pl (ca := ca) hw hfs
      have hpre : PreV s H r.1 a (va_Pc ((Sum.inr (some a) :: av : List m_V).map tv) (mt_U D ca b0 M)) (av.map tv) := ⟨mt_blind, va_recv hK.1 h1 hc hq0, mt_pre hK hz2 hb0 hw h1⟩
      have hst := mt_cat_ref (av := av) (st' := st') (st := st) (a := a) (by simpa using hp1)
      rcases hm with ⟨hd, hcw, hini, hlk | ⟨host, hlk⟩⟩
      · have hrun := va_runV (e := e) (below := below) (meth := meth) (locs := locs) (cells := cells) (slots := slots) (rest := st'.map tv) (g := F0 m pc ls (st.map tv)) hfix (hmet l D ca b0) (cwV k hws (mt_wordsA (ys := [.methodLink own idx y, .instanceMethod y, .selects r.1 y y, .initialized r.1]) (fun w hw => by simp only [List.mem_cons, List.not_mem_nil, or_false] at hw; rcases hw with rfl | rfl | rfl | rfl <;> first | exact hlk | exact hin | exact hse | (rw [← hy]; exact hini)) hcw) rfl rfl rfl ⟨hy, hd⟩ hroom) hpre rfl (by rw [List.length_map]; exact hp2) h5.1 hst (lv_room (by rw [tv_sum]; exact hcond.1)) d ⟨by omega, by omega⟩
        exact mt_aft hrun h2 (by omega) (by omega) h5 hn hg
      · have hrun := va_runVN (e := e) (below := below) (meth := meth) (locs := locs) (cells := cells) (slots := slots) (rest := st'.map tv) (g := F0 m pc ls (st.map tv)) hfix (hmet l D ca b0) ⟨va_cnB k hws (mt_words hcw) rfl rfl rfl (hK.2.1 _ hlk) (hws _ hini) hd hroom, hws _ hin, hws _ hse⟩ hpre rfl (by rw [List.length_map]; exact hp2) h5.1 hst (lv_room (by rw [tv_sum]; exact hcond.1)) d ⟨by omega, by omega⟩
        exact mt_aft hrun h2 (by omega) (by omega) h5 hn hg
theorem sn_callI {y : MethodName} {cY : ByteArray} {nY : Nat} {fY lY : Nat} {sem : List m_V → m_M → Option m_R} {k idx : Nat} (d : decode cc pc = .ok (.invokespecial idx, 3)) (os : mt_OkS y cY nY none fY lY sem) (hy : y.name = "<init>") (hm : mt_lm own idx y cY nY none k) (hin : Cond.instanceMethod y ∈ lw_good) (hR : fY + 1 ≤ fr ∧ 8 + (nY + 11) + lY ≤ lo) (hk : k + 1 ≤ nY) (hn : pc + 3 = n) : mt_Sl Z cc nL own nm ret fr lo pc (o_callI sem (k + 1) n) := by
  rintro ⟨lv, st, M⟩ z hq
  simp only [o_callI] at hq
  cases hp : mt_pop (k + 1) [] st with
  | none => simp [hp] at hq
  | some ab =>
    obtain ⟨av, st'⟩ := ab
    rcases av with _ | ⟨x | _ | a, av⟩ <;> simp only [hp, reduceCtorEq] at hq
    by_cases hcond : st'.length ≤ 8
    case neg =>
      rw [if_neg hcond] at hq
      cases hq
    rw [if_pos hcond] at hq
    cases hs : sem (.inr (some a) :: av) M with
    | none => simp [hs, mt_after] at hq
    | some r1 =>
      simp only [hs, mt_after, Option.some.injEq] at hq
      subst hq
      obtain ⟨hp1, hp2⟩ := mt_pop_ok _ _ _ _ _ hp
      have hp2 : av.length = k := by simpa using hp2
      obtain ⟨hmo, hmet⟩ := os _ M r1 (by simp only [List.length_cons]; omega) hs
      refine ⟨fun x hx => by cases hx; exact hmo, fun r hx => (by cases hx), fun p l e R s m args below meth c Q D ca b0 w0 v M' C hz hg hr => ?_⟩
      have hg := hg _ rfl
      refine ⟨⟨Nat.le_trans hmo.1 hg.1.1, Nat.le_trans hmo.2 hg.1.2⟩, fun hw H locs ls cells slots h1 h2 h3 h4 h5 => ?_⟩
      refine mt_size (fun hsz => ?_)
      have hrm := C.2.2.2.2.2.2.2.1
      have hK := C.2.2.2.2.2.1
      have hws := C.2.2.2.2.1
      have h3 : cells + s.heap.size = M.1 := h3
      have h4 : slots + w0 = M.2.1 := h4
      have hb0 : b0 ≤ M.1 := Nat.le_trans C.2.2.2.2.2.2.1 (by omega)
      have h1 : va_P D mCl (mt_ws ca b0 M) H := h1
      have hz2 : H.size = M.1 := by
        have := mt_size2 C.2.2.2.2.2.2.1 h1 h2 (by omega)
        omega
      have hmo1 : M.1 ≤ r1.2.1 := hmo.1
      have hmo2 : M.2.1 ≤ r1.2.2.1 := hmo.2
      have hgm1 : r1.2.1 ≤ M'.1 := hg.1.1
      have hgm2 : r1.2.2.1 ≤ M'.2.1 := hg.1.2
      have hroom : fY + 1 ≤ R.frames ∧ 8 + (nY + 11) + lY ≤ R.locals := ⟨Nat.le_trans hR.1 hrm.1, Nat.le_trans hR.2 hrm.2.1⟩
      have hfix : CallFix p m c cc nL s args lw_good own := ⟨C.1, C.2.1, C.2.2.1, C.2.2.2.1, hws⟩
      have hpre : PreS s H (va_Pc ((Sum.inr (some a) :: av : List m_V).map tv) (mt_U D ca b0 M)) (.ref a :: av.map tv) := ⟨mt_blind, mt_pre hK hz2 hb0 hw h1⟩
      have hst := mt_cat_ref (av := av) (st' := st') (st := st) (a := a) (by simpa using hp1)
      rcases hm with ⟨hd, hcw, hini, hlk | ⟨host, hlk⟩⟩
      · have hrun := va_runI (e := e) (below := below) (meth := meth) (locs := locs) (cells := cells) (slots := slots) (rest := st'.map tv) (g := F0 m pc ls (st.map tv)) hfix (hmet l D ca b0) (cwI k hws (mt_words hcw) rfl rfl rfl (hws _ hini) (hws _ hlk) (hws _ hin) hy hd hroom) hpre rfl (by rw [List.length_map]; exact hp2) h5.1 hst (lv_room (by rw [tv_sum]; exact hcond)) d ⟨by omega, by omega⟩
        exact mt_aft hrun h2 (by omega) (by omega) h5 hn hg
      · have hrun := va_runIN (e := e) (below := below) (meth := meth) (locs := locs) (cells := cells) (slots := slots) (rest := st'.map tv) (g := F0 m pc ls (st.map tv)) hfix (hmet l D ca b0) ⟨va_cnB k hws (mt_words hcw) rfl rfl rfl (hK.2.1 _ hlk) (hws _ hini) hd hroom, hy, hws _ hin⟩ hpre rfl (by rw [List.length_map]; exact hp2) h5.1 hst (lv_room (by rw [tv_sum]; exact hcond)) d ⟨by omega, by omega⟩
        exact mt_aft hrun h2 (by omega) (by omega) h5 hn hg
theorem sn_callS {y : MethodName} {cY : ByteArray} {nY : Nat} {rY : Option FieldType} {fY lY : Nat} {sem : List m_V → m_M → Option m_R} {k idx : Nat} (d : decode cc pc = .ok (.invokestatic idx, 3)) (os : mt_OkS y cY nY rY fY lY sem) (hy : y.cls = own) (hm : mt_lm own idx y cY nY rY k) (hst0 : Cond.static y ∈ lw_good) (hR : fY + 1 ≤ fr ∧ 8 + (nY + 11) + lY ≤ lo) (hk : k ≤ nY) (hn : pc + 3 = n) : mt_Sl Z cc nL own nm ret fr lo pc (o_callS sem (k) n) := by
  rintro ⟨lv, st, M⟩ z hq
  simp only [o_callS] at hq
  cases hp : mt_pop (k) [] st with
  | none => simp [hp] at hq
  | some ab =>
    obtain ⟨av, st'⟩ := ab
    simp only [hp] at hq
    by_cases hcond : st'.length ≤ 8
    case neg =>
      rw [if_neg hcond] at hq
      cases hq
    rw [if_pos hcond] at hq
    cases hs : sem av M with
    | none => simp [hs, mt_after] at hq
    | some r1 =>
      simp only [hs, mt_after, Option.some.injEq] at hq
      subst hq
      obtain ⟨hp1, hp2⟩ := mt_pop_ok _ _ _ _ _ hp
      have hp2 : av.length = k := by simpa using hp2
      obtain ⟨hmo, hmet⟩ := os _ M r1 (by omega) hs
      refine ⟨fun x hx => by cases hx; exact hmo, fun r hx => (by cases hx), fun p l e R s m args below meth c Q D ca b0 w0 v M' C hz hg hr => ?_⟩
      have hg := hg _ rfl
      refine ⟨⟨Nat.le_trans hmo.1 hg.1.1, Nat.le_trans hmo.2 hg.1.2⟩, fun hw H locs ls cells slots h1 h2 h3 h4 h5 => ?_⟩
      refine mt_size (fun hsz => ?_)
      have hrm := C.2.2.2.2.2.2.2.1
      have hK := C.2.2.2.2.2.1
      have hws := C.2.2.2.2.1
      have h3 : cells + s.heap.size = M.1 := h3
      have h4 : slots + w0 = M.2.1 := h4
      have hb0 : b0 ≤ M.1 := Nat.le_trans C.2.2.2.2.2.2.1 (by omega)
      have h1 : va_P D mCl (mt_ws ca b0 M) H := h1
      have hz2 : H.size = M.1 := by
        have := mt_size2 C.2.2.2.2.2.2.1 h1 h2 (by omega)
        omega
      have hmo1 : M.1 ≤ r1.2.1 := hmo.1
      have hmo2 : M.2.1 ≤ r1.2.2.1 := hmo.2
      have hgm1 : r1.2.1 ≤ M'.1 := hg.1.1
      have hgm2 : r1.2.2.1 ≤ M'.2.1 := hg.1.2
      have hroom : fY + 1 ≤ R.frames ∧ 8 + (nY + 11) + lY ≤ R.locals := ⟨Nat.le_trans hR.1 hrm.1, Nat.le_trans hR.2 hrm.2.1⟩
      have hfix : CallFix p m c cc nL s args lw_good own := ⟨C.1, C.2.1, C.2.2.1, C.2.2.2.1, hws⟩
      have hpre : PreS s H (va_Pc (av.map tv) (mt_U D ca b0 M)) (av.map tv) := ⟨mt_blind, mt_pre hK hz2 hb0 hw h1⟩
      have hst := mt_cat_all (av := av) (st' := st') (st := st) (by simpa using hp1)
      rcases hm with ⟨hd, hcw, hini, hlk | ⟨host, hlk⟩⟩
      · have hrun := va_runS (e := e) (below := below) (meth := meth) (locs := locs) (cells := cells) (slots := slots) (rest := st'.map tv) (g := F0 m pc ls (st.map tv)) hfix (hmet l D ca b0) (cwS k hws (mt_wordsA (ys := [.methodLink own idx y, .static y, .initialized own]) (fun w hw => by simp only [List.mem_cons, List.not_mem_nil, or_false] at hw; rcases hw with rfl | rfl | rfl <;> first | exact hlk | exact hst0 | (rw [← hy]; exact hini)) hcw) rfl rfl rfl ⟨hy, hd⟩ hroom) hpre rfl (by rw [List.length_map]; exact hp2) h5.1 hst (lv_room (by rw [tv_sum]; exact hcond)) d ⟨by omega, by omega⟩
        exact mt_aft hrun h2 (by omega) (by omega) h5 hn hg
      · have hrun := va_runSN (e := e) (below := below) (meth := meth) (locs := locs) (cells := cells) (slots := slots) (rest := st'.map tv) (g := F0 m pc ls (st.map tv)) hfix (hmet l D ca b0) ⟨va_cnB k hws (mt_words hcw) rfl rfl rfl (hK.2.1 _ hlk) (hws _ hini) hd hroom, hws _ hst0, trivial⟩ hpre rfl (by rw [List.length_map]; exact hp2) h5.1 hst (lv_room (by rw [tv_sum]; exact hcond)) d ⟨by omega, by omega⟩
        exact mt_aft hrun h2 (by omega) (by omega) h5 hn hg
end SN
theorem mt_okS {y : MethodName} {cc : ByteArray} {nL : Nat} {ret : Option FieldType} {fr lo : Nat} {code : List m_B} {own nm : String} (hy : plainName y.cls = true) (ho : y.cls = own) (hnm : y.name = nm) (hs : mt_Sc (fun _ _ => True) cc nL own nm ret fr lo code) : mt_OkS y cc nL ret fr lo (mt_sem code nL) := by
  intro av M r hlen hsem
  obtain ⟨n, hn⟩ := mt_lim_some hsem
  have hmo : mt_mo M r.2 := mt_grow hs n 0 _ hn
  refine ⟨hmo, fun l D ca b0 => ?_⟩
  refine Met.ofW (cc := cc) (maxL := nL) (ret := ret) hy rfl ?_
  intro p e s m args below meth c s₁ B hml hv
  obtain ⟨rfl, hsz, hb0, hw, hP, hK⟩ := hv
  have hts := atoms_spec (ws := .code y cc nL ret :: lw_good) B.pre
  have hown : s.vm.findClass own = some m.cls := by rw [← ho]; exact findClass_of_methodNamed B.named
  have hlocks := B.notSynchronized
  have hin : meth.name = nm := by rw [← hnm]; exact (name_of_methodNamed B.named B.method).1
  have hx := B.exec
  have hbb := B.bytes
  have hrr := B.returns
  have hmo1 := hmo.1
  have hmo2 := hmo.2
  have hC : mt_C p l e { frames := fr, cells := r.2.1 - M.1, slots := r.2.2.1 - M.2.1, locals := lo } s m (av.map tv).toArray below meth c (MQ below (mt_Q D ca b0 r.1 r.2) (av.map tv).toArray s (r.2.1 - M.1) (r.2.2.1 - M.2.1) (mt_A b0)) cc nL own nm ret fr lo D ca b0 M.2.1 r.1 r.2 := by
    refine ⟨hx, hbb, hml, hown, fun w hw => hts w (List.mem_cons_of_mem _ hw), hK, by rw [hsz]; exact hb0, ⟨Nat.le_refl _, Nat.le_refl _, ?_, ?_⟩, hin, ?_⟩
    · show r.2.1 ≤ r.2.1 - M.1 + s.heap.size
      omega
    · show r.2.2.1 ≤ r.2.2.1 - M.2.1 + M.2.1
      omega
    · intro H locs ls cells slots pc hret hw' hP' hS' hc hs'
      have hc1 : cells = r.2.1 - M.1 := by omega
      have hs1 : slots = r.2.2.1 - M.2.1 := by omega
      subst hc1
      subst hs1
      obtain ⟨v, M1⟩ := r
      rcases hret with ⟨d, hr0, hv⟩ | ⟨d, ty, x, hr0, hv, hnar⟩ | ⟨d, cn, x, hr0, hv⟩
      · have hv : v = none := hv
        subst hv
        exact W.vret hx hbb (hrr.trans hr0) (fun t ht hW => ⟨rfl, hw', by rw [ht]; exact hP', hS'.F ht⟩) hS'.2.2 d
      · have hv : v = some (.inl x) := hv
        subst hv
        exact W.zret hx hbb (hrr.trans hr0) hnar (fun t ht hW => ⟨rfl, hw', by rw [ht]; exact hP', hS'.F ht⟩) hS'.2.2 d
      · have hv : v = some (.inr x) := hv
        subst hv
        exact W.aret (v := va_rf x) hx hbb (hrr.trans hr0) (Or.inl ⟨cn, rfl⟩) (by cases x with | none => exact Or.inl rfl | some a => exact Or.inr ⟨a, rfl⟩) (fun t ht hW => ⟨rfl, hw', by rw [ht]; exact hP', hS'.F ht⟩) hS'.2.2 d
  have hG := mt_sound hs hC trivial n 0 _ hn
  have hl := lv_entry (av.map tv) (n := nL) (by rw [tv_len]; exact hlen)
  rw [lg_entry_eq]
  generalize (lg_sl (av.map tv) ++ List.replicate (nL - (lg_sl (av.map tv)).length) Slot.unset).toArray = ls at hl ⊢
  have hl2 : lv_has ls nL (ml 0 (mt_l0 nL av)) := ⟨hl.1, hl.2.1, fun q hq => hl.2.2 q (ml_args nL 0 av q hq)⟩
  exact hG.2 hw s.heap [] ls 0 0 hP va_S.rf (by show 0 + s.heap.size = M.1; omega) (Nat.zero_add _) hl2
end
section
theorem d_En_init_0 : decode c_En_init 0 = .ok (.aload_n 0, 1) := by decide +kernel
theorem d_En_init_1 : decode c_En_init 1 = .ok (.invokespecial 1, 3) := by decide +kernel
theorem d_En_init_4 : decode c_En_init 4 = .ok (.aload_n 0, 1) := by decide +kernel
theorem d_En_init_5 : decode c_En_init 5 = .ok (.iconst 0, 1) := by decide +kernel
theorem d_En_init_6 : decode c_En_init 6 = .ok (.putfield 7, 3) := by decide +kernel
theorem d_En_init_9 : decode c_En_init 9 = .ok (.aload_n 0, 1) := by decide +kernel
theorem d_En_init_10 : decode c_En_init 10 = .ok (.iconst 0, 1) := by decide +kernel
theorem d_En_init_11 : decode c_En_init 11 = .ok (.putfield 13, 3) := by decide +kernel
theorem d_En_init_14 : decode c_En_init 14 = .ok (.aload_n 0, 1) := by decide +kernel
theorem d_En_init_15 : decode c_En_init 15 = .ok (.iconst 0, 1) := by decide +kernel
theorem d_En_init_16 : decode c_En_init 16 = .ok (.putfield 16, 3) := by decide +kernel
theorem d_En_init_19 : decode c_En_init 19 = .ok (.aload_n 0, 1) := by decide +kernel
theorem d_En_init_20 : decode c_En_init 20 = .ok (.iconst 0, 1) := by decide +kernel
theorem d_En_init_21 : decode c_En_init 21 = .ok (.putfield 20, 3) := by decide +kernel
theorem d_En_init_24 : decode c_En_init 24 = .ok (.return_, 1) := by decide +kernel
theorem d_En_agreesWith_0 : decode c_En_agreesWith 0 = .ok (.aload_n 1, 1) := by decide +kernel
theorem d_En_agreesWith_1 : decode c_En_agreesWith 1 = .ok (.ifnull 32, 3) := by decide +kernel
theorem d_En_agreesWith_4 : decode c_En_agreesWith 4 = .ok (.aload_n 1, 1) := by decide +kernel
theorem d_En_agreesWith_5 : decode c_En_agreesWith 5 = .ok (.getfield 23, 3) := by decide +kernel
theorem d_En_agreesWith_8 : decode c_En_agreesWith 8 = .ok (.getfield 29, 3) := by decide +kernel
theorem d_En_agreesWith_11 : decode c_En_agreesWith 11 = .ok (.aload_n 0, 1) := by decide +kernel
theorem d_En_agreesWith_12 : decode c_En_agreesWith 12 = .ok (.getfield 16, 3) := by decide +kernel
theorem d_En_agreesWith_15 : decode c_En_agreesWith 15 = .ok (.if_icmp .ne 18, 3) := by decide +kernel
theorem d_En_agreesWith_18 : decode c_En_agreesWith 18 = .ok (.aload_n 1, 1) := by decide +kernel
theorem d_En_agreesWith_19 : decode c_En_agreesWith 19 = .ok (.getfield 34, 3) := by decide +kernel
theorem d_En_agreesWith_22 : decode c_En_agreesWith 22 = .ok (.aload_n 0, 1) := by decide +kernel
theorem d_En_agreesWith_23 : decode c_En_agreesWith 23 = .ok (.getfield 20, 3) := by decide +kernel
theorem d_En_agreesWith_26 : decode c_En_agreesWith 26 = .ok (.if_icmp .ne 7, 3) := by decide +kernel
theorem d_En_agreesWith_29 : decode c_En_agreesWith 29 = .ok (.iconst 1, 1) := by decide +kernel
theorem d_En_agreesWith_30 : decode c_En_agreesWith 30 = .ok (.goto 4, 3) := by decide +kernel
theorem d_En_agreesWith_33 : decode c_En_agreesWith 33 = .ok (.iconst 0, 1) := by decide +kernel
theorem d_En_agreesWith_34 : decode c_En_agreesWith 34 = .ok (.ireturn, 1) := by decide +kernel
theorem d_En_forget_0 : decode c_En_forget 0 = .ok (.aload_n 0, 1) := by decide +kernel
theorem d_En_forget_1 : decode c_En_forget 1 = .ok (.iconst 0, 1) := by decide +kernel
theorem d_En_forget_2 : decode c_En_forget 2 = .ok (.putfield 7, 3) := by decide +kernel
theorem d_En_forget_5 : decode c_En_forget 5 = .ok (.aload_n 0, 1) := by decide +kernel
theorem d_En_forget_6 : decode c_En_forget 6 = .ok (.iconst 0, 1) := by decide +kernel
theorem d_En_forget_7 : decode c_En_forget 7 = .ok (.putfield 13, 3) := by decide +kernel
theorem d_En_forget_10 : decode c_En_forget 10 = .ok (.return_, 1) := by decide +kernel
theorem d_Jo_init_0 : decode c_Jo_init 0 = .ok (.aload_n 0, 1) := by decide +kernel
theorem d_Jo_init_1 : decode c_Jo_init 1 = .ok (.invokespecial 3, 3) := by decide +kernel
theorem d_Jo_init_4 : decode c_Jo_init 4 = .ok (.aload_n 0, 1) := by decide +kernel
theorem d_Jo_init_5 : decode c_Jo_init 5 = .ok (.bipush 12, 2) := by decide +kernel
theorem d_Jo_init_7 : decode c_Jo_init 7 = .ok (.anewarray 9, 3) := by decide +kernel
theorem d_Jo_init_10 : decode c_Jo_init 10 = .ok (.putfield 11, 3) := by decide +kernel
theorem d_Jo_init_13 : decode c_Jo_init 13 = .ok (.aload_n 0, 1) := by decide +kernel
theorem d_Jo_init_14 : decode c_Jo_init 14 = .ok (.iconst 0, 1) := by decide +kernel
theorem d_Jo_init_15 : decode c_Jo_init 15 = .ok (.putfield 17, 3) := by decide +kernel
theorem d_Jo_init_18 : decode c_Jo_init 18 = .ok (.aload_n 0, 1) := by decide +kernel
theorem d_Jo_init_19 : decode c_Jo_init 19 = .ok (.iconst 0, 1) := by decide +kernel
theorem d_Jo_init_20 : decode c_Jo_init 20 = .ok (.putfield 21, 3) := by decide +kernel
theorem d_Jo_init_23 : decode c_Jo_init 23 = .ok (.iconst 0, 1) := by decide +kernel
theorem d_Jo_init_24 : decode c_Jo_init 24 = .ok (.istore_n 1, 1) := by decide +kernel
theorem d_Jo_init_25 : decode c_Jo_init 25 = .ok (.iload_n 1, 1) := by decide +kernel
theorem d_Jo_init_26 : decode c_Jo_init 26 = .ok (.bipush 12, 2) := by decide +kernel
theorem d_Jo_init_28 : decode c_Jo_init 28 = .ok (.if_icmp .ge 22, 3) := by decide +kernel
theorem d_Jo_init_31 : decode c_Jo_init 31 = .ok (.aload_n 0, 1) := by decide +kernel
theorem d_Jo_init_32 : decode c_Jo_init 32 = .ok (.getfield 11, 3) := by decide +kernel
theorem d_Jo_init_35 : decode c_Jo_init 35 = .ok (.iload_n 1, 1) := by decide +kernel
theorem d_Jo_init_36 : decode c_Jo_init 36 = .ok (.new 9, 3) := by decide +kernel
theorem d_Jo_init_39 : decode c_Jo_init 39 = .ok (.dup, 1) := by decide +kernel
theorem d_Jo_init_40 : decode c_Jo_init 40 = .ok (.invokespecial 24, 3) := by decide +kernel
theorem d_Jo_init_43 : decode c_Jo_init 43 = .ok (.aastore, 1) := by decide +kernel
theorem d_Jo_init_44 : decode c_Jo_init 44 = .ok (.iinc 1 1, 3) := by decide +kernel
theorem d_Jo_init_47 : decode c_Jo_init 47 = .ok (.goto (-22), 3) := by decide +kernel
theorem d_Jo_init_50 : decode c_Jo_init 50 = .ok (.return_, 1) := by decide +kernel
theorem d_Jo_append_0 : decode c_Jo_append 0 = .ok (.aload_n 0, 1) := by decide +kernel
theorem d_Jo_append_1 : decode c_Jo_append 1 = .ok (.getfield 11, 3) := by decide +kernel
theorem d_Jo_append_4 : decode c_Jo_append 4 = .ok (.aload_n 0, 1) := by decide +kernel
theorem d_Jo_append_5 : decode c_Jo_append 5 = .ok (.getfield 17, 3) := by decide +kernel
theorem d_Jo_append_8 : decode c_Jo_append 8 = .ok (.aload_n 0, 1) := by decide +kernel
theorem d_Jo_append_9 : decode c_Jo_append 9 = .ok (.getfield 21, 3) := by decide +kernel
theorem d_Jo_append_12 : decode c_Jo_append 12 = .ok (.iadd, 1) := by decide +kernel
theorem d_Jo_append_13 : decode c_Jo_append 13 = .ok (.bipush 12, 2) := by decide +kernel
theorem d_Jo_append_15 : decode c_Jo_append 15 = .ok (.irem, 1) := by decide +kernel
theorem d_Jo_append_16 : decode c_Jo_append 16 = .ok (.aaload, 1) := by decide +kernel
theorem d_Jo_append_17 : decode c_Jo_append 17 = .ok (.astore 4, 2) := by decide +kernel
theorem d_Jo_append_19 : decode c_Jo_append 19 = .ok (.aload 4, 2) := by decide +kernel
theorem d_Jo_append_21 : decode c_Jo_append 21 = .ok (.iload_n 1, 1) := by decide +kernel
theorem d_Jo_append_22 : decode c_Jo_append 22 = .ok (.putfield 25, 3) := by decide +kernel
theorem d_Jo_append_25 : decode c_Jo_append 25 = .ok (.aload 4, 2) := by decide +kernel
theorem d_Jo_append_27 : decode c_Jo_append 27 = .ok (.getfield 28, 3) := by decide +kernel
theorem d_Jo_append_30 : decode c_Jo_append 30 = .ok (.aload_n 2, 1) := by decide +kernel
theorem d_Jo_append_31 : decode c_Jo_append 31 = .ok (.invokevirtual 32, 3) := by decide +kernel
theorem d_Jo_append_34 : decode c_Jo_append 34 = .ok (.aload 4, 2) := by decide +kernel
theorem d_Jo_append_36 : decode c_Jo_append 36 = .ok (.iload_n 3, 1) := by decide +kernel
theorem d_Jo_append_37 : decode c_Jo_append 37 = .ok (.putfield 38, 3) := by decide +kernel
theorem d_Jo_append_40 : decode c_Jo_append 40 = .ok (.aload_n 0, 1) := by decide +kernel
theorem d_Jo_append_41 : decode c_Jo_append 41 = .ok (.getfield 21, 3) := by decide +kernel
theorem d_Jo_append_44 : decode c_Jo_append 44 = .ok (.bipush 12, 2) := by decide +kernel
theorem d_Jo_append_46 : decode c_Jo_append 46 = .ok (.if_icmp .ge 13, 3) := by decide +kernel
theorem d_Jo_append_49 : decode c_Jo_append 49 = .ok (.aload_n 0, 1) := by decide +kernel
theorem d_Jo_append_50 : decode c_Jo_append 50 = .ok (.dup, 1) := by decide +kernel
theorem d_Jo_append_51 : decode c_Jo_append 51 = .ok (.getfield 21, 3) := by decide +kernel
theorem d_Jo_append_54 : decode c_Jo_append 54 = .ok (.iconst 1, 1) := by decide +kernel
theorem d_Jo_append_55 : decode c_Jo_append 55 = .ok (.iadd, 1) := by decide +kernel
theorem d_Jo_append_56 : decode c_Jo_append 56 = .ok (.putfield 21, 3) := by decide +kernel
theorem d_Jo_append_59 : decode c_Jo_append 59 = .ok (.return_, 1) := by decide +kernel
theorem d_Jo_take_0 : decode c_Jo_take 0 = .ok (.aload_n 0, 1) := by decide +kernel
theorem d_Jo_take_1 : decode c_Jo_take 1 = .ok (.getfield 21, 3) := by decide +kernel
theorem d_Jo_take_4 : decode c_Jo_take 4 = .ok (.ifCond .ne 5, 3) := by decide +kernel
theorem d_Jo_take_7 : decode c_Jo_take 7 = .ok (.aconst_null, 1) := by decide +kernel
theorem d_Jo_take_8 : decode c_Jo_take 8 = .ok (.areturn, 1) := by decide +kernel
theorem d_Jo_take_9 : decode c_Jo_take 9 = .ok (.aload_n 0, 1) := by decide +kernel
theorem d_Jo_take_10 : decode c_Jo_take 10 = .ok (.getfield 11, 3) := by decide +kernel
theorem d_Jo_take_13 : decode c_Jo_take 13 = .ok (.aload_n 0, 1) := by decide +kernel
theorem d_Jo_take_14 : decode c_Jo_take 14 = .ok (.getfield 17, 3) := by decide +kernel
theorem d_Jo_take_17 : decode c_Jo_take 17 = .ok (.aaload, 1) := by decide +kernel
theorem d_Jo_take_18 : decode c_Jo_take 18 = .ok (.astore_n 1, 1) := by decide +kernel
theorem d_Jo_take_19 : decode c_Jo_take 19 = .ok (.aload_n 0, 1) := by decide +kernel
theorem d_Jo_take_20 : decode c_Jo_take 20 = .ok (.aload_n 0, 1) := by decide +kernel
theorem d_Jo_take_21 : decode c_Jo_take 21 = .ok (.getfield 17, 3) := by decide +kernel
theorem d_Jo_take_24 : decode c_Jo_take 24 = .ok (.iconst 1, 1) := by decide +kernel
theorem d_Jo_take_25 : decode c_Jo_take 25 = .ok (.iadd, 1) := by decide +kernel
theorem d_Jo_take_26 : decode c_Jo_take 26 = .ok (.bipush 12, 2) := by decide +kernel
theorem d_Jo_take_28 : decode c_Jo_take 28 = .ok (.irem, 1) := by decide +kernel
theorem d_Jo_take_29 : decode c_Jo_take 29 = .ok (.putfield 17, 3) := by decide +kernel
theorem d_Jo_take_32 : decode c_Jo_take 32 = .ok (.aload_n 0, 1) := by decide +kernel
theorem d_Jo_take_33 : decode c_Jo_take 33 = .ok (.dup, 1) := by decide +kernel
theorem d_Jo_take_34 : decode c_Jo_take 34 = .ok (.getfield 21, 3) := by decide +kernel
theorem d_Jo_take_37 : decode c_Jo_take 37 = .ok (.iconst 1, 1) := by decide +kernel
theorem d_Jo_take_38 : decode c_Jo_take 38 = .ok (.isub, 1) := by decide +kernel
theorem d_Jo_take_39 : decode c_Jo_take 39 = .ok (.putfield 21, 3) := by decide +kernel
theorem d_Jo_take_42 : decode c_Jo_take 42 = .ok (.aload_n 1, 1) := by decide +kernel
theorem d_Jo_take_43 : decode c_Jo_take 43 = .ok (.areturn, 1) := by decide +kernel
theorem d_Jr_init_0 : decode c_Jr_init 0 = .ok (.aload_n 0, 1) := by decide +kernel
theorem d_Jr_init_1 : decode c_Jr_init 1 = .ok (.invokespecial 1, 3) := by decide +kernel
theorem d_Jr_init_4 : decode c_Jr_init 4 = .ok (.aload_n 0, 1) := by decide +kernel
theorem d_Jr_init_5 : decode c_Jr_init 5 = .ok (.new 7, 3) := by decide +kernel
theorem d_Jr_init_8 : decode c_Jr_init 8 = .ok (.dup, 1) := by decide +kernel
theorem d_Jr_init_9 : decode c_Jr_init 9 = .ok (.invokespecial 9, 3) := by decide +kernel
theorem d_Jr_init_12 : decode c_Jr_init 12 = .ok (.putfield 10, 3) := by decide +kernel
theorem d_Jr_init_15 : decode c_Jr_init 15 = .ok (.aload_n 0, 1) := by decide +kernel
theorem d_Jr_init_16 : decode c_Jr_init 16 = .ok (.iconst 0, 1) := by decide +kernel
theorem d_Jr_init_17 : decode c_Jr_init 17 = .ok (.putfield 16, 3) := by decide +kernel
theorem d_Jr_init_20 : decode c_Jr_init 20 = .ok (.aload_n 0, 1) := by decide +kernel
theorem d_Jr_init_21 : decode c_Jr_init 21 = .ok (.iconst 0, 1) := by decide +kernel
theorem d_Jr_init_22 : decode c_Jr_init 22 = .ok (.putfield 20, 3) := by decide +kernel
theorem d_Jr_init_25 : decode c_Jr_init 25 = .ok (.return_, 1) := by decide +kernel
theorem d_Li_init_0 : decode c_Li_init 0 = .ok (.aload_n 0, 1) := by decide +kernel
theorem d_Li_init_1 : decode c_Li_init 1 = .ok (.invokespecial 3, 3) := by decide +kernel
theorem d_Li_init_4 : decode c_Li_init 4 = .ok (.aload_n 0, 1) := by decide +kernel
theorem d_Li_init_5 : decode c_Li_init 5 = .ok (.bipush 13, 2) := by decide +kernel
theorem d_Li_init_7 : decode c_Li_init 7 = .ok (.anewarray 9, 3) := by decide +kernel
theorem d_Li_init_10 : decode c_Li_init 10 = .ok (.putfield 11, 3) := by decide +kernel
theorem d_Li_init_13 : decode c_Li_init 13 = .ok (.aload_n 0, 1) := by decide +kernel
theorem d_Li_init_14 : decode c_Li_init 14 = .ok (.iconst 0, 1) := by decide +kernel
theorem d_Li_init_15 : decode c_Li_init 15 = .ok (.putfield 17, 3) := by decide +kernel
theorem d_Li_init_18 : decode c_Li_init 18 = .ok (.aload_n 0, 1) := by decide +kernel
theorem d_Li_init_19 : decode c_Li_init 19 = .ok (.iconst 0, 1) := by decide +kernel
theorem d_Li_init_20 : decode c_Li_init 20 = .ok (.putfield 21, 3) := by decide +kernel
theorem d_Li_init_23 : decode c_Li_init 23 = .ok (.iconst 0, 1) := by decide +kernel
theorem d_Li_init_24 : decode c_Li_init 24 = .ok (.istore_n 1, 1) := by decide +kernel
theorem d_Li_init_25 : decode c_Li_init 25 = .ok (.iload_n 1, 1) := by decide +kernel
theorem d_Li_init_26 : decode c_Li_init 26 = .ok (.bipush 13, 2) := by decide +kernel
theorem d_Li_init_28 : decode c_Li_init 28 = .ok (.if_icmp .ge 22, 3) := by decide +kernel
theorem d_Li_init_31 : decode c_Li_init 31 = .ok (.aload_n 0, 1) := by decide +kernel
theorem d_Li_init_32 : decode c_Li_init 32 = .ok (.getfield 11, 3) := by decide +kernel
theorem d_Li_init_35 : decode c_Li_init 35 = .ok (.iload_n 1, 1) := by decide +kernel
theorem d_Li_init_36 : decode c_Li_init 36 = .ok (.new 9, 3) := by decide +kernel
theorem d_Li_init_39 : decode c_Li_init 39 = .ok (.dup, 1) := by decide +kernel
theorem d_Li_init_40 : decode c_Li_init 40 = .ok (.invokespecial 24, 3) := by decide +kernel
theorem d_Li_init_43 : decode c_Li_init 43 = .ok (.aastore, 1) := by decide +kernel
theorem d_Li_init_44 : decode c_Li_init 44 = .ok (.iinc 1 1, 3) := by decide +kernel
theorem d_Li_init_47 : decode c_Li_init 47 = .ok (.goto (-22), 3) := by decide +kernel
theorem d_Li_init_50 : decode c_Li_init 50 = .ok (.return_, 1) := by decide +kernel
theorem d_Li_append_0 : decode c_Li_append 0 = .ok (.aload_n 0, 1) := by decide +kernel
theorem d_Li_append_1 : decode c_Li_append 1 = .ok (.getfield 11, 3) := by decide +kernel
theorem d_Li_append_4 : decode c_Li_append 4 = .ok (.aload_n 0, 1) := by decide +kernel
theorem d_Li_append_5 : decode c_Li_append 5 = .ok (.getfield 17, 3) := by decide +kernel
theorem d_Li_append_8 : decode c_Li_append 8 = .ok (.aload_n 0, 1) := by decide +kernel
theorem d_Li_append_9 : decode c_Li_append 9 = .ok (.getfield 21, 3) := by decide +kernel
theorem d_Li_append_12 : decode c_Li_append 12 = .ok (.iadd, 1) := by decide +kernel
theorem d_Li_append_13 : decode c_Li_append 13 = .ok (.bipush 13, 2) := by decide +kernel
theorem d_Li_append_15 : decode c_Li_append 15 = .ok (.irem, 1) := by decide +kernel
theorem d_Li_append_16 : decode c_Li_append 16 = .ok (.aaload, 1) := by decide +kernel
theorem d_Li_append_17 : decode c_Li_append 17 = .ok (.astore_n 3, 1) := by decide +kernel
theorem d_Li_append_18 : decode c_Li_append 18 = .ok (.aload_n 3, 1) := by decide +kernel
theorem d_Li_append_19 : decode c_Li_append 19 = .ok (.iload_n 1, 1) := by decide +kernel
theorem d_Li_append_20 : decode c_Li_append 20 = .ok (.iload_n 2, 1) := by decide +kernel
theorem d_Li_append_21 : decode c_Li_append 21 = .ok (.invokevirtual 25, 3) := by decide +kernel
theorem d_Li_append_24 : decode c_Li_append 24 = .ok (.aload_n 0, 1) := by decide +kernel
theorem d_Li_append_25 : decode c_Li_append 25 = .ok (.getfield 21, 3) := by decide +kernel
theorem d_Li_append_28 : decode c_Li_append 28 = .ok (.bipush 13, 2) := by decide +kernel
theorem d_Li_append_30 : decode c_Li_append 30 = .ok (.if_icmp .ge 13, 3) := by decide +kernel
theorem d_Li_append_33 : decode c_Li_append 33 = .ok (.aload_n 0, 1) := by decide +kernel
theorem d_Li_append_34 : decode c_Li_append 34 = .ok (.dup, 1) := by decide +kernel
theorem d_Li_append_35 : decode c_Li_append 35 = .ok (.getfield 21, 3) := by decide +kernel
theorem d_Li_append_38 : decode c_Li_append 38 = .ok (.iconst 1, 1) := by decide +kernel
theorem d_Li_append_39 : decode c_Li_append 39 = .ok (.iadd, 1) := by decide +kernel
theorem d_Li_append_40 : decode c_Li_append 40 = .ok (.putfield 21, 3) := by decide +kernel
theorem d_Li_append_43 : decode c_Li_append 43 = .ok (.aload_n 3, 1) := by decide +kernel
theorem d_Li_append_44 : decode c_Li_append 44 = .ok (.areturn, 1) := by decide +kernel
theorem d_Li_take_0 : decode c_Li_take 0 = .ok (.aload_n 0, 1) := by decide +kernel
theorem d_Li_take_1 : decode c_Li_take 1 = .ok (.getfield 21, 3) := by decide +kernel
theorem d_Li_take_4 : decode c_Li_take 4 = .ok (.ifCond .ne 5, 3) := by decide +kernel
theorem d_Li_take_7 : decode c_Li_take 7 = .ok (.aconst_null, 1) := by decide +kernel
theorem d_Li_take_8 : decode c_Li_take 8 = .ok (.areturn, 1) := by decide +kernel
theorem d_Li_take_9 : decode c_Li_take 9 = .ok (.aload_n 0, 1) := by decide +kernel
theorem d_Li_take_10 : decode c_Li_take 10 = .ok (.getfield 11, 3) := by decide +kernel
theorem d_Li_take_13 : decode c_Li_take 13 = .ok (.aload_n 0, 1) := by decide +kernel
theorem d_Li_take_14 : decode c_Li_take 14 = .ok (.getfield 17, 3) := by decide +kernel
theorem d_Li_take_17 : decode c_Li_take 17 = .ok (.aaload, 1) := by decide +kernel
theorem d_Li_take_18 : decode c_Li_take 18 = .ok (.astore_n 1, 1) := by decide +kernel
theorem d_Li_take_19 : decode c_Li_take 19 = .ok (.aload_n 0, 1) := by decide +kernel
theorem d_Li_take_20 : decode c_Li_take 20 = .ok (.aload_n 0, 1) := by decide +kernel
theorem d_Li_take_21 : decode c_Li_take 21 = .ok (.getfield 17, 3) := by decide +kernel
theorem d_Li_take_24 : decode c_Li_take 24 = .ok (.iconst 1, 1) := by decide +kernel
theorem d_Li_take_25 : decode c_Li_take 25 = .ok (.iadd, 1) := by decide +kernel
theorem d_Li_take_26 : decode c_Li_take 26 = .ok (.bipush 13, 2) := by decide +kernel
theorem d_Li_take_28 : decode c_Li_take 28 = .ok (.irem, 1) := by decide +kernel
theorem d_Li_take_29 : decode c_Li_take 29 = .ok (.putfield 17, 3) := by decide +kernel
theorem d_Li_take_32 : decode c_Li_take 32 = .ok (.aload_n 0, 1) := by decide +kernel
theorem d_Li_take_33 : decode c_Li_take 33 = .ok (.dup, 1) := by decide +kernel
theorem d_Li_take_34 : decode c_Li_take 34 = .ok (.getfield 21, 3) := by decide +kernel
theorem d_Li_take_37 : decode c_Li_take 37 = .ok (.iconst 1, 1) := by decide +kernel
theorem d_Li_take_38 : decode c_Li_take 38 = .ok (.isub, 1) := by decide +kernel
theorem d_Li_take_39 : decode c_Li_take 39 = .ok (.putfield 21, 3) := by decide +kernel
theorem d_Li_take_42 : decode c_Li_take 42 = .ok (.aload_n 1, 1) := by decide +kernel
theorem d_Li_take_43 : decode c_Li_take 43 = .ok (.areturn, 1) := by decide +kernel
theorem d_Li_oldestKind_0 : decode c_Li_oldestKind 0 = .ok (.aload_n 0, 1) := by decide +kernel
theorem d_Li_oldestKind_1 : decode c_Li_oldestKind 1 = .ok (.getfield 21, 3) := by decide +kernel
theorem d_Li_oldestKind_4 : decode c_Li_oldestKind 4 = .ok (.ifCond .ne 7, 3) := by decide +kernel
theorem d_Li_oldestKind_7 : decode c_Li_oldestKind 7 = .ok (.iconst 0, 1) := by decide +kernel
theorem d_Li_oldestKind_8 : decode c_Li_oldestKind 8 = .ok (.goto 15, 3) := by decide +kernel
theorem d_Li_oldestKind_11 : decode c_Li_oldestKind 11 = .ok (.aload_n 0, 1) := by decide +kernel
theorem d_Li_oldestKind_12 : decode c_Li_oldestKind 12 = .ok (.getfield 11, 3) := by decide +kernel
theorem d_Li_oldestKind_15 : decode c_Li_oldestKind 15 = .ok (.aload_n 0, 1) := by decide +kernel
theorem d_Li_oldestKind_16 : decode c_Li_oldestKind 16 = .ok (.getfield 17, 3) := by decide +kernel
theorem d_Li_oldestKind_19 : decode c_Li_oldestKind 19 = .ok (.aaload, 1) := by decide +kernel
theorem d_Li_oldestKind_20 : decode c_Li_oldestKind 20 = .ok (.getfield 29, 3) := by decide +kernel
theorem d_Li_oldestKind_23 : decode c_Li_oldestKind 23 = .ok (.ireturn, 1) := by decide +kernel
theorem d_Li_clear_0 : decode c_Li_clear 0 = .ok (.aload_n 0, 1) := by decide +kernel
theorem d_Li_clear_1 : decode c_Li_clear 1 = .ok (.iconst 0, 1) := by decide +kernel
theorem d_Li_clear_2 : decode c_Li_clear 2 = .ok (.putfield 21, 3) := by decide +kernel
theorem d_Li_clear_5 : decode c_Li_clear 5 = .ok (.return_, 1) := by decide +kernel
theorem d_Ms_init_0 : decode c_Ms_init 0 = .ok (.aload_n 0, 1) := by decide +kernel
theorem d_Ms_init_1 : decode c_Ms_init 1 = .ok (.invokespecial 3, 3) := by decide +kernel
theorem d_Ms_init_4 : decode c_Ms_init 4 = .ok (.aload_n 0, 1) := by decide +kernel
theorem d_Ms_init_5 : decode c_Ms_init 5 = .ok (.iconst 0, 1) := by decide +kernel
theorem d_Ms_init_6 : decode c_Ms_init 6 = .ok (.putfield 9, 3) := by decide +kernel
theorem d_Ms_init_9 : decode c_Ms_init 9 = .ok (.aload_n 0, 1) := by decide +kernel
theorem d_Ms_init_10 : decode c_Ms_init 10 = .ok (.iconst 0, 1) := by decide +kernel
theorem d_Ms_init_11 : decode c_Ms_init 11 = .ok (.putfield 15, 3) := by decide +kernel
theorem d_Ms_init_14 : decode c_Ms_init 14 = .ok (.aload_n 0, 1) := by decide +kernel
theorem d_Ms_init_15 : decode c_Ms_init 15 = .ok (.iconst 0, 1) := by decide +kernel
theorem d_Ms_init_16 : decode c_Ms_init 16 = .ok (.putfield 18, 3) := by decide +kernel
theorem d_Ms_init_19 : decode c_Ms_init 19 = .ok (.aload_n 0, 1) := by decide +kernel
theorem d_Ms_init_20 : decode c_Ms_init 20 = .ok (.iconst 0, 1) := by decide +kernel
theorem d_Ms_init_21 : decode c_Ms_init 21 = .ok (.putfield 21, 3) := by decide +kernel
theorem d_Ms_init_24 : decode c_Ms_init 24 = .ok (.aload_n 0, 1) := by decide +kernel
theorem d_Ms_init_25 : decode c_Ms_init 25 = .ok (.iconst 0, 1) := by decide +kernel
theorem d_Ms_init_26 : decode c_Ms_init 26 = .ok (.putfield 24, 3) := by decide +kernel
theorem d_Ms_init_29 : decode c_Ms_init 29 = .ok (.aload_n 0, 1) := by decide +kernel
theorem d_Ms_init_30 : decode c_Ms_init 30 = .ok (.iconst 0, 1) := by decide +kernel
theorem d_Ms_init_31 : decode c_Ms_init 31 = .ok (.putfield 27, 3) := by decide +kernel
theorem d_Ms_init_34 : decode c_Ms_init 34 = .ok (.aload_n 0, 1) := by decide +kernel
theorem d_Ms_init_35 : decode c_Ms_init 35 = .ok (.iconst 0, 1) := by decide +kernel
theorem d_Ms_init_36 : decode c_Ms_init 36 = .ok (.putfield 30, 3) := by decide +kernel
theorem d_Ms_init_39 : decode c_Ms_init 39 = .ok (.aload_n 0, 1) := by decide +kernel
theorem d_Ms_init_40 : decode c_Ms_init 40 = .ok (.bipush 40, 2) := by decide +kernel
theorem d_Ms_init_42 : decode c_Ms_init 42 = .ok (.newarray .int, 2) := by decide +kernel
theorem d_Ms_init_44 : decode c_Ms_init 44 = .ok (.putfield 33, 3) := by decide +kernel
theorem d_Ms_init_47 : decode c_Ms_init 47 = .ok (.return_, 1) := by decide +kernel
theorem d_Ms_startAs_0 : decode c_Ms_startAs 0 = .ok (.aload_n 0, 1) := by decide +kernel
theorem d_Ms_startAs_1 : decode c_Ms_startAs 1 = .ok (.iload_n 1, 1) := by decide +kernel
theorem d_Ms_startAs_2 : decode c_Ms_startAs 2 = .ok (.putfield 9, 3) := by decide +kernel
theorem d_Ms_startAs_5 : decode c_Ms_startAs 5 = .ok (.aload_n 0, 1) := by decide +kernel
theorem d_Ms_startAs_6 : decode c_Ms_startAs 6 = .ok (.iload_n 2, 1) := by decide +kernel
theorem d_Ms_startAs_7 : decode c_Ms_startAs 7 = .ok (.putfield 15, 3) := by decide +kernel
theorem d_Ms_startAs_10 : decode c_Ms_startAs 10 = .ok (.aload_n 0, 1) := by decide +kernel
theorem d_Ms_startAs_11 : decode c_Ms_startAs 11 = .ok (.iconst 0, 1) := by decide +kernel
theorem d_Ms_startAs_12 : decode c_Ms_startAs 12 = .ok (.putfield 30, 3) := by decide +kernel
theorem d_Ms_startAs_15 : decode c_Ms_startAs 15 = .ok (.return_, 1) := by decide +kernel
theorem d_Ms_addItem_0 : decode c_Ms_addItem 0 = .ok (.aload_n 0, 1) := by decide +kernel
theorem d_Ms_addItem_1 : decode c_Ms_addItem 1 = .ok (.getfield 30, 3) := by decide +kernel
theorem d_Ms_addItem_4 : decode c_Ms_addItem 4 = .ok (.bipush 40, 2) := by decide +kernel
theorem d_Ms_addItem_6 : decode c_Ms_addItem 6 = .ok (.if_icmp .ge 23, 3) := by decide +kernel
theorem d_Ms_addItem_9 : decode c_Ms_addItem 9 = .ok (.aload_n 0, 1) := by decide +kernel
theorem d_Ms_addItem_10 : decode c_Ms_addItem 10 = .ok (.getfield 33, 3) := by decide +kernel
theorem d_Ms_addItem_13 : decode c_Ms_addItem 13 = .ok (.aload_n 0, 1) := by decide +kernel
theorem d_Ms_addItem_14 : decode c_Ms_addItem 14 = .ok (.getfield 30, 3) := by decide +kernel
theorem d_Ms_addItem_17 : decode c_Ms_addItem 17 = .ok (.iload_n 1, 1) := by decide +kernel
theorem d_Ms_addItem_18 : decode c_Ms_addItem 18 = .ok (.iastore, 1) := by decide +kernel
theorem d_Ms_addItem_19 : decode c_Ms_addItem 19 = .ok (.aload_n 0, 1) := by decide +kernel
theorem d_Ms_addItem_20 : decode c_Ms_addItem 20 = .ok (.dup, 1) := by decide +kernel
theorem d_Ms_addItem_21 : decode c_Ms_addItem 21 = .ok (.getfield 30, 3) := by decide +kernel
theorem d_Ms_addItem_24 : decode c_Ms_addItem 24 = .ok (.iconst 1, 1) := by decide +kernel
theorem d_Ms_addItem_25 : decode c_Ms_addItem 25 = .ok (.iadd, 1) := by decide +kernel
theorem d_Ms_addItem_26 : decode c_Ms_addItem 26 = .ok (.putfield 30, 3) := by decide +kernel
theorem d_Ms_addItem_29 : decode c_Ms_addItem 29 = .ok (.return_, 1) := by decide +kernel
theorem d_Ro_init_0 : decode c_Ro_init 0 = .ok (.aload_n 0, 1) := by decide +kernel
theorem d_Ro_init_1 : decode c_Ro_init 1 = .ok (.invokespecial 3, 3) := by decide +kernel
theorem d_Ro_init_4 : decode c_Ro_init 4 = .ok (.aload_n 0, 1) := by decide +kernel
theorem d_Ro_init_5 : decode c_Ro_init 5 = .ok (.bipush 40, 2) := by decide +kernel
theorem d_Ro_init_7 : decode c_Ro_init 7 = .ok (.newarray .int, 2) := by decide +kernel
theorem d_Ro_init_9 : decode c_Ro_init 9 = .ok (.putfield 9, 3) := by decide +kernel
theorem d_Ro_init_12 : decode c_Ro_init 12 = .ok (.aload_n 0, 1) := by decide +kernel
theorem d_Ro_init_13 : decode c_Ro_init 13 = .ok (.iconst 0, 1) := by decide +kernel
theorem d_Ro_init_14 : decode c_Ro_init 14 = .ok (.putfield 15, 3) := by decide +kernel
theorem d_Ro_init_17 : decode c_Ro_init 17 = .ok (.return_, 1) := by decide +kernel
theorem d_Ro_isFull_0 : decode c_Ro_isFull 0 = .ok (.aload_n 0, 1) := by decide +kernel
theorem d_Ro_isFull_1 : decode c_Ro_isFull 1 = .ok (.getfield 15, 3) := by decide +kernel
theorem d_Ro_isFull_4 : decode c_Ro_isFull 4 = .ok (.bipush 40, 2) := by decide +kernel
theorem d_Ro_isFull_6 : decode c_Ro_isFull 6 = .ok (.if_icmp .lt 7, 3) := by decide +kernel
theorem d_Ro_isFull_9 : decode c_Ro_isFull 9 = .ok (.iconst 1, 1) := by decide +kernel
theorem d_Ro_isFull_10 : decode c_Ro_isFull 10 = .ok (.goto 4, 3) := by decide +kernel
theorem d_Ro_isFull_13 : decode c_Ro_isFull 13 = .ok (.iconst 0, 1) := by decide +kernel
theorem d_Ro_isFull_14 : decode c_Ro_isFull 14 = .ok (.ireturn, 1) := by decide +kernel
theorem d_Ro_holds_0 : decode c_Ro_holds 0 = .ok (.iload_n 1, 1) := by decide +kernel
theorem d_Ro_holds_1 : decode c_Ro_holds 1 = .ok (.ifCond .lt 15, 3) := by decide +kernel
theorem d_Ro_holds_4 : decode c_Ro_holds 4 = .ok (.iload_n 1, 1) := by decide +kernel
theorem d_Ro_holds_5 : decode c_Ro_holds 5 = .ok (.aload_n 0, 1) := by decide +kernel
theorem d_Ro_holds_6 : decode c_Ro_holds 6 = .ok (.getfield 15, 3) := by decide +kernel
theorem d_Ro_holds_9 : decode c_Ro_holds 9 = .ok (.if_icmp .ge 7, 3) := by decide +kernel
theorem d_Ro_holds_12 : decode c_Ro_holds 12 = .ok (.iconst 1, 1) := by decide +kernel
theorem d_Ro_holds_13 : decode c_Ro_holds 13 = .ok (.goto 4, 3) := by decide +kernel
theorem d_Ro_holds_16 : decode c_Ro_holds 16 = .ok (.iconst 0, 1) := by decide +kernel
theorem d_Ro_holds_17 : decode c_Ro_holds 17 = .ok (.ireturn, 1) := by decide +kernel
theorem d_Ro_byteAt_0 : decode c_Ro_byteAt 0 = .ok (.iload_n 1, 1) := by decide +kernel
theorem d_Ro_byteAt_1 : decode c_Ro_byteAt 1 = .ok (.ifCond .lt 20, 3) := by decide +kernel
theorem d_Ro_byteAt_4 : decode c_Ro_byteAt 4 = .ok (.iload_n 1, 1) := by decide +kernel
theorem d_Ro_byteAt_5 : decode c_Ro_byteAt 5 = .ok (.aload_n 0, 1) := by decide +kernel
theorem d_Ro_byteAt_6 : decode c_Ro_byteAt 6 = .ok (.getfield 15, 3) := by decide +kernel
theorem d_Ro_byteAt_9 : decode c_Ro_byteAt 9 = .ok (.if_icmp .ge 12, 3) := by decide +kernel
theorem d_Ro_byteAt_12 : decode c_Ro_byteAt 12 = .ok (.aload_n 0, 1) := by decide +kernel
theorem d_Ro_byteAt_13 : decode c_Ro_byteAt 13 = .ok (.getfield 9, 3) := by decide +kernel
theorem d_Ro_byteAt_16 : decode c_Ro_byteAt 16 = .ok (.iload_n 1, 1) := by decide +kernel
theorem d_Ro_byteAt_17 : decode c_Ro_byteAt 17 = .ok (.iaload, 1) := by decide +kernel
theorem d_Ro_byteAt_18 : decode c_Ro_byteAt 18 = .ok (.goto 4, 3) := by decide +kernel
theorem d_Ro_byteAt_21 : decode c_Ro_byteAt 21 = .ok (.iconst (-1), 1) := by decide +kernel
theorem d_Ro_byteAt_22 : decode c_Ro_byteAt 22 = .ok (.ireturn, 1) := by decide +kernel
theorem d_Ro_clear_0 : decode c_Ro_clear 0 = .ok (.aload_n 0, 1) := by decide +kernel
theorem d_Ro_clear_1 : decode c_Ro_clear 1 = .ok (.iconst 0, 1) := by decide +kernel
theorem d_Ro_clear_2 : decode c_Ro_clear 2 = .ok (.putfield 15, 3) := by decide +kernel
theorem d_Ro_clear_5 : decode c_Ro_clear 5 = .ok (.return_, 1) := by decide +kernel
theorem d_Ro_append_0 : decode c_Ro_append 0 = .ok (.aload_n 0, 1) := by decide +kernel
theorem d_Ro_append_1 : decode c_Ro_append 1 = .ok (.getfield 15, 3) := by decide +kernel
theorem d_Ro_append_4 : decode c_Ro_append 4 = .ok (.bipush 40, 2) := by decide +kernel
theorem d_Ro_append_6 : decode c_Ro_append 6 = .ok (.if_icmp .ge 23, 3) := by decide +kernel
theorem d_Ro_append_9 : decode c_Ro_append 9 = .ok (.aload_n 0, 1) := by decide +kernel
theorem d_Ro_append_10 : decode c_Ro_append 10 = .ok (.getfield 9, 3) := by decide +kernel
theorem d_Ro_append_13 : decode c_Ro_append 13 = .ok (.aload_n 0, 1) := by decide +kernel
theorem d_Ro_append_14 : decode c_Ro_append 14 = .ok (.getfield 15, 3) := by decide +kernel
theorem d_Ro_append_17 : decode c_Ro_append 17 = .ok (.iload_n 1, 1) := by decide +kernel
theorem d_Ro_append_18 : decode c_Ro_append 18 = .ok (.iastore, 1) := by decide +kernel
theorem d_Ro_append_19 : decode c_Ro_append 19 = .ok (.aload_n 0, 1) := by decide +kernel
theorem d_Ro_append_20 : decode c_Ro_append 20 = .ok (.dup, 1) := by decide +kernel
theorem d_Ro_append_21 : decode c_Ro_append 21 = .ok (.getfield 15, 3) := by decide +kernel
theorem d_Ro_append_24 : decode c_Ro_append 24 = .ok (.iconst 1, 1) := by decide +kernel
theorem d_Ro_append_25 : decode c_Ro_append 25 = .ok (.iadd, 1) := by decide +kernel
theorem d_Ro_append_26 : decode c_Ro_append 26 = .ok (.putfield 15, 3) := by decide +kernel
theorem d_Ro_append_29 : decode c_Ro_append 29 = .ok (.return_, 1) := by decide +kernel
theorem d_Ro_replace_0 : decode c_Ro_replace 0 = .ok (.aload_n 0, 1) := by decide +kernel
theorem d_Ro_replace_1 : decode c_Ro_replace 1 = .ok (.iload_n 1, 1) := by decide +kernel
theorem d_Ro_replace_2 : decode c_Ro_replace 2 = .ok (.invokevirtual 19, 3) := by decide +kernel
theorem d_Ro_replace_5 : decode c_Ro_replace 5 = .ok (.ifCond .eq 10, 3) := by decide +kernel
theorem d_Ro_replace_8 : decode c_Ro_replace 8 = .ok (.aload_n 0, 1) := by decide +kernel
theorem d_Ro_replace_9 : decode c_Ro_replace 9 = .ok (.getfield 9, 3) := by decide +kernel
theorem d_Ro_replace_12 : decode c_Ro_replace 12 = .ok (.iload_n 1, 1) := by decide +kernel
theorem d_Ro_replace_13 : decode c_Ro_replace 13 = .ok (.iload_n 2, 1) := by decide +kernel
theorem d_Ro_replace_14 : decode c_Ro_replace 14 = .ok (.iastore, 1) := by decide +kernel
theorem d_Ro_replace_15 : decode c_Ro_replace 15 = .ok (.return_, 1) := by decide +kernel
theorem d_Ro_appendPart_0 : decode c_Ro_appendPart 0 = .ok (.iconst 0, 1) := by decide +kernel
theorem d_Ro_appendPart_1 : decode c_Ro_appendPart 1 = .ok (.istore 4, 2) := by decide +kernel
theorem d_Ro_appendPart_3 : decode c_Ro_appendPart 3 = .ok (.iload 4, 2) := by decide +kernel
theorem d_Ro_appendPart_5 : decode c_Ro_appendPart 5 = .ok (.iload_n 3, 1) := by decide +kernel
theorem d_Ro_appendPart_6 : decode c_Ro_appendPart 6 = .ok (.if_icmp .ge 33, 3) := by decide +kernel
theorem d_Ro_appendPart_9 : decode c_Ro_appendPart 9 = .ok (.aload_n 1, 1) := by decide +kernel
theorem d_Ro_appendPart_10 : decode c_Ro_appendPart 10 = .ok (.iload_n 2, 1) := by decide +kernel
theorem d_Ro_appendPart_11 : decode c_Ro_appendPart 11 = .ok (.iload 4, 2) := by decide +kernel
theorem d_Ro_appendPart_13 : decode c_Ro_appendPart 13 = .ok (.iadd, 1) := by decide +kernel
theorem d_Ro_appendPart_14 : decode c_Ro_appendPart 14 = .ok (.invokevirtual 19, 3) := by decide +kernel
theorem d_Ro_appendPart_17 : decode c_Ro_appendPart 17 = .ok (.ifCond .eq 16, 3) := by decide +kernel
theorem d_Ro_appendPart_20 : decode c_Ro_appendPart 20 = .ok (.aload_n 0, 1) := by decide +kernel
theorem d_Ro_appendPart_21 : decode c_Ro_appendPart 21 = .ok (.aload_n 1, 1) := by decide +kernel
theorem d_Ro_appendPart_22 : decode c_Ro_appendPart 22 = .ok (.getfield 9, 3) := by decide +kernel
theorem d_Ro_appendPart_25 : decode c_Ro_appendPart 25 = .ok (.iload_n 2, 1) := by decide +kernel
theorem d_Ro_appendPart_26 : decode c_Ro_appendPart 26 = .ok (.iload 4, 2) := by decide +kernel
theorem d_Ro_appendPart_28 : decode c_Ro_appendPart 28 = .ok (.iadd, 1) := by decide +kernel
theorem d_Ro_appendPart_29 : decode c_Ro_appendPart 29 = .ok (.iaload, 1) := by decide +kernel
theorem d_Ro_appendPart_30 : decode c_Ro_appendPart 30 = .ok (.invokevirtual 23, 3) := by decide +kernel
theorem d_Ro_appendPart_33 : decode c_Ro_appendPart 33 = .ok (.iinc 4 1, 3) := by decide +kernel
theorem d_Ro_appendPart_36 : decode c_Ro_appendPart 36 = .ok (.goto (-33), 3) := by decide +kernel
theorem d_Ro_appendPart_39 : decode c_Ro_appendPart 39 = .ok (.return_, 1) := by decide +kernel
theorem d_Ro_become_0 : decode c_Ro_become 0 = .ok (.aload_n 0, 1) := by decide +kernel
theorem d_Ro_become_1 : decode c_Ro_become 1 = .ok (.aload_n 1, 1) := by decide +kernel
theorem d_Ro_become_2 : decode c_Ro_become 2 = .ok (.getfield 15, 3) := by decide +kernel
theorem d_Ro_become_5 : decode c_Ro_become 5 = .ok (.putfield 15, 3) := by decide +kernel
theorem d_Ro_become_8 : decode c_Ro_become 8 = .ok (.iconst 0, 1) := by decide +kernel
theorem d_Ro_become_9 : decode c_Ro_become 9 = .ok (.istore_n 2, 1) := by decide +kernel
theorem d_Ro_become_10 : decode c_Ro_become 10 = .ok (.iload_n 2, 1) := by decide +kernel
theorem d_Ro_become_11 : decode c_Ro_become 11 = .ok (.aload_n 0, 1) := by decide +kernel
theorem d_Ro_become_12 : decode c_Ro_become 12 = .ok (.getfield 15, 3) := by decide +kernel
theorem d_Ro_become_15 : decode c_Ro_become 15 = .ok (.if_icmp .ge 21, 3) := by decide +kernel
theorem d_Ro_become_18 : decode c_Ro_become 18 = .ok (.aload_n 0, 1) := by decide +kernel
theorem d_Ro_become_19 : decode c_Ro_become 19 = .ok (.getfield 9, 3) := by decide +kernel
theorem d_Ro_become_22 : decode c_Ro_become 22 = .ok (.iload_n 2, 1) := by decide +kernel
theorem d_Ro_become_23 : decode c_Ro_become 23 = .ok (.aload_n 1, 1) := by decide +kernel
theorem d_Ro_become_24 : decode c_Ro_become 24 = .ok (.getfield 9, 3) := by decide +kernel
theorem d_Ro_become_27 : decode c_Ro_become 27 = .ok (.iload_n 2, 1) := by decide +kernel
theorem d_Ro_become_28 : decode c_Ro_become 28 = .ok (.iaload, 1) := by decide +kernel
theorem d_Ro_become_29 : decode c_Ro_become 29 = .ok (.iastore, 1) := by decide +kernel
theorem d_Ro_become_30 : decode c_Ro_become 30 = .ok (.iinc 2 1, 3) := by decide +kernel
theorem d_Ro_become_33 : decode c_Ro_become 33 = .ok (.goto (-23), 3) := by decide +kernel
theorem d_Ro_become_36 : decode c_Ro_become 36 = .ok (.return_, 1) := by decide +kernel
theorem d_Ro_sums_0 : decode c_Ro_sums 0 = .ok (.aload_n 0, 1) := by decide +kernel
theorem d_Ro_sums_1 : decode c_Ro_sums 1 = .ok (.iload_n 1, 1) := by decide +kernel
theorem d_Ro_sums_2 : decode c_Ro_sums 2 = .ok (.iload_n 2, 1) := by decide +kernel
theorem d_Ro_sums_3 : decode c_Ro_sums 3 = .ok (.invokevirtual 27, 3) := by decide +kernel
theorem d_Ro_sums_6 : decode c_Ro_sums 6 = .ok (.istore 4, 2) := by decide +kernel
theorem d_Ro_sums_8 : decode c_Ro_sums 8 = .ok (.iload_n 3, 1) := by decide +kernel
theorem d_Ro_sums_9 : decode c_Ro_sums 9 = .ok (.iconst 1, 1) := by decide +kernel
theorem d_Ro_sums_10 : decode c_Ro_sums 10 = .ok (.if_icmp .ne 10, 3) := by decide +kernel
theorem d_Ro_sums_13 : decode c_Ro_sums 13 = .ok (.iload 4, 2) := by decide +kernel
theorem d_Ro_sums_15 : decode c_Ro_sums 15 = .ok (.iconst 4, 1) := by decide +kernel
theorem d_Ro_sums_16 : decode c_Ro_sums 16 = .ok (.irem, 1) := by decide +kernel
theorem d_Ro_sums_17 : decode c_Ro_sums 17 = .ok (.goto 5, 3) := by decide +kernel
theorem d_Ro_sums_20 : decode c_Ro_sums 20 = .ok (.iload 4, 2) := by decide +kernel
theorem d_Ro_sums_22 : decode c_Ro_sums 22 = .ok (.istore 5, 2) := by decide +kernel
theorem d_Ro_sums_24 : decode c_Ro_sums 24 = .ok (.aload_n 0, 1) := by decide +kernel
theorem d_Ro_sums_25 : decode c_Ro_sums 25 = .ok (.iload_n 1, 1) := by decide +kernel
theorem d_Ro_sums_26 : decode c_Ro_sums 26 = .ok (.iload_n 2, 1) := by decide +kernel
theorem d_Ro_sums_27 : decode c_Ro_sums 27 = .ok (.invokevirtual 31, 3) := by decide +kernel
theorem d_Ro_sums_30 : decode c_Ro_sums 30 = .ok (.sipush 256, 3) := by decide +kernel
theorem d_Ro_sums_33 : decode c_Ro_sums 33 = .ok (.iload 5, 2) := by decide +kernel
theorem d_Ro_sums_35 : decode c_Ro_sums 35 = .ok (.imul, 1) := by decide +kernel
theorem d_Ro_sums_36 : decode c_Ro_sums 36 = .ok (.iadd, 1) := by decide +kernel
theorem d_Ro_sums_37 : decode c_Ro_sums 37 = .ok (.ireturn, 1) := by decide +kernel
theorem d_Ro_weakSum_0 : decode c_Ro_weakSum 0 = .ok (.iconst 0, 1) := by decide +kernel
theorem d_Ro_weakSum_1 : decode c_Ro_weakSum 1 = .ok (.istore_n 3, 1) := by decide +kernel
theorem d_Ro_weakSum_2 : decode c_Ro_weakSum 2 = .ok (.iconst 0, 1) := by decide +kernel
theorem d_Ro_weakSum_3 : decode c_Ro_weakSum 3 = .ok (.istore 4, 2) := by decide +kernel
theorem d_Ro_weakSum_5 : decode c_Ro_weakSum 5 = .ok (.iconst 0, 1) := by decide +kernel
theorem d_Ro_weakSum_6 : decode c_Ro_weakSum 6 = .ok (.istore 5, 2) := by decide +kernel
theorem d_Ro_weakSum_8 : decode c_Ro_weakSum 8 = .ok (.iload 5, 2) := by decide +kernel
theorem d_Ro_weakSum_10 : decode c_Ro_weakSum 10 = .ok (.iload_n 2, 1) := by decide +kernel
theorem d_Ro_weakSum_11 : decode c_Ro_weakSum 11 = .ok (.if_icmp .ge 36, 3) := by decide +kernel
theorem d_Ro_weakSum_14 : decode c_Ro_weakSum 14 = .ok (.aload_n 0, 1) := by decide +kernel
theorem d_Ro_weakSum_15 : decode c_Ro_weakSum 15 = .ok (.iload_n 1, 1) := by decide +kernel
theorem d_Ro_weakSum_16 : decode c_Ro_weakSum 16 = .ok (.iload 5, 2) := by decide +kernel
theorem d_Ro_weakSum_18 : decode c_Ro_weakSum 18 = .ok (.iadd, 1) := by decide +kernel
theorem d_Ro_weakSum_19 : decode c_Ro_weakSum 19 = .ok (.invokevirtual 34, 3) := by decide +kernel
theorem d_Ro_weakSum_22 : decode c_Ro_weakSum 22 = .ok (.istore 6, 2) := by decide +kernel
theorem d_Ro_weakSum_24 : decode c_Ro_weakSum 24 = .ok (.iload_n 3, 1) := by decide +kernel
theorem d_Ro_weakSum_25 : decode c_Ro_weakSum 25 = .ok (.iload 6, 2) := by decide +kernel
theorem d_Ro_weakSum_27 : decode c_Ro_weakSum 27 = .ok (.iadd, 1) := by decide +kernel
theorem d_Ro_weakSum_28 : decode c_Ro_weakSum 28 = .ok (.istore_n 3, 1) := by decide +kernel
theorem d_Ro_weakSum_29 : decode c_Ro_weakSum 29 = .ok (.iload 4, 2) := by decide +kernel
theorem d_Ro_weakSum_31 : decode c_Ro_weakSum 31 = .ok (.iload_n 2, 1) := by decide +kernel
theorem d_Ro_weakSum_32 : decode c_Ro_weakSum 32 = .ok (.iload 5, 2) := by decide +kernel
theorem d_Ro_weakSum_34 : decode c_Ro_weakSum 34 = .ok (.isub, 1) := by decide +kernel
theorem d_Ro_weakSum_35 : decode c_Ro_weakSum 35 = .ok (.iload 6, 2) := by decide +kernel
theorem d_Ro_weakSum_37 : decode c_Ro_weakSum 37 = .ok (.imul, 1) := by decide +kernel
theorem d_Ro_weakSum_38 : decode c_Ro_weakSum 38 = .ok (.iadd, 1) := by decide +kernel
theorem d_Ro_weakSum_39 : decode c_Ro_weakSum 39 = .ok (.istore 4, 2) := by decide +kernel
theorem d_Ro_weakSum_41 : decode c_Ro_weakSum 41 = .ok (.iinc 5 1, 3) := by decide +kernel
theorem d_Ro_weakSum_44 : decode c_Ro_weakSum 44 = .ok (.goto (-36), 3) := by decide +kernel
theorem d_Ro_weakSum_47 : decode c_Ro_weakSum 47 = .ok (.iload_n 3, 1) := by decide +kernel
theorem d_Ro_weakSum_48 : decode c_Ro_weakSum 48 = .ok (.bipush 16, 2) := by decide +kernel
theorem d_Ro_weakSum_50 : decode c_Ro_weakSum 50 = .ok (.irem, 1) := by decide +kernel
theorem d_Ro_weakSum_51 : decode c_Ro_weakSum 51 = .ok (.bipush 16, 2) := by decide +kernel
theorem d_Ro_weakSum_53 : decode c_Ro_weakSum 53 = .ok (.iload 4, 2) := by decide +kernel
theorem d_Ro_weakSum_55 : decode c_Ro_weakSum 55 = .ok (.bipush 16, 2) := by decide +kernel
theorem d_Ro_weakSum_57 : decode c_Ro_weakSum 57 = .ok (.irem, 1) := by decide +kernel
theorem d_Ro_weakSum_58 : decode c_Ro_weakSum 58 = .ok (.imul, 1) := by decide +kernel
theorem d_Ro_weakSum_59 : decode c_Ro_weakSum 59 = .ok (.iadd, 1) := by decide +kernel
theorem d_Ro_weakSum_60 : decode c_Ro_weakSum 60 = .ok (.ireturn, 1) := by decide +kernel
theorem d_Ro_strongSum_0 : decode c_Ro_strongSum 0 = .ok (.iconst 0, 1) := by decide +kernel
theorem d_Ro_strongSum_1 : decode c_Ro_strongSum 1 = .ok (.istore_n 3, 1) := by decide +kernel
theorem d_Ro_strongSum_2 : decode c_Ro_strongSum 2 = .ok (.iconst 0, 1) := by decide +kernel
theorem d_Ro_strongSum_3 : decode c_Ro_strongSum 3 = .ok (.istore 4, 2) := by decide +kernel
theorem d_Ro_strongSum_5 : decode c_Ro_strongSum 5 = .ok (.iload 4, 2) := by decide +kernel
theorem d_Ro_strongSum_7 : decode c_Ro_strongSum 7 = .ok (.iload_n 2, 1) := by decide +kernel
theorem d_Ro_strongSum_8 : decode c_Ro_strongSum 8 = .ok (.if_icmp .ge 28, 3) := by decide +kernel
theorem d_Ro_strongSum_11 : decode c_Ro_strongSum 11 = .ok (.iload_n 3, 1) := by decide +kernel
theorem d_Ro_strongSum_12 : decode c_Ro_strongSum 12 = .ok (.bipush 31, 2) := by decide +kernel
theorem d_Ro_strongSum_14 : decode c_Ro_strongSum 14 = .ok (.imul, 1) := by decide +kernel
theorem d_Ro_strongSum_15 : decode c_Ro_strongSum 15 = .ok (.aload_n 0, 1) := by decide +kernel
theorem d_Ro_strongSum_16 : decode c_Ro_strongSum 16 = .ok (.iload_n 1, 1) := by decide +kernel
theorem d_Ro_strongSum_17 : decode c_Ro_strongSum 17 = .ok (.iload 4, 2) := by decide +kernel
theorem d_Ro_strongSum_19 : decode c_Ro_strongSum 19 = .ok (.iadd, 1) := by decide +kernel
theorem d_Ro_strongSum_20 : decode c_Ro_strongSum 20 = .ok (.invokevirtual 34, 3) := by decide +kernel
theorem d_Ro_strongSum_23 : decode c_Ro_strongSum 23 = .ok (.iadd, 1) := by decide +kernel
theorem d_Ro_strongSum_24 : decode c_Ro_strongSum 24 = .ok (.iconst 1, 1) := by decide +kernel
theorem d_Ro_strongSum_25 : decode c_Ro_strongSum 25 = .ok (.iadd, 1) := by decide +kernel
theorem d_Ro_strongSum_26 : decode c_Ro_strongSum 26 = .ok (.ldc 38, 2) := by decide +kernel
theorem d_Ro_strongSum_28 : decode c_Ro_strongSum 28 = .ok (.irem, 1) := by decide +kernel
theorem d_Ro_strongSum_29 : decode c_Ro_strongSum 29 = .ok (.istore_n 3, 1) := by decide +kernel
theorem d_Ro_strongSum_30 : decode c_Ro_strongSum 30 = .ok (.iinc 4 1, 3) := by decide +kernel
theorem d_Ro_strongSum_33 : decode c_Ro_strongSum 33 = .ok (.goto (-28), 3) := by decide +kernel
theorem d_Ro_strongSum_36 : decode c_Ro_strongSum 36 = .ok (.iload_n 3, 1) := by decide +kernel
theorem d_Ro_strongSum_37 : decode c_Ro_strongSum 37 = .ok (.ireturn, 1) := by decide +kernel
theorem d_Ro_digest_0 : decode c_Ro_digest 0 = .ok (.ldc 39, 2) := by decide +kernel
theorem d_Ro_digest_2 : decode c_Ro_digest 2 = .ok (.istore_n 1, 1) := by decide +kernel
theorem d_Ro_digest_3 : decode c_Ro_digest 3 = .ok (.iconst 0, 1) := by decide +kernel
theorem d_Ro_digest_4 : decode c_Ro_digest 4 = .ok (.istore_n 2, 1) := by decide +kernel
theorem d_Ro_digest_5 : decode c_Ro_digest 5 = .ok (.iload_n 2, 1) := by decide +kernel
theorem d_Ro_digest_6 : decode c_Ro_digest 6 = .ok (.aload_n 0, 1) := by decide +kernel
theorem d_Ro_digest_7 : decode c_Ro_digest 7 = .ok (.getfield 15, 3) := by decide +kernel
theorem d_Ro_digest_10 : decode c_Ro_digest 10 = .ok (.if_icmp .ge 21, 3) := by decide +kernel
theorem d_Ro_digest_13 : decode c_Ro_digest 13 = .ok (.iload_n 1, 1) := by decide +kernel
theorem d_Ro_digest_14 : decode c_Ro_digest 14 = .ok (.aload_n 0, 1) := by decide +kernel
theorem d_Ro_digest_15 : decode c_Ro_digest 15 = .ok (.getfield 9, 3) := by decide +kernel
theorem d_Ro_digest_18 : decode c_Ro_digest 18 = .ok (.iload_n 2, 1) := by decide +kernel
theorem d_Ro_digest_19 : decode c_Ro_digest 19 = .ok (.iaload, 1) := by decide +kernel
theorem d_Ro_digest_20 : decode c_Ro_digest 20 = .ok (.ixor, 1) := by decide +kernel
theorem d_Ro_digest_21 : decode c_Ro_digest 21 = .ok (.ldc 40, 2) := by decide +kernel
theorem d_Ro_digest_23 : decode c_Ro_digest 23 = .ok (.imul, 1) := by decide +kernel
theorem d_Ro_digest_24 : decode c_Ro_digest 24 = .ok (.istore_n 1, 1) := by decide +kernel
theorem d_Ro_digest_25 : decode c_Ro_digest 25 = .ok (.iinc 2 1, 3) := by decide +kernel
theorem d_Ro_digest_28 : decode c_Ro_digest 28 = .ok (.goto (-23), 3) := by decide +kernel
theorem d_Ro_digest_31 : decode c_Ro_digest 31 = .ok (.iload_n 1, 1) := by decide +kernel
theorem d_Ro_digest_32 : decode c_Ro_digest 32 = .ok (.ireturn, 1) := by decide +kernel
theorem d_Ru_init_0 : decode c_Ru_init 0 = .ok (.aload_n 0, 1) := by decide +kernel
theorem d_Ru_init_1 : decode c_Ru_init 1 = .ok (.invokespecial 3, 3) := by decide +kernel
theorem d_Ru_init_4 : decode c_Ru_init 4 = .ok (.aload_n 0, 1) := by decide +kernel
theorem d_Ru_init_5 : decode c_Ru_init 5 = .ok (.bipush 6, 2) := by decide +kernel
theorem d_Ru_init_7 : decode c_Ru_init 7 = .ok (.newarray .boolean, 2) := by decide +kernel
theorem d_Ru_init_9 : decode c_Ru_init 9 = .ok (.putfield 9, 3) := by decide +kernel
theorem d_Ru_init_12 : decode c_Ru_init 12 = .ok (.aload_n 0, 1) := by decide +kernel
theorem d_Ru_init_13 : decode c_Ru_init 13 = .ok (.bipush 6, 2) := by decide +kernel
theorem d_Ru_init_15 : decode c_Ru_init 15 = .ok (.newarray .int, 2) := by decide +kernel
theorem d_Ru_init_17 : decode c_Ru_init 17 = .ok (.putfield 15, 3) := by decide +kernel
theorem d_Ru_init_20 : decode c_Ru_init 20 = .ok (.aload_n 0, 1) := by decide +kernel
theorem d_Ru_init_21 : decode c_Ru_init 21 = .ok (.bipush 6, 2) := by decide +kernel
theorem d_Ru_init_23 : decode c_Ru_init 23 = .ok (.newarray .int, 2) := by decide +kernel
theorem d_Ru_init_25 : decode c_Ru_init 25 = .ok (.putfield 19, 3) := by decide +kernel
theorem d_Ru_init_28 : decode c_Ru_init 28 = .ok (.aload_n 0, 1) := by decide +kernel
theorem d_Ru_init_29 : decode c_Ru_init 29 = .ok (.iconst 0, 1) := by decide +kernel
theorem d_Ru_init_30 : decode c_Ru_init 30 = .ok (.putfield 22, 3) := by decide +kernel
theorem d_Ru_init_33 : decode c_Ru_init 33 = .ok (.return_, 1) := by decide +kernel
theorem d_Ru_append_0 : decode c_Ru_append 0 = .ok (.aload_n 0, 1) := by decide +kernel
theorem d_Ru_append_1 : decode c_Ru_append 1 = .ok (.getfield 22, 3) := by decide +kernel
theorem d_Ru_append_4 : decode c_Ru_append 4 = .ok (.bipush 6, 2) := by decide +kernel
theorem d_Ru_append_6 : decode c_Ru_append 6 = .ok (.if_icmp .lt 5, 3) := by decide +kernel
theorem d_Ru_append_9 : decode c_Ru_append 9 = .ok (.iconst 0, 1) := by decide +kernel
theorem d_Ru_append_10 : decode c_Ru_append 10 = .ok (.ireturn, 1) := by decide +kernel
theorem d_Ru_append_11 : decode c_Ru_append 11 = .ok (.aload_n 0, 1) := by decide +kernel
theorem d_Ru_append_12 : decode c_Ru_append 12 = .ok (.getfield 9, 3) := by decide +kernel
theorem d_Ru_append_15 : decode c_Ru_append 15 = .ok (.aload_n 0, 1) := by decide +kernel
theorem d_Ru_append_16 : decode c_Ru_append 16 = .ok (.getfield 22, 3) := by decide +kernel
theorem d_Ru_append_19 : decode c_Ru_append 19 = .ok (.iload_n 1, 1) := by decide +kernel
theorem d_Ru_append_20 : decode c_Ru_append 20 = .ok (.bastore, 1) := by decide +kernel
theorem d_Ru_append_21 : decode c_Ru_append 21 = .ok (.aload_n 0, 1) := by decide +kernel
theorem d_Ru_append_22 : decode c_Ru_append 22 = .ok (.getfield 15, 3) := by decide +kernel
theorem d_Ru_append_25 : decode c_Ru_append 25 = .ok (.aload_n 0, 1) := by decide +kernel
theorem d_Ru_append_26 : decode c_Ru_append 26 = .ok (.getfield 22, 3) := by decide +kernel
theorem d_Ru_append_29 : decode c_Ru_append 29 = .ok (.iload_n 2, 1) := by decide +kernel
theorem d_Ru_append_30 : decode c_Ru_append 30 = .ok (.iastore, 1) := by decide +kernel
theorem d_Ru_append_31 : decode c_Ru_append 31 = .ok (.aload_n 0, 1) := by decide +kernel
theorem d_Ru_append_32 : decode c_Ru_append 32 = .ok (.getfield 19, 3) := by decide +kernel
theorem d_Ru_append_35 : decode c_Ru_append 35 = .ok (.aload_n 0, 1) := by decide +kernel
theorem d_Ru_append_36 : decode c_Ru_append 36 = .ok (.getfield 22, 3) := by decide +kernel
theorem d_Ru_append_39 : decode c_Ru_append 39 = .ok (.iload_n 3, 1) := by decide +kernel
theorem d_Ru_append_40 : decode c_Ru_append 40 = .ok (.iastore, 1) := by decide +kernel
theorem d_Ru_append_41 : decode c_Ru_append 41 = .ok (.aload_n 0, 1) := by decide +kernel
theorem d_Ru_append_42 : decode c_Ru_append 42 = .ok (.dup, 1) := by decide +kernel
theorem d_Ru_append_43 : decode c_Ru_append 43 = .ok (.getfield 22, 3) := by decide +kernel
theorem d_Ru_append_46 : decode c_Ru_append 46 = .ok (.iconst 1, 1) := by decide +kernel
theorem d_Ru_append_47 : decode c_Ru_append 47 = .ok (.iadd, 1) := by decide +kernel
theorem d_Ru_append_48 : decode c_Ru_append 48 = .ok (.putfield 22, 3) := by decide +kernel
theorem d_Ru_append_51 : decode c_Ru_append 51 = .ok (.iconst 1, 1) := by decide +kernel
theorem d_Ru_append_52 : decode c_Ru_append 52 = .ok (.ireturn, 1) := by decide +kernel
theorem d_Ru_select_0 : decode c_Ru_select 0 = .ok (.iconst 0, 1) := by decide +kernel
theorem d_Ru_select_1 : decode c_Ru_select 1 = .ok (.istore_n 2, 1) := by decide +kernel
theorem d_Ru_select_2 : decode c_Ru_select 2 = .ok (.iload_n 2, 1) := by decide +kernel
theorem d_Ru_select_3 : decode c_Ru_select 3 = .ok (.aload_n 0, 1) := by decide +kernel
theorem d_Ru_select_4 : decode c_Ru_select 4 = .ok (.getfield 22, 3) := by decide +kernel
theorem d_Ru_select_7 : decode c_Ru_select 7 = .ok (.if_icmp .ge 33, 3) := by decide +kernel
theorem d_Ru_select_10 : decode c_Ru_select 10 = .ok (.iload_n 1, 1) := by decide +kernel
theorem d_Ru_select_11 : decode c_Ru_select 11 = .ok (.aload_n 0, 1) := by decide +kernel
theorem d_Ru_select_12 : decode c_Ru_select 12 = .ok (.getfield 15, 3) := by decide +kernel
theorem d_Ru_select_15 : decode c_Ru_select 15 = .ok (.iload_n 2, 1) := by decide +kernel
theorem d_Ru_select_16 : decode c_Ru_select 16 = .ok (.iaload, 1) := by decide +kernel
theorem d_Ru_select_17 : decode c_Ru_select 17 = .ok (.iand, 1) := by decide +kernel
theorem d_Ru_select_18 : decode c_Ru_select 18 = .ok (.aload_n 0, 1) := by decide +kernel
theorem d_Ru_select_19 : decode c_Ru_select 19 = .ok (.getfield 19, 3) := by decide +kernel
theorem d_Ru_select_22 : decode c_Ru_select 22 = .ok (.iload_n 2, 1) := by decide +kernel
theorem d_Ru_select_23 : decode c_Ru_select 23 = .ok (.iaload, 1) := by decide +kernel
theorem d_Ru_select_24 : decode c_Ru_select 24 = .ok (.if_icmp .ne 10, 3) := by decide +kernel
theorem d_Ru_select_27 : decode c_Ru_select 27 = .ok (.aload_n 0, 1) := by decide +kernel
theorem d_Ru_select_28 : decode c_Ru_select 28 = .ok (.getfield 9, 3) := by decide +kernel
theorem d_Ru_select_31 : decode c_Ru_select 31 = .ok (.iload_n 2, 1) := by decide +kernel
theorem d_Ru_select_32 : decode c_Ru_select 32 = .ok (.baload, 1) := by decide +kernel
theorem d_Ru_select_33 : decode c_Ru_select 33 = .ok (.ireturn, 1) := by decide +kernel
theorem d_Ru_select_34 : decode c_Ru_select 34 = .ok (.iinc 2 1, 3) := by decide +kernel
theorem d_Ru_select_37 : decode c_Ru_select 37 = .ok (.goto (-35), 3) := by decide +kernel
theorem d_Ru_select_40 : decode c_Ru_select 40 = .ok (.iconst 1, 1) := by decide +kernel
theorem d_Ru_select_41 : decode c_Ru_select 41 = .ok (.ireturn, 1) := by decide +kernel
theorem d_Sf_init_0 : decode c_Sf_init 0 = .ok (.aload_n 0, 1) := by decide +kernel
theorem d_Sf_init_1 : decode c_Sf_init 1 = .ok (.invokespecial 1, 3) := by decide +kernel
theorem d_Sf_init_4 : decode c_Sf_init 4 = .ok (.aload_n 0, 1) := by decide +kernel
theorem d_Sf_init_5 : decode c_Sf_init 5 = .ok (.new 7, 3) := by decide +kernel
theorem d_Sf_init_8 : decode c_Sf_init 8 = .ok (.dup, 1) := by decide +kernel
theorem d_Sf_init_9 : decode c_Sf_init 9 = .ok (.invokespecial 9, 3) := by decide +kernel
theorem d_Sf_init_12 : decode c_Sf_init 12 = .ok (.putfield 10, 3) := by decide +kernel
theorem d_Sf_init_15 : decode c_Sf_init 15 = .ok (.aload_n 0, 1) := by decide +kernel
theorem d_Sf_init_16 : decode c_Sf_init 16 = .ok (.iconst 0, 1) := by decide +kernel
theorem d_Sf_init_17 : decode c_Sf_init 17 = .ok (.putfield 16, 3) := by decide +kernel
theorem d_Sf_init_20 : decode c_Sf_init 20 = .ok (.aload_n 0, 1) := by decide +kernel
theorem d_Sf_init_21 : decode c_Sf_init 21 = .ok (.iconst 0, 1) := by decide +kernel
theorem d_Sf_init_22 : decode c_Sf_init 22 = .ok (.putfield 20, 3) := by decide +kernel
theorem d_Sf_init_25 : decode c_Sf_init 25 = .ok (.return_, 1) := by decide +kernel
theorem d_Sf_erase_0 : decode c_Sf_erase 0 = .ok (.aload_n 0, 1) := by decide +kernel
theorem d_Sf_erase_1 : decode c_Sf_erase 1 = .ok (.iconst 0, 1) := by decide +kernel
theorem d_Sf_erase_2 : decode c_Sf_erase 2 = .ok (.putfield 16, 3) := by decide +kernel
theorem d_Sf_erase_5 : decode c_Sf_erase 5 = .ok (.aload_n 0, 1) := by decide +kernel
theorem d_Sf_erase_6 : decode c_Sf_erase 6 = .ok (.getfield 10, 3) := by decide +kernel
theorem d_Sf_erase_9 : decode c_Sf_erase 9 = .ok (.invokevirtual 24, 3) := by decide +kernel
theorem d_Sf_erase_12 : decode c_Sf_erase 12 = .ok (.return_, 1) := by decide +kernel
end
section
theorem d_TC_init_0 : decode c_TC_init 0 = .ok (.aload_n 0, 1) := by decide +kernel
theorem d_TC_init_1 : decode c_TC_init 1 = .ok (.invokespecial 3, 3) := by decide +kernel
theorem d_TC_init_4 : decode c_TC_init 4 = .ok (.aload_n 0, 1) := by decide +kernel
theorem d_TC_init_5 : decode c_TC_init 5 = .ok (.bipush 24, 2) := by decide +kernel
theorem d_TC_init_7 : decode c_TC_init 7 = .ok (.anewarray 9, 3) := by decide +kernel
theorem d_TC_init_10 : decode c_TC_init 10 = .ok (.putfield 11, 3) := by decide +kernel
theorem d_TC_init_13 : decode c_TC_init 13 = .ok (.aload_n 0, 1) := by decide +kernel
theorem d_TC_init_14 : decode c_TC_init 14 = .ok (.new 15, 3) := by decide +kernel
theorem d_TC_init_17 : decode c_TC_init 17 = .ok (.dup, 1) := by decide +kernel
theorem d_TC_init_18 : decode c_TC_init 18 = .ok (.invokespecial 17, 3) := by decide +kernel
theorem d_TC_init_21 : decode c_TC_init 21 = .ok (.putfield 18, 3) := by decide +kernel
theorem d_TC_init_24 : decode c_TC_init 24 = .ok (.aload_n 0, 1) := by decide +kernel
theorem d_TC_init_25 : decode c_TC_init 25 = .ok (.new 22, 3) := by decide +kernel
theorem d_TC_init_28 : decode c_TC_init 28 = .ok (.dup, 1) := by decide +kernel
theorem d_TC_init_29 : decode c_TC_init 29 = .ok (.invokespecial 24, 3) := by decide +kernel
theorem d_TC_init_32 : decode c_TC_init 32 = .ok (.putfield 25, 3) := by decide +kernel
theorem d_TC_init_35 : decode c_TC_init 35 = .ok (.aload_n 0, 1) := by decide +kernel
theorem d_TC_init_36 : decode c_TC_init 36 = .ok (.new 22, 3) := by decide +kernel
theorem d_TC_init_39 : decode c_TC_init 39 = .ok (.dup, 1) := by decide +kernel
theorem d_TC_init_40 : decode c_TC_init 40 = .ok (.invokespecial 24, 3) := by decide +kernel
theorem d_TC_init_43 : decode c_TC_init 43 = .ok (.putfield 29, 3) := by decide +kernel
theorem d_TC_init_46 : decode c_TC_init 46 = .ok (.aload_n 0, 1) := by decide +kernel
theorem d_TC_init_47 : decode c_TC_init 47 = .ok (.bipush 12, 2) := by decide +kernel
theorem d_TC_init_49 : decode c_TC_init 49 = .ok (.anewarray 32, 3) := by decide +kernel
theorem d_TC_init_52 : decode c_TC_init 52 = .ok (.putfield 34, 3) := by decide +kernel
theorem d_TC_init_55 : decode c_TC_init 55 = .ok (.aload_n 0, 1) := by decide +kernel
theorem d_TC_init_56 : decode c_TC_init 56 = .ok (.new 38, 3) := by decide +kernel
theorem d_TC_init_59 : decode c_TC_init 59 = .ok (.dup, 1) := by decide +kernel
theorem d_TC_init_60 : decode c_TC_init 60 = .ok (.invokespecial 40, 3) := by decide +kernel
theorem d_TC_init_63 : decode c_TC_init 63 = .ok (.putfield 41, 3) := by decide +kernel
theorem d_TC_init_66 : decode c_TC_init 66 = .ok (.aload_n 0, 1) := by decide +kernel
theorem d_TC_init_67 : decode c_TC_init 67 = .ok (.new 45, 3) := by decide +kernel
theorem d_TC_init_70 : decode c_TC_init 70 = .ok (.dup, 1) := by decide +kernel
theorem d_TC_init_71 : decode c_TC_init 71 = .ok (.invokespecial 47, 3) := by decide +kernel
theorem d_TC_init_74 : decode c_TC_init 74 = .ok (.putfield 48, 3) := by decide +kernel
theorem d_TC_init_77 : decode c_TC_init 77 = .ok (.aload_n 0, 1) := by decide +kernel
theorem d_TC_init_78 : decode c_TC_init 78 = .ok (.bipush 8, 2) := by decide +kernel
theorem d_TC_init_80 : decode c_TC_init 80 = .ok (.newarray .int, 2) := by decide +kernel
theorem d_TC_init_82 : decode c_TC_init 82 = .ok (.putfield 52, 3) := by decide +kernel
theorem d_TC_init_85 : decode c_TC_init 85 = .ok (.aload_n 0, 1) := by decide +kernel
theorem d_TC_init_86 : decode c_TC_init 86 = .ok (.iconst 0, 1) := by decide +kernel
theorem d_TC_init_87 : decode c_TC_init 87 = .ok (.putfield 56, 3) := by decide +kernel
theorem d_TC_init_90 : decode c_TC_init 90 = .ok (.aload_n 0, 1) := by decide +kernel
theorem d_TC_init_91 : decode c_TC_init 91 = .ok (.iconst 0, 1) := by decide +kernel
theorem d_TC_init_92 : decode c_TC_init 92 = .ok (.putfield 60, 3) := by decide +kernel
theorem d_TC_init_95 : decode c_TC_init 95 = .ok (.aload_n 0, 1) := by decide +kernel
theorem d_TC_init_96 : decode c_TC_init 96 = .ok (.iconst 0, 1) := by decide +kernel
theorem d_TC_init_97 : decode c_TC_init 97 = .ok (.putfield 64, 3) := by decide +kernel
theorem d_TC_init_100 : decode c_TC_init 100 = .ok (.aload_n 0, 1) := by decide +kernel
theorem d_TC_init_101 : decode c_TC_init 101 = .ok (.iconst 1, 1) := by decide +kernel
theorem d_TC_init_102 : decode c_TC_init 102 = .ok (.putfield 67, 3) := by decide +kernel
theorem d_TC_init_105 : decode c_TC_init 105 = .ok (.iconst 0, 1) := by decide +kernel
theorem d_TC_init_106 : decode c_TC_init 106 = .ok (.istore_n 1, 1) := by decide +kernel
theorem d_TC_init_107 : decode c_TC_init 107 = .ok (.iload_n 1, 1) := by decide +kernel
theorem d_TC_init_108 : decode c_TC_init 108 = .ok (.aload_n 0, 1) := by decide +kernel
theorem d_TC_init_109 : decode c_TC_init 109 = .ok (.getfield 11, 3) := by decide +kernel
theorem d_TC_init_112 : decode c_TC_init 112 = .ok (.arraylength, 1) := by decide +kernel
theorem d_TC_init_113 : decode c_TC_init 113 = .ok (.if_icmp .ge 22, 3) := by decide +kernel
theorem d_TC_init_116 : decode c_TC_init 116 = .ok (.aload_n 0, 1) := by decide +kernel
theorem d_TC_init_117 : decode c_TC_init 117 = .ok (.getfield 11, 3) := by decide +kernel
theorem d_TC_init_120 : decode c_TC_init 120 = .ok (.iload_n 1, 1) := by decide +kernel
theorem d_TC_init_121 : decode c_TC_init 121 = .ok (.new 9, 3) := by decide +kernel
theorem d_TC_init_124 : decode c_TC_init 124 = .ok (.dup, 1) := by decide +kernel
theorem d_TC_init_125 : decode c_TC_init 125 = .ok (.invokespecial 70, 3) := by decide +kernel
theorem d_TC_init_128 : decode c_TC_init 128 = .ok (.aastore, 1) := by decide +kernel
theorem d_TC_init_129 : decode c_TC_init 129 = .ok (.iinc 1 1, 3) := by decide +kernel
theorem d_TC_init_132 : decode c_TC_init 132 = .ok (.goto (-25), 3) := by decide +kernel
theorem d_TC_init_135 : decode c_TC_init 135 = .ok (.iconst 0, 1) := by decide +kernel
theorem d_TC_init_136 : decode c_TC_init 136 = .ok (.istore_n 1, 1) := by decide +kernel
theorem d_TC_init_137 : decode c_TC_init 137 = .ok (.iload_n 1, 1) := by decide +kernel
theorem d_TC_init_138 : decode c_TC_init 138 = .ok (.bipush 12, 2) := by decide +kernel
theorem d_TC_init_140 : decode c_TC_init 140 = .ok (.if_icmp .ge 22, 3) := by decide +kernel
theorem d_TC_init_143 : decode c_TC_init 143 = .ok (.aload_n 0, 1) := by decide +kernel
theorem d_TC_init_144 : decode c_TC_init 144 = .ok (.getfield 34, 3) := by decide +kernel
theorem d_TC_init_147 : decode c_TC_init 147 = .ok (.iload_n 1, 1) := by decide +kernel
theorem d_TC_init_148 : decode c_TC_init 148 = .ok (.new 32, 3) := by decide +kernel
theorem d_TC_init_151 : decode c_TC_init 151 = .ok (.dup, 1) := by decide +kernel
theorem d_TC_init_152 : decode c_TC_init 152 = .ok (.invokespecial 71, 3) := by decide +kernel
theorem d_TC_init_155 : decode c_TC_init 155 = .ok (.aastore, 1) := by decide +kernel
theorem d_TC_init_156 : decode c_TC_init 156 = .ok (.iinc 1 1, 3) := by decide +kernel
theorem d_TC_init_159 : decode c_TC_init 159 = .ok (.goto (-22), 3) := by decide +kernel
theorem d_TC_init_162 : decode c_TC_init 162 = .ok (.return_, 1) := by decide +kernel
theorem d_TC_rule_0 : decode c_TC_rule 0 = .ok (.iload_n 2, 1) := by decide +kernel
theorem d_TC_rule_1 : decode c_TC_rule 1 = .ok (.invokestatic 72, 3) := by decide +kernel
theorem d_TC_rule_4 : decode c_TC_rule 4 = .ok (.ifCond .eq 10, 3) := by decide +kernel
theorem d_TC_rule_7 : decode c_TC_rule 7 = .ok (.iload_n 3, 1) := by decide +kernel
theorem d_TC_rule_8 : decode c_TC_rule 8 = .ok (.invokestatic 72, 3) := by decide +kernel
theorem d_TC_rule_11 : decode c_TC_rule 11 = .ok (.ifCond .ne 5, 3) := by decide +kernel
theorem d_TC_rule_14 : decode c_TC_rule 14 = .ok (.iconst 0, 1) := by decide +kernel
theorem d_TC_rule_15 : decode c_TC_rule 15 = .ok (.ireturn, 1) := by decide +kernel
theorem d_TC_rule_16 : decode c_TC_rule 16 = .ok (.aload_n 0, 1) := by decide +kernel
theorem d_TC_rule_17 : decode c_TC_rule 17 = .ok (.getfield 18, 3) := by decide +kernel
theorem d_TC_rule_20 : decode c_TC_rule 20 = .ok (.iload_n 1, 1) := by decide +kernel
theorem d_TC_rule_21 : decode c_TC_rule 21 = .ok (.iload_n 2, 1) := by decide +kernel
theorem d_TC_rule_22 : decode c_TC_rule 22 = .ok (.iload_n 3, 1) := by decide +kernel
theorem d_TC_rule_23 : decode c_TC_rule 23 = .ok (.invokevirtual 76, 3) := by decide +kernel
theorem d_TC_rule_26 : decode c_TC_rule 26 = .ok (.ireturn, 1) := by decide +kernel
theorem d_TC_put_0 : decode c_TC_put 0 = .ok (.aload_n 0, 1) := by decide +kernel
theorem d_TC_put_1 : decode c_TC_put 1 = .ok (.iload_n 1, 1) := by decide +kernel
theorem d_TC_put_2 : decode c_TC_put 2 = .ok (.iload_n 2, 1) := by decide +kernel
theorem d_TC_put_3 : decode c_TC_put 3 = .ok (.invokevirtual 80, 3) := by decide +kernel
theorem d_TC_put_6 : decode c_TC_put 6 = .ok (.astore 4, 2) := by decide +kernel
theorem d_TC_put_8 : decode c_TC_put 8 = .ok (.aload 4, 2) := by decide +kernel
theorem d_TC_put_10 : decode c_TC_put 10 = .ok (.ifnull 21, 3) := by decide +kernel
theorem d_TC_put_13 : decode c_TC_put 13 = .ok (.iload_n 3, 1) := by decide +kernel
theorem d_TC_put_14 : decode c_TC_put 14 = .ok (.invokestatic 84, 3) := by decide +kernel
theorem d_TC_put_17 : decode c_TC_put 17 = .ok (.ifCond .eq 14, 3) := by decide +kernel
theorem d_TC_put_20 : decode c_TC_put 20 = .ok (.aload 4, 2) := by decide +kernel
theorem d_TC_put_22 : decode c_TC_put 22 = .ok (.getfield 87, 3) := by decide +kernel
theorem d_TC_put_25 : decode c_TC_put 25 = .ok (.invokevirtual 90, 3) := by decide +kernel
theorem d_TC_put_28 : decode c_TC_put 28 = .ok (.ifCond .eq 5, 3) := by decide +kernel
theorem d_TC_put_31 : decode c_TC_put 31 = .ok (.iconst 0, 1) := by decide +kernel
theorem d_TC_put_32 : decode c_TC_put 32 = .ok (.ireturn, 1) := by decide +kernel
theorem d_TC_put_33 : decode c_TC_put 33 = .ok (.aload 4, 2) := by decide +kernel
theorem d_TC_put_35 : decode c_TC_put 35 = .ok (.iconst 1, 1) := by decide +kernel
theorem d_TC_put_36 : decode c_TC_put 36 = .ok (.putfield 94, 3) := by decide +kernel
theorem d_TC_put_39 : decode c_TC_put 39 = .ok (.aload 4, 2) := by decide +kernel
theorem d_TC_put_41 : decode c_TC_put 41 = .ok (.getfield 87, 3) := by decide +kernel
theorem d_TC_put_44 : decode c_TC_put 44 = .ok (.iload_n 3, 1) := by decide +kernel
theorem d_TC_put_45 : decode c_TC_put 45 = .ok (.invokevirtual 97, 3) := by decide +kernel
theorem d_TC_put_48 : decode c_TC_put 48 = .ok (.aload 4, 2) := by decide +kernel
theorem d_TC_put_50 : decode c_TC_put 50 = .ok (.aload_n 0, 1) := by decide +kernel
theorem d_TC_put_51 : decode c_TC_put 51 = .ok (.invokevirtual 100, 3) := by decide +kernel
theorem d_TC_put_54 : decode c_TC_put 54 = .ok (.putfield 104, 3) := by decide +kernel
theorem d_TC_put_57 : decode c_TC_put 57 = .ok (.iconst 1, 1) := by decide +kernel
theorem d_TC_put_58 : decode c_TC_put 58 = .ok (.ireturn, 1) := by decide +kernel
theorem d_TC_set_0 : decode c_TC_set 0 = .ok (.aload_n 0, 1) := by decide +kernel
theorem d_TC_set_1 : decode c_TC_set 1 = .ok (.iload_n 1, 1) := by decide +kernel
theorem d_TC_set_2 : decode c_TC_set 2 = .ok (.iload_n 2, 1) := by decide +kernel
theorem d_TC_set_3 : decode c_TC_set 3 = .ok (.invokevirtual 107, 3) := by decide +kernel
theorem d_TC_set_6 : decode c_TC_set 6 = .ok (.astore 5, 2) := by decide +kernel
theorem d_TC_set_8 : decode c_TC_set 8 = .ok (.aload 5, 2) := by decide +kernel
theorem d_TC_set_10 : decode c_TC_set 10 = .ok (.ifnull 23, 3) := by decide +kernel
theorem d_TC_set_13 : decode c_TC_set 13 = .ok (.aload 5, 2) := by decide +kernel
theorem d_TC_set_15 : decode c_TC_set 15 = .ok (.getfield 87, 3) := by decide +kernel
theorem d_TC_set_18 : decode c_TC_set 18 = .ok (.iload_n 3, 1) := by decide +kernel
theorem d_TC_set_19 : decode c_TC_set 19 = .ok (.invokevirtual 110, 3) := by decide +kernel
theorem d_TC_set_22 : decode c_TC_set 22 = .ok (.ifCond .eq 11, 3) := by decide +kernel
theorem d_TC_set_25 : decode c_TC_set 25 = .ok (.iload 4, 2) := by decide +kernel
theorem d_TC_set_27 : decode c_TC_set 27 = .ok (.invokestatic 84, 3) := by decide +kernel
theorem d_TC_set_30 : decode c_TC_set 30 = .ok (.ifCond .ne 5, 3) := by decide +kernel
theorem d_TC_set_33 : decode c_TC_set 33 = .ok (.iconst 0, 1) := by decide +kernel
theorem d_TC_set_34 : decode c_TC_set 34 = .ok (.ireturn, 1) := by decide +kernel
theorem d_TC_set_35 : decode c_TC_set 35 = .ok (.aload 5, 2) := by decide +kernel
theorem d_TC_set_37 : decode c_TC_set 37 = .ok (.getfield 87, 3) := by decide +kernel
theorem d_TC_set_40 : decode c_TC_set 40 = .ok (.iload_n 3, 1) := by decide +kernel
theorem d_TC_set_41 : decode c_TC_set 41 = .ok (.iload 4, 2) := by decide +kernel
theorem d_TC_set_43 : decode c_TC_set 43 = .ok (.invokevirtual 113, 3) := by decide +kernel
theorem d_TC_set_46 : decode c_TC_set 46 = .ok (.aload 5, 2) := by decide +kernel
theorem d_TC_set_48 : decode c_TC_set 48 = .ok (.aload_n 0, 1) := by decide +kernel
theorem d_TC_set_49 : decode c_TC_set 49 = .ok (.invokevirtual 100, 3) := by decide +kernel
theorem d_TC_set_52 : decode c_TC_set 52 = .ok (.putfield 104, 3) := by decide +kernel
theorem d_TC_set_55 : decode c_TC_set 55 = .ok (.iconst 1, 1) := by decide +kernel
theorem d_TC_set_56 : decode c_TC_set 56 = .ok (.ireturn, 1) := by decide +kernel
theorem d_TC_remove_0 : decode c_TC_remove 0 = .ok (.aload_n 0, 1) := by decide +kernel
theorem d_TC_remove_1 : decode c_TC_remove 1 = .ok (.iload_n 1, 1) := by decide +kernel
theorem d_TC_remove_2 : decode c_TC_remove 2 = .ok (.iload_n 2, 1) := by decide +kernel
theorem d_TC_remove_3 : decode c_TC_remove 3 = .ok (.invokevirtual 107, 3) := by decide +kernel
theorem d_TC_remove_6 : decode c_TC_remove 6 = .ok (.astore_n 3, 1) := by decide +kernel
theorem d_TC_remove_7 : decode c_TC_remove 7 = .ok (.aload_n 3, 1) := by decide +kernel
theorem d_TC_remove_8 : decode c_TC_remove 8 = .ok (.ifnonnull 5, 3) := by decide +kernel
theorem d_TC_remove_11 : decode c_TC_remove 11 = .ok (.iconst 0, 1) := by decide +kernel
theorem d_TC_remove_12 : decode c_TC_remove 12 = .ok (.ireturn, 1) := by decide +kernel
theorem d_TC_remove_13 : decode c_TC_remove 13 = .ok (.aload_n 3, 1) := by decide +kernel
theorem d_TC_remove_14 : decode c_TC_remove 14 = .ok (.invokevirtual 117, 3) := by decide +kernel
theorem d_TC_remove_17 : decode c_TC_remove 17 = .ok (.aload_n 0, 1) := by decide +kernel
theorem d_TC_remove_18 : decode c_TC_remove 18 = .ok (.invokevirtual 100, 3) := by decide +kernel
theorem d_TC_remove_21 : decode c_TC_remove 21 = .ok (.pop, 1) := by decide +kernel
theorem d_TC_remove_22 : decode c_TC_remove 22 = .ok (.iconst 1, 1) := by decide +kernel
theorem d_TC_remove_23 : decode c_TC_remove 23 = .ok (.ireturn, 1) := by decide +kernel
theorem d_TC_begin_0 : decode c_TC_begin 0 = .ok (.aload_n 0, 1) := by decide +kernel
theorem d_TC_begin_1 : decode c_TC_begin 1 = .ok (.getfield 60, 3) := by decide +kernel
theorem d_TC_begin_4 : decode c_TC_begin 4 = .ok (.ifCond .ne 14, 3) := by decide +kernel
theorem d_TC_begin_7 : decode c_TC_begin 7 = .ok (.iload_n 1, 1) := by decide +kernel
theorem d_TC_begin_8 : decode c_TC_begin 8 = .ok (.iconst 1, 1) := by decide +kernel
theorem d_TC_begin_9 : decode c_TC_begin 9 = .ok (.if_icmp .lt 9, 3) := by decide +kernel
theorem d_TC_begin_12 : decode c_TC_begin 12 = .ok (.iload_n 1, 1) := by decide +kernel
theorem d_TC_begin_13 : decode c_TC_begin 13 = .ok (.bipush 8, 2) := by decide +kernel
theorem d_TC_begin_15 : decode c_TC_begin 15 = .ok (.if_icmp .le 5, 3) := by decide +kernel
theorem d_TC_begin_18 : decode c_TC_begin 18 = .ok (.iconst 0, 1) := by decide +kernel
theorem d_TC_begin_19 : decode c_TC_begin 19 = .ok (.ireturn, 1) := by decide +kernel
theorem d_TC_begin_20 : decode c_TC_begin 20 = .ok (.aload_n 0, 1) := by decide +kernel
theorem d_TC_begin_21 : decode c_TC_begin 21 = .ok (.invokevirtual 120, 3) := by decide +kernel
theorem d_TC_begin_24 : decode c_TC_begin 24 = .ok (.aload_n 0, 1) := by decide +kernel
theorem d_TC_begin_25 : decode c_TC_begin 25 = .ok (.iconst 1, 1) := by decide +kernel
theorem d_TC_begin_26 : decode c_TC_begin 26 = .ok (.putfield 60, 3) := by decide +kernel
theorem d_TC_begin_29 : decode c_TC_begin 29 = .ok (.aload_n 0, 1) := by decide +kernel
theorem d_TC_begin_30 : decode c_TC_begin 30 = .ok (.iload_n 2, 1) := by decide +kernel
theorem d_TC_begin_31 : decode c_TC_begin 31 = .ok (.putfield 64, 3) := by decide +kernel
theorem d_TC_begin_34 : decode c_TC_begin 34 = .ok (.aload_n 0, 1) := by decide +kernel
theorem d_TC_begin_35 : decode c_TC_begin 35 = .ok (.iload_n 1, 1) := by decide +kernel
theorem d_TC_begin_36 : decode c_TC_begin 36 = .ok (.putfield 67, 3) := by decide +kernel
theorem d_TC_begin_39 : decode c_TC_begin 39 = .ok (.aload_n 0, 1) := by decide +kernel
theorem d_TC_begin_40 : decode c_TC_begin 40 = .ok (.invokevirtual 123, 3) := by decide +kernel
theorem d_TC_begin_43 : decode c_TC_begin 43 = .ok (.iconst 1, 1) := by decide +kernel
theorem d_TC_begin_44 : decode c_TC_begin 44 = .ok (.ireturn, 1) := by decide +kernel
theorem d_TC_deliver_0 : decode c_TC_deliver 0 = .ok (.aload_n 0, 1) := by decide +kernel
theorem d_TC_deliver_1 : decode c_TC_deliver 1 = .ok (.iload_n 1, 1) := by decide +kernel
theorem d_TC_deliver_2 : decode c_TC_deliver 2 = .ok (.invokevirtual 126, 3) := by decide +kernel
theorem d_TC_deliver_5 : decode c_TC_deliver 5 = .ok (.astore_n 2, 1) := by decide +kernel
theorem d_TC_deliver_6 : decode c_TC_deliver 6 = .ok (.aload_n 2, 1) := by decide +kernel
theorem d_TC_deliver_7 : decode c_TC_deliver 7 = .ok (.ifnonnull 7, 3) := by decide +kernel
theorem d_TC_deliver_10 : decode c_TC_deliver 10 = .ok (.aconst_null, 1) := by decide +kernel
theorem d_TC_deliver_11 : decode c_TC_deliver 11 = .ok (.goto 7, 3) := by decide +kernel
theorem d_TC_deliver_14 : decode c_TC_deliver 14 = .ok (.aload_n 2, 1) := by decide +kernel
theorem d_TC_deliver_15 : decode c_TC_deliver 15 = .ok (.invokevirtual 130, 3) := by decide +kernel
theorem d_TC_deliver_18 : decode c_TC_deliver 18 = .ok (.astore_n 3, 1) := by decide +kernel
theorem d_TC_deliver_19 : decode c_TC_deliver 19 = .ok (.aload_n 3, 1) := by decide +kernel
theorem d_TC_deliver_20 : decode c_TC_deliver 20 = .ok (.ifnonnull 5, 3) := by decide +kernel
theorem d_TC_deliver_23 : decode c_TC_deliver 23 = .ok (.iconst 0, 1) := by decide +kernel
theorem d_TC_deliver_24 : decode c_TC_deliver 24 = .ok (.ireturn, 1) := by decide +kernel
theorem d_TC_deliver_25 : decode c_TC_deliver 25 = .ok (.aload_n 3, 1) := by decide +kernel
theorem d_TC_deliver_26 : decode c_TC_deliver 26 = .ok (.getfield 134, 3) := by decide +kernel
theorem d_TC_deliver_29 : decode c_TC_deliver 29 = .ok (.istore 4, 2) := by decide +kernel
theorem d_TC_deliver_31 : decode c_TC_deliver 31 = .ok (.aload_n 2, 1) := by decide +kernel
theorem d_TC_deliver_32 : decode c_TC_deliver 32 = .ok (.aload_n 0, 1) := by decide +kernel
theorem d_TC_deliver_33 : decode c_TC_deliver 33 = .ok (.getfield 29, 3) := by decide +kernel
theorem d_TC_deliver_36 : decode c_TC_deliver 36 = .ok (.if_acmp .ne 15, 3) := by decide +kernel
theorem d_TC_deliver_39 : decode c_TC_deliver 39 = .ok (.aload_n 0, 1) := by decide +kernel
theorem d_TC_deliver_40 : decode c_TC_deliver 40 = .ok (.invokevirtual 139, 3) := by decide +kernel
theorem d_TC_deliver_43 : decode c_TC_deliver 43 = .ok (.aload_n 0, 1) := by decide +kernel
theorem d_TC_deliver_44 : decode c_TC_deliver 44 = .ok (.aload_n 3, 1) := by decide +kernel
theorem d_TC_deliver_45 : decode c_TC_deliver 45 = .ok (.invokevirtual 142, 3) := by decide +kernel
theorem d_TC_deliver_48 : decode c_TC_deliver 48 = .ok (.goto 8, 3) := by decide +kernel
theorem d_TC_deliver_51 : decode c_TC_deliver 51 = .ok (.aload_n 0, 1) := by decide +kernel
theorem d_TC_deliver_52 : decode c_TC_deliver 52 = .ok (.aload_n 3, 1) := by decide +kernel
theorem d_TC_deliver_53 : decode c_TC_deliver 53 = .ok (.invokevirtual 146, 3) := by decide +kernel
theorem d_TC_deliver_56 : decode c_TC_deliver 56 = .ok (.iload 4, 2) := by decide +kernel
theorem d_TC_deliver_58 : decode c_TC_deliver 58 = .ok (.ireturn, 1) := by decide +kernel
theorem d_TC_crash_0 : decode c_TC_crash 0 = .ok (.aload_n 0, 1) := by decide +kernel
theorem d_TC_crash_1 : decode c_TC_crash 1 = .ok (.getfield 60, 3) := by decide +kernel
theorem d_TC_crash_4 : decode c_TC_crash 4 = .ok (.ifCond .ne 5, 3) := by decide +kernel
theorem d_TC_crash_7 : decode c_TC_crash 7 = .ok (.iconst 0, 1) := by decide +kernel
theorem d_TC_crash_8 : decode c_TC_crash 8 = .ok (.ireturn, 1) := by decide +kernel
theorem d_TC_crash_9 : decode c_TC_crash 9 = .ok (.aload_n 0, 1) := by decide +kernel
theorem d_TC_crash_10 : decode c_TC_crash 10 = .ok (.invokevirtual 149, 3) := by decide +kernel
theorem d_TC_crash_13 : decode c_TC_crash 13 = .ok (.iconst 1, 1) := by decide +kernel
theorem d_TC_crash_14 : decode c_TC_crash 14 = .ok (.ireturn, 1) := by decide +kernel
theorem d_TC_on_0 : decode c_TC_on 0 = .ok (.aload_n 0, 1) := by decide +kernel
theorem d_TC_on_1 : decode c_TC_on 1 = .ok (.getfield 60, 3) := by decide +kernel
theorem d_TC_on_4 : decode c_TC_on 4 = .ok (.ireturn, 1) := by decide +kernel
theorem d_TC_size_0 : decode c_TC_size 0 = .ok (.aload_n 0, 1) := by decide +kernel
theorem d_TC_size_1 : decode c_TC_size 1 = .ok (.iload_n 1, 1) := by decide +kernel
theorem d_TC_size_2 : decode c_TC_size 2 = .ok (.iload_n 2, 1) := by decide +kernel
theorem d_TC_size_3 : decode c_TC_size 3 = .ok (.invokevirtual 107, 3) := by decide +kernel
theorem d_TC_size_6 : decode c_TC_size 6 = .ok (.astore_n 3, 1) := by decide +kernel
theorem d_TC_size_7 : decode c_TC_size 7 = .ok (.aload_n 3, 1) := by decide +kernel
theorem d_TC_size_8 : decode c_TC_size 8 = .ok (.ifnonnull 7, 3) := by decide +kernel
theorem d_TC_size_11 : decode c_TC_size 11 = .ok (.iconst (-1), 1) := by decide +kernel
theorem d_TC_size_12 : decode c_TC_size 12 = .ok (.goto 10, 3) := by decide +kernel
theorem d_TC_size_15 : decode c_TC_size 15 = .ok (.aload_n 3, 1) := by decide +kernel
theorem d_TC_size_16 : decode c_TC_size 16 = .ok (.getfield 87, 3) := by decide +kernel
theorem d_TC_size_19 : decode c_TC_size 19 = .ok (.getfield 152, 3) := by decide +kernel
theorem d_TC_size_22 : decode c_TC_size 22 = .ok (.ireturn, 1) := by decide +kernel
theorem d_TC_at_0 : decode c_TC_at 0 = .ok (.aload_n 0, 1) := by decide +kernel
theorem d_TC_at_1 : decode c_TC_at 1 = .ok (.iload_n 1, 1) := by decide +kernel
theorem d_TC_at_2 : decode c_TC_at 2 = .ok (.iload_n 2, 1) := by decide +kernel
theorem d_TC_at_3 : decode c_TC_at 3 = .ok (.invokevirtual 107, 3) := by decide +kernel
theorem d_TC_at_6 : decode c_TC_at 6 = .ok (.astore 4, 2) := by decide +kernel
theorem d_TC_at_8 : decode c_TC_at 8 = .ok (.aload 4, 2) := by decide +kernel
theorem d_TC_at_10 : decode c_TC_at 10 = .ok (.ifnonnull 7, 3) := by decide +kernel
theorem d_TC_at_13 : decode c_TC_at 13 = .ok (.iconst (-1), 1) := by decide +kernel
theorem d_TC_at_14 : decode c_TC_at 14 = .ok (.goto 12, 3) := by decide +kernel
theorem d_TC_at_17 : decode c_TC_at 17 = .ok (.aload 4, 2) := by decide +kernel
theorem d_TC_at_19 : decode c_TC_at 19 = .ok (.getfield 87, 3) := by decide +kernel
theorem d_TC_at_22 : decode c_TC_at 22 = .ok (.iload_n 3, 1) := by decide +kernel
theorem d_TC_at_23 : decode c_TC_at 23 = .ok (.invokevirtual 155, 3) := by decide +kernel
theorem d_TC_at_26 : decode c_TC_at 26 = .ok (.ireturn, 1) := by decide +kernel
theorem d_TC_time_0 : decode c_TC_time 0 = .ok (.aload_n 0, 1) := by decide +kernel
theorem d_TC_time_1 : decode c_TC_time 1 = .ok (.iload_n 1, 1) := by decide +kernel
theorem d_TC_time_2 : decode c_TC_time 2 = .ok (.iload_n 2, 1) := by decide +kernel
theorem d_TC_time_3 : decode c_TC_time 3 = .ok (.invokevirtual 107, 3) := by decide +kernel
theorem d_TC_time_6 : decode c_TC_time 6 = .ok (.astore_n 3, 1) := by decide +kernel
theorem d_TC_time_7 : decode c_TC_time 7 = .ok (.aload_n 3, 1) := by decide +kernel
theorem d_TC_time_8 : decode c_TC_time 8 = .ok (.ifnonnull 7, 3) := by decide +kernel
theorem d_TC_time_11 : decode c_TC_time 11 = .ok (.iconst (-1), 1) := by decide +kernel
theorem d_TC_time_12 : decode c_TC_time 12 = .ok (.goto 7, 3) := by decide +kernel
theorem d_TC_time_15 : decode c_TC_time 15 = .ok (.aload_n 3, 1) := by decide +kernel
theorem d_TC_time_16 : decode c_TC_time 16 = .ok (.getfield 104, 3) := by decide +kernel
theorem d_TC_time_19 : decode c_TC_time 19 = .ok (.ireturn, 1) := by decide +kernel
theorem d_TC_selected_0 : decode c_TC_selected 0 = .ok (.iload_n 1, 1) := by decide +kernel
theorem d_TC_selected_1 : decode c_TC_selected 1 = .ok (.invokestatic 159, 3) := by decide +kernel
theorem d_TC_selected_4 : decode c_TC_selected 4 = .ok (.ifCond .eq 18, 3) := by decide +kernel
theorem d_TC_selected_7 : decode c_TC_selected 7 = .ok (.aload_n 0, 1) := by decide +kernel
theorem d_TC_selected_8 : decode c_TC_selected 8 = .ok (.getfield 18, 3) := by decide +kernel
theorem d_TC_selected_11 : decode c_TC_selected 11 = .ok (.iload_n 1, 1) := by decide +kernel
theorem d_TC_selected_12 : decode c_TC_selected 12 = .ok (.invokevirtual 162, 3) := by decide +kernel
theorem d_TC_selected_15 : decode c_TC_selected 15 = .ok (.ifCond .eq 7, 3) := by decide +kernel
theorem d_TC_selected_18 : decode c_TC_selected 18 = .ok (.iconst 1, 1) := by decide +kernel
theorem d_TC_selected_19 : decode c_TC_selected 19 = .ok (.goto 4, 3) := by decide +kernel
theorem d_TC_selected_22 : decode c_TC_selected 22 = .ok (.iconst 0, 1) := by decide +kernel
theorem d_TC_selected_23 : decode c_TC_selected 23 = .ok (.ireturn, 1) := by decide +kernel
theorem d_TC_waiting_0 : decode c_TC_waiting 0 = .ok (.aload_n 0, 1) := by decide +kernel
theorem d_TC_waiting_1 : decode c_TC_waiting 1 = .ok (.iload_n 1, 1) := by decide +kernel
theorem d_TC_waiting_2 : decode c_TC_waiting 2 = .ok (.invokevirtual 126, 3) := by decide +kernel
theorem d_TC_waiting_5 : decode c_TC_waiting 5 = .ok (.astore_n 2, 1) := by decide +kernel
theorem d_TC_waiting_6 : decode c_TC_waiting 6 = .ok (.aload_n 2, 1) := by decide +kernel
theorem d_TC_waiting_7 : decode c_TC_waiting 7 = .ok (.ifnonnull 7, 3) := by decide +kernel
theorem d_TC_waiting_10 : decode c_TC_waiting 10 = .ok (.iconst (-1), 1) := by decide +kernel
theorem d_TC_waiting_11 : decode c_TC_waiting 11 = .ok (.goto 7, 3) := by decide +kernel
theorem d_TC_waiting_14 : decode c_TC_waiting 14 = .ok (.aload_n 2, 1) := by decide +kernel
theorem d_TC_waiting_15 : decode c_TC_waiting 15 = .ok (.getfield 165, 3) := by decide +kernel
theorem d_TC_waiting_18 : decode c_TC_waiting 18 = .ok (.ireturn, 1) := by decide +kernel
theorem d_TC_next_0 : decode c_TC_next 0 = .ok (.aload_n 0, 1) := by decide +kernel
theorem d_TC_next_1 : decode c_TC_next 1 = .ok (.iload_n 1, 1) := by decide +kernel
theorem d_TC_next_2 : decode c_TC_next 2 = .ok (.invokevirtual 126, 3) := by decide +kernel
theorem d_TC_next_5 : decode c_TC_next 5 = .ok (.astore_n 2, 1) := by decide +kernel
theorem d_TC_next_6 : decode c_TC_next 6 = .ok (.aload_n 2, 1) := by decide +kernel
theorem d_TC_next_7 : decode c_TC_next 7 = .ok (.ifnonnull 7, 3) := by decide +kernel
theorem d_TC_next_10 : decode c_TC_next 10 = .ok (.iconst 0, 1) := by decide +kernel
theorem d_TC_next_11 : decode c_TC_next 11 = .ok (.goto 7, 3) := by decide +kernel
theorem d_TC_next_14 : decode c_TC_next 14 = .ok (.aload_n 2, 1) := by decide +kernel
theorem d_TC_next_15 : decode c_TC_next 15 = .ok (.invokevirtual 166, 3) := by decide +kernel
theorem d_TC_next_18 : decode c_TC_next 18 = .ok (.ireturn, 1) := by decide +kernel
theorem d_TC_journal_0 : decode c_TC_journal 0 = .ok (.aload_n 0, 1) := by decide +kernel
theorem d_TC_journal_1 : decode c_TC_journal 1 = .ok (.getfield 41, 3) := by decide +kernel
theorem d_TC_journal_4 : decode c_TC_journal 4 = .ok (.getfield 169, 3) := by decide +kernel
theorem d_TC_journal_7 : decode c_TC_journal 7 = .ok (.ireturn, 1) := by decide +kernel
theorem d_TC_count_0 : decode c_TC_count 0 = .ok (.iload_n 1, 1) := by decide +kernel
theorem d_TC_count_1 : decode c_TC_count 1 = .ok (.ifCond .lt 9, 3) := by decide +kernel
theorem d_TC_count_4 : decode c_TC_count 4 = .ok (.iload_n 1, 1) := by decide +kernel
theorem d_TC_count_5 : decode c_TC_count 5 = .ok (.bipush 8, 2) := by decide +kernel
theorem d_TC_count_7 : decode c_TC_count 7 = .ok (.if_icmp .lt 7, 3) := by decide +kernel
theorem d_TC_count_10 : decode c_TC_count 10 = .ok (.iconst (-1), 1) := by decide +kernel
theorem d_TC_count_11 : decode c_TC_count 11 = .ok (.goto 9, 3) := by decide +kernel
theorem d_TC_count_14 : decode c_TC_count 14 = .ok (.aload_n 0, 1) := by decide +kernel
theorem d_TC_count_15 : decode c_TC_count 15 = .ok (.getfield 52, 3) := by decide +kernel
theorem d_TC_count_18 : decode c_TC_count 18 = .ok (.iload_n 1, 1) := by decide +kernel
theorem d_TC_count_19 : decode c_TC_count 19 = .ok (.iaload, 1) := by decide +kernel
theorem d_TC_count_20 : decode c_TC_count 20 = .ok (.ireturn, 1) := by decide +kernel
theorem d_TC_isName_0 : decode c_TC_isName 0 = .ok (.iload_n 0, 1) := by decide +kernel
theorem d_TC_isName_1 : decode c_TC_isName 1 = .ok (.ifCond .lt 13, 3) := by decide +kernel
theorem d_TC_isName_4 : decode c_TC_isName 4 = .ok (.iload_n 0, 1) := by decide +kernel
theorem d_TC_isName_5 : decode c_TC_isName 5 = .ok (.bipush 12, 2) := by decide +kernel
theorem d_TC_isName_7 : decode c_TC_isName 7 = .ok (.if_icmp .ge 7, 3) := by decide +kernel
theorem d_TC_isName_10 : decode c_TC_isName 10 = .ok (.iconst 1, 1) := by decide +kernel
theorem d_TC_isName_11 : decode c_TC_isName 11 = .ok (.goto 4, 3) := by decide +kernel
theorem d_TC_isName_14 : decode c_TC_isName 14 = .ok (.iconst 0, 1) := by decide +kernel
theorem d_TC_isName_15 : decode c_TC_isName 15 = .ok (.ireturn, 1) := by decide +kernel
theorem d_TC_isByte_0 : decode c_TC_isByte 0 = .ok (.iload_n 0, 1) := by decide +kernel
theorem d_TC_isByte_1 : decode c_TC_isByte 1 = .ok (.ifCond .lt 14, 3) := by decide +kernel
theorem d_TC_isByte_4 : decode c_TC_isByte 4 = .ok (.iload_n 0, 1) := by decide +kernel
theorem d_TC_isByte_5 : decode c_TC_isByte 5 = .ok (.sipush 255, 3) := by decide +kernel
theorem d_TC_isByte_8 : decode c_TC_isByte 8 = .ok (.if_icmp .gt 7, 3) := by decide +kernel
theorem d_TC_isByte_11 : decode c_TC_isByte 11 = .ok (.iconst 1, 1) := by decide +kernel
theorem d_TC_isByte_12 : decode c_TC_isByte 12 = .ok (.goto 4, 3) := by decide +kernel
theorem d_TC_isByte_15 : decode c_TC_isByte 15 = .ok (.iconst 0, 1) := by decide +kernel
theorem d_TC_isByte_16 : decode c_TC_isByte 16 = .ok (.ireturn, 1) := by decide +kernel
theorem d_TC_isMask_0 : decode c_TC_isMask 0 = .ok (.iload_n 0, 1) := by decide +kernel
theorem d_TC_isMask_1 : decode c_TC_isMask 1 = .ok (.ifCond .lt 13, 3) := by decide +kernel
theorem d_TC_isMask_4 : decode c_TC_isMask 4 = .ok (.iload_n 0, 1) := by decide +kernel
theorem d_TC_isMask_5 : decode c_TC_isMask 5 = .ok (.bipush 15, 2) := by decide +kernel
theorem d_TC_isMask_7 : decode c_TC_isMask 7 = .ok (.if_icmp .gt 7, 3) := by decide +kernel
theorem d_TC_isMask_10 : decode c_TC_isMask 10 = .ok (.iconst 1, 1) := by decide +kernel
theorem d_TC_isMask_11 : decode c_TC_isMask 11 = .ok (.goto 4, 3) := by decide +kernel
theorem d_TC_isMask_14 : decode c_TC_isMask 14 = .ok (.iconst 0, 1) := by decide +kernel
theorem d_TC_isMask_15 : decode c_TC_isMask 15 = .ok (.ireturn, 1) := by decide +kernel
theorem d_TC_slotOf_0 : decode c_TC_slotOf 0 = .ok (.iload_n 1, 1) := by decide +kernel
theorem d_TC_slotOf_1 : decode c_TC_slotOf 1 = .ok (.ifCond .lt 15, 3) := by decide +kernel
theorem d_TC_slotOf_4 : decode c_TC_slotOf 4 = .ok (.iload_n 1, 1) := by decide +kernel
theorem d_TC_slotOf_5 : decode c_TC_slotOf 5 = .ok (.iconst 2, 1) := by decide +kernel
theorem d_TC_slotOf_6 : decode c_TC_slotOf 6 = .ok (.if_icmp .ge 10, 3) := by decide +kernel
theorem d_TC_slotOf_9 : decode c_TC_slotOf 9 = .ok (.iload_n 2, 1) := by decide +kernel
theorem d_TC_slotOf_10 : decode c_TC_slotOf 10 = .ok (.invokestatic 159, 3) := by decide +kernel
theorem d_TC_slotOf_13 : decode c_TC_slotOf 13 = .ok (.ifCond .ne 5, 3) := by decide +kernel
theorem d_TC_slotOf_16 : decode c_TC_slotOf 16 = .ok (.aconst_null, 1) := by decide +kernel
theorem d_TC_slotOf_17 : decode c_TC_slotOf 17 = .ok (.areturn, 1) := by decide +kernel
theorem d_TC_slotOf_18 : decode c_TC_slotOf 18 = .ok (.aload_n 0, 1) := by decide +kernel
theorem d_TC_slotOf_19 : decode c_TC_slotOf 19 = .ok (.getfield 11, 3) := by decide +kernel
theorem d_TC_slotOf_22 : decode c_TC_slotOf 22 = .ok (.iload_n 1, 1) := by decide +kernel
theorem d_TC_slotOf_23 : decode c_TC_slotOf 23 = .ok (.bipush 12, 2) := by decide +kernel
theorem d_TC_slotOf_25 : decode c_TC_slotOf 25 = .ok (.imul, 1) := by decide +kernel
theorem d_TC_slotOf_26 : decode c_TC_slotOf 26 = .ok (.iload_n 2, 1) := by decide +kernel
theorem d_TC_slotOf_27 : decode c_TC_slotOf 27 = .ok (.iadd, 1) := by decide +kernel
theorem d_TC_slotOf_28 : decode c_TC_slotOf 28 = .ok (.aaload, 1) := by decide +kernel
theorem d_TC_slotOf_29 : decode c_TC_slotOf 29 = .ok (.areturn, 1) := by decide +kernel
theorem d_TC_fileOf_0 : decode c_TC_fileOf 0 = .ok (.aload_n 0, 1) := by decide +kernel
theorem d_TC_fileOf_1 : decode c_TC_fileOf 1 = .ok (.iload_n 1, 1) := by decide +kernel
theorem d_TC_fileOf_2 : decode c_TC_fileOf 2 = .ok (.iload_n 2, 1) := by decide +kernel
theorem d_TC_fileOf_3 : decode c_TC_fileOf 3 = .ok (.invokevirtual 80, 3) := by decide +kernel
theorem d_TC_fileOf_6 : decode c_TC_fileOf 6 = .ok (.astore_n 3, 1) := by decide +kernel
theorem d_TC_fileOf_7 : decode c_TC_fileOf 7 = .ok (.aload_n 3, 1) := by decide +kernel
theorem d_TC_fileOf_8 : decode c_TC_fileOf 8 = .ok (.ifnull 14, 3) := by decide +kernel
theorem d_TC_fileOf_11 : decode c_TC_fileOf 11 = .ok (.aload_n 3, 1) := by decide +kernel
theorem d_TC_fileOf_12 : decode c_TC_fileOf 12 = .ok (.getfield 94, 3) := by decide +kernel
theorem d_TC_fileOf_15 : decode c_TC_fileOf 15 = .ok (.ifCond .eq 7, 3) := by decide +kernel
theorem d_TC_fileOf_18 : decode c_TC_fileOf 18 = .ok (.aload_n 3, 1) := by decide +kernel
theorem d_TC_fileOf_19 : decode c_TC_fileOf 19 = .ok (.goto 4, 3) := by decide +kernel
theorem d_TC_fileOf_22 : decode c_TC_fileOf 22 = .ok (.aconst_null, 1) := by decide +kernel
theorem d_TC_fileOf_23 : decode c_TC_fileOf 23 = .ok (.areturn, 1) := by decide +kernel
theorem d_TC_lineOf_0 : decode c_TC_lineOf 0 = .ok (.iload_n 1, 1) := by decide +kernel
theorem d_TC_lineOf_1 : decode c_TC_lineOf 1 = .ok (.ifCond .ne 8, 3) := by decide +kernel
theorem d_TC_lineOf_4 : decode c_TC_lineOf 4 = .ok (.aload_n 0, 1) := by decide +kernel
theorem d_TC_lineOf_5 : decode c_TC_lineOf 5 = .ok (.getfield 25, 3) := by decide +kernel
theorem d_TC_lineOf_8 : decode c_TC_lineOf 8 = .ok (.areturn, 1) := by decide +kernel
theorem d_TC_lineOf_9 : decode c_TC_lineOf 9 = .ok (.iload_n 1, 1) := by decide +kernel
theorem d_TC_lineOf_10 : decode c_TC_lineOf 10 = .ok (.iconst 1, 1) := by decide +kernel
theorem d_TC_lineOf_11 : decode c_TC_lineOf 11 = .ok (.if_icmp .ne 10, 3) := by decide +kernel
theorem d_TC_lineOf_14 : decode c_TC_lineOf 14 = .ok (.aload_n 0, 1) := by decide +kernel
theorem d_TC_lineOf_15 : decode c_TC_lineOf 15 = .ok (.getfield 29, 3) := by decide +kernel
theorem d_TC_lineOf_18 : decode c_TC_lineOf 18 = .ok (.goto 4, 3) := by decide +kernel
theorem d_TC_lineOf_21 : decode c_TC_lineOf 21 = .ok (.aconst_null, 1) := by decide +kernel
theorem d_TC_lineOf_22 : decode c_TC_lineOf 22 = .ok (.areturn, 1) := by decide +kernel
theorem d_TC_entryOf_0 : decode c_TC_entryOf 0 = .ok (.iload_n 1, 1) := by decide +kernel
theorem d_TC_entryOf_1 : decode c_TC_entryOf 1 = .ok (.invokestatic 159, 3) := by decide +kernel
theorem d_TC_entryOf_4 : decode c_TC_entryOf 4 = .ok (.ifCond .eq 12, 3) := by decide +kernel
theorem d_TC_entryOf_7 : decode c_TC_entryOf 7 = .ok (.aload_n 0, 1) := by decide +kernel
theorem d_TC_entryOf_8 : decode c_TC_entryOf 8 = .ok (.getfield 34, 3) := by decide +kernel
theorem d_TC_entryOf_11 : decode c_TC_entryOf 11 = .ok (.iload_n 1, 1) := by decide +kernel
theorem d_TC_entryOf_12 : decode c_TC_entryOf 12 = .ok (.aaload, 1) := by decide +kernel
theorem d_TC_entryOf_13 : decode c_TC_entryOf 13 = .ok (.goto 4, 3) := by decide +kernel
theorem d_TC_entryOf_16 : decode c_TC_entryOf 16 = .ok (.aconst_null, 1) := by decide +kernel
theorem d_TC_entryOf_17 : decode c_TC_entryOf 17 = .ok (.areturn, 1) := by decide +kernel
theorem d_TC_tick_0 : decode c_TC_tick 0 = .ok (.aload_n 0, 1) := by decide +kernel
theorem d_TC_tick_1 : decode c_TC_tick 1 = .ok (.dup, 1) := by decide +kernel
theorem d_TC_tick_2 : decode c_TC_tick 2 = .ok (.getfield 56, 3) := by decide +kernel
theorem d_TC_tick_5 : decode c_TC_tick 5 = .ok (.iconst 1, 1) := by decide +kernel
theorem d_TC_tick_6 : decode c_TC_tick 6 = .ok (.iadd, 1) := by decide +kernel
theorem d_TC_tick_7 : decode c_TC_tick 7 = .ok (.putfield 56, 3) := by decide +kernel
theorem d_TC_tick_10 : decode c_TC_tick 10 = .ok (.aload_n 0, 1) := by decide +kernel
theorem d_TC_tick_11 : decode c_TC_tick 11 = .ok (.getfield 56, 3) := by decide +kernel
theorem d_TC_tick_14 : decode c_TC_tick 14 = .ok (.ireturn, 1) := by decide +kernel
theorem d_TC_sendEntries_0 : decode c_TC_sendEntries 0 = .ok (.iconst 0, 1) := by decide +kernel
theorem d_TC_sendEntries_1 : decode c_TC_sendEntries 1 = .ok (.istore_n 1, 1) := by decide +kernel
theorem d_TC_sendEntries_2 : decode c_TC_sendEntries 2 = .ok (.iload_n 1, 1) := by decide +kernel
theorem d_TC_sendEntries_3 : decode c_TC_sendEntries 3 = .ok (.bipush 12, 2) := by decide +kernel
theorem d_TC_sendEntries_5 : decode c_TC_sendEntries 5 = .ok (.if_icmp .ge 60, 3) := by decide +kernel
theorem d_TC_sendEntries_8 : decode c_TC_sendEntries 8 = .ok (.aload_n 0, 1) := by decide +kernel
theorem d_TC_sendEntries_9 : decode c_TC_sendEntries 9 = .ok (.iconst 0, 1) := by decide +kernel
theorem d_TC_sendEntries_10 : decode c_TC_sendEntries 10 = .ok (.iload_n 1, 1) := by decide +kernel
theorem d_TC_sendEntries_11 : decode c_TC_sendEntries 11 = .ok (.invokevirtual 107, 3) := by decide +kernel
theorem d_TC_sendEntries_14 : decode c_TC_sendEntries 14 = .ok (.astore_n 2, 1) := by decide +kernel
theorem d_TC_sendEntries_15 : decode c_TC_sendEntries 15 = .ok (.aload_n 2, 1) := by decide +kernel
theorem d_TC_sendEntries_16 : decode c_TC_sendEntries 16 = .ok (.ifnull 43, 3) := by decide +kernel
theorem d_TC_sendEntries_19 : decode c_TC_sendEntries 19 = .ok (.aload_n 0, 1) := by decide +kernel
theorem d_TC_sendEntries_20 : decode c_TC_sendEntries 20 = .ok (.getfield 18, 3) := by decide +kernel
theorem d_TC_sendEntries_23 : decode c_TC_sendEntries 23 = .ok (.iload_n 1, 1) := by decide +kernel
theorem d_TC_sendEntries_24 : decode c_TC_sendEntries 24 = .ok (.invokevirtual 162, 3) := by decide +kernel
theorem d_TC_sendEntries_27 : decode c_TC_sendEntries 27 = .ok (.ifCond .eq 32, 3) := by decide +kernel
theorem d_TC_sendEntries_30 : decode c_TC_sendEntries 30 = .ok (.aload_n 0, 1) := by decide +kernel
theorem d_TC_sendEntries_31 : decode c_TC_sendEntries 31 = .ok (.getfield 29, 3) := by decide +kernel
theorem d_TC_sendEntries_34 : decode c_TC_sendEntries 34 = .ok (.iconst 1, 1) := by decide +kernel
theorem d_TC_sendEntries_35 : decode c_TC_sendEntries 35 = .ok (.iload_n 1, 1) := by decide +kernel
theorem d_TC_sendEntries_36 : decode c_TC_sendEntries 36 = .ok (.invokevirtual 170, 3) := by decide +kernel
theorem d_TC_sendEntries_39 : decode c_TC_sendEntries 39 = .ok (.astore_n 3, 1) := by decide +kernel
theorem d_TC_sendEntries_40 : decode c_TC_sendEntries 40 = .ok (.aload_n 3, 1) := by decide +kernel
theorem d_TC_sendEntries_41 : decode c_TC_sendEntries 41 = .ok (.aload_n 2, 1) := by decide +kernel
theorem d_TC_sendEntries_42 : decode c_TC_sendEntries 42 = .ok (.getfield 87, 3) := by decide +kernel
theorem d_TC_sendEntries_45 : decode c_TC_sendEntries 45 = .ok (.getfield 152, 3) := by decide +kernel
theorem d_TC_sendEntries_48 : decode c_TC_sendEntries 48 = .ok (.putfield 173, 3) := by decide +kernel
theorem d_TC_sendEntries_51 : decode c_TC_sendEntries 51 = .ok (.aload_n 3, 1) := by decide +kernel
theorem d_TC_sendEntries_52 : decode c_TC_sendEntries 52 = .ok (.aload_n 2, 1) := by decide +kernel
theorem d_TC_sendEntries_53 : decode c_TC_sendEntries 53 = .ok (.getfield 104, 3) := by decide +kernel
theorem d_TC_sendEntries_56 : decode c_TC_sendEntries 56 = .ok (.putfield 176, 3) := by decide +kernel
theorem d_TC_sendEntries_59 : decode c_TC_sendEntries 59 = .ok (.iinc 1 1, 3) := by decide +kernel
theorem d_TC_sendEntries_62 : decode c_TC_sendEntries 62 = .ok (.goto (-60), 3) := by decide +kernel
theorem d_TC_sendEntries_65 : decode c_TC_sendEntries 65 = .ok (.aload_n 0, 1) := by decide +kernel
theorem d_TC_sendEntries_66 : decode c_TC_sendEntries 66 = .ok (.getfield 29, 3) := by decide +kernel
theorem d_TC_sendEntries_69 : decode c_TC_sendEntries 69 = .ok (.iconst 2, 1) := by decide +kernel
theorem d_TC_sendEntries_70 : decode c_TC_sendEntries 70 = .ok (.iconst 0, 1) := by decide +kernel
theorem d_TC_sendEntries_71 : decode c_TC_sendEntries 71 = .ok (.invokevirtual 170, 3) := by decide +kernel
theorem d_TC_sendEntries_74 : decode c_TC_sendEntries 74 = .ok (.pop, 1) := by decide +kernel
theorem d_TC_sendEntries_75 : decode c_TC_sendEntries 75 = .ok (.return_, 1) := by decide +kernel
theorem d_TC_receive_0 : decode c_TC_receive 0 = .ok (.aload_n 1, 1) := by decide +kernel
theorem d_TC_receive_1 : decode c_TC_receive 1 = .ok (.getfield 134, 3) := by decide +kernel
theorem d_TC_receive_4 : decode c_TC_receive 4 = .ok (.tableswitch 70 1 5 #[36, 44, 70, 51, 59], 36) := by decide +kernel
theorem d_TC_receive_40 : decode c_TC_receive 40 = .ok (.aload_n 0, 1) := by decide +kernel
theorem d_TC_receive_41 : decode c_TC_receive 41 = .ok (.aload_n 1, 1) := by decide +kernel
theorem d_TC_receive_42 : decode c_TC_receive 42 = .ok (.invokevirtual 179, 3) := by decide +kernel
theorem d_TC_receive_45 : decode c_TC_receive 45 = .ok (.goto 29, 3) := by decide +kernel
theorem d_TC_receive_48 : decode c_TC_receive 48 = .ok (.aload_n 0, 1) := by decide +kernel
theorem d_TC_receive_49 : decode c_TC_receive 49 = .ok (.invokevirtual 182, 3) := by decide +kernel
theorem d_TC_receive_52 : decode c_TC_receive 52 = .ok (.goto 22, 3) := by decide +kernel
theorem d_TC_receive_55 : decode c_TC_receive 55 = .ok (.aload_n 0, 1) := by decide +kernel
theorem d_TC_receive_56 : decode c_TC_receive 56 = .ok (.aload_n 1, 1) := by decide +kernel
theorem d_TC_receive_57 : decode c_TC_receive 57 = .ok (.invokevirtual 185, 3) := by decide +kernel
theorem d_TC_receive_60 : decode c_TC_receive 60 = .ok (.goto 14, 3) := by decide +kernel
theorem d_TC_receive_63 : decode c_TC_receive 63 = .ok (.aload_n 0, 1) := by decide +kernel
theorem d_TC_receive_64 : decode c_TC_receive 64 = .ok (.aload_n 1, 1) := by decide +kernel
theorem d_TC_receive_65 : decode c_TC_receive 65 = .ok (.getfield 188, 3) := by decide +kernel
theorem d_TC_receive_68 : decode c_TC_receive 68 = .ok (.invokevirtual 191, 3) := by decide +kernel
theorem d_TC_receive_71 : decode c_TC_receive 71 = .ok (.goto 3, 3) := by decide +kernel
theorem d_TC_receive_74 : decode c_TC_receive 74 = .ok (.aload_n 1, 1) := by decide +kernel
theorem d_TC_receive_75 : decode c_TC_receive 75 = .ok (.getfield 134, 3) := by decide +kernel
theorem d_TC_receive_78 : decode c_TC_receive 78 = .ok (.iconst 1, 1) := by decide +kernel
theorem d_TC_receive_79 : decode c_TC_receive 79 = .ok (.if_icmp .eq 14, 3) := by decide +kernel
theorem d_TC_receive_82 : decode c_TC_receive 82 = .ok (.aload_n 0, 1) := by decide +kernel
theorem d_TC_receive_83 : decode c_TC_receive 83 = .ok (.invokevirtual 194, 3) := by decide +kernel
theorem d_TC_receive_86 : decode c_TC_receive 86 = .ok (.ifCond .ne 7, 3) := by decide +kernel
theorem d_TC_receive_89 : decode c_TC_receive 89 = .ok (.aload_n 0, 1) := by decide +kernel
theorem d_TC_receive_90 : decode c_TC_receive 90 = .ok (.invokevirtual 197, 3) := by decide +kernel
theorem d_TC_receive_93 : decode c_TC_receive 93 = .ok (.return_, 1) := by decide +kernel
theorem d_TC_noteEntry_0 : decode c_TC_noteEntry 0 = .ok (.aload_n 0, 1) := by decide +kernel
theorem d_TC_noteEntry_1 : decode c_TC_noteEntry 1 = .ok (.aload_n 1, 1) := by decide +kernel
theorem d_TC_noteEntry_2 : decode c_TC_noteEntry 2 = .ok (.getfield 188, 3) := by decide +kernel
theorem d_TC_noteEntry_5 : decode c_TC_noteEntry 5 = .ok (.invokevirtual 200, 3) := by decide +kernel
theorem d_TC_noteEntry_8 : decode c_TC_noteEntry 8 = .ok (.astore_n 2, 1) := by decide +kernel
theorem d_TC_noteEntry_9 : decode c_TC_noteEntry 9 = .ok (.aload_n 2, 1) := by decide +kernel
theorem d_TC_noteEntry_10 : decode c_TC_noteEntry 10 = .ok (.ifnull 24, 3) := by decide +kernel
theorem d_TC_noteEntry_13 : decode c_TC_noteEntry 13 = .ok (.aload_n 2, 1) := by decide +kernel
theorem d_TC_noteEntry_14 : decode c_TC_noteEntry 14 = .ok (.iconst 1, 1) := by decide +kernel
theorem d_TC_noteEntry_15 : decode c_TC_noteEntry 15 = .ok (.putfield 204, 3) := by decide +kernel
theorem d_TC_noteEntry_18 : decode c_TC_noteEntry 18 = .ok (.aload_n 2, 1) := by decide +kernel
theorem d_TC_noteEntry_19 : decode c_TC_noteEntry 19 = .ok (.aload_n 1, 1) := by decide +kernel
theorem d_TC_noteEntry_20 : decode c_TC_noteEntry 20 = .ok (.getfield 173, 3) := by decide +kernel
theorem d_TC_noteEntry_23 : decode c_TC_noteEntry 23 = .ok (.putfield 207, 3) := by decide +kernel
theorem d_TC_noteEntry_26 : decode c_TC_noteEntry 26 = .ok (.aload_n 2, 1) := by decide +kernel
theorem d_TC_noteEntry_27 : decode c_TC_noteEntry 27 = .ok (.aload_n 1, 1) := by decide +kernel
theorem d_TC_noteEntry_28 : decode c_TC_noteEntry 28 = .ok (.getfield 176, 3) := by decide +kernel
theorem d_TC_noteEntry_31 : decode c_TC_noteEntry 31 = .ok (.putfield 208, 3) := by decide +kernel
theorem d_TC_noteEntry_34 : decode c_TC_noteEntry 34 = .ok (.return_, 1) := by decide +kernel
theorem d_TC_openEntries_0 : decode c_TC_openEntries 0 = .ok (.iconst 0, 1) := by decide +kernel
theorem d_TC_openEntries_1 : decode c_TC_openEntries 1 = .ok (.istore_n 1, 1) := by decide +kernel
theorem d_TC_openEntries_2 : decode c_TC_openEntries 2 = .ok (.iload_n 1, 1) := by decide +kernel
theorem d_TC_openEntries_3 : decode c_TC_openEntries 3 = .ok (.bipush 12, 2) := by decide +kernel
theorem d_TC_openEntries_5 : decode c_TC_openEntries 5 = .ok (.if_icmp .ge 63, 3) := by decide +kernel
theorem d_TC_openEntries_8 : decode c_TC_openEntries 8 = .ok (.aload_n 0, 1) := by decide +kernel
theorem d_TC_openEntries_9 : decode c_TC_openEntries 9 = .ok (.getfield 34, 3) := by decide +kernel
theorem d_TC_openEntries_12 : decode c_TC_openEntries 12 = .ok (.iload_n 1, 1) := by decide +kernel
theorem d_TC_openEntries_13 : decode c_TC_openEntries 13 = .ok (.aaload, 1) := by decide +kernel
theorem d_TC_openEntries_14 : decode c_TC_openEntries 14 = .ok (.astore_n 2, 1) := by decide +kernel
theorem d_TC_openEntries_15 : decode c_TC_openEntries 15 = .ok (.aload_n 2, 1) := by decide +kernel
theorem d_TC_openEntries_16 : decode c_TC_openEntries 16 = .ok (.getfield 204, 3) := by decide +kernel
theorem d_TC_openEntries_19 : decode c_TC_openEntries 19 = .ok (.ifCond .ne 6, 3) := by decide +kernel
theorem d_TC_openEntries_22 : decode c_TC_openEntries 22 = .ok (.goto 40, 3) := by decide +kernel
theorem d_TC_openEntries_25 : decode c_TC_openEntries 25 = .ok (.aload_n 2, 1) := by decide +kernel
theorem d_TC_openEntries_26 : decode c_TC_openEntries 26 = .ok (.aload_n 0, 1) := by decide +kernel
theorem d_TC_openEntries_27 : decode c_TC_openEntries 27 = .ok (.iconst 1, 1) := by decide +kernel
theorem d_TC_openEntries_28 : decode c_TC_openEntries 28 = .ok (.iload_n 1, 1) := by decide +kernel
theorem d_TC_openEntries_29 : decode c_TC_openEntries 29 = .ok (.invokevirtual 107, 3) := by decide +kernel
theorem d_TC_openEntries_32 : decode c_TC_openEntries 32 = .ok (.invokevirtual 209, 3) := by decide +kernel
theorem d_TC_openEntries_35 : decode c_TC_openEntries 35 = .ok (.ifCond .eq 16, 3) := by decide +kernel
theorem d_TC_openEntries_38 : decode c_TC_openEntries 38 = .ok (.aload_n 0, 1) := by decide +kernel
theorem d_TC_openEntries_39 : decode c_TC_openEntries 39 = .ok (.getfield 52, 3) := by decide +kernel
theorem d_TC_openEntries_42 : decode c_TC_openEntries 42 = .ok (.iconst 5, 1) := by decide +kernel
theorem d_TC_openEntries_43 : decode c_TC_openEntries 43 = .ok (.dup2, 1) := by decide +kernel
theorem d_TC_openEntries_44 : decode c_TC_openEntries 44 = .ok (.iaload, 1) := by decide +kernel
theorem d_TC_openEntries_45 : decode c_TC_openEntries 45 = .ok (.iconst 1, 1) := by decide +kernel
theorem d_TC_openEntries_46 : decode c_TC_openEntries 46 = .ok (.iadd, 1) := by decide +kernel
theorem d_TC_openEntries_47 : decode c_TC_openEntries 47 = .ok (.iastore, 1) := by decide +kernel
theorem d_TC_openEntries_48 : decode c_TC_openEntries 48 = .ok (.goto 14, 3) := by decide +kernel
theorem d_TC_openEntries_51 : decode c_TC_openEntries 51 = .ok (.aload_n 2, 1) := by decide +kernel
theorem d_TC_openEntries_52 : decode c_TC_openEntries 52 = .ok (.iconst 1, 1) := by decide +kernel
theorem d_TC_openEntries_53 : decode c_TC_openEntries 53 = .ok (.putfield 213, 3) := by decide +kernel
theorem d_TC_openEntries_56 : decode c_TC_openEntries 56 = .ok (.aload_n 0, 1) := by decide +kernel
theorem d_TC_openEntries_57 : decode c_TC_openEntries 57 = .ok (.iload_n 1, 1) := by decide +kernel
theorem d_TC_openEntries_58 : decode c_TC_openEntries 58 = .ok (.iconst 1, 1) := by decide +kernel
theorem d_TC_openEntries_59 : decode c_TC_openEntries 59 = .ok (.invokevirtual 216, 3) := by decide +kernel
theorem d_TC_openEntries_62 : decode c_TC_openEntries 62 = .ok (.iinc 1 1, 3) := by decide +kernel
theorem d_TC_openEntries_65 : decode c_TC_openEntries 65 = .ok (.goto (-63), 3) := by decide +kernel
theorem d_TC_openEntries_68 : decode c_TC_openEntries 68 = .ok (.return_, 1) := by decide +kernel
theorem d_TC_hasOpenEntry_0 : decode c_TC_hasOpenEntry 0 = .ok (.iconst 0, 1) := by decide +kernel
theorem d_TC_hasOpenEntry_1 : decode c_TC_hasOpenEntry 1 = .ok (.istore_n 1, 1) := by decide +kernel
theorem d_TC_hasOpenEntry_2 : decode c_TC_hasOpenEntry 2 = .ok (.iload_n 1, 1) := by decide +kernel
theorem d_TC_hasOpenEntry_3 : decode c_TC_hasOpenEntry 3 = .ok (.bipush 12, 2) := by decide +kernel
theorem d_TC_hasOpenEntry_5 : decode c_TC_hasOpenEntry 5 = .ok (.if_icmp .ge 23, 3) := by decide +kernel
theorem d_TC_hasOpenEntry_8 : decode c_TC_hasOpenEntry 8 = .ok (.aload_n 0, 1) := by decide +kernel
theorem d_TC_hasOpenEntry_9 : decode c_TC_hasOpenEntry 9 = .ok (.getfield 34, 3) := by decide +kernel
theorem d_TC_hasOpenEntry_12 : decode c_TC_hasOpenEntry 12 = .ok (.iload_n 1, 1) := by decide +kernel
theorem d_TC_hasOpenEntry_13 : decode c_TC_hasOpenEntry 13 = .ok (.aaload, 1) := by decide +kernel
theorem d_TC_hasOpenEntry_14 : decode c_TC_hasOpenEntry 14 = .ok (.getfield 213, 3) := by decide +kernel
theorem d_TC_hasOpenEntry_17 : decode c_TC_hasOpenEntry 17 = .ok (.ifCond .eq 5, 3) := by decide +kernel
theorem d_TC_hasOpenEntry_20 : decode c_TC_hasOpenEntry 20 = .ok (.iconst 1, 1) := by decide +kernel
theorem d_TC_hasOpenEntry_21 : decode c_TC_hasOpenEntry 21 = .ok (.ireturn, 1) := by decide +kernel
theorem d_TC_hasOpenEntry_22 : decode c_TC_hasOpenEntry 22 = .ok (.iinc 1 1, 3) := by decide +kernel
theorem d_TC_hasOpenEntry_25 : decode c_TC_hasOpenEntry 25 = .ok (.goto (-23), 3) := by decide +kernel
theorem d_TC_hasOpenEntry_28 : decode c_TC_hasOpenEntry 28 = .ok (.iconst 0, 1) := by decide +kernel
theorem d_TC_hasOpenEntry_29 : decode c_TC_hasOpenEntry 29 = .ok (.ireturn, 1) := by decide +kernel
theorem d_TC_sendSignature_0 : decode c_TC_sendSignature 0 = .ok (.aload_n 0, 1) := by decide +kernel
theorem d_TC_sendSignature_1 : decode c_TC_sendSignature 1 = .ok (.iconst 1, 1) := by decide +kernel
theorem d_TC_sendSignature_2 : decode c_TC_sendSignature 2 = .ok (.iload_n 1, 1) := by decide +kernel
theorem d_TC_sendSignature_3 : decode c_TC_sendSignature 3 = .ok (.invokevirtual 80, 3) := by decide +kernel
theorem d_TC_sendSignature_6 : decode c_TC_sendSignature 6 = .ok (.astore_n 3, 1) := by decide +kernel
theorem d_TC_sendSignature_7 : decode c_TC_sendSignature 7 = .ok (.aload_n 3, 1) := by decide +kernel
theorem d_TC_sendSignature_8 : decode c_TC_sendSignature 8 = .ok (.ifnonnull 4, 3) := by decide +kernel
theorem d_TC_sendSignature_11 : decode c_TC_sendSignature 11 = .ok (.return_, 1) := by decide +kernel
theorem d_TC_sendSignature_12 : decode c_TC_sendSignature 12 = .ok (.aload_n 0, 1) := by decide +kernel
theorem d_TC_sendSignature_13 : decode c_TC_sendSignature 13 = .ok (.getfield 25, 3) := by decide +kernel
theorem d_TC_sendSignature_16 : decode c_TC_sendSignature 16 = .ok (.iconst 3, 1) := by decide +kernel
theorem d_TC_sendSignature_17 : decode c_TC_sendSignature 17 = .ok (.iload_n 1, 1) := by decide +kernel
theorem d_TC_sendSignature_18 : decode c_TC_sendSignature 18 = .ok (.invokevirtual 170, 3) := by decide +kernel
theorem d_TC_sendSignature_21 : decode c_TC_sendSignature 21 = .ok (.astore 4, 2) := by decide +kernel
theorem d_TC_sendSignature_23 : decode c_TC_sendSignature 23 = .ok (.aload 4, 2) := by decide +kernel
theorem d_TC_sendSignature_25 : decode c_TC_sendSignature 25 = .ok (.iload_n 2, 1) := by decide +kernel
theorem d_TC_sendSignature_26 : decode c_TC_sendSignature 26 = .ok (.putfield 219, 3) := by decide +kernel
theorem d_TC_sendSignature_29 : decode c_TC_sendSignature 29 = .ok (.aload_n 0, 1) := by decide +kernel
theorem d_TC_sendSignature_30 : decode c_TC_sendSignature 30 = .ok (.getfield 67, 3) := by decide +kernel
theorem d_TC_sendSignature_33 : decode c_TC_sendSignature 33 = .ok (.iconst 1, 1) := by decide +kernel
theorem d_TC_sendSignature_34 : decode c_TC_sendSignature 34 = .ok (.if_icmp .ge 7, 3) := by decide +kernel
theorem d_TC_sendSignature_37 : decode c_TC_sendSignature 37 = .ok (.iconst 0, 1) := by decide +kernel
theorem d_TC_sendSignature_38 : decode c_TC_sendSignature 38 = .ok (.goto 15, 3) := by decide +kernel
theorem d_TC_sendSignature_41 : decode c_TC_sendSignature 41 = .ok (.aload_n 3, 1) := by decide +kernel
theorem d_TC_sendSignature_42 : decode c_TC_sendSignature 42 = .ok (.getfield 87, 3) := by decide +kernel
theorem d_TC_sendSignature_45 : decode c_TC_sendSignature 45 = .ok (.getfield 152, 3) := by decide +kernel
theorem d_TC_sendSignature_48 : decode c_TC_sendSignature 48 = .ok (.aload_n 0, 1) := by decide +kernel
theorem d_TC_sendSignature_49 : decode c_TC_sendSignature 49 = .ok (.getfield 67, 3) := by decide +kernel
theorem d_TC_sendSignature_52 : decode c_TC_sendSignature 52 = .ok (.idiv, 1) := by decide +kernel
theorem d_TC_sendSignature_53 : decode c_TC_sendSignature 53 = .ok (.istore 5, 2) := by decide +kernel
theorem d_TC_sendSignature_55 : decode c_TC_sendSignature 55 = .ok (.iconst 0, 1) := by decide +kernel
theorem d_TC_sendSignature_56 : decode c_TC_sendSignature 56 = .ok (.istore 6, 2) := by decide +kernel
theorem d_TC_sendSignature_58 : decode c_TC_sendSignature 58 = .ok (.iload 6, 2) := by decide +kernel
theorem d_TC_sendSignature_60 : decode c_TC_sendSignature 60 = .ok (.iload 5, 2) := by decide +kernel
theorem d_TC_sendSignature_62 : decode c_TC_sendSignature 62 = .ok (.if_icmp .ge 33, 3) := by decide +kernel
theorem d_TC_sendSignature_65 : decode c_TC_sendSignature 65 = .ok (.aload 4, 2) := by decide +kernel
theorem d_TC_sendSignature_67 : decode c_TC_sendSignature 67 = .ok (.aload_n 3, 1) := by decide +kernel
theorem d_TC_sendSignature_68 : decode c_TC_sendSignature 68 = .ok (.getfield 87, 3) := by decide +kernel
theorem d_TC_sendSignature_71 : decode c_TC_sendSignature 71 = .ok (.iload 6, 2) := by decide +kernel
theorem d_TC_sendSignature_73 : decode c_TC_sendSignature 73 = .ok (.aload_n 0, 1) := by decide +kernel
theorem d_TC_sendSignature_74 : decode c_TC_sendSignature 74 = .ok (.getfield 67, 3) := by decide +kernel
theorem d_TC_sendSignature_77 : decode c_TC_sendSignature 77 = .ok (.imul, 1) := by decide +kernel
theorem d_TC_sendSignature_78 : decode c_TC_sendSignature 78 = .ok (.aload_n 0, 1) := by decide +kernel
theorem d_TC_sendSignature_79 : decode c_TC_sendSignature 79 = .ok (.getfield 67, 3) := by decide +kernel
theorem d_TC_sendSignature_82 : decode c_TC_sendSignature 82 = .ok (.iload_n 2, 1) := by decide +kernel
theorem d_TC_sendSignature_83 : decode c_TC_sendSignature 83 = .ok (.invokevirtual 222, 3) := by decide +kernel
theorem d_TC_sendSignature_86 : decode c_TC_sendSignature 86 = .ok (.invokevirtual 226, 3) := by decide +kernel
theorem d_TC_sendSignature_89 : decode c_TC_sendSignature 89 = .ok (.iinc 6 1, 3) := by decide +kernel
theorem d_TC_sendSignature_92 : decode c_TC_sendSignature 92 = .ok (.goto (-34), 3) := by decide +kernel
theorem d_TC_sendSignature_95 : decode c_TC_sendSignature 95 = .ok (.return_, 1) := by decide +kernel
theorem d_TC_answerSignature_0 : decode c_TC_answerSignature 0 = .ok (.aload_n 0, 1) := by decide +kernel
theorem d_TC_answerSignature_1 : decode c_TC_answerSignature 1 = .ok (.iconst 0, 1) := by decide +kernel
theorem d_TC_answerSignature_2 : decode c_TC_answerSignature 2 = .ok (.aload_n 1, 1) := by decide +kernel
theorem d_TC_answerSignature_3 : decode c_TC_answerSignature 3 = .ok (.getfield 188, 3) := by decide +kernel
theorem d_TC_answerSignature_6 : decode c_TC_answerSignature 6 = .ok (.invokevirtual 107, 3) := by decide +kernel
theorem d_TC_answerSignature_9 : decode c_TC_answerSignature 9 = .ok (.astore_n 2, 1) := by decide +kernel
theorem d_TC_answerSignature_10 : decode c_TC_answerSignature 10 = .ok (.aload_n 2, 1) := by decide +kernel
theorem d_TC_answerSignature_11 : decode c_TC_answerSignature 11 = .ok (.ifnonnull 17, 3) := by decide +kernel
theorem d_TC_answerSignature_14 : decode c_TC_answerSignature 14 = .ok (.aload_n 0, 1) := by decide +kernel
theorem d_TC_answerSignature_15 : decode c_TC_answerSignature 15 = .ok (.getfield 29, 3) := by decide +kernel
theorem d_TC_answerSignature_18 : decode c_TC_answerSignature 18 = .ok (.iconst 5, 1) := by decide +kernel
theorem d_TC_answerSignature_19 : decode c_TC_answerSignature 19 = .ok (.aload_n 1, 1) := by decide +kernel
theorem d_TC_answerSignature_20 : decode c_TC_answerSignature 20 = .ok (.getfield 188, 3) := by decide +kernel
theorem d_TC_answerSignature_23 : decode c_TC_answerSignature 23 = .ok (.invokevirtual 170, 3) := by decide +kernel
theorem d_TC_answerSignature_26 : decode c_TC_answerSignature 26 = .ok (.pop, 1) := by decide +kernel
theorem d_TC_answerSignature_27 : decode c_TC_answerSignature 27 = .ok (.return_, 1) := by decide +kernel
theorem d_TC_answerSignature_28 : decode c_TC_answerSignature 28 = .ok (.aload_n 0, 1) := by decide +kernel
theorem d_TC_answerSignature_29 : decode c_TC_answerSignature 29 = .ok (.getfield 29, 3) := by decide +kernel
theorem d_TC_answerSignature_32 : decode c_TC_answerSignature 32 = .ok (.iconst 4, 1) := by decide +kernel
theorem d_TC_answerSignature_33 : decode c_TC_answerSignature 33 = .ok (.aload_n 1, 1) := by decide +kernel
theorem d_TC_answerSignature_34 : decode c_TC_answerSignature 34 = .ok (.getfield 188, 3) := by decide +kernel
theorem d_TC_answerSignature_37 : decode c_TC_answerSignature 37 = .ok (.invokevirtual 170, 3) := by decide +kernel
theorem d_TC_answerSignature_40 : decode c_TC_answerSignature 40 = .ok (.astore_n 3, 1) := by decide +kernel
theorem d_TC_answerSignature_41 : decode c_TC_answerSignature 41 = .ok (.aload_n 3, 1) := by decide +kernel
theorem d_TC_answerSignature_42 : decode c_TC_answerSignature 42 = .ok (.aload_n 1, 1) := by decide +kernel
theorem d_TC_answerSignature_43 : decode c_TC_answerSignature 43 = .ok (.getfield 219, 3) := by decide +kernel
theorem d_TC_answerSignature_46 : decode c_TC_answerSignature 46 = .ok (.putfield 219, 3) := by decide +kernel
theorem d_TC_answerSignature_49 : decode c_TC_answerSignature 49 = .ok (.aload_n 3, 1) := by decide +kernel
theorem d_TC_answerSignature_50 : decode c_TC_answerSignature 50 = .ok (.aload_n 2, 1) := by decide +kernel
theorem d_TC_answerSignature_51 : decode c_TC_answerSignature 51 = .ok (.getfield 87, 3) := by decide +kernel
theorem d_TC_answerSignature_54 : decode c_TC_answerSignature 54 = .ok (.invokevirtual 229, 3) := by decide +kernel
theorem d_TC_answerSignature_57 : decode c_TC_answerSignature 57 = .ok (.putfield 232, 3) := by decide +kernel
theorem d_TC_answerSignature_60 : decode c_TC_answerSignature 60 = .ok (.aload_n 0, 1) := by decide +kernel
theorem d_TC_answerSignature_61 : decode c_TC_answerSignature 61 = .ok (.aload_n 3, 1) := by decide +kernel
theorem d_TC_answerSignature_62 : decode c_TC_answerSignature 62 = .ok (.aload_n 2, 1) := by decide +kernel
theorem d_TC_answerSignature_63 : decode c_TC_answerSignature 63 = .ok (.getfield 87, 3) := by decide +kernel
theorem d_TC_answerSignature_66 : decode c_TC_answerSignature 66 = .ok (.aload_n 1, 1) := by decide +kernel
theorem d_TC_answerSignature_67 : decode c_TC_answerSignature 67 = .ok (.invokevirtual 234, 3) := by decide +kernel
theorem d_TC_answerSignature_70 : decode c_TC_answerSignature 70 = .ok (.return_, 1) := by decide +kernel
theorem d_TC_fillDelta_0 : decode c_TC_fillDelta 0 = .ok (.iconst 0, 1) := by decide +kernel
theorem d_TC_fillDelta_1 : decode c_TC_fillDelta 1 = .ok (.istore 4, 2) := by decide +kernel
theorem d_TC_fillDelta_3 : decode c_TC_fillDelta 3 = .ok (.iconst 0, 1) := by decide +kernel
theorem d_TC_fillDelta_4 : decode c_TC_fillDelta 4 = .ok (.istore 5, 2) := by decide +kernel
theorem d_TC_fillDelta_6 : decode c_TC_fillDelta 6 = .ok (.iload 5, 2) := by decide +kernel
theorem d_TC_fillDelta_8 : decode c_TC_fillDelta 8 = .ok (.aload_n 2, 1) := by decide +kernel
theorem d_TC_fillDelta_9 : decode c_TC_fillDelta 9 = .ok (.getfield 152, 3) := by decide +kernel
theorem d_TC_fillDelta_12 : decode c_TC_fillDelta 12 = .ok (.if_icmp .ge 87, 3) := by decide +kernel
theorem d_TC_fillDelta_15 : decode c_TC_fillDelta 15 = .ok (.iload 5, 2) := by decide +kernel
theorem d_TC_fillDelta_17 : decode c_TC_fillDelta 17 = .ok (.iload 4, 2) := by decide +kernel
theorem d_TC_fillDelta_19 : decode c_TC_fillDelta 19 = .ok (.if_icmp .ge 6, 3) := by decide +kernel
theorem d_TC_fillDelta_22 : decode c_TC_fillDelta 22 = .ok (.goto 71, 3) := by decide +kernel
theorem d_TC_fillDelta_25 : decode c_TC_fillDelta 25 = .ok (.aload_n 0, 1) := by decide +kernel
theorem d_TC_fillDelta_26 : decode c_TC_fillDelta 26 = .ok (.aload_n 2, 1) := by decide +kernel
theorem d_TC_fillDelta_27 : decode c_TC_fillDelta 27 = .ok (.iload 5, 2) := by decide +kernel
theorem d_TC_fillDelta_29 : decode c_TC_fillDelta 29 = .ok (.aload_n 3, 1) := by decide +kernel
theorem d_TC_fillDelta_30 : decode c_TC_fillDelta 30 = .ok (.invokevirtual 238, 3) := by decide +kernel
theorem d_TC_fillDelta_33 : decode c_TC_fillDelta 33 = .ok (.istore 6, 2) := by decide +kernel
theorem d_TC_fillDelta_35 : decode c_TC_fillDelta 35 = .ok (.iload 6, 2) := by decide +kernel
theorem d_TC_fillDelta_37 : decode c_TC_fillDelta 37 = .ok (.iconst (-1), 1) := by decide +kernel
theorem d_TC_fillDelta_38 : decode c_TC_fillDelta 38 = .ok (.if_icmp .ne 26, 3) := by decide +kernel
theorem d_TC_fillDelta_41 : decode c_TC_fillDelta 41 = .ok (.aload_n 1, 1) := by decide +kernel
theorem d_TC_fillDelta_42 : decode c_TC_fillDelta 42 = .ok (.aload_n 2, 1) := by decide +kernel
theorem d_TC_fillDelta_43 : decode c_TC_fillDelta 43 = .ok (.iload 5, 2) := by decide +kernel
theorem d_TC_fillDelta_45 : decode c_TC_fillDelta 45 = .ok (.invokevirtual 155, 3) := by decide +kernel
theorem d_TC_fillDelta_48 : decode c_TC_fillDelta 48 = .ok (.invokevirtual 226, 3) := by decide +kernel
theorem d_TC_fillDelta_51 : decode c_TC_fillDelta 51 = .ok (.aload_n 0, 1) := by decide +kernel
theorem d_TC_fillDelta_52 : decode c_TC_fillDelta 52 = .ok (.getfield 52, 3) := by decide +kernel
theorem d_TC_fillDelta_55 : decode c_TC_fillDelta 55 = .ok (.iconst 0, 1) := by decide +kernel
theorem d_TC_fillDelta_56 : decode c_TC_fillDelta 56 = .ok (.dup2, 1) := by decide +kernel
theorem d_TC_fillDelta_57 : decode c_TC_fillDelta 57 = .ok (.iaload, 1) := by decide +kernel
theorem d_TC_fillDelta_58 : decode c_TC_fillDelta 58 = .ok (.iconst 1, 1) := by decide +kernel
theorem d_TC_fillDelta_59 : decode c_TC_fillDelta 59 = .ok (.iadd, 1) := by decide +kernel
theorem d_TC_fillDelta_60 : decode c_TC_fillDelta 60 = .ok (.iastore, 1) := by decide +kernel
theorem d_TC_fillDelta_61 : decode c_TC_fillDelta 61 = .ok (.goto 32, 3) := by decide +kernel
theorem d_TC_fillDelta_64 : decode c_TC_fillDelta 64 = .ok (.aload_n 1, 1) := by decide +kernel
theorem d_TC_fillDelta_65 : decode c_TC_fillDelta 65 = .ok (.sipush 256, 3) := by decide +kernel
theorem d_TC_fillDelta_68 : decode c_TC_fillDelta 68 = .ok (.iload 6, 2) := by decide +kernel
theorem d_TC_fillDelta_70 : decode c_TC_fillDelta 70 = .ok (.iadd, 1) := by decide +kernel
theorem d_TC_fillDelta_71 : decode c_TC_fillDelta 71 = .ok (.invokevirtual 226, 3) := by decide +kernel
theorem d_TC_fillDelta_74 : decode c_TC_fillDelta 74 = .ok (.aload_n 0, 1) := by decide +kernel
theorem d_TC_fillDelta_75 : decode c_TC_fillDelta 75 = .ok (.getfield 52, 3) := by decide +kernel
theorem d_TC_fillDelta_78 : decode c_TC_fillDelta 78 = .ok (.iconst 1, 1) := by decide +kernel
theorem d_TC_fillDelta_79 : decode c_TC_fillDelta 79 = .ok (.dup2, 1) := by decide +kernel
theorem d_TC_fillDelta_80 : decode c_TC_fillDelta 80 = .ok (.iaload, 1) := by decide +kernel
theorem d_TC_fillDelta_81 : decode c_TC_fillDelta 81 = .ok (.iconst 1, 1) := by decide +kernel
theorem d_TC_fillDelta_82 : decode c_TC_fillDelta 82 = .ok (.iadd, 1) := by decide +kernel
theorem d_TC_fillDelta_83 : decode c_TC_fillDelta 83 = .ok (.iastore, 1) := by decide +kernel
theorem d_TC_fillDelta_84 : decode c_TC_fillDelta 84 = .ok (.iload 5, 2) := by decide +kernel
theorem d_TC_fillDelta_86 : decode c_TC_fillDelta 86 = .ok (.aload_n 0, 1) := by decide +kernel
theorem d_TC_fillDelta_87 : decode c_TC_fillDelta 87 = .ok (.getfield 67, 3) := by decide +kernel
theorem d_TC_fillDelta_90 : decode c_TC_fillDelta 90 = .ok (.iadd, 1) := by decide +kernel
theorem d_TC_fillDelta_91 : decode c_TC_fillDelta 91 = .ok (.istore 4, 2) := by decide +kernel
theorem d_TC_fillDelta_93 : decode c_TC_fillDelta 93 = .ok (.iinc 5 1, 3) := by decide +kernel
theorem d_TC_fillDelta_96 : decode c_TC_fillDelta 96 = .ok (.goto (-90), 3) := by decide +kernel
theorem d_TC_fillDelta_99 : decode c_TC_fillDelta 99 = .ok (.return_, 1) := by decide +kernel
theorem d_TC_findBlock_0 : decode c_TC_findBlock 0 = .ok (.iload_n 2, 1) := by decide +kernel
theorem d_TC_findBlock_1 : decode c_TC_findBlock 1 = .ok (.aload_n 0, 1) := by decide +kernel
theorem d_TC_findBlock_2 : decode c_TC_findBlock 2 = .ok (.getfield 67, 3) := by decide +kernel
theorem d_TC_findBlock_5 : decode c_TC_findBlock 5 = .ok (.iadd, 1) := by decide +kernel
theorem d_TC_findBlock_6 : decode c_TC_findBlock 6 = .ok (.aload_n 1, 1) := by decide +kernel
theorem d_TC_findBlock_7 : decode c_TC_findBlock 7 = .ok (.getfield 152, 3) := by decide +kernel
theorem d_TC_findBlock_10 : decode c_TC_findBlock 10 = .ok (.if_icmp .le 5, 3) := by decide +kernel
theorem d_TC_findBlock_13 : decode c_TC_findBlock 13 = .ok (.iconst (-1), 1) := by decide +kernel
theorem d_TC_findBlock_14 : decode c_TC_findBlock 14 = .ok (.ireturn, 1) := by decide +kernel
theorem d_TC_findBlock_15 : decode c_TC_findBlock 15 = .ok (.aload_n 1, 1) := by decide +kernel
theorem d_TC_findBlock_16 : decode c_TC_findBlock 16 = .ok (.iload_n 2, 1) := by decide +kernel
theorem d_TC_findBlock_17 : decode c_TC_findBlock 17 = .ok (.aload_n 0, 1) := by decide +kernel
theorem d_TC_findBlock_18 : decode c_TC_findBlock 18 = .ok (.getfield 67, 3) := by decide +kernel
theorem d_TC_findBlock_21 : decode c_TC_findBlock 21 = .ok (.aload_n 3, 1) := by decide +kernel
theorem d_TC_findBlock_22 : decode c_TC_findBlock 22 = .ok (.getfield 219, 3) := by decide +kernel
theorem d_TC_findBlock_25 : decode c_TC_findBlock 25 = .ok (.invokevirtual 222, 3) := by decide +kernel
theorem d_TC_findBlock_28 : decode c_TC_findBlock 28 = .ok (.istore 4, 2) := by decide +kernel
theorem d_TC_findBlock_30 : decode c_TC_findBlock 30 = .ok (.iconst 0, 1) := by decide +kernel
theorem d_TC_findBlock_31 : decode c_TC_findBlock 31 = .ok (.istore 5, 2) := by decide +kernel
theorem d_TC_findBlock_33 : decode c_TC_findBlock 33 = .ok (.iload 5, 2) := by decide +kernel
theorem d_TC_findBlock_35 : decode c_TC_findBlock 35 = .ok (.aload_n 3, 1) := by decide +kernel
theorem d_TC_findBlock_36 : decode c_TC_findBlock 36 = .ok (.getfield 242, 3) := by decide +kernel
theorem d_TC_findBlock_39 : decode c_TC_findBlock 39 = .ok (.if_icmp .ge 24, 3) := by decide +kernel
theorem d_TC_findBlock_42 : decode c_TC_findBlock 42 = .ok (.aload_n 3, 1) := by decide +kernel
theorem d_TC_findBlock_43 : decode c_TC_findBlock 43 = .ok (.getfield 245, 3) := by decide +kernel
theorem d_TC_findBlock_46 : decode c_TC_findBlock 46 = .ok (.iload 5, 2) := by decide +kernel
theorem d_TC_findBlock_48 : decode c_TC_findBlock 48 = .ok (.iaload, 1) := by decide +kernel
theorem d_TC_findBlock_49 : decode c_TC_findBlock 49 = .ok (.iload 4, 2) := by decide +kernel
theorem d_TC_findBlock_51 : decode c_TC_findBlock 51 = .ok (.if_icmp .ne 6, 3) := by decide +kernel
theorem d_TC_findBlock_54 : decode c_TC_findBlock 54 = .ok (.iload 5, 2) := by decide +kernel
theorem d_TC_findBlock_56 : decode c_TC_findBlock 56 = .ok (.ireturn, 1) := by decide +kernel
theorem d_TC_findBlock_57 : decode c_TC_findBlock 57 = .ok (.iinc 5 1, 3) := by decide +kernel
theorem d_TC_findBlock_60 : decode c_TC_findBlock 60 = .ok (.goto (-27), 3) := by decide +kernel
theorem d_TC_findBlock_63 : decode c_TC_findBlock 63 = .ok (.iconst (-1), 1) := by decide +kernel
theorem d_TC_findBlock_64 : decode c_TC_findBlock 64 = .ok (.ireturn, 1) := by decide +kernel
theorem d_TC_receiveDelta_0 : decode c_TC_receiveDelta 0 = .ok (.aload_n 0, 1) := by decide +kernel
theorem d_TC_receiveDelta_1 : decode c_TC_receiveDelta 1 = .ok (.aload_n 1, 1) := by decide +kernel
theorem d_TC_receiveDelta_2 : decode c_TC_receiveDelta 2 = .ok (.getfield 188, 3) := by decide +kernel
theorem d_TC_receiveDelta_5 : decode c_TC_receiveDelta 5 = .ok (.invokevirtual 200, 3) := by decide +kernel
theorem d_TC_receiveDelta_8 : decode c_TC_receiveDelta 8 = .ok (.astore_n 2, 1) := by decide +kernel
theorem d_TC_receiveDelta_9 : decode c_TC_receiveDelta 9 = .ok (.aload_n 0, 1) := by decide +kernel
theorem d_TC_receiveDelta_10 : decode c_TC_receiveDelta 10 = .ok (.iconst 1, 1) := by decide +kernel
theorem d_TC_receiveDelta_11 : decode c_TC_receiveDelta 11 = .ok (.aload_n 1, 1) := by decide +kernel
theorem d_TC_receiveDelta_12 : decode c_TC_receiveDelta 12 = .ok (.getfield 188, 3) := by decide +kernel
theorem d_TC_receiveDelta_15 : decode c_TC_receiveDelta 15 = .ok (.invokevirtual 80, 3) := by decide +kernel
theorem d_TC_receiveDelta_18 : decode c_TC_receiveDelta 18 = .ok (.astore_n 3, 1) := by decide +kernel
theorem d_TC_receiveDelta_19 : decode c_TC_receiveDelta 19 = .ok (.aload_n 2, 1) := by decide +kernel
theorem d_TC_receiveDelta_20 : decode c_TC_receiveDelta 20 = .ok (.ifnull 7, 3) := by decide +kernel
theorem d_TC_receiveDelta_23 : decode c_TC_receiveDelta 23 = .ok (.aload_n 3, 1) := by decide +kernel
theorem d_TC_receiveDelta_24 : decode c_TC_receiveDelta 24 = .ok (.ifnonnull 4, 3) := by decide +kernel
theorem d_TC_receiveDelta_27 : decode c_TC_receiveDelta 27 = .ok (.return_, 1) := by decide +kernel
theorem d_TC_receiveDelta_28 : decode c_TC_receiveDelta 28 = .ok (.aload_n 0, 1) := by decide +kernel
theorem d_TC_receiveDelta_29 : decode c_TC_receiveDelta 29 = .ok (.aload_n 3, 1) := by decide +kernel
theorem d_TC_receiveDelta_30 : decode c_TC_receiveDelta 30 = .ok (.getfield 87, 3) := by decide +kernel
theorem d_TC_receiveDelta_33 : decode c_TC_receiveDelta 33 = .ok (.aload_n 1, 1) := by decide +kernel
theorem d_TC_receiveDelta_34 : decode c_TC_receiveDelta 34 = .ok (.invokevirtual 248, 3) := by decide +kernel
theorem d_TC_receiveDelta_37 : decode c_TC_receiveDelta 37 = .ok (.aload_n 0, 1) := by decide +kernel
theorem d_TC_receiveDelta_38 : decode c_TC_receiveDelta 38 = .ok (.getfield 48, 3) := by decide +kernel
theorem d_TC_receiveDelta_41 : decode c_TC_receiveDelta 41 = .ok (.invokevirtual 229, 3) := by decide +kernel
theorem d_TC_receiveDelta_44 : decode c_TC_receiveDelta 44 = .ok (.aload_n 1, 1) := by decide +kernel
theorem d_TC_receiveDelta_45 : decode c_TC_receiveDelta 45 = .ok (.getfield 232, 3) := by decide +kernel
theorem d_TC_receiveDelta_48 : decode c_TC_receiveDelta 48 = .ok (.if_icmp .ne 30, 3) := by decide +kernel
theorem d_TC_receiveDelta_51 : decode c_TC_receiveDelta 51 = .ok (.aload_n 0, 1) := by decide +kernel
theorem d_TC_receiveDelta_52 : decode c_TC_receiveDelta 52 = .ok (.getfield 41, 3) := by decide +kernel
theorem d_TC_receiveDelta_55 : decode c_TC_receiveDelta 55 = .ok (.aload_n 1, 1) := by decide +kernel
theorem d_TC_receiveDelta_56 : decode c_TC_receiveDelta 56 = .ok (.getfield 188, 3) := by decide +kernel
theorem d_TC_receiveDelta_59 : decode c_TC_receiveDelta 59 = .ok (.aload_n 0, 1) := by decide +kernel
theorem d_TC_receiveDelta_60 : decode c_TC_receiveDelta 60 = .ok (.getfield 48, 3) := by decide +kernel
theorem d_TC_receiveDelta_63 : decode c_TC_receiveDelta 63 = .ok (.aload_n 2, 1) := by decide +kernel
theorem d_TC_receiveDelta_64 : decode c_TC_receiveDelta 64 = .ok (.getfield 208, 3) := by decide +kernel
theorem d_TC_receiveDelta_67 : decode c_TC_receiveDelta 67 = .ok (.invokevirtual 252, 3) := by decide +kernel
theorem d_TC_receiveDelta_70 : decode c_TC_receiveDelta 70 = .ok (.aload_n 2, 1) := by decide +kernel
theorem d_TC_receiveDelta_71 : decode c_TC_receiveDelta 71 = .ok (.iconst 0, 1) := by decide +kernel
theorem d_TC_receiveDelta_72 : decode c_TC_receiveDelta 72 = .ok (.putfield 213, 3) := by decide +kernel
theorem d_TC_receiveDelta_75 : decode c_TC_receiveDelta 75 = .ok (.goto 41, 3) := by decide +kernel
theorem d_TC_receiveDelta_78 : decode c_TC_receiveDelta 78 = .ok (.aload_n 1, 1) := by decide +kernel
theorem d_TC_receiveDelta_79 : decode c_TC_receiveDelta 79 = .ok (.getfield 219, 3) := by decide +kernel
theorem d_TC_receiveDelta_82 : decode c_TC_receiveDelta 82 = .ok (.iconst 1, 1) := by decide +kernel
theorem d_TC_receiveDelta_83 : decode c_TC_receiveDelta 83 = .ok (.if_icmp .ne 25, 3) := by decide +kernel
theorem d_TC_receiveDelta_86 : decode c_TC_receiveDelta 86 = .ok (.aload_n 0, 1) := by decide +kernel
theorem d_TC_receiveDelta_87 : decode c_TC_receiveDelta 87 = .ok (.getfield 52, 3) := by decide +kernel
theorem d_TC_receiveDelta_90 : decode c_TC_receiveDelta 90 = .ok (.iconst 2, 1) := by decide +kernel
theorem d_TC_receiveDelta_91 : decode c_TC_receiveDelta 91 = .ok (.dup2, 1) := by decide +kernel
theorem d_TC_receiveDelta_92 : decode c_TC_receiveDelta 92 = .ok (.iaload, 1) := by decide +kernel
theorem d_TC_receiveDelta_93 : decode c_TC_receiveDelta 93 = .ok (.iconst 1, 1) := by decide +kernel
theorem d_TC_receiveDelta_94 : decode c_TC_receiveDelta 94 = .ok (.iadd, 1) := by decide +kernel
theorem d_TC_receiveDelta_95 : decode c_TC_receiveDelta 95 = .ok (.iastore, 1) := by decide +kernel
theorem d_TC_receiveDelta_96 : decode c_TC_receiveDelta 96 = .ok (.aload_n 0, 1) := by decide +kernel
theorem d_TC_receiveDelta_97 : decode c_TC_receiveDelta 97 = .ok (.aload_n 1, 1) := by decide +kernel
theorem d_TC_receiveDelta_98 : decode c_TC_receiveDelta 98 = .ok (.getfield 188, 3) := by decide +kernel
theorem d_TC_receiveDelta_101 : decode c_TC_receiveDelta 101 = .ok (.iconst 2, 1) := by decide +kernel
theorem d_TC_receiveDelta_102 : decode c_TC_receiveDelta 102 = .ok (.invokevirtual 216, 3) := by decide +kernel
theorem d_TC_receiveDelta_105 : decode c_TC_receiveDelta 105 = .ok (.goto 11, 3) := by decide +kernel
theorem d_TC_receiveDelta_108 : decode c_TC_receiveDelta 108 = .ok (.aload_n 0, 1) := by decide +kernel
theorem d_TC_receiveDelta_109 : decode c_TC_receiveDelta 109 = .ok (.aload_n 1, 1) := by decide +kernel
theorem d_TC_receiveDelta_110 : decode c_TC_receiveDelta 110 = .ok (.getfield 188, 3) := by decide +kernel
theorem d_TC_receiveDelta_113 : decode c_TC_receiveDelta 113 = .ok (.invokevirtual 191, 3) := by decide +kernel
theorem d_TC_receiveDelta_116 : decode c_TC_receiveDelta 116 = .ok (.return_, 1) := by decide +kernel
theorem d_TC_rebuild_0 : decode c_TC_rebuild 0 = .ok (.aload_n 0, 1) := by decide +kernel
theorem d_TC_rebuild_1 : decode c_TC_rebuild 1 = .ok (.getfield 48, 3) := by decide +kernel
theorem d_TC_rebuild_4 : decode c_TC_rebuild 4 = .ok (.invokevirtual 255, 3) := by decide +kernel
theorem d_TC_rebuild_7 : decode c_TC_rebuild 7 = .ok (.iconst 0, 1) := by decide +kernel
theorem d_TC_rebuild_8 : decode c_TC_rebuild 8 = .ok (.istore_n 3, 1) := by decide +kernel
theorem d_TC_rebuild_9 : decode c_TC_rebuild 9 = .ok (.iload_n 3, 1) := by decide +kernel
theorem d_TC_rebuild_10 : decode c_TC_rebuild 10 = .ok (.aload_n 2, 1) := by decide +kernel
theorem d_TC_rebuild_11 : decode c_TC_rebuild 11 = .ok (.getfield 242, 3) := by decide +kernel
theorem d_TC_rebuild_14 : decode c_TC_rebuild 14 = .ok (.if_icmp .ge 60, 3) := by decide +kernel
theorem d_TC_rebuild_17 : decode c_TC_rebuild 17 = .ok (.aload_n 2, 1) := by decide +kernel
theorem d_TC_rebuild_18 : decode c_TC_rebuild 18 = .ok (.getfield 245, 3) := by decide +kernel
theorem d_TC_rebuild_21 : decode c_TC_rebuild 21 = .ok (.iload_n 3, 1) := by decide +kernel
theorem d_TC_rebuild_22 : decode c_TC_rebuild 22 = .ok (.iaload, 1) := by decide +kernel
theorem d_TC_rebuild_23 : decode c_TC_rebuild 23 = .ok (.istore 4, 2) := by decide +kernel
theorem d_TC_rebuild_25 : decode c_TC_rebuild 25 = .ok (.iload 4, 2) := by decide +kernel
theorem d_TC_rebuild_27 : decode c_TC_rebuild 27 = .ok (.sipush 256, 3) := by decide +kernel
theorem d_TC_rebuild_30 : decode c_TC_rebuild 30 = .ok (.if_icmp .ge 15, 3) := by decide +kernel
theorem d_TC_rebuild_33 : decode c_TC_rebuild 33 = .ok (.aload_n 0, 1) := by decide +kernel
theorem d_TC_rebuild_34 : decode c_TC_rebuild 34 = .ok (.getfield 48, 3) := by decide +kernel
theorem d_TC_rebuild_37 : decode c_TC_rebuild 37 = .ok (.iload 4, 2) := by decide +kernel
theorem d_TC_rebuild_39 : decode c_TC_rebuild 39 = .ok (.invokevirtual 97, 3) := by decide +kernel
theorem d_TC_rebuild_42 : decode c_TC_rebuild 42 = .ok (.goto 26, 3) := by decide +kernel
theorem d_TC_rebuild_45 : decode c_TC_rebuild 45 = .ok (.aload_n 0, 1) := by decide +kernel
theorem d_TC_rebuild_46 : decode c_TC_rebuild 46 = .ok (.getfield 48, 3) := by decide +kernel
theorem d_TC_rebuild_49 : decode c_TC_rebuild 49 = .ok (.aload_n 1, 1) := by decide +kernel
theorem d_TC_rebuild_50 : decode c_TC_rebuild 50 = .ok (.iload 4, 2) := by decide +kernel
theorem d_TC_rebuild_52 : decode c_TC_rebuild 52 = .ok (.sipush 256, 3) := by decide +kernel
theorem d_TC_rebuild_55 : decode c_TC_rebuild 55 = .ok (.isub, 1) := by decide +kernel
theorem d_TC_rebuild_56 : decode c_TC_rebuild 56 = .ok (.aload_n 0, 1) := by decide +kernel
theorem d_TC_rebuild_57 : decode c_TC_rebuild 57 = .ok (.getfield 67, 3) := by decide +kernel
theorem d_TC_rebuild_60 : decode c_TC_rebuild 60 = .ok (.imul, 1) := by decide +kernel
theorem d_TC_rebuild_61 : decode c_TC_rebuild 61 = .ok (.aload_n 0, 1) := by decide +kernel
theorem d_TC_rebuild_62 : decode c_TC_rebuild 62 = .ok (.getfield 67, 3) := by decide +kernel
theorem d_TC_rebuild_65 : decode c_TC_rebuild 65 = .ok (.invokevirtual 258, 3) := by decide +kernel
theorem d_TC_rebuild_68 : decode c_TC_rebuild 68 = .ok (.iinc 3 1, 3) := by decide +kernel
theorem d_TC_rebuild_71 : decode c_TC_rebuild 71 = .ok (.goto (-62), 3) := by decide +kernel
theorem d_TC_rebuild_74 : decode c_TC_rebuild 74 = .ok (.return_, 1) := by decide +kernel
theorem d_TC_failEntry_0 : decode c_TC_failEntry 0 = .ok (.aload_n 0, 1) := by decide +kernel
theorem d_TC_failEntry_1 : decode c_TC_failEntry 1 = .ok (.iload_n 1, 1) := by decide +kernel
theorem d_TC_failEntry_2 : decode c_TC_failEntry 2 = .ok (.invokevirtual 200, 3) := by decide +kernel
theorem d_TC_failEntry_5 : decode c_TC_failEntry 5 = .ok (.astore_n 2, 1) := by decide +kernel
theorem d_TC_failEntry_6 : decode c_TC_failEntry 6 = .ok (.aload_n 2, 1) := by decide +kernel
theorem d_TC_failEntry_7 : decode c_TC_failEntry 7 = .ok (.ifnull 18, 3) := by decide +kernel
theorem d_TC_failEntry_10 : decode c_TC_failEntry 10 = .ok (.aload_n 2, 1) := by decide +kernel
theorem d_TC_failEntry_11 : decode c_TC_failEntry 11 = .ok (.iconst 0, 1) := by decide +kernel
theorem d_TC_failEntry_12 : decode c_TC_failEntry 12 = .ok (.putfield 213, 3) := by decide +kernel
theorem d_TC_failEntry_15 : decode c_TC_failEntry 15 = .ok (.aload_n 0, 1) := by decide +kernel
theorem d_TC_failEntry_16 : decode c_TC_failEntry 16 = .ok (.getfield 52, 3) := by decide +kernel
theorem d_TC_failEntry_19 : decode c_TC_failEntry 19 = .ok (.iconst 3, 1) := by decide +kernel
theorem d_TC_failEntry_20 : decode c_TC_failEntry 20 = .ok (.dup2, 1) := by decide +kernel
theorem d_TC_failEntry_21 : decode c_TC_failEntry 21 = .ok (.iaload, 1) := by decide +kernel
theorem d_TC_failEntry_22 : decode c_TC_failEntry 22 = .ok (.iconst 1, 1) := by decide +kernel
theorem d_TC_failEntry_23 : decode c_TC_failEntry 23 = .ok (.iadd, 1) := by decide +kernel
theorem d_TC_failEntry_24 : decode c_TC_failEntry 24 = .ok (.iastore, 1) := by decide +kernel
theorem d_TC_failEntry_25 : decode c_TC_failEntry 25 = .ok (.return_, 1) := by decide +kernel
theorem d_TC_doOldestRecord_0 : decode c_TC_doOldestRecord 0 = .ok (.aload_n 0, 1) := by decide +kernel
theorem d_TC_doOldestRecord_1 : decode c_TC_doOldestRecord 1 = .ok (.getfield 41, 3) := by decide +kernel
theorem d_TC_doOldestRecord_4 : decode c_TC_doOldestRecord 4 = .ok (.invokevirtual 262, 3) := by decide +kernel
theorem d_TC_doOldestRecord_7 : decode c_TC_doOldestRecord 7 = .ok (.astore_n 1, 1) := by decide +kernel
theorem d_TC_doOldestRecord_8 : decode c_TC_doOldestRecord 8 = .ok (.aload_n 1, 1) := by decide +kernel
theorem d_TC_doOldestRecord_9 : decode c_TC_doOldestRecord 9 = .ok (.ifnonnull 7, 3) := by decide +kernel
theorem d_TC_doOldestRecord_12 : decode c_TC_doOldestRecord 12 = .ok (.aconst_null, 1) := by decide +kernel
theorem d_TC_doOldestRecord_13 : decode c_TC_doOldestRecord 13 = .ok (.goto 12, 3) := by decide +kernel
theorem d_TC_doOldestRecord_16 : decode c_TC_doOldestRecord 16 = .ok (.aload_n 0, 1) := by decide +kernel
theorem d_TC_doOldestRecord_17 : decode c_TC_doOldestRecord 17 = .ok (.iconst 1, 1) := by decide +kernel
theorem d_TC_doOldestRecord_18 : decode c_TC_doOldestRecord 18 = .ok (.aload_n 1, 1) := by decide +kernel
theorem d_TC_doOldestRecord_19 : decode c_TC_doOldestRecord 19 = .ok (.getfield 265, 3) := by decide +kernel
theorem d_TC_doOldestRecord_22 : decode c_TC_doOldestRecord 22 = .ok (.invokevirtual 80, 3) := by decide +kernel
theorem d_TC_doOldestRecord_25 : decode c_TC_doOldestRecord 25 = .ok (.astore_n 2, 1) := by decide +kernel
theorem d_TC_doOldestRecord_26 : decode c_TC_doOldestRecord 26 = .ok (.aload_n 2, 1) := by decide +kernel
theorem d_TC_doOldestRecord_27 : decode c_TC_doOldestRecord 27 = .ok (.ifnull 38, 3) := by decide +kernel
theorem d_TC_doOldestRecord_30 : decode c_TC_doOldestRecord 30 = .ok (.aload_n 2, 1) := by decide +kernel
theorem d_TC_doOldestRecord_31 : decode c_TC_doOldestRecord 31 = .ok (.iconst 1, 1) := by decide +kernel
theorem d_TC_doOldestRecord_32 : decode c_TC_doOldestRecord 32 = .ok (.putfield 94, 3) := by decide +kernel
theorem d_TC_doOldestRecord_35 : decode c_TC_doOldestRecord 35 = .ok (.aload_n 2, 1) := by decide +kernel
theorem d_TC_doOldestRecord_36 : decode c_TC_doOldestRecord 36 = .ok (.getfield 87, 3) := by decide +kernel
theorem d_TC_doOldestRecord_39 : decode c_TC_doOldestRecord 39 = .ok (.aload_n 1, 1) := by decide +kernel
theorem d_TC_doOldestRecord_40 : decode c_TC_doOldestRecord 40 = .ok (.getfield 268, 3) := by decide +kernel
theorem d_TC_doOldestRecord_43 : decode c_TC_doOldestRecord 43 = .ok (.invokevirtual 269, 3) := by decide +kernel
theorem d_TC_doOldestRecord_46 : decode c_TC_doOldestRecord 46 = .ok (.aload_n 2, 1) := by decide +kernel
theorem d_TC_doOldestRecord_47 : decode c_TC_doOldestRecord 47 = .ok (.aload_n 1, 1) := by decide +kernel
theorem d_TC_doOldestRecord_48 : decode c_TC_doOldestRecord 48 = .ok (.getfield 273, 3) := by decide +kernel
theorem d_TC_doOldestRecord_51 : decode c_TC_doOldestRecord 51 = .ok (.putfield 104, 3) := by decide +kernel
theorem d_TC_doOldestRecord_54 : decode c_TC_doOldestRecord 54 = .ok (.aload_n 0, 1) := by decide +kernel
theorem d_TC_doOldestRecord_55 : decode c_TC_doOldestRecord 55 = .ok (.getfield 52, 3) := by decide +kernel
theorem d_TC_doOldestRecord_58 : decode c_TC_doOldestRecord 58 = .ok (.bipush 7, 2) := by decide +kernel
theorem d_TC_doOldestRecord_60 : decode c_TC_doOldestRecord 60 = .ok (.dup2, 1) := by decide +kernel
theorem d_TC_doOldestRecord_61 : decode c_TC_doOldestRecord 61 = .ok (.iaload, 1) := by decide +kernel
theorem d_TC_doOldestRecord_62 : decode c_TC_doOldestRecord 62 = .ok (.iconst 1, 1) := by decide +kernel
theorem d_TC_doOldestRecord_63 : decode c_TC_doOldestRecord 63 = .ok (.iadd, 1) := by decide +kernel
theorem d_TC_doOldestRecord_64 : decode c_TC_doOldestRecord 64 = .ok (.iastore, 1) := by decide +kernel
theorem d_TC_doOldestRecord_65 : decode c_TC_doOldestRecord 65 = .ok (.return_, 1) := by decide +kernel
theorem d_TC_doAllRecords_0 : decode c_TC_doAllRecords 0 = .ok (.aload_n 0, 1) := by decide +kernel
theorem d_TC_doAllRecords_1 : decode c_TC_doAllRecords 1 = .ok (.getfield 41, 3) := by decide +kernel
theorem d_TC_doAllRecords_4 : decode c_TC_doAllRecords 4 = .ok (.getfield 169, 3) := by decide +kernel
theorem d_TC_doAllRecords_7 : decode c_TC_doAllRecords 7 = .ok (.istore_n 1, 1) := by decide +kernel
theorem d_TC_doAllRecords_8 : decode c_TC_doAllRecords 8 = .ok (.iconst 0, 1) := by decide +kernel
theorem d_TC_doAllRecords_9 : decode c_TC_doAllRecords 9 = .ok (.istore_n 2, 1) := by decide +kernel
theorem d_TC_doAllRecords_10 : decode c_TC_doAllRecords 10 = .ok (.iload_n 2, 1) := by decide +kernel
theorem d_TC_doAllRecords_11 : decode c_TC_doAllRecords 11 = .ok (.iload_n 1, 1) := by decide +kernel
theorem d_TC_doAllRecords_12 : decode c_TC_doAllRecords 12 = .ok (.if_icmp .ge 13, 3) := by decide +kernel
theorem d_TC_doAllRecords_15 : decode c_TC_doAllRecords 15 = .ok (.aload_n 0, 1) := by decide +kernel
theorem d_TC_doAllRecords_16 : decode c_TC_doAllRecords 16 = .ok (.invokevirtual 139, 3) := by decide +kernel
theorem d_TC_doAllRecords_19 : decode c_TC_doAllRecords 19 = .ok (.iinc 2 1, 3) := by decide +kernel
theorem d_TC_doAllRecords_22 : decode c_TC_doAllRecords 22 = .ok (.goto (-12), 3) := by decide +kernel
theorem d_TC_doAllRecords_25 : decode c_TC_doAllRecords 25 = .ok (.return_, 1) := by decide +kernel
theorem d_TC_concludeSession_0 : decode c_TC_concludeSession 0 = .ok (.aload_n 0, 1) := by decide +kernel
theorem d_TC_concludeSession_1 : decode c_TC_concludeSession 1 = .ok (.invokevirtual 120, 3) := by decide +kernel
theorem d_TC_concludeSession_4 : decode c_TC_concludeSession 4 = .ok (.aload_n 0, 1) := by decide +kernel
theorem d_TC_concludeSession_5 : decode c_TC_concludeSession 5 = .ok (.getfield 64, 3) := by decide +kernel
theorem d_TC_concludeSession_8 : decode c_TC_concludeSession 8 = .ok (.ifCond .eq 7, 3) := by decide +kernel
theorem d_TC_concludeSession_11 : decode c_TC_concludeSession 11 = .ok (.aload_n 0, 1) := by decide +kernel
theorem d_TC_concludeSession_12 : decode c_TC_concludeSession 12 = .ok (.invokevirtual 274, 3) := by decide +kernel
theorem d_TC_concludeSession_15 : decode c_TC_concludeSession 15 = .ok (.aload_n 0, 1) := by decide +kernel
theorem d_TC_concludeSession_16 : decode c_TC_concludeSession 16 = .ok (.invokevirtual 149, 3) := by decide +kernel
theorem d_TC_concludeSession_19 : decode c_TC_concludeSession 19 = .ok (.aload_n 0, 1) := by decide +kernel
theorem d_TC_concludeSession_20 : decode c_TC_concludeSession 20 = .ok (.getfield 52, 3) := by decide +kernel
theorem d_TC_concludeSession_23 : decode c_TC_concludeSession 23 = .ok (.iconst 4, 1) := by decide +kernel
theorem d_TC_concludeSession_24 : decode c_TC_concludeSession 24 = .ok (.dup2, 1) := by decide +kernel
theorem d_TC_concludeSession_25 : decode c_TC_concludeSession 25 = .ok (.iaload, 1) := by decide +kernel
theorem d_TC_concludeSession_26 : decode c_TC_concludeSession 26 = .ok (.iconst 1, 1) := by decide +kernel
theorem d_TC_concludeSession_27 : decode c_TC_concludeSession 27 = .ok (.iadd, 1) := by decide +kernel
theorem d_TC_concludeSession_28 : decode c_TC_concludeSession 28 = .ok (.iastore, 1) := by decide +kernel
theorem d_TC_concludeSession_29 : decode c_TC_concludeSession 29 = .ok (.return_, 1) := by decide +kernel
theorem d_TC_deleteUnlisted_0 : decode c_TC_deleteUnlisted 0 = .ok (.iconst 0, 1) := by decide +kernel
theorem d_TC_deleteUnlisted_1 : decode c_TC_deleteUnlisted 1 = .ok (.istore_n 1, 1) := by decide +kernel
theorem d_TC_deleteUnlisted_2 : decode c_TC_deleteUnlisted 2 = .ok (.iload_n 1, 1) := by decide +kernel
theorem d_TC_deleteUnlisted_3 : decode c_TC_deleteUnlisted 3 = .ok (.bipush 12, 2) := by decide +kernel
theorem d_TC_deleteUnlisted_5 : decode c_TC_deleteUnlisted 5 = .ok (.if_icmp .ge 58, 3) := by decide +kernel
theorem d_TC_deleteUnlisted_8 : decode c_TC_deleteUnlisted 8 = .ok (.aload_n 0, 1) := by decide +kernel
theorem d_TC_deleteUnlisted_9 : decode c_TC_deleteUnlisted 9 = .ok (.iconst 1, 1) := by decide +kernel
theorem d_TC_deleteUnlisted_10 : decode c_TC_deleteUnlisted 10 = .ok (.iload_n 1, 1) := by decide +kernel
theorem d_TC_deleteUnlisted_11 : decode c_TC_deleteUnlisted 11 = .ok (.invokevirtual 107, 3) := by decide +kernel
theorem d_TC_deleteUnlisted_14 : decode c_TC_deleteUnlisted 14 = .ok (.astore_n 2, 1) := by decide +kernel
theorem d_TC_deleteUnlisted_15 : decode c_TC_deleteUnlisted 15 = .ok (.aload_n 2, 1) := by decide +kernel
theorem d_TC_deleteUnlisted_16 : decode c_TC_deleteUnlisted 16 = .ok (.ifnull 41, 3) := by decide +kernel
theorem d_TC_deleteUnlisted_19 : decode c_TC_deleteUnlisted 19 = .ok (.aload_n 0, 1) := by decide +kernel
theorem d_TC_deleteUnlisted_20 : decode c_TC_deleteUnlisted 20 = .ok (.getfield 18, 3) := by decide +kernel
theorem d_TC_deleteUnlisted_23 : decode c_TC_deleteUnlisted 23 = .ok (.iload_n 1, 1) := by decide +kernel
theorem d_TC_deleteUnlisted_24 : decode c_TC_deleteUnlisted 24 = .ok (.invokevirtual 162, 3) := by decide +kernel
theorem d_TC_deleteUnlisted_27 : decode c_TC_deleteUnlisted 27 = .ok (.ifCond .eq 30, 3) := by decide +kernel
theorem d_TC_deleteUnlisted_30 : decode c_TC_deleteUnlisted 30 = .ok (.aload_n 0, 1) := by decide +kernel
theorem d_TC_deleteUnlisted_31 : decode c_TC_deleteUnlisted 31 = .ok (.getfield 34, 3) := by decide +kernel
theorem d_TC_deleteUnlisted_34 : decode c_TC_deleteUnlisted 34 = .ok (.iload_n 1, 1) := by decide +kernel
theorem d_TC_deleteUnlisted_35 : decode c_TC_deleteUnlisted 35 = .ok (.aaload, 1) := by decide +kernel
theorem d_TC_deleteUnlisted_36 : decode c_TC_deleteUnlisted 36 = .ok (.getfield 204, 3) := by decide +kernel
theorem d_TC_deleteUnlisted_39 : decode c_TC_deleteUnlisted 39 = .ok (.ifCond .ne 18, 3) := by decide +kernel
theorem d_TC_deleteUnlisted_42 : decode c_TC_deleteUnlisted 42 = .ok (.aload_n 2, 1) := by decide +kernel
theorem d_TC_deleteUnlisted_43 : decode c_TC_deleteUnlisted 43 = .ok (.invokevirtual 117, 3) := by decide +kernel
theorem d_TC_deleteUnlisted_46 : decode c_TC_deleteUnlisted 46 = .ok (.aload_n 0, 1) := by decide +kernel
theorem d_TC_deleteUnlisted_47 : decode c_TC_deleteUnlisted 47 = .ok (.getfield 52, 3) := by decide +kernel
theorem d_TC_deleteUnlisted_50 : decode c_TC_deleteUnlisted 50 = .ok (.bipush 6, 2) := by decide +kernel
theorem d_TC_deleteUnlisted_52 : decode c_TC_deleteUnlisted 52 = .ok (.dup2, 1) := by decide +kernel
theorem d_TC_deleteUnlisted_53 : decode c_TC_deleteUnlisted 53 = .ok (.iaload, 1) := by decide +kernel
theorem d_TC_deleteUnlisted_54 : decode c_TC_deleteUnlisted 54 = .ok (.iconst 1, 1) := by decide +kernel
theorem d_TC_deleteUnlisted_55 : decode c_TC_deleteUnlisted 55 = .ok (.iadd, 1) := by decide +kernel
theorem d_TC_deleteUnlisted_56 : decode c_TC_deleteUnlisted 56 = .ok (.iastore, 1) := by decide +kernel
theorem d_TC_deleteUnlisted_57 : decode c_TC_deleteUnlisted 57 = .ok (.iinc 1 1, 3) := by decide +kernel
theorem d_TC_deleteUnlisted_60 : decode c_TC_deleteUnlisted 60 = .ok (.goto (-58), 3) := by decide +kernel
theorem d_TC_deleteUnlisted_63 : decode c_TC_deleteUnlisted 63 = .ok (.return_, 1) := by decide +kernel
theorem d_TC_endSession_0 : decode c_TC_endSession 0 = .ok (.aload_n 0, 1) := by decide +kernel
theorem d_TC_endSession_1 : decode c_TC_endSession 1 = .ok (.iconst 0, 1) := by decide +kernel
theorem d_TC_endSession_2 : decode c_TC_endSession 2 = .ok (.putfield 60, 3) := by decide +kernel
theorem d_TC_endSession_5 : decode c_TC_endSession 5 = .ok (.aload_n 0, 1) := by decide +kernel
theorem d_TC_endSession_6 : decode c_TC_endSession 6 = .ok (.getfield 25, 3) := by decide +kernel
theorem d_TC_endSession_9 : decode c_TC_endSession 9 = .ok (.invokevirtual 277, 3) := by decide +kernel
theorem d_TC_endSession_12 : decode c_TC_endSession 12 = .ok (.aload_n 0, 1) := by decide +kernel
theorem d_TC_endSession_13 : decode c_TC_endSession 13 = .ok (.getfield 29, 3) := by decide +kernel
theorem d_TC_endSession_16 : decode c_TC_endSession 16 = .ok (.invokevirtual 277, 3) := by decide +kernel
theorem d_TC_endSession_19 : decode c_TC_endSession 19 = .ok (.iconst 0, 1) := by decide +kernel
theorem d_TC_endSession_20 : decode c_TC_endSession 20 = .ok (.istore_n 1, 1) := by decide +kernel
theorem d_TC_endSession_21 : decode c_TC_endSession 21 = .ok (.iload_n 1, 1) := by decide +kernel
theorem d_TC_endSession_22 : decode c_TC_endSession 22 = .ok (.bipush 12, 2) := by decide +kernel
theorem d_TC_endSession_24 : decode c_TC_endSession 24 = .ok (.if_icmp .ge 18, 3) := by decide +kernel
theorem d_TC_endSession_27 : decode c_TC_endSession 27 = .ok (.aload_n 0, 1) := by decide +kernel
theorem d_TC_endSession_28 : decode c_TC_endSession 28 = .ok (.getfield 34, 3) := by decide +kernel
theorem d_TC_endSession_31 : decode c_TC_endSession 31 = .ok (.iload_n 1, 1) := by decide +kernel
theorem d_TC_endSession_32 : decode c_TC_endSession 32 = .ok (.aaload, 1) := by decide +kernel
theorem d_TC_endSession_33 : decode c_TC_endSession 33 = .ok (.invokevirtual 278, 3) := by decide +kernel
theorem d_TC_endSession_36 : decode c_TC_endSession 36 = .ok (.iinc 1 1, 3) := by decide +kernel
theorem d_TC_endSession_39 : decode c_TC_endSession 39 = .ok (.goto (-18), 3) := by decide +kernel
theorem d_TC_endSession_42 : decode c_TC_endSession 42 = .ok (.return_, 1) := by decide +kernel
end
section
theorem d_MD_init_0 : decode c_MD_init 0 = .ok (.aload_n 0, 1) := by decide +kernel
theorem d_MD_init_1 : decode c_MD_init 1 = .ok (.invokespecial 1, 3) := by decide +kernel
theorem d_MD_init_4 : decode c_MD_init 4 = .ok (.aload_n 0, 1) := by decide +kernel
theorem d_MD_init_5 : decode c_MD_init 5 = .ok (.bipush 24, 2) := by decide +kernel
theorem d_MD_init_7 : decode c_MD_init 7 = .ok (.newarray .boolean, 2) := by decide +kernel
theorem d_MD_init_9 : decode c_MD_init 9 = .ok (.putfield 7, 3) := by decide +kernel
theorem d_MD_init_12 : decode c_MD_init 12 = .ok (.aload_n 0, 1) := by decide +kernel
theorem d_MD_init_13 : decode c_MD_init 13 = .ok (.bipush 24, 2) := by decide +kernel
theorem d_MD_init_15 : decode c_MD_init 15 = .ok (.newarray .int, 2) := by decide +kernel
theorem d_MD_init_17 : decode c_MD_init 17 = .ok (.putfield 13, 3) := by decide +kernel
theorem d_MD_init_20 : decode c_MD_init 20 = .ok (.aload_n 0, 1) := by decide +kernel
theorem d_MD_init_21 : decode c_MD_init 21 = .ok (.bipush 24, 2) := by decide +kernel
theorem d_MD_init_23 : decode c_MD_init 23 = .ok (.newarray .int, 2) := by decide +kernel
theorem d_MD_init_25 : decode c_MD_init 25 = .ok (.putfield 17, 3) := by decide +kernel
theorem d_MD_init_28 : decode c_MD_init 28 = .ok (.aload_n 0, 1) := by decide +kernel
theorem d_MD_init_29 : decode c_MD_init 29 = .ok (.sipush 960, 3) := by decide +kernel
theorem d_MD_init_32 : decode c_MD_init 32 = .ok (.newarray .int, 2) := by decide +kernel
theorem d_MD_init_34 : decode c_MD_init 34 = .ok (.putfield 20, 3) := by decide +kernel
theorem d_MD_init_37 : decode c_MD_init 37 = .ok (.aload_n 0, 1) := by decide +kernel
theorem d_MD_init_38 : decode c_MD_init 38 = .ok (.bipush 6, 2) := by decide +kernel
theorem d_MD_init_40 : decode c_MD_init 40 = .ok (.newarray .boolean, 2) := by decide +kernel
theorem d_MD_init_42 : decode c_MD_init 42 = .ok (.putfield 23, 3) := by decide +kernel
theorem d_MD_init_45 : decode c_MD_init 45 = .ok (.aload_n 0, 1) := by decide +kernel
theorem d_MD_init_46 : decode c_MD_init 46 = .ok (.bipush 6, 2) := by decide +kernel
theorem d_MD_init_48 : decode c_MD_init 48 = .ok (.newarray .int, 2) := by decide +kernel
theorem d_MD_init_50 : decode c_MD_init 50 = .ok (.putfield 26, 3) := by decide +kernel
theorem d_MD_init_53 : decode c_MD_init 53 = .ok (.aload_n 0, 1) := by decide +kernel
theorem d_MD_init_54 : decode c_MD_init 54 = .ok (.bipush 6, 2) := by decide +kernel
theorem d_MD_init_56 : decode c_MD_init 56 = .ok (.newarray .int, 2) := by decide +kernel
theorem d_MD_init_58 : decode c_MD_init 58 = .ok (.putfield 29, 3) := by decide +kernel
theorem d_MD_init_61 : decode c_MD_init 61 = .ok (.aload_n 0, 1) := by decide +kernel
theorem d_MD_init_62 : decode c_MD_init 62 = .ok (.bipush 12, 2) := by decide +kernel
theorem d_MD_init_64 : decode c_MD_init 64 = .ok (.newarray .int, 2) := by decide +kernel
theorem d_MD_init_66 : decode c_MD_init 66 = .ok (.putfield 32, 3) := by decide +kernel
theorem d_MD_init_69 : decode c_MD_init 69 = .ok (.aload_n 0, 1) := by decide +kernel
theorem d_MD_init_70 : decode c_MD_init 70 = .ok (.bipush 12, 2) := by decide +kernel
theorem d_MD_init_72 : decode c_MD_init 72 = .ok (.newarray .int, 2) := by decide +kernel
theorem d_MD_init_74 : decode c_MD_init 74 = .ok (.putfield 35, 3) := by decide +kernel
theorem d_MD_init_77 : decode c_MD_init 77 = .ok (.aload_n 0, 1) := by decide +kernel
theorem d_MD_init_78 : decode c_MD_init 78 = .ok (.bipush 12, 2) := by decide +kernel
theorem d_MD_init_80 : decode c_MD_init 80 = .ok (.newarray .int, 2) := by decide +kernel
theorem d_MD_init_82 : decode c_MD_init 82 = .ok (.putfield 38, 3) := by decide +kernel
theorem d_MD_init_85 : decode c_MD_init 85 = .ok (.aload_n 0, 1) := by decide +kernel
theorem d_MD_init_86 : decode c_MD_init 86 = .ok (.bipush 12, 2) := by decide +kernel
theorem d_MD_init_88 : decode c_MD_init 88 = .ok (.newarray .boolean, 2) := by decide +kernel
theorem d_MD_init_90 : decode c_MD_init 90 = .ok (.putfield 41, 3) := by decide +kernel
theorem d_MD_init_93 : decode c_MD_init 93 = .ok (.aload_n 0, 1) := by decide +kernel
theorem d_MD_init_94 : decode c_MD_init 94 = .ok (.iconst 2, 1) := by decide +kernel
theorem d_MD_init_95 : decode c_MD_init 95 = .ok (.newarray .int, 2) := by decide +kernel
theorem d_MD_init_97 : decode c_MD_init 97 = .ok (.putfield 44, 3) := by decide +kernel
theorem d_MD_init_100 : decode c_MD_init 100 = .ok (.aload_n 0, 1) := by decide +kernel
theorem d_MD_init_101 : decode c_MD_init 101 = .ok (.sipush 2880, 3) := by decide +kernel
theorem d_MD_init_104 : decode c_MD_init 104 = .ok (.newarray .int, 2) := by decide +kernel
theorem d_MD_init_106 : decode c_MD_init 106 = .ok (.putfield 47, 3) := by decide +kernel
theorem d_MD_init_109 : decode c_MD_init 109 = .ok (.aload_n 0, 1) := by decide +kernel
theorem d_MD_init_110 : decode c_MD_init 110 = .ok (.bipush 16, 2) := by decide +kernel
theorem d_MD_init_112 : decode c_MD_init 112 = .ok (.newarray .int, 2) := by decide +kernel
theorem d_MD_init_114 : decode c_MD_init 114 = .ok (.putfield 50, 3) := by decide +kernel
theorem d_MD_init_117 : decode c_MD_init 117 = .ok (.aload_n 0, 1) := by decide +kernel
theorem d_MD_init_118 : decode c_MD_init 118 = .ok (.bipush 16, 2) := by decide +kernel
theorem d_MD_init_120 : decode c_MD_init 120 = .ok (.newarray .int, 2) := by decide +kernel
theorem d_MD_init_122 : decode c_MD_init 122 = .ok (.putfield 53, 3) := by decide +kernel
theorem d_MD_init_125 : decode c_MD_init 125 = .ok (.aload_n 0, 1) := by decide +kernel
theorem d_MD_init_126 : decode c_MD_init 126 = .ok (.bipush 16, 2) := by decide +kernel
theorem d_MD_init_128 : decode c_MD_init 128 = .ok (.newarray .int, 2) := by decide +kernel
theorem d_MD_init_130 : decode c_MD_init 130 = .ok (.putfield 56, 3) := by decide +kernel
theorem d_MD_init_133 : decode c_MD_init 133 = .ok (.aload_n 0, 1) := by decide +kernel
theorem d_MD_init_134 : decode c_MD_init 134 = .ok (.sipush 640, 3) := by decide +kernel
theorem d_MD_init_137 : decode c_MD_init 137 = .ok (.newarray .int, 2) := by decide +kernel
theorem d_MD_init_139 : decode c_MD_init 139 = .ok (.putfield 59, 3) := by decide +kernel
theorem d_MD_init_142 : decode c_MD_init 142 = .ok (.aload_n 0, 1) := by decide +kernel
theorem d_MD_init_143 : decode c_MD_init 143 = .ok (.bipush 40, 2) := by decide +kernel
theorem d_MD_init_145 : decode c_MD_init 145 = .ok (.newarray .int, 2) := by decide +kernel
theorem d_MD_init_147 : decode c_MD_init 147 = .ok (.putfield 62, 3) := by decide +kernel
theorem d_MD_init_150 : decode c_MD_init 150 = .ok (.aload_n 0, 1) := by decide +kernel
theorem d_MD_init_151 : decode c_MD_init 151 = .ok (.bipush 8, 2) := by decide +kernel
theorem d_MD_init_153 : decode c_MD_init 153 = .ok (.newarray .int, 2) := by decide +kernel
theorem d_MD_init_155 : decode c_MD_init 155 = .ok (.putfield 65, 3) := by decide +kernel
theorem d_MD_init_158 : decode c_MD_init 158 = .ok (.return_, 1) := by decide +kernel
theorem d_MD_in_0 : decode c_MD_in 0 = .ok (.iload_n 0, 1) := by decide +kernel
theorem d_MD_in_1 : decode c_MD_in 1 = .ok (.ifCond .lt 12, 3) := by decide +kernel
theorem d_MD_in_4 : decode c_MD_in 4 = .ok (.iload_n 0, 1) := by decide +kernel
theorem d_MD_in_5 : decode c_MD_in 5 = .ok (.iload_n 1, 1) := by decide +kernel
theorem d_MD_in_6 : decode c_MD_in 6 = .ok (.if_icmp .gt 7, 3) := by decide +kernel
theorem d_MD_in_9 : decode c_MD_in 9 = .ok (.iconst 1, 1) := by decide +kernel
theorem d_MD_in_10 : decode c_MD_in 10 = .ok (.goto 4, 3) := by decide +kernel
theorem d_MD_in_13 : decode c_MD_in 13 = .ok (.iconst 0, 1) := by decide +kernel
theorem d_MD_in_14 : decode c_MD_in 14 = .ok (.ireturn, 1) := by decide +kernel
theorem d_MD_add_0 : decode c_MD_add 0 = .ok (.aload_n 0, 1) := by decide +kernel
theorem d_MD_add_1 : decode c_MD_add 1 = .ok (.getfield 65, 3) := by decide +kernel
theorem d_MD_add_4 : decode c_MD_add 4 = .ok (.iload_n 1, 1) := by decide +kernel
theorem d_MD_add_5 : decode c_MD_add 5 = .ok (.aload_n 0, 1) := by decide +kernel
theorem d_MD_add_6 : decode c_MD_add 6 = .ok (.getfield 65, 3) := by decide +kernel
theorem d_MD_add_9 : decode c_MD_add 9 = .ok (.iload_n 1, 1) := by decide +kernel
theorem d_MD_add_10 : decode c_MD_add 10 = .ok (.iaload, 1) := by decide +kernel
theorem d_MD_add_11 : decode c_MD_add 11 = .ok (.iconst 1, 1) := by decide +kernel
theorem d_MD_add_12 : decode c_MD_add 12 = .ok (.iadd, 1) := by decide +kernel
theorem d_MD_add_13 : decode c_MD_add 13 = .ok (.iastore, 1) := by decide +kernel
theorem d_MD_add_14 : decode c_MD_add 14 = .ok (.return_, 1) := by decide +kernel
theorem d_MD_rule_0 : decode c_MD_rule 0 = .ok (.iload_n 2, 1) := by decide +kernel
theorem d_MD_rule_1 : decode c_MD_rule 1 = .ok (.bipush 15, 2) := by decide +kernel
theorem d_MD_rule_3 : decode c_MD_rule 3 = .ok (.invokestatic 68, 3) := by decide +kernel
theorem d_MD_rule_6 : decode c_MD_rule 6 = .ok (.ifCond .eq 21, 3) := by decide +kernel
theorem d_MD_rule_9 : decode c_MD_rule 9 = .ok (.iload_n 3, 1) := by decide +kernel
theorem d_MD_rule_10 : decode c_MD_rule 10 = .ok (.bipush 15, 2) := by decide +kernel
theorem d_MD_rule_12 : decode c_MD_rule 12 = .ok (.invokestatic 68, 3) := by decide +kernel
theorem d_MD_rule_15 : decode c_MD_rule 15 = .ok (.ifCond .eq 12, 3) := by decide +kernel
theorem d_MD_rule_18 : decode c_MD_rule 18 = .ok (.aload_n 0, 1) := by decide +kernel
theorem d_MD_rule_19 : decode c_MD_rule 19 = .ok (.getfield 72, 3) := by decide +kernel
theorem d_MD_rule_22 : decode c_MD_rule 22 = .ok (.bipush 6, 2) := by decide +kernel
theorem d_MD_rule_24 : decode c_MD_rule 24 = .ok (.if_icmp .lt 5, 3) := by decide +kernel
theorem d_MD_rule_27 : decode c_MD_rule 27 = .ok (.iconst 0, 1) := by decide +kernel
theorem d_MD_rule_28 : decode c_MD_rule 28 = .ok (.ireturn, 1) := by decide +kernel
theorem d_MD_rule_29 : decode c_MD_rule 29 = .ok (.aload_n 0, 1) := by decide +kernel
theorem d_MD_rule_30 : decode c_MD_rule 30 = .ok (.getfield 23, 3) := by decide +kernel
theorem d_MD_rule_33 : decode c_MD_rule 33 = .ok (.aload_n 0, 1) := by decide +kernel
theorem d_MD_rule_34 : decode c_MD_rule 34 = .ok (.getfield 72, 3) := by decide +kernel
theorem d_MD_rule_37 : decode c_MD_rule 37 = .ok (.iload_n 1, 1) := by decide +kernel
theorem d_MD_rule_38 : decode c_MD_rule 38 = .ok (.bastore, 1) := by decide +kernel
theorem d_MD_rule_39 : decode c_MD_rule 39 = .ok (.aload_n 0, 1) := by decide +kernel
theorem d_MD_rule_40 : decode c_MD_rule 40 = .ok (.getfield 26, 3) := by decide +kernel
theorem d_MD_rule_43 : decode c_MD_rule 43 = .ok (.aload_n 0, 1) := by decide +kernel
theorem d_MD_rule_44 : decode c_MD_rule 44 = .ok (.getfield 72, 3) := by decide +kernel
theorem d_MD_rule_47 : decode c_MD_rule 47 = .ok (.iload_n 2, 1) := by decide +kernel
theorem d_MD_rule_48 : decode c_MD_rule 48 = .ok (.iastore, 1) := by decide +kernel
theorem d_MD_rule_49 : decode c_MD_rule 49 = .ok (.aload_n 0, 1) := by decide +kernel
theorem d_MD_rule_50 : decode c_MD_rule 50 = .ok (.getfield 29, 3) := by decide +kernel
theorem d_MD_rule_53 : decode c_MD_rule 53 = .ok (.aload_n 0, 1) := by decide +kernel
theorem d_MD_rule_54 : decode c_MD_rule 54 = .ok (.getfield 72, 3) := by decide +kernel
theorem d_MD_rule_57 : decode c_MD_rule 57 = .ok (.iload_n 3, 1) := by decide +kernel
theorem d_MD_rule_58 : decode c_MD_rule 58 = .ok (.iastore, 1) := by decide +kernel
theorem d_MD_rule_59 : decode c_MD_rule 59 = .ok (.aload_n 0, 1) := by decide +kernel
theorem d_MD_rule_60 : decode c_MD_rule 60 = .ok (.aload_n 0, 1) := by decide +kernel
theorem d_MD_rule_61 : decode c_MD_rule 61 = .ok (.getfield 72, 3) := by decide +kernel
theorem d_MD_rule_64 : decode c_MD_rule 64 = .ok (.iconst 1, 1) := by decide +kernel
theorem d_MD_rule_65 : decode c_MD_rule 65 = .ok (.iadd, 1) := by decide +kernel
theorem d_MD_rule_66 : decode c_MD_rule 66 = .ok (.putfield 72, 3) := by decide +kernel
theorem d_MD_rule_69 : decode c_MD_rule 69 = .ok (.iconst 1, 1) := by decide +kernel
theorem d_MD_rule_70 : decode c_MD_rule 70 = .ok (.ireturn, 1) := by decide +kernel
theorem d_MD_isSelected_0 : decode c_MD_isSelected 0 = .ok (.iconst 1, 1) := by decide +kernel
theorem d_MD_isSelected_1 : decode c_MD_isSelected 1 = .ok (.istore_n 2, 1) := by decide +kernel
theorem d_MD_isSelected_2 : decode c_MD_isSelected 2 = .ok (.aload_n 0, 1) := by decide +kernel
theorem d_MD_isSelected_3 : decode c_MD_isSelected 3 = .ok (.getfield 72, 3) := by decide +kernel
theorem d_MD_isSelected_6 : decode c_MD_isSelected 6 = .ok (.iconst 1, 1) := by decide +kernel
theorem d_MD_isSelected_7 : decode c_MD_isSelected 7 = .ok (.isub, 1) := by decide +kernel
theorem d_MD_isSelected_8 : decode c_MD_isSelected 8 = .ok (.istore_n 3, 1) := by decide +kernel
theorem d_MD_isSelected_9 : decode c_MD_isSelected 9 = .ok (.iload_n 3, 1) := by decide +kernel
theorem d_MD_isSelected_10 : decode c_MD_isSelected 10 = .ok (.ifCond .lt 37, 3) := by decide +kernel
theorem d_MD_isSelected_13 : decode c_MD_isSelected 13 = .ok (.iload_n 1, 1) := by decide +kernel
theorem d_MD_isSelected_14 : decode c_MD_isSelected 14 = .ok (.aload_n 0, 1) := by decide +kernel
theorem d_MD_isSelected_15 : decode c_MD_isSelected 15 = .ok (.getfield 26, 3) := by decide +kernel
theorem d_MD_isSelected_18 : decode c_MD_isSelected 18 = .ok (.iload_n 3, 1) := by decide +kernel
theorem d_MD_isSelected_19 : decode c_MD_isSelected 19 = .ok (.iaload, 1) := by decide +kernel
theorem d_MD_isSelected_20 : decode c_MD_isSelected 20 = .ok (.iand, 1) := by decide +kernel
theorem d_MD_isSelected_21 : decode c_MD_isSelected 21 = .ok (.aload_n 0, 1) := by decide +kernel
theorem d_MD_isSelected_22 : decode c_MD_isSelected 22 = .ok (.getfield 29, 3) := by decide +kernel
theorem d_MD_isSelected_25 : decode c_MD_isSelected 25 = .ok (.iload_n 3, 1) := by decide +kernel
theorem d_MD_isSelected_26 : decode c_MD_isSelected 26 = .ok (.iaload, 1) := by decide +kernel
theorem d_MD_isSelected_27 : decode c_MD_isSelected 27 = .ok (.if_icmp .ne 12, 3) := by decide +kernel
theorem d_MD_isSelected_30 : decode c_MD_isSelected 30 = .ok (.aload_n 0, 1) := by decide +kernel
theorem d_MD_isSelected_31 : decode c_MD_isSelected 31 = .ok (.getfield 23, 3) := by decide +kernel
theorem d_MD_isSelected_34 : decode c_MD_isSelected 34 = .ok (.iload_n 3, 1) := by decide +kernel
theorem d_MD_isSelected_35 : decode c_MD_isSelected 35 = .ok (.baload, 1) := by decide +kernel
theorem d_MD_isSelected_36 : decode c_MD_isSelected 36 = .ok (.goto 4, 3) := by decide +kernel
theorem d_MD_isSelected_39 : decode c_MD_isSelected 39 = .ok (.iload_n 2, 1) := by decide +kernel
theorem d_MD_isSelected_40 : decode c_MD_isSelected 40 = .ok (.istore_n 2, 1) := by decide +kernel
theorem d_MD_isSelected_41 : decode c_MD_isSelected 41 = .ok (.iinc 3 (-1), 3) := by decide +kernel
theorem d_MD_isSelected_44 : decode c_MD_isSelected 44 = .ok (.goto (-35), 3) := by decide +kernel
theorem d_MD_isSelected_47 : decode c_MD_isSelected 47 = .ok (.iload_n 2, 1) := by decide +kernel
theorem d_MD_isSelected_48 : decode c_MD_isSelected 48 = .ok (.ireturn, 1) := by decide +kernel
theorem d_MD_selected_0 : decode c_MD_selected 0 = .ok (.iload_n 1, 1) := by decide +kernel
theorem d_MD_selected_1 : decode c_MD_selected 1 = .ok (.bipush 11, 2) := by decide +kernel
theorem d_MD_selected_3 : decode c_MD_selected 3 = .ok (.invokestatic 68, 3) := by decide +kernel
theorem d_MD_selected_6 : decode c_MD_selected 6 = .ok (.ifCond .eq 15, 3) := by decide +kernel
theorem d_MD_selected_9 : decode c_MD_selected 9 = .ok (.aload_n 0, 1) := by decide +kernel
theorem d_MD_selected_10 : decode c_MD_selected 10 = .ok (.iload_n 1, 1) := by decide +kernel
theorem d_MD_selected_11 : decode c_MD_selected 11 = .ok (.invokevirtual 76, 3) := by decide +kernel
theorem d_MD_selected_14 : decode c_MD_selected 14 = .ok (.ifCond .eq 7, 3) := by decide +kernel
theorem d_MD_selected_17 : decode c_MD_selected 17 = .ok (.iconst 1, 1) := by decide +kernel
theorem d_MD_selected_18 : decode c_MD_selected 18 = .ok (.goto 4, 3) := by decide +kernel
theorem d_MD_selected_21 : decode c_MD_selected 21 = .ok (.iconst 0, 1) := by decide +kernel
theorem d_MD_selected_22 : decode c_MD_selected 22 = .ok (.ireturn, 1) := by decide +kernel
theorem d_MD_file_0 : decode c_MD_file 0 = .ok (.iload_n 1, 1) := by decide +kernel
theorem d_MD_file_1 : decode c_MD_file 1 = .ok (.iconst 1, 1) := by decide +kernel
theorem d_MD_file_2 : decode c_MD_file 2 = .ok (.invokestatic 68, 3) := by decide +kernel
theorem d_MD_file_5 : decode c_MD_file 5 = .ok (.ifCond .eq 35, 3) := by decide +kernel
theorem d_MD_file_8 : decode c_MD_file 8 = .ok (.iload_n 2, 1) := by decide +kernel
theorem d_MD_file_9 : decode c_MD_file 9 = .ok (.bipush 11, 2) := by decide +kernel
theorem d_MD_file_11 : decode c_MD_file 11 = .ok (.invokestatic 68, 3) := by decide +kernel
theorem d_MD_file_14 : decode c_MD_file 14 = .ok (.ifCond .eq 26, 3) := by decide +kernel
theorem d_MD_file_17 : decode c_MD_file 17 = .ok (.aload_n 0, 1) := by decide +kernel
theorem d_MD_file_18 : decode c_MD_file 18 = .ok (.getfield 7, 3) := by decide +kernel
theorem d_MD_file_21 : decode c_MD_file 21 = .ok (.bipush 12, 2) := by decide +kernel
theorem d_MD_file_23 : decode c_MD_file 23 = .ok (.iload_n 1, 1) := by decide +kernel
theorem d_MD_file_24 : decode c_MD_file 24 = .ok (.imul, 1) := by decide +kernel
theorem d_MD_file_25 : decode c_MD_file 25 = .ok (.iload_n 2, 1) := by decide +kernel
theorem d_MD_file_26 : decode c_MD_file 26 = .ok (.iadd, 1) := by decide +kernel
theorem d_MD_file_27 : decode c_MD_file 27 = .ok (.baload, 1) := by decide +kernel
theorem d_MD_file_28 : decode c_MD_file 28 = .ok (.ifCond .eq 12, 3) := by decide +kernel
theorem d_MD_file_31 : decode c_MD_file 31 = .ok (.bipush 12, 2) := by decide +kernel
theorem d_MD_file_33 : decode c_MD_file 33 = .ok (.iload_n 1, 1) := by decide +kernel
theorem d_MD_file_34 : decode c_MD_file 34 = .ok (.imul, 1) := by decide +kernel
theorem d_MD_file_35 : decode c_MD_file 35 = .ok (.iload_n 2, 1) := by decide +kernel
theorem d_MD_file_36 : decode c_MD_file 36 = .ok (.iadd, 1) := by decide +kernel
theorem d_MD_file_37 : decode c_MD_file 37 = .ok (.goto 4, 3) := by decide +kernel
theorem d_MD_file_40 : decode c_MD_file 40 = .ok (.iconst (-1), 1) := by decide +kernel
theorem d_MD_file_41 : decode c_MD_file 41 = .ok (.ireturn, 1) := by decide +kernel
theorem d_MD_touch_0 : decode c_MD_touch 0 = .ok (.aload_n 0, 1) := by decide +kernel
theorem d_MD_touch_1 : decode c_MD_touch 1 = .ok (.aload_n 0, 1) := by decide +kernel
theorem d_MD_touch_2 : decode c_MD_touch 2 = .ok (.getfield 80, 3) := by decide +kernel
theorem d_MD_touch_5 : decode c_MD_touch 5 = .ok (.iconst 1, 1) := by decide +kernel
theorem d_MD_touch_6 : decode c_MD_touch 6 = .ok (.iadd, 1) := by decide +kernel
theorem d_MD_touch_7 : decode c_MD_touch 7 = .ok (.putfield 80, 3) := by decide +kernel
theorem d_MD_touch_10 : decode c_MD_touch 10 = .ok (.aload_n 0, 1) := by decide +kernel
theorem d_MD_touch_11 : decode c_MD_touch 11 = .ok (.getfield 17, 3) := by decide +kernel
theorem d_MD_touch_14 : decode c_MD_touch 14 = .ok (.iload_n 1, 1) := by decide +kernel
theorem d_MD_touch_15 : decode c_MD_touch 15 = .ok (.aload_n 0, 1) := by decide +kernel
theorem d_MD_touch_16 : decode c_MD_touch 16 = .ok (.getfield 80, 3) := by decide +kernel
theorem d_MD_touch_19 : decode c_MD_touch 19 = .ok (.iastore, 1) := by decide +kernel
theorem d_MD_touch_20 : decode c_MD_touch 20 = .ok (.return_, 1) := by decide +kernel
theorem d_MD_put_0 : decode c_MD_put 0 = .ok (.iload_n 1, 1) := by decide +kernel
theorem d_MD_put_1 : decode c_MD_put 1 = .ok (.iconst 1, 1) := by decide +kernel
theorem d_MD_put_2 : decode c_MD_put 2 = .ok (.invokestatic 68, 3) := by decide +kernel
theorem d_MD_put_5 : decode c_MD_put 5 = .ok (.ifCond .eq 22, 3) := by decide +kernel
theorem d_MD_put_8 : decode c_MD_put 8 = .ok (.iload_n 2, 1) := by decide +kernel
theorem d_MD_put_9 : decode c_MD_put 9 = .ok (.bipush 11, 2) := by decide +kernel
theorem d_MD_put_11 : decode c_MD_put 11 = .ok (.invokestatic 68, 3) := by decide +kernel
theorem d_MD_put_14 : decode c_MD_put 14 = .ok (.ifCond .eq 13, 3) := by decide +kernel
theorem d_MD_put_17 : decode c_MD_put 17 = .ok (.iload_n 3, 1) := by decide +kernel
theorem d_MD_put_18 : decode c_MD_put 18 = .ok (.sipush 255, 3) := by decide +kernel
theorem d_MD_put_21 : decode c_MD_put 21 = .ok (.invokestatic 68, 3) := by decide +kernel
theorem d_MD_put_24 : decode c_MD_put 24 = .ok (.ifCond .ne 5, 3) := by decide +kernel
theorem d_MD_put_27 : decode c_MD_put 27 = .ok (.iconst 0, 1) := by decide +kernel
theorem d_MD_put_28 : decode c_MD_put 28 = .ok (.ireturn, 1) := by decide +kernel
theorem d_MD_put_29 : decode c_MD_put 29 = .ok (.bipush 12, 2) := by decide +kernel
theorem d_MD_put_31 : decode c_MD_put 31 = .ok (.iload_n 1, 1) := by decide +kernel
theorem d_MD_put_32 : decode c_MD_put 32 = .ok (.imul, 1) := by decide +kernel
theorem d_MD_put_33 : decode c_MD_put 33 = .ok (.iload_n 2, 1) := by decide +kernel
theorem d_MD_put_34 : decode c_MD_put 34 = .ok (.iadd, 1) := by decide +kernel
theorem d_MD_put_35 : decode c_MD_put 35 = .ok (.istore 4, 2) := by decide +kernel
theorem d_MD_put_37 : decode c_MD_put 37 = .ok (.aload_n 0, 1) := by decide +kernel
theorem d_MD_put_38 : decode c_MD_put 38 = .ok (.getfield 7, 3) := by decide +kernel
theorem d_MD_put_41 : decode c_MD_put 41 = .ok (.iload 4, 2) := by decide +kernel
theorem d_MD_put_43 : decode c_MD_put 43 = .ok (.baload, 1) := by decide +kernel
theorem d_MD_put_44 : decode c_MD_put 44 = .ok (.ifCond .eq 13, 3) := by decide +kernel
theorem d_MD_put_47 : decode c_MD_put 47 = .ok (.aload_n 0, 1) := by decide +kernel
theorem d_MD_put_48 : decode c_MD_put 48 = .ok (.getfield 13, 3) := by decide +kernel
theorem d_MD_put_51 : decode c_MD_put 51 = .ok (.iload 4, 2) := by decide +kernel
theorem d_MD_put_53 : decode c_MD_put 53 = .ok (.iaload, 1) := by decide +kernel
theorem d_MD_put_54 : decode c_MD_put 54 = .ok (.goto 4, 3) := by decide +kernel
theorem d_MD_put_57 : decode c_MD_put 57 = .ok (.iconst 0, 1) := by decide +kernel
theorem d_MD_put_58 : decode c_MD_put 58 = .ok (.istore 5, 2) := by decide +kernel
theorem d_MD_put_60 : decode c_MD_put 60 = .ok (.iload 5, 2) := by decide +kernel
theorem d_MD_put_62 : decode c_MD_put 62 = .ok (.bipush 40, 2) := by decide +kernel
theorem d_MD_put_64 : decode c_MD_put 64 = .ok (.if_icmp .lt 5, 3) := by decide +kernel
theorem d_MD_put_67 : decode c_MD_put 67 = .ok (.iconst 0, 1) := by decide +kernel
theorem d_MD_put_68 : decode c_MD_put 68 = .ok (.ireturn, 1) := by decide +kernel
theorem d_MD_put_69 : decode c_MD_put 69 = .ok (.aload_n 0, 1) := by decide +kernel
theorem d_MD_put_70 : decode c_MD_put 70 = .ok (.getfield 7, 3) := by decide +kernel
theorem d_MD_put_73 : decode c_MD_put 73 = .ok (.iload 4, 2) := by decide +kernel
theorem d_MD_put_75 : decode c_MD_put 75 = .ok (.iconst 1, 1) := by decide +kernel
theorem d_MD_put_76 : decode c_MD_put 76 = .ok (.bastore, 1) := by decide +kernel
theorem d_MD_put_77 : decode c_MD_put 77 = .ok (.aload_n 0, 1) := by decide +kernel
theorem d_MD_put_78 : decode c_MD_put 78 = .ok (.getfield 20, 3) := by decide +kernel
theorem d_MD_put_81 : decode c_MD_put 81 = .ok (.bipush 40, 2) := by decide +kernel
theorem d_MD_put_83 : decode c_MD_put 83 = .ok (.iload 4, 2) := by decide +kernel
theorem d_MD_put_85 : decode c_MD_put 85 = .ok (.imul, 1) := by decide +kernel
theorem d_MD_put_86 : decode c_MD_put 86 = .ok (.iload 5, 2) := by decide +kernel
theorem d_MD_put_88 : decode c_MD_put 88 = .ok (.iadd, 1) := by decide +kernel
theorem d_MD_put_89 : decode c_MD_put 89 = .ok (.iload_n 3, 1) := by decide +kernel
theorem d_MD_put_90 : decode c_MD_put 90 = .ok (.iastore, 1) := by decide +kernel
theorem d_MD_put_91 : decode c_MD_put 91 = .ok (.aload_n 0, 1) := by decide +kernel
theorem d_MD_put_92 : decode c_MD_put 92 = .ok (.getfield 13, 3) := by decide +kernel
theorem d_MD_put_95 : decode c_MD_put 95 = .ok (.iload 4, 2) := by decide +kernel
theorem d_MD_put_97 : decode c_MD_put 97 = .ok (.iload 5, 2) := by decide +kernel
theorem d_MD_put_99 : decode c_MD_put 99 = .ok (.iconst 1, 1) := by decide +kernel
theorem d_MD_put_100 : decode c_MD_put 100 = .ok (.iadd, 1) := by decide +kernel
theorem d_MD_put_101 : decode c_MD_put 101 = .ok (.iastore, 1) := by decide +kernel
theorem d_MD_put_102 : decode c_MD_put 102 = .ok (.aload_n 0, 1) := by decide +kernel
theorem d_MD_put_103 : decode c_MD_put 103 = .ok (.iload 4, 2) := by decide +kernel
theorem d_MD_put_105 : decode c_MD_put 105 = .ok (.invokevirtual 83, 3) := by decide +kernel
theorem d_MD_put_108 : decode c_MD_put 108 = .ok (.iconst 1, 1) := by decide +kernel
theorem d_MD_put_109 : decode c_MD_put 109 = .ok (.ireturn, 1) := by decide +kernel
theorem d_MD_set_0 : decode c_MD_set 0 = .ok (.aload_n 0, 1) := by decide +kernel
theorem d_MD_set_1 : decode c_MD_set 1 = .ok (.iload_n 1, 1) := by decide +kernel
theorem d_MD_set_2 : decode c_MD_set 2 = .ok (.iload_n 2, 1) := by decide +kernel
theorem d_MD_set_3 : decode c_MD_set 3 = .ok (.invokevirtual 87, 3) := by decide +kernel
theorem d_MD_set_6 : decode c_MD_set 6 = .ok (.istore 5, 2) := by decide +kernel
theorem d_MD_set_8 : decode c_MD_set 8 = .ok (.iload 5, 2) := by decide +kernel
theorem d_MD_set_10 : decode c_MD_set 10 = .ok (.ifCond .lt 30, 3) := by decide +kernel
theorem d_MD_set_13 : decode c_MD_set 13 = .ok (.iload_n 3, 1) := by decide +kernel
theorem d_MD_set_14 : decode c_MD_set 14 = .ok (.aload_n 0, 1) := by decide +kernel
theorem d_MD_set_15 : decode c_MD_set 15 = .ok (.getfield 13, 3) := by decide +kernel
theorem d_MD_set_18 : decode c_MD_set 18 = .ok (.iload 5, 2) := by decide +kernel
theorem d_MD_set_20 : decode c_MD_set 20 = .ok (.iaload, 1) := by decide +kernel
theorem d_MD_set_21 : decode c_MD_set 21 = .ok (.iconst 1, 1) := by decide +kernel
theorem d_MD_set_22 : decode c_MD_set 22 = .ok (.isub, 1) := by decide +kernel
theorem d_MD_set_23 : decode c_MD_set 23 = .ok (.invokestatic 68, 3) := by decide +kernel
theorem d_MD_set_26 : decode c_MD_set 26 = .ok (.ifCond .eq 14, 3) := by decide +kernel
theorem d_MD_set_29 : decode c_MD_set 29 = .ok (.iload 4, 2) := by decide +kernel
theorem d_MD_set_31 : decode c_MD_set 31 = .ok (.sipush 255, 3) := by decide +kernel
theorem d_MD_set_34 : decode c_MD_set 34 = .ok (.invokestatic 68, 3) := by decide +kernel
theorem d_MD_set_37 : decode c_MD_set 37 = .ok (.ifCond .ne 5, 3) := by decide +kernel
theorem d_MD_set_40 : decode c_MD_set 40 = .ok (.iconst 0, 1) := by decide +kernel
theorem d_MD_set_41 : decode c_MD_set 41 = .ok (.ireturn, 1) := by decide +kernel
theorem d_MD_set_42 : decode c_MD_set 42 = .ok (.aload_n 0, 1) := by decide +kernel
theorem d_MD_set_43 : decode c_MD_set 43 = .ok (.getfield 20, 3) := by decide +kernel
theorem d_MD_set_46 : decode c_MD_set 46 = .ok (.bipush 40, 2) := by decide +kernel
theorem d_MD_set_48 : decode c_MD_set 48 = .ok (.iload 5, 2) := by decide +kernel
theorem d_MD_set_50 : decode c_MD_set 50 = .ok (.imul, 1) := by decide +kernel
theorem d_MD_set_51 : decode c_MD_set 51 = .ok (.iload_n 3, 1) := by decide +kernel
theorem d_MD_set_52 : decode c_MD_set 52 = .ok (.iadd, 1) := by decide +kernel
theorem d_MD_set_53 : decode c_MD_set 53 = .ok (.iload 4, 2) := by decide +kernel
theorem d_MD_set_55 : decode c_MD_set 55 = .ok (.iastore, 1) := by decide +kernel
theorem d_MD_set_56 : decode c_MD_set 56 = .ok (.aload_n 0, 1) := by decide +kernel
theorem d_MD_set_57 : decode c_MD_set 57 = .ok (.iload 5, 2) := by decide +kernel
theorem d_MD_set_59 : decode c_MD_set 59 = .ok (.invokevirtual 83, 3) := by decide +kernel
theorem d_MD_set_62 : decode c_MD_set 62 = .ok (.iconst 1, 1) := by decide +kernel
theorem d_MD_set_63 : decode c_MD_set 63 = .ok (.ireturn, 1) := by decide +kernel
theorem d_MD_remove_0 : decode c_MD_remove 0 = .ok (.aload_n 0, 1) := by decide +kernel
theorem d_MD_remove_1 : decode c_MD_remove 1 = .ok (.iload_n 1, 1) := by decide +kernel
theorem d_MD_remove_2 : decode c_MD_remove 2 = .ok (.iload_n 2, 1) := by decide +kernel
theorem d_MD_remove_3 : decode c_MD_remove 3 = .ok (.invokevirtual 87, 3) := by decide +kernel
theorem d_MD_remove_6 : decode c_MD_remove 6 = .ok (.istore_n 3, 1) := by decide +kernel
theorem d_MD_remove_7 : decode c_MD_remove 7 = .ok (.iload_n 3, 1) := by decide +kernel
theorem d_MD_remove_8 : decode c_MD_remove 8 = .ok (.ifCond .ge 5, 3) := by decide +kernel
theorem d_MD_remove_11 : decode c_MD_remove 11 = .ok (.iconst 0, 1) := by decide +kernel
theorem d_MD_remove_12 : decode c_MD_remove 12 = .ok (.ireturn, 1) := by decide +kernel
theorem d_MD_remove_13 : decode c_MD_remove 13 = .ok (.aload_n 0, 1) := by decide +kernel
theorem d_MD_remove_14 : decode c_MD_remove 14 = .ok (.getfield 7, 3) := by decide +kernel
theorem d_MD_remove_17 : decode c_MD_remove 17 = .ok (.iload_n 3, 1) := by decide +kernel
theorem d_MD_remove_18 : decode c_MD_remove 18 = .ok (.iconst 0, 1) := by decide +kernel
theorem d_MD_remove_19 : decode c_MD_remove 19 = .ok (.bastore, 1) := by decide +kernel
theorem d_MD_remove_20 : decode c_MD_remove 20 = .ok (.aload_n 0, 1) := by decide +kernel
theorem d_MD_remove_21 : decode c_MD_remove 21 = .ok (.aload_n 0, 1) := by decide +kernel
theorem d_MD_remove_22 : decode c_MD_remove 22 = .ok (.getfield 80, 3) := by decide +kernel
theorem d_MD_remove_25 : decode c_MD_remove 25 = .ok (.iconst 1, 1) := by decide +kernel
theorem d_MD_remove_26 : decode c_MD_remove 26 = .ok (.iadd, 1) := by decide +kernel
theorem d_MD_remove_27 : decode c_MD_remove 27 = .ok (.putfield 80, 3) := by decide +kernel
theorem d_MD_remove_30 : decode c_MD_remove 30 = .ok (.iconst 1, 1) := by decide +kernel
theorem d_MD_remove_31 : decode c_MD_remove 31 = .ok (.ireturn, 1) := by decide +kernel
theorem d_MD_size_0 : decode c_MD_size 0 = .ok (.aload_n 0, 1) := by decide +kernel
theorem d_MD_size_1 : decode c_MD_size 1 = .ok (.iload_n 1, 1) := by decide +kernel
theorem d_MD_size_2 : decode c_MD_size 2 = .ok (.iload_n 2, 1) := by decide +kernel
theorem d_MD_size_3 : decode c_MD_size 3 = .ok (.invokevirtual 87, 3) := by decide +kernel
theorem d_MD_size_6 : decode c_MD_size 6 = .ok (.istore_n 3, 1) := by decide +kernel
theorem d_MD_size_7 : decode c_MD_size 7 = .ok (.iload_n 3, 1) := by decide +kernel
theorem d_MD_size_8 : decode c_MD_size 8 = .ok (.ifCond .ge 7, 3) := by decide +kernel
theorem d_MD_size_11 : decode c_MD_size 11 = .ok (.iconst (-1), 1) := by decide +kernel
theorem d_MD_size_12 : decode c_MD_size 12 = .ok (.goto 9, 3) := by decide +kernel
theorem d_MD_size_15 : decode c_MD_size 15 = .ok (.aload_n 0, 1) := by decide +kernel
theorem d_MD_size_16 : decode c_MD_size 16 = .ok (.getfield 13, 3) := by decide +kernel
theorem d_MD_size_19 : decode c_MD_size 19 = .ok (.iload_n 3, 1) := by decide +kernel
theorem d_MD_size_20 : decode c_MD_size 20 = .ok (.iaload, 1) := by decide +kernel
theorem d_MD_size_21 : decode c_MD_size 21 = .ok (.ireturn, 1) := by decide +kernel
theorem d_MD_at_0 : decode c_MD_at 0 = .ok (.aload_n 0, 1) := by decide +kernel
theorem d_MD_at_1 : decode c_MD_at 1 = .ok (.iload_n 1, 1) := by decide +kernel
theorem d_MD_at_2 : decode c_MD_at 2 = .ok (.iload_n 2, 1) := by decide +kernel
theorem d_MD_at_3 : decode c_MD_at 3 = .ok (.invokevirtual 87, 3) := by decide +kernel
theorem d_MD_at_6 : decode c_MD_at 6 = .ok (.istore 4, 2) := by decide +kernel
theorem d_MD_at_8 : decode c_MD_at 8 = .ok (.iload 4, 2) := by decide +kernel
theorem d_MD_at_10 : decode c_MD_at 10 = .ok (.ifCond .lt 19, 3) := by decide +kernel
theorem d_MD_at_13 : decode c_MD_at 13 = .ok (.iload_n 3, 1) := by decide +kernel
theorem d_MD_at_14 : decode c_MD_at 14 = .ok (.aload_n 0, 1) := by decide +kernel
theorem d_MD_at_15 : decode c_MD_at 15 = .ok (.getfield 13, 3) := by decide +kernel
theorem d_MD_at_18 : decode c_MD_at 18 = .ok (.iload 4, 2) := by decide +kernel
theorem d_MD_at_20 : decode c_MD_at 20 = .ok (.iaload, 1) := by decide +kernel
theorem d_MD_at_21 : decode c_MD_at 21 = .ok (.iconst 1, 1) := by decide +kernel
theorem d_MD_at_22 : decode c_MD_at 22 = .ok (.isub, 1) := by decide +kernel
theorem d_MD_at_23 : decode c_MD_at 23 = .ok (.invokestatic 68, 3) := by decide +kernel
theorem d_MD_at_26 : decode c_MD_at 26 = .ok (.ifCond .ne 7, 3) := by decide +kernel
theorem d_MD_at_29 : decode c_MD_at 29 = .ok (.iconst (-1), 1) := by decide +kernel
theorem d_MD_at_30 : decode c_MD_at 30 = .ok (.goto 15, 3) := by decide +kernel
theorem d_MD_at_33 : decode c_MD_at 33 = .ok (.aload_n 0, 1) := by decide +kernel
theorem d_MD_at_34 : decode c_MD_at 34 = .ok (.getfield 20, 3) := by decide +kernel
theorem d_MD_at_37 : decode c_MD_at 37 = .ok (.bipush 40, 2) := by decide +kernel
theorem d_MD_at_39 : decode c_MD_at 39 = .ok (.iload 4, 2) := by decide +kernel
theorem d_MD_at_41 : decode c_MD_at 41 = .ok (.imul, 1) := by decide +kernel
theorem d_MD_at_42 : decode c_MD_at 42 = .ok (.iload_n 3, 1) := by decide +kernel
theorem d_MD_at_43 : decode c_MD_at 43 = .ok (.iadd, 1) := by decide +kernel
theorem d_MD_at_44 : decode c_MD_at 44 = .ok (.iaload, 1) := by decide +kernel
theorem d_MD_at_45 : decode c_MD_at 45 = .ok (.ireturn, 1) := by decide +kernel
theorem d_MD_time_0 : decode c_MD_time 0 = .ok (.aload_n 0, 1) := by decide +kernel
theorem d_MD_time_1 : decode c_MD_time 1 = .ok (.iload_n 1, 1) := by decide +kernel
theorem d_MD_time_2 : decode c_MD_time 2 = .ok (.iload_n 2, 1) := by decide +kernel
theorem d_MD_time_3 : decode c_MD_time 3 = .ok (.invokevirtual 87, 3) := by decide +kernel
theorem d_MD_time_6 : decode c_MD_time 6 = .ok (.istore_n 3, 1) := by decide +kernel
theorem d_MD_time_7 : decode c_MD_time 7 = .ok (.iload_n 3, 1) := by decide +kernel
theorem d_MD_time_8 : decode c_MD_time 8 = .ok (.ifCond .ge 7, 3) := by decide +kernel
theorem d_MD_time_11 : decode c_MD_time 11 = .ok (.iconst (-1), 1) := by decide +kernel
theorem d_MD_time_12 : decode c_MD_time 12 = .ok (.goto 9, 3) := by decide +kernel
theorem d_MD_time_15 : decode c_MD_time 15 = .ok (.aload_n 0, 1) := by decide +kernel
theorem d_MD_time_16 : decode c_MD_time 16 = .ok (.getfield 17, 3) := by decide +kernel
theorem d_MD_time_19 : decode c_MD_time 19 = .ok (.iload_n 3, 1) := by decide +kernel
theorem d_MD_time_20 : decode c_MD_time 20 = .ok (.iaload, 1) := by decide +kernel
theorem d_MD_time_21 : decode c_MD_time 21 = .ok (.ireturn, 1) := by decide +kernel
theorem d_MD_weak_0 : decode c_MD_weak 0 = .ok (.iconst 0, 1) := by decide +kernel
theorem d_MD_weak_1 : decode c_MD_weak 1 = .ok (.istore_n 3, 1) := by decide +kernel
theorem d_MD_weak_2 : decode c_MD_weak 2 = .ok (.iconst 0, 1) := by decide +kernel
theorem d_MD_weak_3 : decode c_MD_weak 3 = .ok (.istore 4, 2) := by decide +kernel
theorem d_MD_weak_5 : decode c_MD_weak 5 = .ok (.iconst 0, 1) := by decide +kernel
theorem d_MD_weak_6 : decode c_MD_weak 6 = .ok (.istore 5, 2) := by decide +kernel
theorem d_MD_weak_8 : decode c_MD_weak 8 = .ok (.iload 5, 2) := by decide +kernel
theorem d_MD_weak_10 : decode c_MD_weak 10 = .ok (.iload_n 2, 1) := by decide +kernel
theorem d_MD_weak_11 : decode c_MD_weak 11 = .ok (.if_icmp .ge 40, 3) := by decide +kernel
theorem d_MD_weak_14 : decode c_MD_weak 14 = .ok (.iload_n 3, 1) := by decide +kernel
theorem d_MD_weak_15 : decode c_MD_weak 15 = .ok (.aload_n 0, 1) := by decide +kernel
theorem d_MD_weak_16 : decode c_MD_weak 16 = .ok (.getfield 20, 3) := by decide +kernel
theorem d_MD_weak_19 : decode c_MD_weak 19 = .ok (.iload_n 1, 1) := by decide +kernel
theorem d_MD_weak_20 : decode c_MD_weak 20 = .ok (.iload 5, 2) := by decide +kernel
theorem d_MD_weak_22 : decode c_MD_weak 22 = .ok (.iadd, 1) := by decide +kernel
theorem d_MD_weak_23 : decode c_MD_weak 23 = .ok (.iaload, 1) := by decide +kernel
theorem d_MD_weak_24 : decode c_MD_weak 24 = .ok (.iadd, 1) := by decide +kernel
theorem d_MD_weak_25 : decode c_MD_weak 25 = .ok (.istore_n 3, 1) := by decide +kernel
theorem d_MD_weak_26 : decode c_MD_weak 26 = .ok (.iload 4, 2) := by decide +kernel
theorem d_MD_weak_28 : decode c_MD_weak 28 = .ok (.iload_n 2, 1) := by decide +kernel
theorem d_MD_weak_29 : decode c_MD_weak 29 = .ok (.iload 5, 2) := by decide +kernel
theorem d_MD_weak_31 : decode c_MD_weak 31 = .ok (.isub, 1) := by decide +kernel
theorem d_MD_weak_32 : decode c_MD_weak 32 = .ok (.aload_n 0, 1) := by decide +kernel
theorem d_MD_weak_33 : decode c_MD_weak 33 = .ok (.getfield 20, 3) := by decide +kernel
theorem d_MD_weak_36 : decode c_MD_weak 36 = .ok (.iload_n 1, 1) := by decide +kernel
theorem d_MD_weak_37 : decode c_MD_weak 37 = .ok (.iload 5, 2) := by decide +kernel
theorem d_MD_weak_39 : decode c_MD_weak 39 = .ok (.iadd, 1) := by decide +kernel
theorem d_MD_weak_40 : decode c_MD_weak 40 = .ok (.iaload, 1) := by decide +kernel
theorem d_MD_weak_41 : decode c_MD_weak 41 = .ok (.imul, 1) := by decide +kernel
theorem d_MD_weak_42 : decode c_MD_weak 42 = .ok (.iadd, 1) := by decide +kernel
theorem d_MD_weak_43 : decode c_MD_weak 43 = .ok (.istore 4, 2) := by decide +kernel
theorem d_MD_weak_45 : decode c_MD_weak 45 = .ok (.iinc 5 1, 3) := by decide +kernel
theorem d_MD_weak_48 : decode c_MD_weak 48 = .ok (.goto (-40), 3) := by decide +kernel
theorem d_MD_weak_51 : decode c_MD_weak 51 = .ok (.iload_n 3, 1) := by decide +kernel
theorem d_MD_weak_52 : decode c_MD_weak 52 = .ok (.bipush 16, 2) := by decide +kernel
theorem d_MD_weak_54 : decode c_MD_weak 54 = .ok (.irem, 1) := by decide +kernel
theorem d_MD_weak_55 : decode c_MD_weak 55 = .ok (.bipush 16, 2) := by decide +kernel
theorem d_MD_weak_57 : decode c_MD_weak 57 = .ok (.iload 4, 2) := by decide +kernel
theorem d_MD_weak_59 : decode c_MD_weak 59 = .ok (.bipush 16, 2) := by decide +kernel
theorem d_MD_weak_61 : decode c_MD_weak 61 = .ok (.irem, 1) := by decide +kernel
theorem d_MD_weak_62 : decode c_MD_weak 62 = .ok (.imul, 1) := by decide +kernel
theorem d_MD_weak_63 : decode c_MD_weak 63 = .ok (.iadd, 1) := by decide +kernel
theorem d_MD_weak_64 : decode c_MD_weak 64 = .ok (.ireturn, 1) := by decide +kernel
theorem d_MD_strong_0 : decode c_MD_strong 0 = .ok (.iconst 0, 1) := by decide +kernel
theorem d_MD_strong_1 : decode c_MD_strong 1 = .ok (.istore 4, 2) := by decide +kernel
theorem d_MD_strong_3 : decode c_MD_strong 3 = .ok (.iconst 0, 1) := by decide +kernel
theorem d_MD_strong_4 : decode c_MD_strong 4 = .ok (.istore 5, 2) := by decide +kernel
theorem d_MD_strong_6 : decode c_MD_strong 6 = .ok (.iload 5, 2) := by decide +kernel
theorem d_MD_strong_8 : decode c_MD_strong 8 = .ok (.iload_n 2, 1) := by decide +kernel
theorem d_MD_strong_9 : decode c_MD_strong 9 = .ok (.if_icmp .ge 31, 3) := by decide +kernel
theorem d_MD_strong_12 : decode c_MD_strong 12 = .ok (.iload 4, 2) := by decide +kernel
theorem d_MD_strong_14 : decode c_MD_strong 14 = .ok (.bipush 31, 2) := by decide +kernel
theorem d_MD_strong_16 : decode c_MD_strong 16 = .ok (.imul, 1) := by decide +kernel
theorem d_MD_strong_17 : decode c_MD_strong 17 = .ok (.aload_n 0, 1) := by decide +kernel
theorem d_MD_strong_18 : decode c_MD_strong 18 = .ok (.getfield 20, 3) := by decide +kernel
theorem d_MD_strong_21 : decode c_MD_strong 21 = .ok (.iload_n 1, 1) := by decide +kernel
theorem d_MD_strong_22 : decode c_MD_strong 22 = .ok (.iload 5, 2) := by decide +kernel
theorem d_MD_strong_24 : decode c_MD_strong 24 = .ok (.iadd, 1) := by decide +kernel
theorem d_MD_strong_25 : decode c_MD_strong 25 = .ok (.iaload, 1) := by decide +kernel
theorem d_MD_strong_26 : decode c_MD_strong 26 = .ok (.iadd, 1) := by decide +kernel
theorem d_MD_strong_27 : decode c_MD_strong 27 = .ok (.iconst 1, 1) := by decide +kernel
theorem d_MD_strong_28 : decode c_MD_strong 28 = .ok (.iadd, 1) := by decide +kernel
theorem d_MD_strong_29 : decode c_MD_strong 29 = .ok (.ldc 91, 2) := by decide +kernel
theorem d_MD_strong_31 : decode c_MD_strong 31 = .ok (.irem, 1) := by decide +kernel
theorem d_MD_strong_32 : decode c_MD_strong 32 = .ok (.istore 4, 2) := by decide +kernel
theorem d_MD_strong_34 : decode c_MD_strong 34 = .ok (.iinc 5 1, 3) := by decide +kernel
theorem d_MD_strong_37 : decode c_MD_strong 37 = .ok (.goto (-31), 3) := by decide +kernel
theorem d_MD_strong_40 : decode c_MD_strong 40 = .ok (.iload_n 3, 1) := by decide +kernel
theorem d_MD_strong_41 : decode c_MD_strong 41 = .ok (.iconst 1, 1) := by decide +kernel
theorem d_MD_strong_42 : decode c_MD_strong 42 = .ok (.if_icmp .ne 10, 3) := by decide +kernel
theorem d_MD_strong_45 : decode c_MD_strong 45 = .ok (.iload 4, 2) := by decide +kernel
theorem d_MD_strong_47 : decode c_MD_strong 47 = .ok (.iconst 4, 1) := by decide +kernel
theorem d_MD_strong_48 : decode c_MD_strong 48 = .ok (.irem, 1) := by decide +kernel
theorem d_MD_strong_49 : decode c_MD_strong 49 = .ok (.goto 5, 3) := by decide +kernel
theorem d_MD_strong_52 : decode c_MD_strong 52 = .ok (.iload 4, 2) := by decide +kernel
theorem d_MD_strong_54 : decode c_MD_strong 54 = .ok (.ireturn, 1) := by decide +kernel
theorem d_MD_message_0 : decode c_MD_message 0 = .ok (.aload_n 0, 1) := by decide +kernel
theorem d_MD_message_1 : decode c_MD_message 1 = .ok (.sipush 1440, 3) := by decide +kernel
theorem d_MD_message_4 : decode c_MD_message 4 = .ok (.iload_n 1, 1) := by decide +kernel
theorem d_MD_message_5 : decode c_MD_message 5 = .ok (.imul, 1) := by decide +kernel
theorem d_MD_message_6 : decode c_MD_message 6 = .ok (.bipush 90, 2) := by decide +kernel
theorem d_MD_message_8 : decode c_MD_message 8 = .ok (.aload_n 0, 1) := by decide +kernel
theorem d_MD_message_9 : decode c_MD_message 9 = .ok (.getfield 44, 3) := by decide +kernel
theorem d_MD_message_12 : decode c_MD_message 12 = .ok (.iload_n 1, 1) := by decide +kernel
theorem d_MD_message_13 : decode c_MD_message 13 = .ok (.iaload, 1) := by decide +kernel
theorem d_MD_message_14 : decode c_MD_message 14 = .ok (.imul, 1) := by decide +kernel
theorem d_MD_message_15 : decode c_MD_message 15 = .ok (.iadd, 1) := by decide +kernel
theorem d_MD_message_16 : decode c_MD_message 16 = .ok (.putfield 92, 3) := by decide +kernel
theorem d_MD_message_19 : decode c_MD_message 19 = .ok (.aload_n 0, 1) := by decide +kernel
theorem d_MD_message_20 : decode c_MD_message 20 = .ok (.getfield 44, 3) := by decide +kernel
theorem d_MD_message_23 : decode c_MD_message 23 = .ok (.iload_n 1, 1) := by decide +kernel
theorem d_MD_message_24 : decode c_MD_message 24 = .ok (.aload_n 0, 1) := by decide +kernel
theorem d_MD_message_25 : decode c_MD_message 25 = .ok (.getfield 44, 3) := by decide +kernel
theorem d_MD_message_28 : decode c_MD_message 28 = .ok (.iload_n 1, 1) := by decide +kernel
theorem d_MD_message_29 : decode c_MD_message 29 = .ok (.iaload, 1) := by decide +kernel
theorem d_MD_message_30 : decode c_MD_message 30 = .ok (.iconst 1, 1) := by decide +kernel
theorem d_MD_message_31 : decode c_MD_message 31 = .ok (.iadd, 1) := by decide +kernel
theorem d_MD_message_32 : decode c_MD_message 32 = .ok (.iastore, 1) := by decide +kernel
theorem d_MD_message_33 : decode c_MD_message 33 = .ok (.aload_n 0, 1) := by decide +kernel
theorem d_MD_message_34 : decode c_MD_message 34 = .ok (.getfield 47, 3) := by decide +kernel
theorem d_MD_message_37 : decode c_MD_message 37 = .ok (.aload_n 0, 1) := by decide +kernel
theorem d_MD_message_38 : decode c_MD_message 38 = .ok (.getfield 92, 3) := by decide +kernel
theorem d_MD_message_41 : decode c_MD_message 41 = .ok (.iload_n 2, 1) := by decide +kernel
theorem d_MD_message_42 : decode c_MD_message 42 = .ok (.iastore, 1) := by decide +kernel
theorem d_MD_message_43 : decode c_MD_message 43 = .ok (.aload_n 0, 1) := by decide +kernel
theorem d_MD_message_44 : decode c_MD_message 44 = .ok (.getfield 47, 3) := by decide +kernel
theorem d_MD_message_47 : decode c_MD_message 47 = .ok (.aload_n 0, 1) := by decide +kernel
theorem d_MD_message_48 : decode c_MD_message 48 = .ok (.getfield 92, 3) := by decide +kernel
theorem d_MD_message_51 : decode c_MD_message 51 = .ok (.iconst 1, 1) := by decide +kernel
theorem d_MD_message_52 : decode c_MD_message 52 = .ok (.iadd, 1) := by decide +kernel
theorem d_MD_message_53 : decode c_MD_message 53 = .ok (.iload_n 3, 1) := by decide +kernel
theorem d_MD_message_54 : decode c_MD_message 54 = .ok (.iastore, 1) := by decide +kernel
theorem d_MD_message_55 : decode c_MD_message 55 = .ok (.aload_n 0, 1) := by decide +kernel
theorem d_MD_message_56 : decode c_MD_message 56 = .ok (.getfield 47, 3) := by decide +kernel
theorem d_MD_message_59 : decode c_MD_message 59 = .ok (.aload_n 0, 1) := by decide +kernel
theorem d_MD_message_60 : decode c_MD_message 60 = .ok (.getfield 92, 3) := by decide +kernel
theorem d_MD_message_63 : decode c_MD_message 63 = .ok (.iconst 2, 1) := by decide +kernel
theorem d_MD_message_64 : decode c_MD_message 64 = .ok (.iadd, 1) := by decide +kernel
theorem d_MD_message_65 : decode c_MD_message 65 = .ok (.iload 4, 2) := by decide +kernel
theorem d_MD_message_67 : decode c_MD_message 67 = .ok (.iastore, 1) := by decide +kernel
theorem d_MD_message_68 : decode c_MD_message 68 = .ok (.aload_n 0, 1) := by decide +kernel
theorem d_MD_message_69 : decode c_MD_message 69 = .ok (.getfield 47, 3) := by decide +kernel
theorem d_MD_message_72 : decode c_MD_message 72 = .ok (.aload_n 0, 1) := by decide +kernel
theorem d_MD_message_73 : decode c_MD_message 73 = .ok (.getfield 92, 3) := by decide +kernel
theorem d_MD_message_76 : decode c_MD_message 76 = .ok (.iconst 3, 1) := by decide +kernel
theorem d_MD_message_77 : decode c_MD_message 77 = .ok (.iadd, 1) := by decide +kernel
theorem d_MD_message_78 : decode c_MD_message 78 = .ok (.iload 5, 2) := by decide +kernel
theorem d_MD_message_80 : decode c_MD_message 80 = .ok (.iastore, 1) := by decide +kernel
theorem d_MD_message_81 : decode c_MD_message 81 = .ok (.aload_n 0, 1) := by decide +kernel
theorem d_MD_message_82 : decode c_MD_message 82 = .ok (.getfield 47, 3) := by decide +kernel
theorem d_MD_message_85 : decode c_MD_message 85 = .ok (.aload_n 0, 1) := by decide +kernel
theorem d_MD_message_86 : decode c_MD_message 86 = .ok (.getfield 92, 3) := by decide +kernel
theorem d_MD_message_89 : decode c_MD_message 89 = .ok (.iconst 4, 1) := by decide +kernel
theorem d_MD_message_90 : decode c_MD_message 90 = .ok (.iadd, 1) := by decide +kernel
theorem d_MD_message_91 : decode c_MD_message 91 = .ok (.iload 6, 2) := by decide +kernel
theorem d_MD_message_93 : decode c_MD_message 93 = .ok (.iastore, 1) := by decide +kernel
theorem d_MD_message_94 : decode c_MD_message 94 = .ok (.aload_n 0, 1) := by decide +kernel
theorem d_MD_message_95 : decode c_MD_message 95 = .ok (.getfield 47, 3) := by decide +kernel
theorem d_MD_message_98 : decode c_MD_message 98 = .ok (.aload_n 0, 1) := by decide +kernel
theorem d_MD_message_99 : decode c_MD_message 99 = .ok (.getfield 92, 3) := by decide +kernel
theorem d_MD_message_102 : decode c_MD_message 102 = .ok (.iconst 5, 1) := by decide +kernel
theorem d_MD_message_103 : decode c_MD_message 103 = .ok (.iadd, 1) := by decide +kernel
theorem d_MD_message_104 : decode c_MD_message 104 = .ok (.iconst 0, 1) := by decide +kernel
theorem d_MD_message_105 : decode c_MD_message 105 = .ok (.iastore, 1) := by decide +kernel
theorem d_MD_message_106 : decode c_MD_message 106 = .ok (.return_, 1) := by decide +kernel
theorem d_MD_more_0 : decode c_MD_more 0 = .ok (.aload_n 0, 1) := by decide +kernel
theorem d_MD_more_1 : decode c_MD_more 1 = .ok (.getfield 47, 3) := by decide +kernel
theorem d_MD_more_4 : decode c_MD_more 4 = .ok (.aload_n 0, 1) := by decide +kernel
theorem d_MD_more_5 : decode c_MD_more 5 = .ok (.getfield 92, 3) := by decide +kernel
theorem d_MD_more_8 : decode c_MD_more 8 = .ok (.bipush 6, 2) := by decide +kernel
theorem d_MD_more_10 : decode c_MD_more 10 = .ok (.iadd, 1) := by decide +kernel
theorem d_MD_more_11 : decode c_MD_more 11 = .ok (.aload_n 0, 1) := by decide +kernel
theorem d_MD_more_12 : decode c_MD_more 12 = .ok (.getfield 47, 3) := by decide +kernel
theorem d_MD_more_15 : decode c_MD_more 15 = .ok (.aload_n 0, 1) := by decide +kernel
theorem d_MD_more_16 : decode c_MD_more 16 = .ok (.getfield 92, 3) := by decide +kernel
theorem d_MD_more_19 : decode c_MD_more 19 = .ok (.iconst 5, 1) := by decide +kernel
theorem d_MD_more_20 : decode c_MD_more 20 = .ok (.iadd, 1) := by decide +kernel
theorem d_MD_more_21 : decode c_MD_more 21 = .ok (.iaload, 1) := by decide +kernel
theorem d_MD_more_22 : decode c_MD_more 22 = .ok (.iadd, 1) := by decide +kernel
theorem d_MD_more_23 : decode c_MD_more 23 = .ok (.iload_n 1, 1) := by decide +kernel
theorem d_MD_more_24 : decode c_MD_more 24 = .ok (.iastore, 1) := by decide +kernel
theorem d_MD_more_25 : decode c_MD_more 25 = .ok (.aload_n 0, 1) := by decide +kernel
theorem d_MD_more_26 : decode c_MD_more 26 = .ok (.getfield 47, 3) := by decide +kernel
theorem d_MD_more_29 : decode c_MD_more 29 = .ok (.aload_n 0, 1) := by decide +kernel
theorem d_MD_more_30 : decode c_MD_more 30 = .ok (.getfield 92, 3) := by decide +kernel
theorem d_MD_more_33 : decode c_MD_more 33 = .ok (.iconst 5, 1) := by decide +kernel
theorem d_MD_more_34 : decode c_MD_more 34 = .ok (.iadd, 1) := by decide +kernel
theorem d_MD_more_35 : decode c_MD_more 35 = .ok (.aload_n 0, 1) := by decide +kernel
theorem d_MD_more_36 : decode c_MD_more 36 = .ok (.getfield 47, 3) := by decide +kernel
theorem d_MD_more_39 : decode c_MD_more 39 = .ok (.aload_n 0, 1) := by decide +kernel
theorem d_MD_more_40 : decode c_MD_more 40 = .ok (.getfield 92, 3) := by decide +kernel
theorem d_MD_more_43 : decode c_MD_more 43 = .ok (.iconst 5, 1) := by decide +kernel
theorem d_MD_more_44 : decode c_MD_more 44 = .ok (.iadd, 1) := by decide +kernel
theorem d_MD_more_45 : decode c_MD_more 45 = .ok (.iaload, 1) := by decide +kernel
theorem d_MD_more_46 : decode c_MD_more 46 = .ok (.iconst 1, 1) := by decide +kernel
theorem d_MD_more_47 : decode c_MD_more 47 = .ok (.iadd, 1) := by decide +kernel
theorem d_MD_more_48 : decode c_MD_more 48 = .ok (.iastore, 1) := by decide +kernel
theorem d_MD_more_49 : decode c_MD_more 49 = .ok (.return_, 1) := by decide +kernel
theorem d_MD_sendSignature_0 : decode c_MD_sendSignature 0 = .ok (.aload_n 0, 1) := by decide +kernel
theorem d_MD_sendSignature_1 : decode c_MD_sendSignature 1 = .ok (.iconst 0, 1) := by decide +kernel
theorem d_MD_sendSignature_2 : decode c_MD_sendSignature 2 = .ok (.iconst 3, 1) := by decide +kernel
theorem d_MD_sendSignature_3 : decode c_MD_sendSignature 3 = .ok (.iload_n 1, 1) := by decide +kernel
theorem d_MD_sendSignature_4 : decode c_MD_sendSignature 4 = .ok (.iload_n 2, 1) := by decide +kernel
theorem d_MD_sendSignature_5 : decode c_MD_sendSignature 5 = .ok (.iconst 0, 1) := by decide +kernel
theorem d_MD_sendSignature_6 : decode c_MD_sendSignature 6 = .ok (.iconst 0, 1) := by decide +kernel
theorem d_MD_sendSignature_7 : decode c_MD_sendSignature 7 = .ok (.invokevirtual 95, 3) := by decide +kernel
theorem d_MD_sendSignature_10 : decode c_MD_sendSignature 10 = .ok (.aload_n 0, 1) := by decide +kernel
theorem d_MD_sendSignature_11 : decode c_MD_sendSignature 11 = .ok (.iconst 1, 1) := by decide +kernel
theorem d_MD_sendSignature_12 : decode c_MD_sendSignature 12 = .ok (.iload_n 1, 1) := by decide +kernel
theorem d_MD_sendSignature_13 : decode c_MD_sendSignature 13 = .ok (.invokevirtual 87, 3) := by decide +kernel
theorem d_MD_sendSignature_16 : decode c_MD_sendSignature 16 = .ok (.istore_n 3, 1) := by decide +kernel
theorem d_MD_sendSignature_17 : decode c_MD_sendSignature 17 = .ok (.iload_n 3, 1) := by decide +kernel
theorem d_MD_sendSignature_18 : decode c_MD_sendSignature 18 = .ok (.ifCond .ge 7, 3) := by decide +kernel
theorem d_MD_sendSignature_21 : decode c_MD_sendSignature 21 = .ok (.iconst 0, 1) := by decide +kernel
theorem d_MD_sendSignature_22 : decode c_MD_sendSignature 22 = .ok (.goto 14, 3) := by decide +kernel
theorem d_MD_sendSignature_25 : decode c_MD_sendSignature 25 = .ok (.aload_n 0, 1) := by decide +kernel
theorem d_MD_sendSignature_26 : decode c_MD_sendSignature 26 = .ok (.getfield 13, 3) := by decide +kernel
theorem d_MD_sendSignature_29 : decode c_MD_sendSignature 29 = .ok (.iload_n 3, 1) := by decide +kernel
theorem d_MD_sendSignature_30 : decode c_MD_sendSignature 30 = .ok (.iaload, 1) := by decide +kernel
theorem d_MD_sendSignature_31 : decode c_MD_sendSignature 31 = .ok (.aload_n 0, 1) := by decide +kernel
theorem d_MD_sendSignature_32 : decode c_MD_sendSignature 32 = .ok (.getfield 99, 3) := by decide +kernel
theorem d_MD_sendSignature_35 : decode c_MD_sendSignature 35 = .ok (.idiv, 1) := by decide +kernel
theorem d_MD_sendSignature_36 : decode c_MD_sendSignature 36 = .ok (.istore 4, 2) := by decide +kernel
theorem d_MD_sendSignature_38 : decode c_MD_sendSignature 38 = .ok (.iconst 0, 1) := by decide +kernel
theorem d_MD_sendSignature_39 : decode c_MD_sendSignature 39 = .ok (.istore 5, 2) := by decide +kernel
theorem d_MD_sendSignature_41 : decode c_MD_sendSignature 41 = .ok (.iload 5, 2) := by decide +kernel
theorem d_MD_sendSignature_43 : decode c_MD_sendSignature 43 = .ok (.iload 4, 2) := by decide +kernel
theorem d_MD_sendSignature_45 : decode c_MD_sendSignature 45 = .ok (.if_icmp .ge 52, 3) := by decide +kernel
theorem d_MD_sendSignature_48 : decode c_MD_sendSignature 48 = .ok (.bipush 40, 2) := by decide +kernel
theorem d_MD_sendSignature_50 : decode c_MD_sendSignature 50 = .ok (.iload_n 3, 1) := by decide +kernel
theorem d_MD_sendSignature_51 : decode c_MD_sendSignature 51 = .ok (.imul, 1) := by decide +kernel
theorem d_MD_sendSignature_52 : decode c_MD_sendSignature 52 = .ok (.iload 5, 2) := by decide +kernel
theorem d_MD_sendSignature_54 : decode c_MD_sendSignature 54 = .ok (.aload_n 0, 1) := by decide +kernel
theorem d_MD_sendSignature_55 : decode c_MD_sendSignature 55 = .ok (.getfield 99, 3) := by decide +kernel
theorem d_MD_sendSignature_58 : decode c_MD_sendSignature 58 = .ok (.imul, 1) := by decide +kernel
theorem d_MD_sendSignature_59 : decode c_MD_sendSignature 59 = .ok (.iadd, 1) := by decide +kernel
theorem d_MD_sendSignature_60 : decode c_MD_sendSignature 60 = .ok (.istore 6, 2) := by decide +kernel
theorem d_MD_sendSignature_62 : decode c_MD_sendSignature 62 = .ok (.aload_n 0, 1) := by decide +kernel
theorem d_MD_sendSignature_63 : decode c_MD_sendSignature 63 = .ok (.aload_n 0, 1) := by decide +kernel
theorem d_MD_sendSignature_64 : decode c_MD_sendSignature 64 = .ok (.iload 6, 2) := by decide +kernel
theorem d_MD_sendSignature_66 : decode c_MD_sendSignature 66 = .ok (.aload_n 0, 1) := by decide +kernel
theorem d_MD_sendSignature_67 : decode c_MD_sendSignature 67 = .ok (.getfield 99, 3) := by decide +kernel
theorem d_MD_sendSignature_70 : decode c_MD_sendSignature 70 = .ok (.invokevirtual 102, 3) := by decide +kernel
theorem d_MD_sendSignature_73 : decode c_MD_sendSignature 73 = .ok (.invokevirtual 105, 3) := by decide +kernel
theorem d_MD_sendSignature_76 : decode c_MD_sendSignature 76 = .ok (.aload_n 0, 1) := by decide +kernel
theorem d_MD_sendSignature_77 : decode c_MD_sendSignature 77 = .ok (.aload_n 0, 1) := by decide +kernel
theorem d_MD_sendSignature_78 : decode c_MD_sendSignature 78 = .ok (.iload 6, 2) := by decide +kernel
theorem d_MD_sendSignature_80 : decode c_MD_sendSignature 80 = .ok (.aload_n 0, 1) := by decide +kernel
theorem d_MD_sendSignature_81 : decode c_MD_sendSignature 81 = .ok (.getfield 99, 3) := by decide +kernel
theorem d_MD_sendSignature_84 : decode c_MD_sendSignature 84 = .ok (.iload_n 2, 1) := by decide +kernel
theorem d_MD_sendSignature_85 : decode c_MD_sendSignature 85 = .ok (.invokevirtual 108, 3) := by decide +kernel
theorem d_MD_sendSignature_88 : decode c_MD_sendSignature 88 = .ok (.invokevirtual 105, 3) := by decide +kernel
theorem d_MD_sendSignature_91 : decode c_MD_sendSignature 91 = .ok (.iinc 5 1, 3) := by decide +kernel
theorem d_MD_sendSignature_94 : decode c_MD_sendSignature 94 = .ok (.goto (-53), 3) := by decide +kernel
theorem d_MD_sendSignature_97 : decode c_MD_sendSignature 97 = .ok (.return_, 1) := by decide +kernel
theorem d_MD_finishRecord_0 : decode c_MD_finishRecord 0 = .ok (.bipush 12, 2) := by decide +kernel
theorem d_MD_finishRecord_2 : decode c_MD_finishRecord 2 = .ok (.aload_n 0, 1) := by decide +kernel
theorem d_MD_finishRecord_3 : decode c_MD_finishRecord 3 = .ok (.getfield 50, 3) := by decide +kernel
theorem d_MD_finishRecord_6 : decode c_MD_finishRecord 6 = .ok (.iconst 0, 1) := by decide +kernel
theorem d_MD_finishRecord_7 : decode c_MD_finishRecord 7 = .ok (.iaload, 1) := by decide +kernel
theorem d_MD_finishRecord_8 : decode c_MD_finishRecord 8 = .ok (.iadd, 1) := by decide +kernel
theorem d_MD_finishRecord_9 : decode c_MD_finishRecord 9 = .ok (.istore_n 1, 1) := by decide +kernel
theorem d_MD_finishRecord_10 : decode c_MD_finishRecord 10 = .ok (.aload_n 0, 1) := by decide +kernel
theorem d_MD_finishRecord_11 : decode c_MD_finishRecord 11 = .ok (.getfield 7, 3) := by decide +kernel
theorem d_MD_finishRecord_14 : decode c_MD_finishRecord 14 = .ok (.iload_n 1, 1) := by decide +kernel
theorem d_MD_finishRecord_15 : decode c_MD_finishRecord 15 = .ok (.iconst 1, 1) := by decide +kernel
theorem d_MD_finishRecord_16 : decode c_MD_finishRecord 16 = .ok (.bastore, 1) := by decide +kernel
theorem d_MD_finishRecord_17 : decode c_MD_finishRecord 17 = .ok (.aload_n 0, 1) := by decide +kernel
theorem d_MD_finishRecord_18 : decode c_MD_finishRecord 18 = .ok (.getfield 13, 3) := by decide +kernel
theorem d_MD_finishRecord_21 : decode c_MD_finishRecord 21 = .ok (.iload_n 1, 1) := by decide +kernel
theorem d_MD_finishRecord_22 : decode c_MD_finishRecord 22 = .ok (.aload_n 0, 1) := by decide +kernel
theorem d_MD_finishRecord_23 : decode c_MD_finishRecord 23 = .ok (.getfield 56, 3) := by decide +kernel
theorem d_MD_finishRecord_26 : decode c_MD_finishRecord 26 = .ok (.iconst 0, 1) := by decide +kernel
theorem d_MD_finishRecord_27 : decode c_MD_finishRecord 27 = .ok (.iaload, 1) := by decide +kernel
theorem d_MD_finishRecord_28 : decode c_MD_finishRecord 28 = .ok (.iastore, 1) := by decide +kernel
theorem d_MD_finishRecord_29 : decode c_MD_finishRecord 29 = .ok (.aload_n 0, 1) := by decide +kernel
theorem d_MD_finishRecord_30 : decode c_MD_finishRecord 30 = .ok (.getfield 17, 3) := by decide +kernel
theorem d_MD_finishRecord_33 : decode c_MD_finishRecord 33 = .ok (.iload_n 1, 1) := by decide +kernel
theorem d_MD_finishRecord_34 : decode c_MD_finishRecord 34 = .ok (.aload_n 0, 1) := by decide +kernel
theorem d_MD_finishRecord_35 : decode c_MD_finishRecord 35 = .ok (.getfield 53, 3) := by decide +kernel
theorem d_MD_finishRecord_38 : decode c_MD_finishRecord 38 = .ok (.iconst 0, 1) := by decide +kernel
theorem d_MD_finishRecord_39 : decode c_MD_finishRecord 39 = .ok (.iaload, 1) := by decide +kernel
theorem d_MD_finishRecord_40 : decode c_MD_finishRecord 40 = .ok (.iastore, 1) := by decide +kernel
theorem d_MD_finishRecord_41 : decode c_MD_finishRecord 41 = .ok (.iconst 0, 1) := by decide +kernel
theorem d_MD_finishRecord_42 : decode c_MD_finishRecord 42 = .ok (.istore_n 2, 1) := by decide +kernel
theorem d_MD_finishRecord_43 : decode c_MD_finishRecord 43 = .ok (.iload_n 2, 1) := by decide +kernel
theorem d_MD_finishRecord_44 : decode c_MD_finishRecord 44 = .ok (.bipush 40, 2) := by decide +kernel
theorem d_MD_finishRecord_46 : decode c_MD_finishRecord 46 = .ok (.if_icmp .ge 26, 3) := by decide +kernel
theorem d_MD_finishRecord_49 : decode c_MD_finishRecord 49 = .ok (.aload_n 0, 1) := by decide +kernel
theorem d_MD_finishRecord_50 : decode c_MD_finishRecord 50 = .ok (.getfield 20, 3) := by decide +kernel
theorem d_MD_finishRecord_53 : decode c_MD_finishRecord 53 = .ok (.bipush 40, 2) := by decide +kernel
theorem d_MD_finishRecord_55 : decode c_MD_finishRecord 55 = .ok (.iload_n 1, 1) := by decide +kernel
theorem d_MD_finishRecord_56 : decode c_MD_finishRecord 56 = .ok (.imul, 1) := by decide +kernel
theorem d_MD_finishRecord_57 : decode c_MD_finishRecord 57 = .ok (.iload_n 2, 1) := by decide +kernel
theorem d_MD_finishRecord_58 : decode c_MD_finishRecord 58 = .ok (.iadd, 1) := by decide +kernel
theorem d_MD_finishRecord_59 : decode c_MD_finishRecord 59 = .ok (.aload_n 0, 1) := by decide +kernel
theorem d_MD_finishRecord_60 : decode c_MD_finishRecord 60 = .ok (.getfield 59, 3) := by decide +kernel
theorem d_MD_finishRecord_63 : decode c_MD_finishRecord 63 = .ok (.iload_n 2, 1) := by decide +kernel
theorem d_MD_finishRecord_64 : decode c_MD_finishRecord 64 = .ok (.iaload, 1) := by decide +kernel
theorem d_MD_finishRecord_65 : decode c_MD_finishRecord 65 = .ok (.iastore, 1) := by decide +kernel
theorem d_MD_finishRecord_66 : decode c_MD_finishRecord 66 = .ok (.iinc 2 1, 3) := by decide +kernel
theorem d_MD_finishRecord_69 : decode c_MD_finishRecord 69 = .ok (.goto (-26), 3) := by decide +kernel
theorem d_MD_finishRecord_72 : decode c_MD_finishRecord 72 = .ok (.aload_n 0, 1) := by decide +kernel
theorem d_MD_finishRecord_73 : decode c_MD_finishRecord 73 = .ok (.aload_n 0, 1) := by decide +kernel
theorem d_MD_finishRecord_74 : decode c_MD_finishRecord 74 = .ok (.getfield 112, 3) := by decide +kernel
theorem d_MD_finishRecord_77 : decode c_MD_finishRecord 77 = .ok (.iconst 1, 1) := by decide +kernel
theorem d_MD_finishRecord_78 : decode c_MD_finishRecord 78 = .ok (.isub, 1) := by decide +kernel
theorem d_MD_finishRecord_79 : decode c_MD_finishRecord 79 = .ok (.putfield 112, 3) := by decide +kernel
theorem d_MD_finishRecord_82 : decode c_MD_finishRecord 82 = .ok (.iconst 0, 1) := by decide +kernel
theorem d_MD_finishRecord_83 : decode c_MD_finishRecord 83 = .ok (.istore_n 2, 1) := by decide +kernel
theorem d_MD_finishRecord_84 : decode c_MD_finishRecord 84 = .ok (.iload_n 2, 1) := by decide +kernel
theorem d_MD_finishRecord_85 : decode c_MD_finishRecord 85 = .ok (.aload_n 0, 1) := by decide +kernel
theorem d_MD_finishRecord_86 : decode c_MD_finishRecord 86 = .ok (.getfield 112, 3) := by decide +kernel
theorem d_MD_finishRecord_89 : decode c_MD_finishRecord 89 = .ok (.if_icmp .ge 51, 3) := by decide +kernel
theorem d_MD_finishRecord_92 : decode c_MD_finishRecord 92 = .ok (.aload_n 0, 1) := by decide +kernel
theorem d_MD_finishRecord_93 : decode c_MD_finishRecord 93 = .ok (.getfield 50, 3) := by decide +kernel
theorem d_MD_finishRecord_96 : decode c_MD_finishRecord 96 = .ok (.iload_n 2, 1) := by decide +kernel
theorem d_MD_finishRecord_97 : decode c_MD_finishRecord 97 = .ok (.aload_n 0, 1) := by decide +kernel
theorem d_MD_finishRecord_98 : decode c_MD_finishRecord 98 = .ok (.getfield 50, 3) := by decide +kernel
theorem d_MD_finishRecord_101 : decode c_MD_finishRecord 101 = .ok (.iload_n 2, 1) := by decide +kernel
theorem d_MD_finishRecord_102 : decode c_MD_finishRecord 102 = .ok (.iconst 1, 1) := by decide +kernel
theorem d_MD_finishRecord_103 : decode c_MD_finishRecord 103 = .ok (.iadd, 1) := by decide +kernel
theorem d_MD_finishRecord_104 : decode c_MD_finishRecord 104 = .ok (.iaload, 1) := by decide +kernel
theorem d_MD_finishRecord_105 : decode c_MD_finishRecord 105 = .ok (.iastore, 1) := by decide +kernel
theorem d_MD_finishRecord_106 : decode c_MD_finishRecord 106 = .ok (.aload_n 0, 1) := by decide +kernel
theorem d_MD_finishRecord_107 : decode c_MD_finishRecord 107 = .ok (.getfield 53, 3) := by decide +kernel
theorem d_MD_finishRecord_110 : decode c_MD_finishRecord 110 = .ok (.iload_n 2, 1) := by decide +kernel
theorem d_MD_finishRecord_111 : decode c_MD_finishRecord 111 = .ok (.aload_n 0, 1) := by decide +kernel
theorem d_MD_finishRecord_112 : decode c_MD_finishRecord 112 = .ok (.getfield 53, 3) := by decide +kernel
theorem d_MD_finishRecord_115 : decode c_MD_finishRecord 115 = .ok (.iload_n 2, 1) := by decide +kernel
theorem d_MD_finishRecord_116 : decode c_MD_finishRecord 116 = .ok (.iconst 1, 1) := by decide +kernel
theorem d_MD_finishRecord_117 : decode c_MD_finishRecord 117 = .ok (.iadd, 1) := by decide +kernel
theorem d_MD_finishRecord_118 : decode c_MD_finishRecord 118 = .ok (.iaload, 1) := by decide +kernel
theorem d_MD_finishRecord_119 : decode c_MD_finishRecord 119 = .ok (.iastore, 1) := by decide +kernel
theorem d_MD_finishRecord_120 : decode c_MD_finishRecord 120 = .ok (.aload_n 0, 1) := by decide +kernel
theorem d_MD_finishRecord_121 : decode c_MD_finishRecord 121 = .ok (.getfield 56, 3) := by decide +kernel
theorem d_MD_finishRecord_124 : decode c_MD_finishRecord 124 = .ok (.iload_n 2, 1) := by decide +kernel
theorem d_MD_finishRecord_125 : decode c_MD_finishRecord 125 = .ok (.aload_n 0, 1) := by decide +kernel
theorem d_MD_finishRecord_126 : decode c_MD_finishRecord 126 = .ok (.getfield 56, 3) := by decide +kernel
theorem d_MD_finishRecord_129 : decode c_MD_finishRecord 129 = .ok (.iload_n 2, 1) := by decide +kernel
theorem d_MD_finishRecord_130 : decode c_MD_finishRecord 130 = .ok (.iconst 1, 1) := by decide +kernel
theorem d_MD_finishRecord_131 : decode c_MD_finishRecord 131 = .ok (.iadd, 1) := by decide +kernel
theorem d_MD_finishRecord_132 : decode c_MD_finishRecord 132 = .ok (.iaload, 1) := by decide +kernel
theorem d_MD_finishRecord_133 : decode c_MD_finishRecord 133 = .ok (.iastore, 1) := by decide +kernel
theorem d_MD_finishRecord_134 : decode c_MD_finishRecord 134 = .ok (.iinc 2 1, 3) := by decide +kernel
theorem d_MD_finishRecord_137 : decode c_MD_finishRecord 137 = .ok (.goto (-53), 3) := by decide +kernel
theorem d_MD_finishRecord_140 : decode c_MD_finishRecord 140 = .ok (.iconst 0, 1) := by decide +kernel
theorem d_MD_finishRecord_141 : decode c_MD_finishRecord 141 = .ok (.istore_n 2, 1) := by decide +kernel
theorem d_MD_finishRecord_142 : decode c_MD_finishRecord 142 = .ok (.iload_n 2, 1) := by decide +kernel
theorem d_MD_finishRecord_143 : decode c_MD_finishRecord 143 = .ok (.bipush 40, 2) := by decide +kernel
theorem d_MD_finishRecord_145 : decode c_MD_finishRecord 145 = .ok (.aload_n 0, 1) := by decide +kernel
theorem d_MD_finishRecord_146 : decode c_MD_finishRecord 146 = .ok (.getfield 112, 3) := by decide +kernel
theorem d_MD_finishRecord_149 : decode c_MD_finishRecord 149 = .ok (.imul, 1) := by decide +kernel
theorem d_MD_finishRecord_150 : decode c_MD_finishRecord 150 = .ok (.if_icmp .ge 24, 3) := by decide +kernel
theorem d_MD_finishRecord_153 : decode c_MD_finishRecord 153 = .ok (.aload_n 0, 1) := by decide +kernel
theorem d_MD_finishRecord_154 : decode c_MD_finishRecord 154 = .ok (.getfield 59, 3) := by decide +kernel
theorem d_MD_finishRecord_157 : decode c_MD_finishRecord 157 = .ok (.iload_n 2, 1) := by decide +kernel
theorem d_MD_finishRecord_158 : decode c_MD_finishRecord 158 = .ok (.aload_n 0, 1) := by decide +kernel
theorem d_MD_finishRecord_159 : decode c_MD_finishRecord 159 = .ok (.getfield 59, 3) := by decide +kernel
theorem d_MD_finishRecord_162 : decode c_MD_finishRecord 162 = .ok (.iload_n 2, 1) := by decide +kernel
theorem d_MD_finishRecord_163 : decode c_MD_finishRecord 163 = .ok (.bipush 40, 2) := by decide +kernel
theorem d_MD_finishRecord_165 : decode c_MD_finishRecord 165 = .ok (.iadd, 1) := by decide +kernel
theorem d_MD_finishRecord_166 : decode c_MD_finishRecord 166 = .ok (.iaload, 1) := by decide +kernel
theorem d_MD_finishRecord_167 : decode c_MD_finishRecord 167 = .ok (.iastore, 1) := by decide +kernel
theorem d_MD_finishRecord_168 : decode c_MD_finishRecord 168 = .ok (.iinc 2 1, 3) := by decide +kernel
theorem d_MD_finishRecord_171 : decode c_MD_finishRecord 171 = .ok (.goto (-29), 3) := by decide +kernel
theorem d_MD_finishRecord_174 : decode c_MD_finishRecord 174 = .ok (.aload_n 0, 1) := by decide +kernel
theorem d_MD_finishRecord_175 : decode c_MD_finishRecord 175 = .ok (.bipush 7, 2) := by decide +kernel
theorem d_MD_finishRecord_177 : decode c_MD_finishRecord 177 = .ok (.invokevirtual 115, 3) := by decide +kernel
theorem d_MD_finishRecord_180 : decode c_MD_finishRecord 180 = .ok (.return_, 1) := by decide +kernel
theorem d_MD_finishAll_0 : decode c_MD_finishAll 0 = .ok (.aload_n 0, 1) := by decide +kernel
theorem d_MD_finishAll_1 : decode c_MD_finishAll 1 = .ok (.getfield 112, 3) := by decide +kernel
theorem d_MD_finishAll_4 : decode c_MD_finishAll 4 = .ok (.istore_n 1, 1) := by decide +kernel
theorem d_MD_finishAll_5 : decode c_MD_finishAll 5 = .ok (.iload_n 1, 1) := by decide +kernel
theorem d_MD_finishAll_6 : decode c_MD_finishAll 6 = .ok (.ifCond .le 13, 3) := by decide +kernel
theorem d_MD_finishAll_9 : decode c_MD_finishAll 9 = .ok (.aload_n 0, 1) := by decide +kernel
theorem d_MD_finishAll_10 : decode c_MD_finishAll 10 = .ok (.invokevirtual 118, 3) := by decide +kernel
theorem d_MD_finishAll_13 : decode c_MD_finishAll 13 = .ok (.iinc 1 (-1), 3) := by decide +kernel
theorem d_MD_finishAll_16 : decode c_MD_finishAll 16 = .ok (.goto (-11), 3) := by decide +kernel
theorem d_MD_finishAll_19 : decode c_MD_finishAll 19 = .ok (.return_, 1) := by decide +kernel
theorem d_MD_begin_0 : decode c_MD_begin 0 = .ok (.aload_n 0, 1) := by decide +kernel
theorem d_MD_begin_1 : decode c_MD_begin 1 = .ok (.getfield 121, 3) := by decide +kernel
theorem d_MD_begin_4 : decode c_MD_begin 4 = .ok (.ifCond .ne 14, 3) := by decide +kernel
theorem d_MD_begin_7 : decode c_MD_begin 7 = .ok (.iload_n 1, 1) := by decide +kernel
theorem d_MD_begin_8 : decode c_MD_begin 8 = .ok (.iconst 1, 1) := by decide +kernel
theorem d_MD_begin_9 : decode c_MD_begin 9 = .ok (.if_icmp .lt 9, 3) := by decide +kernel
theorem d_MD_begin_12 : decode c_MD_begin 12 = .ok (.iload_n 1, 1) := by decide +kernel
theorem d_MD_begin_13 : decode c_MD_begin 13 = .ok (.bipush 8, 2) := by decide +kernel
theorem d_MD_begin_15 : decode c_MD_begin 15 = .ok (.if_icmp .le 5, 3) := by decide +kernel
theorem d_MD_begin_18 : decode c_MD_begin 18 = .ok (.iconst 0, 1) := by decide +kernel
theorem d_MD_begin_19 : decode c_MD_begin 19 = .ok (.ireturn, 1) := by decide +kernel
theorem d_MD_begin_20 : decode c_MD_begin 20 = .ok (.aload_n 0, 1) := by decide +kernel
theorem d_MD_begin_21 : decode c_MD_begin 21 = .ok (.iconst 1, 1) := by decide +kernel
theorem d_MD_begin_22 : decode c_MD_begin 22 = .ok (.putfield 121, 3) := by decide +kernel
theorem d_MD_begin_25 : decode c_MD_begin 25 = .ok (.aload_n 0, 1) := by decide +kernel
theorem d_MD_begin_26 : decode c_MD_begin 26 = .ok (.iload_n 1, 1) := by decide +kernel
theorem d_MD_begin_27 : decode c_MD_begin 27 = .ok (.putfield 99, 3) := by decide +kernel
theorem d_MD_begin_30 : decode c_MD_begin 30 = .ok (.aload_n 0, 1) := by decide +kernel
theorem d_MD_begin_31 : decode c_MD_begin 31 = .ok (.iload_n 2, 1) := by decide +kernel
theorem d_MD_begin_32 : decode c_MD_begin 32 = .ok (.putfield 125, 3) := by decide +kernel
theorem d_MD_begin_35 : decode c_MD_begin 35 = .ok (.aload_n 0, 1) := by decide +kernel
theorem d_MD_begin_36 : decode c_MD_begin 36 = .ok (.iconst 0, 1) := by decide +kernel
theorem d_MD_begin_37 : decode c_MD_begin 37 = .ok (.putfield 128, 3) := by decide +kernel
theorem d_MD_begin_40 : decode c_MD_begin 40 = .ok (.aload_n 0, 1) := by decide +kernel
theorem d_MD_begin_41 : decode c_MD_begin 41 = .ok (.invokevirtual 131, 3) := by decide +kernel
theorem d_MD_begin_44 : decode c_MD_begin 44 = .ok (.iconst 0, 1) := by decide +kernel
theorem d_MD_begin_45 : decode c_MD_begin 45 = .ok (.istore_n 3, 1) := by decide +kernel
theorem d_MD_begin_46 : decode c_MD_begin 46 = .ok (.iload_n 3, 1) := by decide +kernel
theorem d_MD_begin_47 : decode c_MD_begin 47 = .ok (.bipush 12, 2) := by decide +kernel
theorem d_MD_begin_49 : decode c_MD_begin 49 = .ok (.if_icmp .ge 46, 3) := by decide +kernel
theorem d_MD_begin_52 : decode c_MD_begin 52 = .ok (.aload_n 0, 1) := by decide +kernel
theorem d_MD_begin_53 : decode c_MD_begin 53 = .ok (.iload_n 3, 1) := by decide +kernel
theorem d_MD_begin_54 : decode c_MD_begin 54 = .ok (.invokevirtual 76, 3) := by decide +kernel
theorem d_MD_begin_57 : decode c_MD_begin 57 = .ok (.ifCond .eq 32, 3) := by decide +kernel
theorem d_MD_begin_60 : decode c_MD_begin 60 = .ok (.aload_n 0, 1) := by decide +kernel
theorem d_MD_begin_61 : decode c_MD_begin 61 = .ok (.getfield 7, 3) := by decide +kernel
theorem d_MD_begin_64 : decode c_MD_begin 64 = .ok (.iload_n 3, 1) := by decide +kernel
theorem d_MD_begin_65 : decode c_MD_begin 65 = .ok (.baload, 1) := by decide +kernel
theorem d_MD_begin_66 : decode c_MD_begin 66 = .ok (.ifCond .eq 23, 3) := by decide +kernel
theorem d_MD_begin_69 : decode c_MD_begin 69 = .ok (.aload_n 0, 1) := by decide +kernel
theorem d_MD_begin_70 : decode c_MD_begin 70 = .ok (.iconst 1, 1) := by decide +kernel
theorem d_MD_begin_71 : decode c_MD_begin 71 = .ok (.iconst 1, 1) := by decide +kernel
theorem d_MD_begin_72 : decode c_MD_begin 72 = .ok (.iload_n 3, 1) := by decide +kernel
theorem d_MD_begin_73 : decode c_MD_begin 73 = .ok (.iconst 0, 1) := by decide +kernel
theorem d_MD_begin_74 : decode c_MD_begin 74 = .ok (.aload_n 0, 1) := by decide +kernel
theorem d_MD_begin_75 : decode c_MD_begin 75 = .ok (.getfield 13, 3) := by decide +kernel
theorem d_MD_begin_78 : decode c_MD_begin 78 = .ok (.iload_n 3, 1) := by decide +kernel
theorem d_MD_begin_79 : decode c_MD_begin 79 = .ok (.iaload, 1) := by decide +kernel
theorem d_MD_begin_80 : decode c_MD_begin 80 = .ok (.aload_n 0, 1) := by decide +kernel
theorem d_MD_begin_81 : decode c_MD_begin 81 = .ok (.getfield 17, 3) := by decide +kernel
theorem d_MD_begin_84 : decode c_MD_begin 84 = .ok (.iload_n 3, 1) := by decide +kernel
theorem d_MD_begin_85 : decode c_MD_begin 85 = .ok (.iaload, 1) := by decide +kernel
theorem d_MD_begin_86 : decode c_MD_begin 86 = .ok (.invokevirtual 95, 3) := by decide +kernel
theorem d_MD_begin_89 : decode c_MD_begin 89 = .ok (.iinc 3 1, 3) := by decide +kernel
theorem d_MD_begin_92 : decode c_MD_begin 92 = .ok (.goto (-46), 3) := by decide +kernel
theorem d_MD_begin_95 : decode c_MD_begin 95 = .ok (.aload_n 0, 1) := by decide +kernel
theorem d_MD_begin_96 : decode c_MD_begin 96 = .ok (.iconst 1, 1) := by decide +kernel
theorem d_MD_begin_97 : decode c_MD_begin 97 = .ok (.iconst 2, 1) := by decide +kernel
theorem d_MD_begin_98 : decode c_MD_begin 98 = .ok (.iconst 0, 1) := by decide +kernel
theorem d_MD_begin_99 : decode c_MD_begin 99 = .ok (.iconst 0, 1) := by decide +kernel
theorem d_MD_begin_100 : decode c_MD_begin 100 = .ok (.iconst 0, 1) := by decide +kernel
theorem d_MD_begin_101 : decode c_MD_begin 101 = .ok (.iconst 0, 1) := by decide +kernel
theorem d_MD_begin_102 : decode c_MD_begin 102 = .ok (.invokevirtual 95, 3) := by decide +kernel
theorem d_MD_begin_105 : decode c_MD_begin 105 = .ok (.iconst 1, 1) := by decide +kernel
theorem d_MD_begin_106 : decode c_MD_begin 106 = .ok (.ireturn, 1) := by decide +kernel
theorem d_MD_over_0 : decode c_MD_over 0 = .ok (.aload_n 0, 1) := by decide +kernel
theorem d_MD_over_1 : decode c_MD_over 1 = .ok (.iconst 0, 1) := by decide +kernel
theorem d_MD_over_2 : decode c_MD_over 2 = .ok (.putfield 121, 3) := by decide +kernel
theorem d_MD_over_5 : decode c_MD_over 5 = .ok (.aload_n 0, 1) := by decide +kernel
theorem d_MD_over_6 : decode c_MD_over 6 = .ok (.iconst 0, 1) := by decide +kernel
theorem d_MD_over_7 : decode c_MD_over 7 = .ok (.putfield 128, 3) := by decide +kernel
theorem d_MD_over_10 : decode c_MD_over 10 = .ok (.aload_n 0, 1) := by decide +kernel
theorem d_MD_over_11 : decode c_MD_over 11 = .ok (.getfield 44, 3) := by decide +kernel
theorem d_MD_over_14 : decode c_MD_over 14 = .ok (.iconst 0, 1) := by decide +kernel
theorem d_MD_over_15 : decode c_MD_over 15 = .ok (.iconst 0, 1) := by decide +kernel
theorem d_MD_over_16 : decode c_MD_over 16 = .ok (.iastore, 1) := by decide +kernel
theorem d_MD_over_17 : decode c_MD_over 17 = .ok (.aload_n 0, 1) := by decide +kernel
theorem d_MD_over_18 : decode c_MD_over 18 = .ok (.getfield 44, 3) := by decide +kernel
theorem d_MD_over_21 : decode c_MD_over 21 = .ok (.iconst 1, 1) := by decide +kernel
theorem d_MD_over_22 : decode c_MD_over 22 = .ok (.iconst 0, 1) := by decide +kernel
theorem d_MD_over_23 : decode c_MD_over 23 = .ok (.iastore, 1) := by decide +kernel
theorem d_MD_over_24 : decode c_MD_over 24 = .ok (.return_, 1) := by decide +kernel
theorem d_MD_crash_0 : decode c_MD_crash 0 = .ok (.aload_n 0, 1) := by decide +kernel
theorem d_MD_crash_1 : decode c_MD_crash 1 = .ok (.getfield 121, 3) := by decide +kernel
theorem d_MD_crash_4 : decode c_MD_crash 4 = .ok (.ifCond .ne 5, 3) := by decide +kernel
theorem d_MD_crash_7 : decode c_MD_crash 7 = .ok (.iconst 0, 1) := by decide +kernel
theorem d_MD_crash_8 : decode c_MD_crash 8 = .ok (.ireturn, 1) := by decide +kernel
theorem d_MD_crash_9 : decode c_MD_crash 9 = .ok (.aload_n 0, 1) := by decide +kernel
theorem d_MD_crash_10 : decode c_MD_crash 10 = .ok (.invokevirtual 134, 3) := by decide +kernel
theorem d_MD_crash_13 : decode c_MD_crash 13 = .ok (.iconst 1, 1) := by decide +kernel
theorem d_MD_crash_14 : decode c_MD_crash 14 = .ok (.ireturn, 1) := by decide +kernel
theorem d_MD_concludeIfDone_0 : decode c_MD_concludeIfDone 0 = .ok (.iconst 1, 1) := by decide +kernel
theorem d_MD_concludeIfDone_1 : decode c_MD_concludeIfDone 1 = .ok (.istore_n 1, 1) := by decide +kernel
theorem d_MD_concludeIfDone_2 : decode c_MD_concludeIfDone 2 = .ok (.iconst 0, 1) := by decide +kernel
theorem d_MD_concludeIfDone_3 : decode c_MD_concludeIfDone 3 = .ok (.istore_n 2, 1) := by decide +kernel
theorem d_MD_concludeIfDone_4 : decode c_MD_concludeIfDone 4 = .ok (.iload_n 2, 1) := by decide +kernel
theorem d_MD_concludeIfDone_5 : decode c_MD_concludeIfDone 5 = .ok (.aload_n 0, 1) := by decide +kernel
theorem d_MD_concludeIfDone_6 : decode c_MD_concludeIfDone 6 = .ok (.getfield 128, 3) := by decide +kernel
theorem d_MD_concludeIfDone_9 : decode c_MD_concludeIfDone 9 = .ok (.if_icmp .ge 28, 3) := by decide +kernel
theorem d_MD_concludeIfDone_12 : decode c_MD_concludeIfDone 12 = .ok (.iload_n 1, 1) := by decide +kernel
theorem d_MD_concludeIfDone_13 : decode c_MD_concludeIfDone 13 = .ok (.ifCond .eq 16, 3) := by decide +kernel
theorem d_MD_concludeIfDone_16 : decode c_MD_concludeIfDone 16 = .ok (.aload_n 0, 1) := by decide +kernel
theorem d_MD_concludeIfDone_17 : decode c_MD_concludeIfDone 17 = .ok (.getfield 41, 3) := by decide +kernel
theorem d_MD_concludeIfDone_20 : decode c_MD_concludeIfDone 20 = .ok (.iload_n 2, 1) := by decide +kernel
theorem d_MD_concludeIfDone_21 : decode c_MD_concludeIfDone 21 = .ok (.baload, 1) := by decide +kernel
theorem d_MD_concludeIfDone_22 : decode c_MD_concludeIfDone 22 = .ok (.ifCond .ne 7, 3) := by decide +kernel
theorem d_MD_concludeIfDone_25 : decode c_MD_concludeIfDone 25 = .ok (.iconst 1, 1) := by decide +kernel
theorem d_MD_concludeIfDone_26 : decode c_MD_concludeIfDone 26 = .ok (.goto 4, 3) := by decide +kernel
theorem d_MD_concludeIfDone_29 : decode c_MD_concludeIfDone 29 = .ok (.iconst 0, 1) := by decide +kernel
theorem d_MD_concludeIfDone_30 : decode c_MD_concludeIfDone 30 = .ok (.istore_n 1, 1) := by decide +kernel
theorem d_MD_concludeIfDone_31 : decode c_MD_concludeIfDone 31 = .ok (.iinc 2 1, 3) := by decide +kernel
theorem d_MD_concludeIfDone_34 : decode c_MD_concludeIfDone 34 = .ok (.goto (-30), 3) := by decide +kernel
theorem d_MD_concludeIfDone_37 : decode c_MD_concludeIfDone 37 = .ok (.iload_n 1, 1) := by decide +kernel
theorem d_MD_concludeIfDone_38 : decode c_MD_concludeIfDone 38 = .ok (.ifCond .ne 4, 3) := by decide +kernel
theorem d_MD_concludeIfDone_41 : decode c_MD_concludeIfDone 41 = .ok (.return_, 1) := by decide +kernel
theorem d_MD_concludeIfDone_42 : decode c_MD_concludeIfDone 42 = .ok (.aload_n 0, 1) := by decide +kernel
theorem d_MD_concludeIfDone_43 : decode c_MD_concludeIfDone 43 = .ok (.invokevirtual 131, 3) := by decide +kernel
theorem d_MD_concludeIfDone_46 : decode c_MD_concludeIfDone 46 = .ok (.iconst 0, 1) := by decide +kernel
theorem d_MD_concludeIfDone_47 : decode c_MD_concludeIfDone 47 = .ok (.istore_n 2, 1) := by decide +kernel
theorem d_MD_concludeIfDone_48 : decode c_MD_concludeIfDone 48 = .ok (.iload_n 2, 1) := by decide +kernel
theorem d_MD_concludeIfDone_49 : decode c_MD_concludeIfDone 49 = .ok (.bipush 12, 2) := by decide +kernel
theorem d_MD_concludeIfDone_51 : decode c_MD_concludeIfDone 51 = .ok (.if_icmp .ge 97, 3) := by decide +kernel
theorem d_MD_concludeIfDone_54 : decode c_MD_concludeIfDone 54 = .ok (.iconst 0, 1) := by decide +kernel
theorem d_MD_concludeIfDone_55 : decode c_MD_concludeIfDone 55 = .ok (.istore_n 3, 1) := by decide +kernel
theorem d_MD_concludeIfDone_56 : decode c_MD_concludeIfDone 56 = .ok (.iconst 0, 1) := by decide +kernel
theorem d_MD_concludeIfDone_57 : decode c_MD_concludeIfDone 57 = .ok (.istore 4, 2) := by decide +kernel
theorem d_MD_concludeIfDone_59 : decode c_MD_concludeIfDone 59 = .ok (.iload 4, 2) := by decide +kernel
theorem d_MD_concludeIfDone_61 : decode c_MD_concludeIfDone 61 = .ok (.aload_n 0, 1) := by decide +kernel
theorem d_MD_concludeIfDone_62 : decode c_MD_concludeIfDone 62 = .ok (.getfield 128, 3) := by decide +kernel
theorem d_MD_concludeIfDone_65 : decode c_MD_concludeIfDone 65 = .ok (.if_icmp .ge 30, 3) := by decide +kernel
theorem d_MD_concludeIfDone_68 : decode c_MD_concludeIfDone 68 = .ok (.iload_n 3, 1) := by decide +kernel
theorem d_MD_concludeIfDone_69 : decode c_MD_concludeIfDone 69 = .ok (.ifCond .ne 14, 3) := by decide +kernel
theorem d_MD_concludeIfDone_72 : decode c_MD_concludeIfDone 72 = .ok (.aload_n 0, 1) := by decide +kernel
theorem d_MD_concludeIfDone_73 : decode c_MD_concludeIfDone 73 = .ok (.getfield 32, 3) := by decide +kernel
theorem d_MD_concludeIfDone_76 : decode c_MD_concludeIfDone 76 = .ok (.iload 4, 2) := by decide +kernel
theorem d_MD_concludeIfDone_78 : decode c_MD_concludeIfDone 78 = .ok (.iaload, 1) := by decide +kernel
theorem d_MD_concludeIfDone_79 : decode c_MD_concludeIfDone 79 = .ok (.iload_n 2, 1) := by decide +kernel
theorem d_MD_concludeIfDone_80 : decode c_MD_concludeIfDone 80 = .ok (.if_icmp .ne 7, 3) := by decide +kernel
theorem d_MD_concludeIfDone_83 : decode c_MD_concludeIfDone 83 = .ok (.iconst 1, 1) := by decide +kernel
theorem d_MD_concludeIfDone_84 : decode c_MD_concludeIfDone 84 = .ok (.goto 4, 3) := by decide +kernel
theorem d_MD_concludeIfDone_87 : decode c_MD_concludeIfDone 87 = .ok (.iconst 0, 1) := by decide +kernel
theorem d_MD_concludeIfDone_88 : decode c_MD_concludeIfDone 88 = .ok (.istore_n 3, 1) := by decide +kernel
theorem d_MD_concludeIfDone_89 : decode c_MD_concludeIfDone 89 = .ok (.iinc 4 1, 3) := by decide +kernel
theorem d_MD_concludeIfDone_92 : decode c_MD_concludeIfDone 92 = .ok (.goto (-33), 3) := by decide +kernel
theorem d_MD_concludeIfDone_95 : decode c_MD_concludeIfDone 95 = .ok (.aload_n 0, 1) := by decide +kernel
theorem d_MD_concludeIfDone_96 : decode c_MD_concludeIfDone 96 = .ok (.getfield 125, 3) := by decide +kernel
theorem d_MD_concludeIfDone_99 : decode c_MD_concludeIfDone 99 = .ok (.ifCond .eq 43, 3) := by decide +kernel
theorem d_MD_concludeIfDone_102 : decode c_MD_concludeIfDone 102 = .ok (.aload_n 0, 1) := by decide +kernel
theorem d_MD_concludeIfDone_103 : decode c_MD_concludeIfDone 103 = .ok (.getfield 7, 3) := by decide +kernel
theorem d_MD_concludeIfDone_106 : decode c_MD_concludeIfDone 106 = .ok (.bipush 12, 2) := by decide +kernel
theorem d_MD_concludeIfDone_108 : decode c_MD_concludeIfDone 108 = .ok (.iload_n 2, 1) := by decide +kernel
theorem d_MD_concludeIfDone_109 : decode c_MD_concludeIfDone 109 = .ok (.iadd, 1) := by decide +kernel
theorem d_MD_concludeIfDone_110 : decode c_MD_concludeIfDone 110 = .ok (.baload, 1) := by decide +kernel
theorem d_MD_concludeIfDone_111 : decode c_MD_concludeIfDone 111 = .ok (.ifCond .eq 31, 3) := by decide +kernel
theorem d_MD_concludeIfDone_114 : decode c_MD_concludeIfDone 114 = .ok (.aload_n 0, 1) := by decide +kernel
theorem d_MD_concludeIfDone_115 : decode c_MD_concludeIfDone 115 = .ok (.iload_n 2, 1) := by decide +kernel
theorem d_MD_concludeIfDone_116 : decode c_MD_concludeIfDone 116 = .ok (.invokevirtual 76, 3) := by decide +kernel
theorem d_MD_concludeIfDone_119 : decode c_MD_concludeIfDone 119 = .ok (.ifCond .eq 23, 3) := by decide +kernel
theorem d_MD_concludeIfDone_122 : decode c_MD_concludeIfDone 122 = .ok (.iload_n 3, 1) := by decide +kernel
theorem d_MD_concludeIfDone_123 : decode c_MD_concludeIfDone 123 = .ok (.ifCond .ne 19, 3) := by decide +kernel
theorem d_MD_concludeIfDone_126 : decode c_MD_concludeIfDone 126 = .ok (.aload_n 0, 1) := by decide +kernel
theorem d_MD_concludeIfDone_127 : decode c_MD_concludeIfDone 127 = .ok (.getfield 7, 3) := by decide +kernel
theorem d_MD_concludeIfDone_130 : decode c_MD_concludeIfDone 130 = .ok (.bipush 12, 2) := by decide +kernel
theorem d_MD_concludeIfDone_132 : decode c_MD_concludeIfDone 132 = .ok (.iload_n 2, 1) := by decide +kernel
theorem d_MD_concludeIfDone_133 : decode c_MD_concludeIfDone 133 = .ok (.iadd, 1) := by decide +kernel
theorem d_MD_concludeIfDone_134 : decode c_MD_concludeIfDone 134 = .ok (.iconst 0, 1) := by decide +kernel
theorem d_MD_concludeIfDone_135 : decode c_MD_concludeIfDone 135 = .ok (.bastore, 1) := by decide +kernel
theorem d_MD_concludeIfDone_136 : decode c_MD_concludeIfDone 136 = .ok (.aload_n 0, 1) := by decide +kernel
theorem d_MD_concludeIfDone_137 : decode c_MD_concludeIfDone 137 = .ok (.bipush 6, 2) := by decide +kernel
theorem d_MD_concludeIfDone_139 : decode c_MD_concludeIfDone 139 = .ok (.invokevirtual 115, 3) := by decide +kernel
theorem d_MD_concludeIfDone_142 : decode c_MD_concludeIfDone 142 = .ok (.iinc 2 1, 3) := by decide +kernel
theorem d_MD_concludeIfDone_145 : decode c_MD_concludeIfDone 145 = .ok (.goto (-97), 3) := by decide +kernel
theorem d_MD_concludeIfDone_148 : decode c_MD_concludeIfDone 148 = .ok (.aload_n 0, 1) := by decide +kernel
theorem d_MD_concludeIfDone_149 : decode c_MD_concludeIfDone 149 = .ok (.invokevirtual 134, 3) := by decide +kernel
theorem d_MD_concludeIfDone_152 : decode c_MD_concludeIfDone 152 = .ok (.aload_n 0, 1) := by decide +kernel
theorem d_MD_concludeIfDone_153 : decode c_MD_concludeIfDone 153 = .ok (.iconst 4, 1) := by decide +kernel
theorem d_MD_concludeIfDone_154 : decode c_MD_concludeIfDone 154 = .ok (.invokevirtual 115, 3) := by decide +kernel
theorem d_MD_concludeIfDone_157 : decode c_MD_concludeIfDone 157 = .ok (.return_, 1) := by decide +kernel
theorem d_MD_entryOf_0 : decode c_MD_entryOf 0 = .ok (.iconst 0, 1) := by decide +kernel
theorem d_MD_entryOf_1 : decode c_MD_entryOf 1 = .ok (.istore_n 2, 1) := by decide +kernel
theorem d_MD_entryOf_2 : decode c_MD_entryOf 2 = .ok (.iconst 0, 1) := by decide +kernel
theorem d_MD_entryOf_3 : decode c_MD_entryOf 3 = .ok (.istore_n 3, 1) := by decide +kernel
theorem d_MD_entryOf_4 : decode c_MD_entryOf 4 = .ok (.iload_n 3, 1) := by decide +kernel
theorem d_MD_entryOf_5 : decode c_MD_entryOf 5 = .ok (.aload_n 0, 1) := by decide +kernel
theorem d_MD_entryOf_6 : decode c_MD_entryOf 6 = .ok (.getfield 128, 3) := by decide +kernel
theorem d_MD_entryOf_9 : decode c_MD_entryOf 9 = .ok (.if_icmp .ge 25, 3) := by decide +kernel
theorem d_MD_entryOf_12 : decode c_MD_entryOf 12 = .ok (.aload_n 0, 1) := by decide +kernel
theorem d_MD_entryOf_13 : decode c_MD_entryOf 13 = .ok (.getfield 32, 3) := by decide +kernel
theorem d_MD_entryOf_16 : decode c_MD_entryOf 16 = .ok (.iload_n 3, 1) := by decide +kernel
theorem d_MD_entryOf_17 : decode c_MD_entryOf 17 = .ok (.iaload, 1) := by decide +kernel
theorem d_MD_entryOf_18 : decode c_MD_entryOf 18 = .ok (.iload_n 1, 1) := by decide +kernel
theorem d_MD_entryOf_19 : decode c_MD_entryOf 19 = .ok (.if_icmp .ne 7, 3) := by decide +kernel
theorem d_MD_entryOf_22 : decode c_MD_entryOf 22 = .ok (.iload_n 3, 1) := by decide +kernel
theorem d_MD_entryOf_23 : decode c_MD_entryOf 23 = .ok (.goto 4, 3) := by decide +kernel
theorem d_MD_entryOf_26 : decode c_MD_entryOf 26 = .ok (.iload_n 2, 1) := by decide +kernel
theorem d_MD_entryOf_27 : decode c_MD_entryOf 27 = .ok (.istore_n 2, 1) := by decide +kernel
theorem d_MD_entryOf_28 : decode c_MD_entryOf 28 = .ok (.iinc 3 1, 3) := by decide +kernel
theorem d_MD_entryOf_31 : decode c_MD_entryOf 31 = .ok (.goto (-27), 3) := by decide +kernel
theorem d_MD_entryOf_34 : decode c_MD_entryOf 34 = .ok (.iload_n 2, 1) := by decide +kernel
theorem d_MD_entryOf_35 : decode c_MD_entryOf 35 = .ok (.ireturn, 1) := by decide +kernel
theorem d_MD_end_0 : decode c_MD_end 0 = .ok (.iconst 0, 1) := by decide +kernel
theorem d_MD_end_1 : decode c_MD_end 1 = .ok (.istore_n 1, 1) := by decide +kernel
theorem d_MD_end_2 : decode c_MD_end 2 = .ok (.iload_n 1, 1) := by decide +kernel
theorem d_MD_end_3 : decode c_MD_end 3 = .ok (.aload_n 0, 1) := by decide +kernel
theorem d_MD_end_4 : decode c_MD_end 4 = .ok (.getfield 128, 3) := by decide +kernel
theorem d_MD_end_7 : decode c_MD_end 7 = .ok (.if_icmp .ge 99, 3) := by decide +kernel
theorem d_MD_end_10 : decode c_MD_end 10 = .ok (.aload_n 0, 1) := by decide +kernel
theorem d_MD_end_11 : decode c_MD_end 11 = .ok (.iconst 1, 1) := by decide +kernel
theorem d_MD_end_12 : decode c_MD_end 12 = .ok (.aload_n 0, 1) := by decide +kernel
theorem d_MD_end_13 : decode c_MD_end 13 = .ok (.getfield 32, 3) := by decide +kernel
theorem d_MD_end_16 : decode c_MD_end 16 = .ok (.iload_n 1, 1) := by decide +kernel
theorem d_MD_end_17 : decode c_MD_end 17 = .ok (.iaload, 1) := by decide +kernel
theorem d_MD_end_18 : decode c_MD_end 18 = .ok (.invokevirtual 87, 3) := by decide +kernel
theorem d_MD_end_21 : decode c_MD_end 21 = .ok (.istore_n 2, 1) := by decide +kernel
theorem d_MD_end_22 : decode c_MD_end 22 = .ok (.iload_n 2, 1) := by decide +kernel
theorem d_MD_end_23 : decode c_MD_end 23 = .ok (.ifCond .lt 37, 3) := by decide +kernel
theorem d_MD_end_26 : decode c_MD_end 26 = .ok (.aload_n 0, 1) := by decide +kernel
theorem d_MD_end_27 : decode c_MD_end 27 = .ok (.getfield 13, 3) := by decide +kernel
theorem d_MD_end_30 : decode c_MD_end 30 = .ok (.iload_n 2, 1) := by decide +kernel
theorem d_MD_end_31 : decode c_MD_end 31 = .ok (.iaload, 1) := by decide +kernel
theorem d_MD_end_32 : decode c_MD_end 32 = .ok (.aload_n 0, 1) := by decide +kernel
theorem d_MD_end_33 : decode c_MD_end 33 = .ok (.getfield 35, 3) := by decide +kernel
theorem d_MD_end_36 : decode c_MD_end 36 = .ok (.iload_n 1, 1) := by decide +kernel
theorem d_MD_end_37 : decode c_MD_end 37 = .ok (.iaload, 1) := by decide +kernel
theorem d_MD_end_38 : decode c_MD_end 38 = .ok (.if_icmp .ne 22, 3) := by decide +kernel
theorem d_MD_end_41 : decode c_MD_end 41 = .ok (.aload_n 0, 1) := by decide +kernel
theorem d_MD_end_42 : decode c_MD_end 42 = .ok (.getfield 17, 3) := by decide +kernel
theorem d_MD_end_45 : decode c_MD_end 45 = .ok (.iload_n 2, 1) := by decide +kernel
theorem d_MD_end_46 : decode c_MD_end 46 = .ok (.iaload, 1) := by decide +kernel
theorem d_MD_end_47 : decode c_MD_end 47 = .ok (.aload_n 0, 1) := by decide +kernel
theorem d_MD_end_48 : decode c_MD_end 48 = .ok (.getfield 38, 3) := by decide +kernel
theorem d_MD_end_51 : decode c_MD_end 51 = .ok (.iload_n 1, 1) := by decide +kernel
theorem d_MD_end_52 : decode c_MD_end 52 = .ok (.iaload, 1) := by decide +kernel
theorem d_MD_end_53 : decode c_MD_end 53 = .ok (.if_icmp .ne 7, 3) := by decide +kernel
theorem d_MD_end_56 : decode c_MD_end 56 = .ok (.iconst 1, 1) := by decide +kernel
theorem d_MD_end_57 : decode c_MD_end 57 = .ok (.goto 4, 3) := by decide +kernel
theorem d_MD_end_60 : decode c_MD_end 60 = .ok (.iconst 0, 1) := by decide +kernel
theorem d_MD_end_61 : decode c_MD_end 61 = .ok (.istore_n 3, 1) := by decide +kernel
theorem d_MD_end_62 : decode c_MD_end 62 = .ok (.aload_n 0, 1) := by decide +kernel
theorem d_MD_end_63 : decode c_MD_end 63 = .ok (.getfield 41, 3) := by decide +kernel
theorem d_MD_end_66 : decode c_MD_end 66 = .ok (.iload_n 1, 1) := by decide +kernel
theorem d_MD_end_67 : decode c_MD_end 67 = .ok (.iload_n 3, 1) := by decide +kernel
theorem d_MD_end_68 : decode c_MD_end 68 = .ok (.ifCond .ne 7, 3) := by decide +kernel
theorem d_MD_end_71 : decode c_MD_end 71 = .ok (.iconst 1, 1) := by decide +kernel
theorem d_MD_end_72 : decode c_MD_end 72 = .ok (.goto 4, 3) := by decide +kernel
theorem d_MD_end_75 : decode c_MD_end 75 = .ok (.iconst 0, 1) := by decide +kernel
theorem d_MD_end_76 : decode c_MD_end 76 = .ok (.bastore, 1) := by decide +kernel
theorem d_MD_end_77 : decode c_MD_end 77 = .ok (.iload_n 3, 1) := by decide +kernel
theorem d_MD_end_78 : decode c_MD_end 78 = .ok (.ifCond .eq 11, 3) := by decide +kernel
theorem d_MD_end_81 : decode c_MD_end 81 = .ok (.aload_n 0, 1) := by decide +kernel
theorem d_MD_end_82 : decode c_MD_end 82 = .ok (.iconst 5, 1) := by decide +kernel
theorem d_MD_end_83 : decode c_MD_end 83 = .ok (.invokevirtual 115, 3) := by decide +kernel
theorem d_MD_end_86 : decode c_MD_end 86 = .ok (.goto 14, 3) := by decide +kernel
theorem d_MD_end_89 : decode c_MD_end 89 = .ok (.aload_n 0, 1) := by decide +kernel
theorem d_MD_end_90 : decode c_MD_end 90 = .ok (.aload_n 0, 1) := by decide +kernel
theorem d_MD_end_91 : decode c_MD_end 91 = .ok (.getfield 32, 3) := by decide +kernel
theorem d_MD_end_94 : decode c_MD_end 94 = .ok (.iload_n 1, 1) := by decide +kernel
theorem d_MD_end_95 : decode c_MD_end 95 = .ok (.iaload, 1) := by decide +kernel
theorem d_MD_end_96 : decode c_MD_end 96 = .ok (.iconst 1, 1) := by decide +kernel
theorem d_MD_end_97 : decode c_MD_end 97 = .ok (.invokevirtual 137, 3) := by decide +kernel
theorem d_MD_end_100 : decode c_MD_end 100 = .ok (.iinc 1 1, 3) := by decide +kernel
theorem d_MD_end_103 : decode c_MD_end 103 = .ok (.goto (-101), 3) := by decide +kernel
theorem d_MD_end_106 : decode c_MD_end 106 = .ok (.aload_n 0, 1) := by decide +kernel
theorem d_MD_end_107 : decode c_MD_end 107 = .ok (.invokevirtual 141, 3) := by decide +kernel
theorem d_MD_end_110 : decode c_MD_end 110 = .ok (.return_, 1) := by decide +kernel
theorem d_MD_match_0 : decode c_MD_match 0 = .ok (.aload_n 0, 1) := by decide +kernel
theorem d_MD_match_1 : decode c_MD_match 1 = .ok (.iload_n 2, 1) := by decide +kernel
theorem d_MD_match_2 : decode c_MD_match 2 = .ok (.aload_n 0, 1) := by decide +kernel
theorem d_MD_match_3 : decode c_MD_match 3 = .ok (.getfield 99, 3) := by decide +kernel
theorem d_MD_match_6 : decode c_MD_match 6 = .ok (.invokevirtual 102, 3) := by decide +kernel
theorem d_MD_match_9 : decode c_MD_match 9 = .ok (.istore 4, 2) := by decide +kernel
theorem d_MD_match_11 : decode c_MD_match 11 = .ok (.aload_n 0, 1) := by decide +kernel
theorem d_MD_match_12 : decode c_MD_match 12 = .ok (.iload_n 2, 1) := by decide +kernel
theorem d_MD_match_13 : decode c_MD_match 13 = .ok (.aload_n 0, 1) := by decide +kernel
theorem d_MD_match_14 : decode c_MD_match 14 = .ok (.getfield 99, 3) := by decide +kernel
theorem d_MD_match_17 : decode c_MD_match 17 = .ok (.iload_n 3, 1) := by decide +kernel
theorem d_MD_match_18 : decode c_MD_match 18 = .ok (.invokevirtual 108, 3) := by decide +kernel
theorem d_MD_match_21 : decode c_MD_match 21 = .ok (.istore 5, 2) := by decide +kernel
theorem d_MD_match_23 : decode c_MD_match 23 = .ok (.iconst (-1), 1) := by decide +kernel
theorem d_MD_match_24 : decode c_MD_match 24 = .ok (.istore 6, 2) := by decide +kernel
theorem d_MD_match_26 : decode c_MD_match 26 = .ok (.aload_n 0, 1) := by decide +kernel
theorem d_MD_match_27 : decode c_MD_match 27 = .ok (.getfield 47, 3) := by decide +kernel
theorem d_MD_match_30 : decode c_MD_match 30 = .ok (.iload_n 1, 1) := by decide +kernel
theorem d_MD_match_31 : decode c_MD_match 31 = .ok (.iconst 5, 1) := by decide +kernel
theorem d_MD_match_32 : decode c_MD_match 32 = .ok (.iadd, 1) := by decide +kernel
theorem d_MD_match_33 : decode c_MD_match 33 = .ok (.iaload, 1) := by decide +kernel
theorem d_MD_match_34 : decode c_MD_match 34 = .ok (.iconst 2, 1) := by decide +kernel
theorem d_MD_match_35 : decode c_MD_match 35 = .ok (.idiv, 1) := by decide +kernel
theorem d_MD_match_36 : decode c_MD_match 36 = .ok (.iconst 1, 1) := by decide +kernel
theorem d_MD_match_37 : decode c_MD_match 37 = .ok (.isub, 1) := by decide +kernel
theorem d_MD_match_38 : decode c_MD_match 38 = .ok (.istore 7, 2) := by decide +kernel
theorem d_MD_match_40 : decode c_MD_match 40 = .ok (.iload 7, 2) := by decide +kernel
theorem d_MD_match_42 : decode c_MD_match 42 = .ok (.ifCond .lt 56, 3) := by decide +kernel
theorem d_MD_match_45 : decode c_MD_match 45 = .ok (.aload_n 0, 1) := by decide +kernel
theorem d_MD_match_46 : decode c_MD_match 46 = .ok (.getfield 47, 3) := by decide +kernel
theorem d_MD_match_49 : decode c_MD_match 49 = .ok (.iload_n 1, 1) := by decide +kernel
theorem d_MD_match_50 : decode c_MD_match 50 = .ok (.bipush 6, 2) := by decide +kernel
theorem d_MD_match_52 : decode c_MD_match 52 = .ok (.iadd, 1) := by decide +kernel
theorem d_MD_match_53 : decode c_MD_match 53 = .ok (.iconst 2, 1) := by decide +kernel
theorem d_MD_match_54 : decode c_MD_match 54 = .ok (.iload 7, 2) := by decide +kernel
theorem d_MD_match_56 : decode c_MD_match 56 = .ok (.imul, 1) := by decide +kernel
theorem d_MD_match_57 : decode c_MD_match 57 = .ok (.iadd, 1) := by decide +kernel
theorem d_MD_match_58 : decode c_MD_match 58 = .ok (.iaload, 1) := by decide +kernel
theorem d_MD_match_59 : decode c_MD_match 59 = .ok (.iload 4, 2) := by decide +kernel
theorem d_MD_match_61 : decode c_MD_match 61 = .ok (.if_icmp .ne 27, 3) := by decide +kernel
theorem d_MD_match_64 : decode c_MD_match 64 = .ok (.aload_n 0, 1) := by decide +kernel
theorem d_MD_match_65 : decode c_MD_match 65 = .ok (.getfield 47, 3) := by decide +kernel
theorem d_MD_match_68 : decode c_MD_match 68 = .ok (.iload_n 1, 1) := by decide +kernel
theorem d_MD_match_69 : decode c_MD_match 69 = .ok (.bipush 7, 2) := by decide +kernel
theorem d_MD_match_71 : decode c_MD_match 71 = .ok (.iadd, 1) := by decide +kernel
theorem d_MD_match_72 : decode c_MD_match 72 = .ok (.iconst 2, 1) := by decide +kernel
theorem d_MD_match_73 : decode c_MD_match 73 = .ok (.iload 7, 2) := by decide +kernel
theorem d_MD_match_75 : decode c_MD_match 75 = .ok (.imul, 1) := by decide +kernel
theorem d_MD_match_76 : decode c_MD_match 76 = .ok (.iadd, 1) := by decide +kernel
theorem d_MD_match_77 : decode c_MD_match 77 = .ok (.iaload, 1) := by decide +kernel
theorem d_MD_match_78 : decode c_MD_match 78 = .ok (.iload 5, 2) := by decide +kernel
theorem d_MD_match_80 : decode c_MD_match 80 = .ok (.if_icmp .ne 8, 3) := by decide +kernel
theorem d_MD_match_83 : decode c_MD_match 83 = .ok (.iload 7, 2) := by decide +kernel
theorem d_MD_match_85 : decode c_MD_match 85 = .ok (.goto 5, 3) := by decide +kernel
theorem d_MD_match_88 : decode c_MD_match 88 = .ok (.iload 6, 2) := by decide +kernel
theorem d_MD_match_90 : decode c_MD_match 90 = .ok (.istore 6, 2) := by decide +kernel
theorem d_MD_match_92 : decode c_MD_match 92 = .ok (.iinc 7 (-1), 3) := by decide +kernel
theorem d_MD_match_95 : decode c_MD_match 95 = .ok (.goto (-55), 3) := by decide +kernel
theorem d_MD_match_98 : decode c_MD_match 98 = .ok (.iload 6, 2) := by decide +kernel
theorem d_MD_match_100 : decode c_MD_match 100 = .ok (.ireturn, 1) := by decide +kernel
theorem d_MD_answer_0 : decode c_MD_answer 0 = .ok (.aload_n 0, 1) := by decide +kernel
theorem d_MD_answer_1 : decode c_MD_answer 1 = .ok (.getfield 47, 3) := by decide +kernel
theorem d_MD_answer_4 : decode c_MD_answer 4 = .ok (.iload_n 1, 1) := by decide +kernel
theorem d_MD_answer_5 : decode c_MD_answer 5 = .ok (.iconst 1, 1) := by decide +kernel
theorem d_MD_answer_6 : decode c_MD_answer 6 = .ok (.iadd, 1) := by decide +kernel
theorem d_MD_answer_7 : decode c_MD_answer 7 = .ok (.iaload, 1) := by decide +kernel
theorem d_MD_answer_8 : decode c_MD_answer 8 = .ok (.istore_n 2, 1) := by decide +kernel
theorem d_MD_answer_9 : decode c_MD_answer 9 = .ok (.aload_n 0, 1) := by decide +kernel
theorem d_MD_answer_10 : decode c_MD_answer 10 = .ok (.getfield 47, 3) := by decide +kernel
theorem d_MD_answer_13 : decode c_MD_answer 13 = .ok (.iload_n 1, 1) := by decide +kernel
theorem d_MD_answer_14 : decode c_MD_answer 14 = .ok (.iconst 2, 1) := by decide +kernel
theorem d_MD_answer_15 : decode c_MD_answer 15 = .ok (.iadd, 1) := by decide +kernel
theorem d_MD_answer_16 : decode c_MD_answer 16 = .ok (.iaload, 1) := by decide +kernel
theorem d_MD_answer_17 : decode c_MD_answer 17 = .ok (.istore_n 3, 1) := by decide +kernel
theorem d_MD_answer_18 : decode c_MD_answer 18 = .ok (.aload_n 0, 1) := by decide +kernel
theorem d_MD_answer_19 : decode c_MD_answer 19 = .ok (.iconst 0, 1) := by decide +kernel
theorem d_MD_answer_20 : decode c_MD_answer 20 = .ok (.iload_n 2, 1) := by decide +kernel
theorem d_MD_answer_21 : decode c_MD_answer 21 = .ok (.invokevirtual 87, 3) := by decide +kernel
theorem d_MD_answer_24 : decode c_MD_answer 24 = .ok (.istore 4, 2) := by decide +kernel
theorem d_MD_answer_26 : decode c_MD_answer 26 = .ok (.iload 4, 2) := by decide +kernel
theorem d_MD_answer_28 : decode c_MD_answer 28 = .ok (.ifCond .ge 14, 3) := by decide +kernel
theorem d_MD_answer_31 : decode c_MD_answer 31 = .ok (.aload_n 0, 1) := by decide +kernel
theorem d_MD_answer_32 : decode c_MD_answer 32 = .ok (.iconst 1, 1) := by decide +kernel
theorem d_MD_answer_33 : decode c_MD_answer 33 = .ok (.iconst 5, 1) := by decide +kernel
theorem d_MD_answer_34 : decode c_MD_answer 34 = .ok (.iload_n 2, 1) := by decide +kernel
theorem d_MD_answer_35 : decode c_MD_answer 35 = .ok (.iload_n 3, 1) := by decide +kernel
theorem d_MD_answer_36 : decode c_MD_answer 36 = .ok (.iconst 0, 1) := by decide +kernel
theorem d_MD_answer_37 : decode c_MD_answer 37 = .ok (.iconst 0, 1) := by decide +kernel
theorem d_MD_answer_38 : decode c_MD_answer 38 = .ok (.invokevirtual 95, 3) := by decide +kernel
theorem d_MD_answer_41 : decode c_MD_answer 41 = .ok (.return_, 1) := by decide +kernel
theorem d_MD_answer_42 : decode c_MD_answer 42 = .ok (.ldc 144, 2) := by decide +kernel
theorem d_MD_answer_44 : decode c_MD_answer 44 = .ok (.istore 5, 2) := by decide +kernel
theorem d_MD_answer_46 : decode c_MD_answer 46 = .ok (.iconst 0, 1) := by decide +kernel
theorem d_MD_answer_47 : decode c_MD_answer 47 = .ok (.istore 6, 2) := by decide +kernel
theorem d_MD_answer_49 : decode c_MD_answer 49 = .ok (.iload 6, 2) := by decide +kernel
theorem d_MD_answer_51 : decode c_MD_answer 51 = .ok (.aload_n 0, 1) := by decide +kernel
theorem d_MD_answer_52 : decode c_MD_answer 52 = .ok (.getfield 13, 3) := by decide +kernel
theorem d_MD_answer_55 : decode c_MD_answer 55 = .ok (.iload 4, 2) := by decide +kernel
theorem d_MD_answer_57 : decode c_MD_answer 57 = .ok (.iaload, 1) := by decide +kernel
theorem d_MD_answer_58 : decode c_MD_answer 58 = .ok (.if_icmp .ge 30, 3) := by decide +kernel
theorem d_MD_answer_61 : decode c_MD_answer 61 = .ok (.iload 5, 2) := by decide +kernel
theorem d_MD_answer_63 : decode c_MD_answer 63 = .ok (.aload_n 0, 1) := by decide +kernel
theorem d_MD_answer_64 : decode c_MD_answer 64 = .ok (.getfield 20, 3) := by decide +kernel
theorem d_MD_answer_67 : decode c_MD_answer 67 = .ok (.bipush 40, 2) := by decide +kernel
theorem d_MD_answer_69 : decode c_MD_answer 69 = .ok (.iload 4, 2) := by decide +kernel
theorem d_MD_answer_71 : decode c_MD_answer 71 = .ok (.imul, 1) := by decide +kernel
theorem d_MD_answer_72 : decode c_MD_answer 72 = .ok (.iload 6, 2) := by decide +kernel
theorem d_MD_answer_74 : decode c_MD_answer 74 = .ok (.iadd, 1) := by decide +kernel
theorem d_MD_answer_75 : decode c_MD_answer 75 = .ok (.iaload, 1) := by decide +kernel
theorem d_MD_answer_76 : decode c_MD_answer 76 = .ok (.ixor, 1) := by decide +kernel
theorem d_MD_answer_77 : decode c_MD_answer 77 = .ok (.ldc 145, 2) := by decide +kernel
theorem d_MD_answer_79 : decode c_MD_answer 79 = .ok (.imul, 1) := by decide +kernel
theorem d_MD_answer_80 : decode c_MD_answer 80 = .ok (.istore 5, 2) := by decide +kernel
theorem d_MD_answer_82 : decode c_MD_answer 82 = .ok (.iinc 6 1, 3) := by decide +kernel
theorem d_MD_answer_85 : decode c_MD_answer 85 = .ok (.goto (-36), 3) := by decide +kernel
theorem d_MD_answer_88 : decode c_MD_answer 88 = .ok (.aload_n 0, 1) := by decide +kernel
theorem d_MD_answer_89 : decode c_MD_answer 89 = .ok (.iconst 1, 1) := by decide +kernel
theorem d_MD_answer_90 : decode c_MD_answer 90 = .ok (.iconst 4, 1) := by decide +kernel
theorem d_MD_answer_91 : decode c_MD_answer 91 = .ok (.iload_n 2, 1) := by decide +kernel
theorem d_MD_answer_92 : decode c_MD_answer 92 = .ok (.iload_n 3, 1) := by decide +kernel
theorem d_MD_answer_93 : decode c_MD_answer 93 = .ok (.iload 5, 2) := by decide +kernel
theorem d_MD_answer_95 : decode c_MD_answer 95 = .ok (.iconst 0, 1) := by decide +kernel
theorem d_MD_answer_96 : decode c_MD_answer 96 = .ok (.invokevirtual 95, 3) := by decide +kernel
theorem d_MD_answer_99 : decode c_MD_answer 99 = .ok (.iconst 0, 1) := by decide +kernel
theorem d_MD_answer_100 : decode c_MD_answer 100 = .ok (.istore 6, 2) := by decide +kernel
theorem d_MD_answer_102 : decode c_MD_answer 102 = .ok (.iload 6, 2) := by decide +kernel
theorem d_MD_answer_104 : decode c_MD_answer 104 = .ok (.aload_n 0, 1) := by decide +kernel
theorem d_MD_answer_105 : decode c_MD_answer 105 = .ok (.getfield 13, 3) := by decide +kernel
theorem d_MD_answer_108 : decode c_MD_answer 108 = .ok (.iload 4, 2) := by decide +kernel
theorem d_MD_answer_110 : decode c_MD_answer 110 = .ok (.iaload, 1) := by decide +kernel
theorem d_MD_answer_111 : decode c_MD_answer 111 = .ok (.if_icmp .ge 109, 3) := by decide +kernel
theorem d_MD_answer_114 : decode c_MD_answer 114 = .ok (.iload 6, 2) := by decide +kernel
theorem d_MD_answer_116 : decode c_MD_answer 116 = .ok (.aload_n 0, 1) := by decide +kernel
theorem d_MD_answer_117 : decode c_MD_answer 117 = .ok (.getfield 99, 3) := by decide +kernel
theorem d_MD_answer_120 : decode c_MD_answer 120 = .ok (.iadd, 1) := by decide +kernel
theorem d_MD_answer_121 : decode c_MD_answer 121 = .ok (.aload_n 0, 1) := by decide +kernel
theorem d_MD_answer_122 : decode c_MD_answer 122 = .ok (.getfield 13, 3) := by decide +kernel
theorem d_MD_answer_125 : decode c_MD_answer 125 = .ok (.iload 4, 2) := by decide +kernel
theorem d_MD_answer_127 : decode c_MD_answer 127 = .ok (.iaload, 1) := by decide +kernel
theorem d_MD_answer_128 : decode c_MD_answer 128 = .ok (.if_icmp .gt 20, 3) := by decide +kernel
theorem d_MD_answer_131 : decode c_MD_answer 131 = .ok (.aload_n 0, 1) := by decide +kernel
theorem d_MD_answer_132 : decode c_MD_answer 132 = .ok (.iload_n 1, 1) := by decide +kernel
theorem d_MD_answer_133 : decode c_MD_answer 133 = .ok (.bipush 40, 2) := by decide +kernel
theorem d_MD_answer_135 : decode c_MD_answer 135 = .ok (.iload 4, 2) := by decide +kernel
theorem d_MD_answer_137 : decode c_MD_answer 137 = .ok (.imul, 1) := by decide +kernel
theorem d_MD_answer_138 : decode c_MD_answer 138 = .ok (.iload 6, 2) := by decide +kernel
theorem d_MD_answer_140 : decode c_MD_answer 140 = .ok (.iadd, 1) := by decide +kernel
theorem d_MD_answer_141 : decode c_MD_answer 141 = .ok (.iload_n 3, 1) := by decide +kernel
theorem d_MD_answer_142 : decode c_MD_answer 142 = .ok (.invokevirtual 146, 3) := by decide +kernel
theorem d_MD_answer_145 : decode c_MD_answer 145 = .ok (.goto 4, 3) := by decide +kernel
theorem d_MD_answer_148 : decode c_MD_answer 148 = .ok (.iconst (-1), 1) := by decide +kernel
theorem d_MD_answer_149 : decode c_MD_answer 149 = .ok (.istore 7, 2) := by decide +kernel
theorem d_MD_answer_151 : decode c_MD_answer 151 = .ok (.aload_n 0, 1) := by decide +kernel
theorem d_MD_answer_152 : decode c_MD_answer 152 = .ok (.iload 7, 2) := by decide +kernel
theorem d_MD_answer_154 : decode c_MD_answer 154 = .ok (.ifCond .lt 12, 3) := by decide +kernel
theorem d_MD_answer_157 : decode c_MD_answer 157 = .ok (.sipush 256, 3) := by decide +kernel
theorem d_MD_answer_160 : decode c_MD_answer 160 = .ok (.iload 7, 2) := by decide +kernel
theorem d_MD_answer_162 : decode c_MD_answer 162 = .ok (.iadd, 1) := by decide +kernel
theorem d_MD_answer_163 : decode c_MD_answer 163 = .ok (.goto 16, 3) := by decide +kernel
theorem d_MD_answer_166 : decode c_MD_answer 166 = .ok (.aload_n 0, 1) := by decide +kernel
theorem d_MD_answer_167 : decode c_MD_answer 167 = .ok (.getfield 20, 3) := by decide +kernel
theorem d_MD_answer_170 : decode c_MD_answer 170 = .ok (.bipush 40, 2) := by decide +kernel
theorem d_MD_answer_172 : decode c_MD_answer 172 = .ok (.iload 4, 2) := by decide +kernel
theorem d_MD_answer_174 : decode c_MD_answer 174 = .ok (.imul, 1) := by decide +kernel
theorem d_MD_answer_175 : decode c_MD_answer 175 = .ok (.iload 6, 2) := by decide +kernel
theorem d_MD_answer_177 : decode c_MD_answer 177 = .ok (.iadd, 1) := by decide +kernel
theorem d_MD_answer_178 : decode c_MD_answer 178 = .ok (.iaload, 1) := by decide +kernel
theorem d_MD_answer_179 : decode c_MD_answer 179 = .ok (.invokevirtual 105, 3) := by decide +kernel
theorem d_MD_answer_182 : decode c_MD_answer 182 = .ok (.aload_n 0, 1) := by decide +kernel
theorem d_MD_answer_183 : decode c_MD_answer 183 = .ok (.iload 7, 2) := by decide +kernel
theorem d_MD_answer_185 : decode c_MD_answer 185 = .ok (.ifCond .lt 7, 3) := by decide +kernel
theorem d_MD_answer_188 : decode c_MD_answer 188 = .ok (.iconst 1, 1) := by decide +kernel
theorem d_MD_answer_189 : decode c_MD_answer 189 = .ok (.goto 4, 3) := by decide +kernel
theorem d_MD_answer_192 : decode c_MD_answer 192 = .ok (.iconst 0, 1) := by decide +kernel
theorem d_MD_answer_193 : decode c_MD_answer 193 = .ok (.invokevirtual 115, 3) := by decide +kernel
theorem d_MD_answer_196 : decode c_MD_answer 196 = .ok (.iload 7, 2) := by decide +kernel
theorem d_MD_answer_198 : decode c_MD_answer 198 = .ok (.ifCond .lt 13, 3) := by decide +kernel
theorem d_MD_answer_201 : decode c_MD_answer 201 = .ok (.iload 6, 2) := by decide +kernel
theorem d_MD_answer_203 : decode c_MD_answer 203 = .ok (.aload_n 0, 1) := by decide +kernel
theorem d_MD_answer_204 : decode c_MD_answer 204 = .ok (.getfield 99, 3) := by decide +kernel
theorem d_MD_answer_207 : decode c_MD_answer 207 = .ok (.iadd, 1) := by decide +kernel
theorem d_MD_answer_208 : decode c_MD_answer 208 = .ok (.goto 7, 3) := by decide +kernel
theorem d_MD_answer_211 : decode c_MD_answer 211 = .ok (.iload 6, 2) := by decide +kernel
theorem d_MD_answer_213 : decode c_MD_answer 213 = .ok (.iconst 1, 1) := by decide +kernel
theorem d_MD_answer_214 : decode c_MD_answer 214 = .ok (.iadd, 1) := by decide +kernel
theorem d_MD_answer_215 : decode c_MD_answer 215 = .ok (.istore 6, 2) := by decide +kernel
theorem d_MD_answer_217 : decode c_MD_answer 217 = .ok (.goto (-115), 3) := by decide +kernel
theorem d_MD_answer_220 : decode c_MD_answer 220 = .ok (.return_, 1) := by decide +kernel
theorem d_MD_rebuild_0 : decode c_MD_rebuild 0 = .ok (.aload_n 0, 1) := by decide +kernel
theorem d_MD_rebuild_1 : decode c_MD_rebuild 1 = .ok (.iconst 1, 1) := by decide +kernel
theorem d_MD_rebuild_2 : decode c_MD_rebuild 2 = .ok (.aload_n 0, 1) := by decide +kernel
theorem d_MD_rebuild_3 : decode c_MD_rebuild 3 = .ok (.getfield 47, 3) := by decide +kernel
theorem d_MD_rebuild_6 : decode c_MD_rebuild 6 = .ok (.iload_n 1, 1) := by decide +kernel
theorem d_MD_rebuild_7 : decode c_MD_rebuild 7 = .ok (.iconst 1, 1) := by decide +kernel
theorem d_MD_rebuild_8 : decode c_MD_rebuild 8 = .ok (.iadd, 1) := by decide +kernel
theorem d_MD_rebuild_9 : decode c_MD_rebuild 9 = .ok (.iaload, 1) := by decide +kernel
theorem d_MD_rebuild_10 : decode c_MD_rebuild 10 = .ok (.invokevirtual 87, 3) := by decide +kernel
theorem d_MD_rebuild_13 : decode c_MD_rebuild 13 = .ok (.istore_n 2, 1) := by decide +kernel
theorem d_MD_rebuild_14 : decode c_MD_rebuild 14 = .ok (.aload_n 0, 1) := by decide +kernel
theorem d_MD_rebuild_15 : decode c_MD_rebuild 15 = .ok (.iconst 0, 1) := by decide +kernel
theorem d_MD_rebuild_16 : decode c_MD_rebuild 16 = .ok (.putfield 149, 3) := by decide +kernel
theorem d_MD_rebuild_19 : decode c_MD_rebuild 19 = .ok (.iconst 0, 1) := by decide +kernel
theorem d_MD_rebuild_20 : decode c_MD_rebuild 20 = .ok (.istore_n 3, 1) := by decide +kernel
theorem d_MD_rebuild_21 : decode c_MD_rebuild 21 = .ok (.iload_n 3, 1) := by decide +kernel
theorem d_MD_rebuild_22 : decode c_MD_rebuild 22 = .ok (.aload_n 0, 1) := by decide +kernel
theorem d_MD_rebuild_23 : decode c_MD_rebuild 23 = .ok (.getfield 47, 3) := by decide +kernel
theorem d_MD_rebuild_26 : decode c_MD_rebuild 26 = .ok (.iload_n 1, 1) := by decide +kernel
theorem d_MD_rebuild_27 : decode c_MD_rebuild 27 = .ok (.iconst 5, 1) := by decide +kernel
theorem d_MD_rebuild_28 : decode c_MD_rebuild 28 = .ok (.iadd, 1) := by decide +kernel
theorem d_MD_rebuild_29 : decode c_MD_rebuild 29 = .ok (.iaload, 1) := by decide +kernel
theorem d_MD_rebuild_30 : decode c_MD_rebuild 30 = .ok (.if_icmp .ge 160, 3) := by decide +kernel
theorem d_MD_rebuild_33 : decode c_MD_rebuild 33 = .ok (.aload_n 0, 1) := by decide +kernel
theorem d_MD_rebuild_34 : decode c_MD_rebuild 34 = .ok (.getfield 47, 3) := by decide +kernel
theorem d_MD_rebuild_37 : decode c_MD_rebuild 37 = .ok (.iload_n 1, 1) := by decide +kernel
theorem d_MD_rebuild_38 : decode c_MD_rebuild 38 = .ok (.bipush 6, 2) := by decide +kernel
theorem d_MD_rebuild_40 : decode c_MD_rebuild 40 = .ok (.iadd, 1) := by decide +kernel
theorem d_MD_rebuild_41 : decode c_MD_rebuild 41 = .ok (.iload_n 3, 1) := by decide +kernel
theorem d_MD_rebuild_42 : decode c_MD_rebuild 42 = .ok (.iadd, 1) := by decide +kernel
theorem d_MD_rebuild_43 : decode c_MD_rebuild 43 = .ok (.iaload, 1) := by decide +kernel
theorem d_MD_rebuild_44 : decode c_MD_rebuild 44 = .ok (.istore 4, 2) := by decide +kernel
theorem d_MD_rebuild_46 : decode c_MD_rebuild 46 = .ok (.iload 4, 2) := by decide +kernel
theorem d_MD_rebuild_48 : decode c_MD_rebuild 48 = .ok (.sipush 256, 3) := by decide +kernel
theorem d_MD_rebuild_51 : decode c_MD_rebuild 51 = .ok (.if_icmp .ge 7, 3) := by decide +kernel
theorem d_MD_rebuild_54 : decode c_MD_rebuild 54 = .ok (.iconst 0, 1) := by decide +kernel
theorem d_MD_rebuild_55 : decode c_MD_rebuild 55 = .ok (.goto 14, 3) := by decide +kernel
theorem d_MD_rebuild_58 : decode c_MD_rebuild 58 = .ok (.iload 4, 2) := by decide +kernel
theorem d_MD_rebuild_60 : decode c_MD_rebuild 60 = .ok (.sipush 256, 3) := by decide +kernel
theorem d_MD_rebuild_63 : decode c_MD_rebuild 63 = .ok (.isub, 1) := by decide +kernel
theorem d_MD_rebuild_64 : decode c_MD_rebuild 64 = .ok (.aload_n 0, 1) := by decide +kernel
theorem d_MD_rebuild_65 : decode c_MD_rebuild 65 = .ok (.getfield 99, 3) := by decide +kernel
theorem d_MD_rebuild_68 : decode c_MD_rebuild 68 = .ok (.imul, 1) := by decide +kernel
theorem d_MD_rebuild_69 : decode c_MD_rebuild 69 = .ok (.istore 5, 2) := by decide +kernel
theorem d_MD_rebuild_71 : decode c_MD_rebuild 71 = .ok (.iload 5, 2) := by decide +kernel
theorem d_MD_rebuild_73 : decode c_MD_rebuild 73 = .ok (.istore 6, 2) := by decide +kernel
theorem d_MD_rebuild_75 : decode c_MD_rebuild 75 = .ok (.iload 6, 2) := by decide +kernel
theorem d_MD_rebuild_77 : decode c_MD_rebuild 77 = .ok (.iload 5, 2) := by decide +kernel
theorem d_MD_rebuild_79 : decode c_MD_rebuild 79 = .ok (.iload 4, 2) := by decide +kernel
theorem d_MD_rebuild_81 : decode c_MD_rebuild 81 = .ok (.sipush 256, 3) := by decide +kernel
theorem d_MD_rebuild_84 : decode c_MD_rebuild 84 = .ok (.if_icmp .ge 7, 3) := by decide +kernel
theorem d_MD_rebuild_87 : decode c_MD_rebuild 87 = .ok (.iconst 1, 1) := by decide +kernel
theorem d_MD_rebuild_88 : decode c_MD_rebuild 88 = .ok (.goto 7, 3) := by decide +kernel
theorem d_MD_rebuild_91 : decode c_MD_rebuild 91 = .ok (.aload_n 0, 1) := by decide +kernel
theorem d_MD_rebuild_92 : decode c_MD_rebuild 92 = .ok (.getfield 99, 3) := by decide +kernel
theorem d_MD_rebuild_95 : decode c_MD_rebuild 95 = .ok (.iadd, 1) := by decide +kernel
theorem d_MD_rebuild_96 : decode c_MD_rebuild 96 = .ok (.if_icmp .ge 88, 3) := by decide +kernel
theorem d_MD_rebuild_99 : decode c_MD_rebuild 99 = .ok (.iload 4, 2) := by decide +kernel
theorem d_MD_rebuild_101 : decode c_MD_rebuild 101 = .ok (.sipush 256, 3) := by decide +kernel
theorem d_MD_rebuild_104 : decode c_MD_rebuild 104 = .ok (.if_icmp .lt 18, 3) := by decide +kernel
theorem d_MD_rebuild_107 : decode c_MD_rebuild 107 = .ok (.iload_n 2, 1) := by decide +kernel
theorem d_MD_rebuild_108 : decode c_MD_rebuild 108 = .ok (.ifCond .lt 18, 3) := by decide +kernel
theorem d_MD_rebuild_111 : decode c_MD_rebuild 111 = .ok (.iload 6, 2) := by decide +kernel
theorem d_MD_rebuild_113 : decode c_MD_rebuild 113 = .ok (.aload_n 0, 1) := by decide +kernel
theorem d_MD_rebuild_114 : decode c_MD_rebuild 114 = .ok (.getfield 13, 3) := by decide +kernel
theorem d_MD_rebuild_117 : decode c_MD_rebuild 117 = .ok (.iload_n 2, 1) := by decide +kernel
theorem d_MD_rebuild_118 : decode c_MD_rebuild 118 = .ok (.iaload, 1) := by decide +kernel
theorem d_MD_rebuild_119 : decode c_MD_rebuild 119 = .ok (.if_icmp .ge 7, 3) := by decide +kernel
theorem d_MD_rebuild_122 : decode c_MD_rebuild 122 = .ok (.iconst 1, 1) := by decide +kernel
theorem d_MD_rebuild_123 : decode c_MD_rebuild 123 = .ok (.goto 4, 3) := by decide +kernel
theorem d_MD_rebuild_126 : decode c_MD_rebuild 126 = .ok (.iconst 0, 1) := by decide +kernel
theorem d_MD_rebuild_127 : decode c_MD_rebuild 127 = .ok (.istore 7, 2) := by decide +kernel
theorem d_MD_rebuild_129 : decode c_MD_rebuild 129 = .ok (.iload 7, 2) := by decide +kernel
theorem d_MD_rebuild_131 : decode c_MD_rebuild 131 = .ok (.ifCond .eq 47, 3) := by decide +kernel
theorem d_MD_rebuild_134 : decode c_MD_rebuild 134 = .ok (.aload_n 0, 1) := by decide +kernel
theorem d_MD_rebuild_135 : decode c_MD_rebuild 135 = .ok (.getfield 62, 3) := by decide +kernel
theorem d_MD_rebuild_138 : decode c_MD_rebuild 138 = .ok (.aload_n 0, 1) := by decide +kernel
theorem d_MD_rebuild_139 : decode c_MD_rebuild 139 = .ok (.getfield 149, 3) := by decide +kernel
theorem d_MD_rebuild_142 : decode c_MD_rebuild 142 = .ok (.iload 4, 2) := by decide +kernel
theorem d_MD_rebuild_144 : decode c_MD_rebuild 144 = .ok (.sipush 256, 3) := by decide +kernel
theorem d_MD_rebuild_147 : decode c_MD_rebuild 147 = .ok (.if_icmp .ge 8, 3) := by decide +kernel
theorem d_MD_rebuild_150 : decode c_MD_rebuild 150 = .ok (.iload 4, 2) := by decide +kernel
theorem d_MD_rebuild_152 : decode c_MD_rebuild 152 = .ok (.goto 15, 3) := by decide +kernel
theorem d_MD_rebuild_155 : decode c_MD_rebuild 155 = .ok (.aload_n 0, 1) := by decide +kernel
theorem d_MD_rebuild_156 : decode c_MD_rebuild 156 = .ok (.getfield 20, 3) := by decide +kernel
theorem d_MD_rebuild_159 : decode c_MD_rebuild 159 = .ok (.bipush 40, 2) := by decide +kernel
theorem d_MD_rebuild_161 : decode c_MD_rebuild 161 = .ok (.iload_n 2, 1) := by decide +kernel
theorem d_MD_rebuild_162 : decode c_MD_rebuild 162 = .ok (.imul, 1) := by decide +kernel
theorem d_MD_rebuild_163 : decode c_MD_rebuild 163 = .ok (.iload 6, 2) := by decide +kernel
theorem d_MD_rebuild_165 : decode c_MD_rebuild 165 = .ok (.iadd, 1) := by decide +kernel
theorem d_MD_rebuild_166 : decode c_MD_rebuild 166 = .ok (.iaload, 1) := by decide +kernel
theorem d_MD_rebuild_167 : decode c_MD_rebuild 167 = .ok (.iastore, 1) := by decide +kernel
theorem d_MD_rebuild_168 : decode c_MD_rebuild 168 = .ok (.aload_n 0, 1) := by decide +kernel
theorem d_MD_rebuild_169 : decode c_MD_rebuild 169 = .ok (.aload_n 0, 1) := by decide +kernel
theorem d_MD_rebuild_170 : decode c_MD_rebuild 170 = .ok (.getfield 149, 3) := by decide +kernel
theorem d_MD_rebuild_173 : decode c_MD_rebuild 173 = .ok (.iconst 1, 1) := by decide +kernel
theorem d_MD_rebuild_174 : decode c_MD_rebuild 174 = .ok (.iadd, 1) := by decide +kernel
theorem d_MD_rebuild_175 : decode c_MD_rebuild 175 = .ok (.putfield 149, 3) := by decide +kernel
theorem d_MD_rebuild_178 : decode c_MD_rebuild 178 = .ok (.iinc 6 1, 3) := by decide +kernel
theorem d_MD_rebuild_181 : decode c_MD_rebuild 181 = .ok (.goto (-106), 3) := by decide +kernel
theorem d_MD_rebuild_184 : decode c_MD_rebuild 184 = .ok (.iinc 3 1, 3) := by decide +kernel
theorem d_MD_rebuild_187 : decode c_MD_rebuild 187 = .ok (.goto (-166), 3) := by decide +kernel
theorem d_MD_rebuild_190 : decode c_MD_rebuild 190 = .ok (.ldc 144, 2) := by decide +kernel
theorem d_MD_rebuild_192 : decode c_MD_rebuild 192 = .ok (.istore_n 3, 1) := by decide +kernel
theorem d_MD_rebuild_193 : decode c_MD_rebuild 193 = .ok (.iconst 0, 1) := by decide +kernel
theorem d_MD_rebuild_194 : decode c_MD_rebuild 194 = .ok (.istore 4, 2) := by decide +kernel
theorem d_MD_rebuild_196 : decode c_MD_rebuild 196 = .ok (.iload 4, 2) := by decide +kernel
theorem d_MD_rebuild_198 : decode c_MD_rebuild 198 = .ok (.aload_n 0, 1) := by decide +kernel
theorem d_MD_rebuild_199 : decode c_MD_rebuild 199 = .ok (.getfield 149, 3) := by decide +kernel
theorem d_MD_rebuild_202 : decode c_MD_rebuild 202 = .ok (.if_icmp .ge 22, 3) := by decide +kernel
theorem d_MD_rebuild_205 : decode c_MD_rebuild 205 = .ok (.iload_n 3, 1) := by decide +kernel
theorem d_MD_rebuild_206 : decode c_MD_rebuild 206 = .ok (.aload_n 0, 1) := by decide +kernel
theorem d_MD_rebuild_207 : decode c_MD_rebuild 207 = .ok (.getfield 62, 3) := by decide +kernel
theorem d_MD_rebuild_210 : decode c_MD_rebuild 210 = .ok (.iload 4, 2) := by decide +kernel
theorem d_MD_rebuild_212 : decode c_MD_rebuild 212 = .ok (.iaload, 1) := by decide +kernel
theorem d_MD_rebuild_213 : decode c_MD_rebuild 213 = .ok (.ixor, 1) := by decide +kernel
theorem d_MD_rebuild_214 : decode c_MD_rebuild 214 = .ok (.ldc 145, 2) := by decide +kernel
theorem d_MD_rebuild_216 : decode c_MD_rebuild 216 = .ok (.imul, 1) := by decide +kernel
theorem d_MD_rebuild_217 : decode c_MD_rebuild 217 = .ok (.istore_n 3, 1) := by decide +kernel
theorem d_MD_rebuild_218 : decode c_MD_rebuild 218 = .ok (.iinc 4 1, 3) := by decide +kernel
theorem d_MD_rebuild_221 : decode c_MD_rebuild 221 = .ok (.goto (-25), 3) := by decide +kernel
theorem d_MD_rebuild_224 : decode c_MD_rebuild 224 = .ok (.iload_n 3, 1) := by decide +kernel
theorem d_MD_rebuild_225 : decode c_MD_rebuild 225 = .ok (.ireturn, 1) := by decide +kernel
theorem d_MD_delta_0 : decode c_MD_delta 0 = .ok (.aload_n 0, 1) := by decide +kernel
theorem d_MD_delta_1 : decode c_MD_delta 1 = .ok (.getfield 47, 3) := by decide +kernel
theorem d_MD_delta_4 : decode c_MD_delta 4 = .ok (.iload_n 1, 1) := by decide +kernel
theorem d_MD_delta_5 : decode c_MD_delta 5 = .ok (.iconst 1, 1) := by decide +kernel
theorem d_MD_delta_6 : decode c_MD_delta 6 = .ok (.iadd, 1) := by decide +kernel
theorem d_MD_delta_7 : decode c_MD_delta 7 = .ok (.iaload, 1) := by decide +kernel
theorem d_MD_delta_8 : decode c_MD_delta 8 = .ok (.istore_n 2, 1) := by decide +kernel
theorem d_MD_delta_9 : decode c_MD_delta 9 = .ok (.aload_n 0, 1) := by decide +kernel
theorem d_MD_delta_10 : decode c_MD_delta 10 = .ok (.iload_n 2, 1) := by decide +kernel
theorem d_MD_delta_11 : decode c_MD_delta 11 = .ok (.invokevirtual 152, 3) := by decide +kernel
theorem d_MD_delta_14 : decode c_MD_delta 14 = .ok (.istore_n 3, 1) := by decide +kernel
theorem d_MD_delta_15 : decode c_MD_delta 15 = .ok (.aload_n 0, 1) := by decide +kernel
theorem d_MD_delta_16 : decode c_MD_delta 16 = .ok (.iload_n 1, 1) := by decide +kernel
theorem d_MD_delta_17 : decode c_MD_delta 17 = .ok (.invokevirtual 156, 3) := by decide +kernel
theorem d_MD_delta_20 : decode c_MD_delta 20 = .ok (.istore 4, 2) := by decide +kernel
theorem d_MD_delta_22 : decode c_MD_delta 22 = .ok (.iload 4, 2) := by decide +kernel
theorem d_MD_delta_24 : decode c_MD_delta 24 = .ok (.aload_n 0, 1) := by decide +kernel
theorem d_MD_delta_25 : decode c_MD_delta 25 = .ok (.getfield 47, 3) := by decide +kernel
theorem d_MD_delta_28 : decode c_MD_delta 28 = .ok (.iload_n 1, 1) := by decide +kernel
theorem d_MD_delta_29 : decode c_MD_delta 29 = .ok (.iconst 3, 1) := by decide +kernel
theorem d_MD_delta_30 : decode c_MD_delta 30 = .ok (.iadd, 1) := by decide +kernel
theorem d_MD_delta_31 : decode c_MD_delta 31 = .ok (.iaload, 1) := by decide +kernel
theorem d_MD_delta_32 : decode c_MD_delta 32 = .ok (.if_icmp .ne 101, 3) := by decide +kernel
theorem d_MD_delta_35 : decode c_MD_delta 35 = .ok (.aload_n 0, 1) := by decide +kernel
theorem d_MD_delta_36 : decode c_MD_delta 36 = .ok (.getfield 50, 3) := by decide +kernel
theorem d_MD_delta_39 : decode c_MD_delta 39 = .ok (.aload_n 0, 1) := by decide +kernel
theorem d_MD_delta_40 : decode c_MD_delta 40 = .ok (.getfield 112, 3) := by decide +kernel
theorem d_MD_delta_43 : decode c_MD_delta 43 = .ok (.iload_n 2, 1) := by decide +kernel
theorem d_MD_delta_44 : decode c_MD_delta 44 = .ok (.iastore, 1) := by decide +kernel
theorem d_MD_delta_45 : decode c_MD_delta 45 = .ok (.aload_n 0, 1) := by decide +kernel
theorem d_MD_delta_46 : decode c_MD_delta 46 = .ok (.getfield 53, 3) := by decide +kernel
theorem d_MD_delta_49 : decode c_MD_delta 49 = .ok (.aload_n 0, 1) := by decide +kernel
theorem d_MD_delta_50 : decode c_MD_delta 50 = .ok (.getfield 112, 3) := by decide +kernel
theorem d_MD_delta_53 : decode c_MD_delta 53 = .ok (.aload_n 0, 1) := by decide +kernel
theorem d_MD_delta_54 : decode c_MD_delta 54 = .ok (.getfield 38, 3) := by decide +kernel
theorem d_MD_delta_57 : decode c_MD_delta 57 = .ok (.iload_n 3, 1) := by decide +kernel
theorem d_MD_delta_58 : decode c_MD_delta 58 = .ok (.iaload, 1) := by decide +kernel
theorem d_MD_delta_59 : decode c_MD_delta 59 = .ok (.iastore, 1) := by decide +kernel
theorem d_MD_delta_60 : decode c_MD_delta 60 = .ok (.aload_n 0, 1) := by decide +kernel
theorem d_MD_delta_61 : decode c_MD_delta 61 = .ok (.getfield 56, 3) := by decide +kernel
theorem d_MD_delta_64 : decode c_MD_delta 64 = .ok (.aload_n 0, 1) := by decide +kernel
theorem d_MD_delta_65 : decode c_MD_delta 65 = .ok (.getfield 112, 3) := by decide +kernel
theorem d_MD_delta_68 : decode c_MD_delta 68 = .ok (.aload_n 0, 1) := by decide +kernel
theorem d_MD_delta_69 : decode c_MD_delta 69 = .ok (.getfield 149, 3) := by decide +kernel
theorem d_MD_delta_72 : decode c_MD_delta 72 = .ok (.iastore, 1) := by decide +kernel
theorem d_MD_delta_73 : decode c_MD_delta 73 = .ok (.iconst 0, 1) := by decide +kernel
theorem d_MD_delta_74 : decode c_MD_delta 74 = .ok (.istore 5, 2) := by decide +kernel
theorem d_MD_delta_76 : decode c_MD_delta 76 = .ok (.iload 5, 2) := by decide +kernel
theorem d_MD_delta_78 : decode c_MD_delta 78 = .ok (.aload_n 0, 1) := by decide +kernel
theorem d_MD_delta_79 : decode c_MD_delta 79 = .ok (.getfield 149, 3) := by decide +kernel
theorem d_MD_delta_82 : decode c_MD_delta 82 = .ok (.if_icmp .ge 31, 3) := by decide +kernel
theorem d_MD_delta_85 : decode c_MD_delta 85 = .ok (.aload_n 0, 1) := by decide +kernel
theorem d_MD_delta_86 : decode c_MD_delta 86 = .ok (.getfield 59, 3) := by decide +kernel
theorem d_MD_delta_89 : decode c_MD_delta 89 = .ok (.bipush 40, 2) := by decide +kernel
theorem d_MD_delta_91 : decode c_MD_delta 91 = .ok (.aload_n 0, 1) := by decide +kernel
theorem d_MD_delta_92 : decode c_MD_delta 92 = .ok (.getfield 112, 3) := by decide +kernel
theorem d_MD_delta_95 : decode c_MD_delta 95 = .ok (.imul, 1) := by decide +kernel
theorem d_MD_delta_96 : decode c_MD_delta 96 = .ok (.iload 5, 2) := by decide +kernel
theorem d_MD_delta_98 : decode c_MD_delta 98 = .ok (.iadd, 1) := by decide +kernel
theorem d_MD_delta_99 : decode c_MD_delta 99 = .ok (.aload_n 0, 1) := by decide +kernel
theorem d_MD_delta_100 : decode c_MD_delta 100 = .ok (.getfield 62, 3) := by decide +kernel
theorem d_MD_delta_103 : decode c_MD_delta 103 = .ok (.iload 5, 2) := by decide +kernel
theorem d_MD_delta_105 : decode c_MD_delta 105 = .ok (.iaload, 1) := by decide +kernel
theorem d_MD_delta_106 : decode c_MD_delta 106 = .ok (.iastore, 1) := by decide +kernel
theorem d_MD_delta_107 : decode c_MD_delta 107 = .ok (.iinc 5 1, 3) := by decide +kernel
theorem d_MD_delta_110 : decode c_MD_delta 110 = .ok (.goto (-34), 3) := by decide +kernel
theorem d_MD_delta_113 : decode c_MD_delta 113 = .ok (.aload_n 0, 1) := by decide +kernel
theorem d_MD_delta_114 : decode c_MD_delta 114 = .ok (.aload_n 0, 1) := by decide +kernel
theorem d_MD_delta_115 : decode c_MD_delta 115 = .ok (.getfield 112, 3) := by decide +kernel
theorem d_MD_delta_118 : decode c_MD_delta 118 = .ok (.iconst 1, 1) := by decide +kernel
theorem d_MD_delta_119 : decode c_MD_delta 119 = .ok (.iadd, 1) := by decide +kernel
theorem d_MD_delta_120 : decode c_MD_delta 120 = .ok (.putfield 112, 3) := by decide +kernel
theorem d_MD_delta_123 : decode c_MD_delta 123 = .ok (.aload_n 0, 1) := by decide +kernel
theorem d_MD_delta_124 : decode c_MD_delta 124 = .ok (.getfield 41, 3) := by decide +kernel
theorem d_MD_delta_127 : decode c_MD_delta 127 = .ok (.iload_n 3, 1) := by decide +kernel
theorem d_MD_delta_128 : decode c_MD_delta 128 = .ok (.iconst 0, 1) := by decide +kernel
theorem d_MD_delta_129 : decode c_MD_delta 129 = .ok (.bastore, 1) := by decide +kernel
theorem d_MD_delta_130 : decode c_MD_delta 130 = .ok (.goto 41, 3) := by decide +kernel
theorem d_MD_delta_133 : decode c_MD_delta 133 = .ok (.aload_n 0, 1) := by decide +kernel
theorem d_MD_delta_134 : decode c_MD_delta 134 = .ok (.getfield 47, 3) := by decide +kernel
theorem d_MD_delta_137 : decode c_MD_delta 137 = .ok (.iload_n 1, 1) := by decide +kernel
theorem d_MD_delta_138 : decode c_MD_delta 138 = .ok (.iconst 2, 1) := by decide +kernel
theorem d_MD_delta_139 : decode c_MD_delta 139 = .ok (.iadd, 1) := by decide +kernel
theorem d_MD_delta_140 : decode c_MD_delta 140 = .ok (.iaload, 1) := by decide +kernel
theorem d_MD_delta_141 : decode c_MD_delta 141 = .ok (.iconst 1, 1) := by decide +kernel
theorem d_MD_delta_142 : decode c_MD_delta 142 = .ok (.if_icmp .ne 17, 3) := by decide +kernel
theorem d_MD_delta_145 : decode c_MD_delta 145 = .ok (.aload_n 0, 1) := by decide +kernel
theorem d_MD_delta_146 : decode c_MD_delta 146 = .ok (.iload_n 2, 1) := by decide +kernel
theorem d_MD_delta_147 : decode c_MD_delta 147 = .ok (.iconst 2, 1) := by decide +kernel
theorem d_MD_delta_148 : decode c_MD_delta 148 = .ok (.invokevirtual 137, 3) := by decide +kernel
theorem d_MD_delta_151 : decode c_MD_delta 151 = .ok (.aload_n 0, 1) := by decide +kernel
theorem d_MD_delta_152 : decode c_MD_delta 152 = .ok (.iconst 2, 1) := by decide +kernel
theorem d_MD_delta_153 : decode c_MD_delta 153 = .ok (.invokevirtual 115, 3) := by decide +kernel
theorem d_MD_delta_156 : decode c_MD_delta 156 = .ok (.goto 15, 3) := by decide +kernel
theorem d_MD_delta_159 : decode c_MD_delta 159 = .ok (.aload_n 0, 1) := by decide +kernel
theorem d_MD_delta_160 : decode c_MD_delta 160 = .ok (.iconst 3, 1) := by decide +kernel
theorem d_MD_delta_161 : decode c_MD_delta 161 = .ok (.invokevirtual 115, 3) := by decide +kernel
theorem d_MD_delta_164 : decode c_MD_delta 164 = .ok (.aload_n 0, 1) := by decide +kernel
theorem d_MD_delta_165 : decode c_MD_delta 165 = .ok (.getfield 41, 3) := by decide +kernel
theorem d_MD_delta_168 : decode c_MD_delta 168 = .ok (.iload_n 3, 1) := by decide +kernel
theorem d_MD_delta_169 : decode c_MD_delta 169 = .ok (.iconst 0, 1) := by decide +kernel
theorem d_MD_delta_170 : decode c_MD_delta 170 = .ok (.bastore, 1) := by decide +kernel
theorem d_MD_delta_171 : decode c_MD_delta 171 = .ok (.aload_n 0, 1) := by decide +kernel
theorem d_MD_delta_172 : decode c_MD_delta 172 = .ok (.invokevirtual 141, 3) := by decide +kernel
theorem d_MD_delta_175 : decode c_MD_delta 175 = .ok (.return_, 1) := by decide +kernel
theorem d_MD_note_0 : decode c_MD_note 0 = .ok (.aload_n 0, 1) := by decide +kernel
theorem d_MD_note_1 : decode c_MD_note 1 = .ok (.getfield 32, 3) := by decide +kernel
theorem d_MD_note_4 : decode c_MD_note 4 = .ok (.aload_n 0, 1) := by decide +kernel
theorem d_MD_note_5 : decode c_MD_note 5 = .ok (.getfield 128, 3) := by decide +kernel
theorem d_MD_note_8 : decode c_MD_note 8 = .ok (.aload_n 0, 1) := by decide +kernel
theorem d_MD_note_9 : decode c_MD_note 9 = .ok (.getfield 47, 3) := by decide +kernel
theorem d_MD_note_12 : decode c_MD_note 12 = .ok (.iload_n 1, 1) := by decide +kernel
theorem d_MD_note_13 : decode c_MD_note 13 = .ok (.iconst 1, 1) := by decide +kernel
theorem d_MD_note_14 : decode c_MD_note 14 = .ok (.iadd, 1) := by decide +kernel
theorem d_MD_note_15 : decode c_MD_note 15 = .ok (.iaload, 1) := by decide +kernel
theorem d_MD_note_16 : decode c_MD_note 16 = .ok (.iastore, 1) := by decide +kernel
theorem d_MD_note_17 : decode c_MD_note 17 = .ok (.aload_n 0, 1) := by decide +kernel
theorem d_MD_note_18 : decode c_MD_note 18 = .ok (.getfield 35, 3) := by decide +kernel
theorem d_MD_note_21 : decode c_MD_note 21 = .ok (.aload_n 0, 1) := by decide +kernel
theorem d_MD_note_22 : decode c_MD_note 22 = .ok (.getfield 128, 3) := by decide +kernel
theorem d_MD_note_25 : decode c_MD_note 25 = .ok (.aload_n 0, 1) := by decide +kernel
theorem d_MD_note_26 : decode c_MD_note 26 = .ok (.getfield 47, 3) := by decide +kernel
theorem d_MD_note_29 : decode c_MD_note 29 = .ok (.iload_n 1, 1) := by decide +kernel
theorem d_MD_note_30 : decode c_MD_note 30 = .ok (.iconst 3, 1) := by decide +kernel
theorem d_MD_note_31 : decode c_MD_note 31 = .ok (.iadd, 1) := by decide +kernel
theorem d_MD_note_32 : decode c_MD_note 32 = .ok (.iaload, 1) := by decide +kernel
theorem d_MD_note_33 : decode c_MD_note 33 = .ok (.iastore, 1) := by decide +kernel
theorem d_MD_note_34 : decode c_MD_note 34 = .ok (.aload_n 0, 1) := by decide +kernel
theorem d_MD_note_35 : decode c_MD_note 35 = .ok (.getfield 38, 3) := by decide +kernel
theorem d_MD_note_38 : decode c_MD_note 38 = .ok (.aload_n 0, 1) := by decide +kernel
theorem d_MD_note_39 : decode c_MD_note 39 = .ok (.getfield 128, 3) := by decide +kernel
theorem d_MD_note_42 : decode c_MD_note 42 = .ok (.aload_n 0, 1) := by decide +kernel
theorem d_MD_note_43 : decode c_MD_note 43 = .ok (.getfield 47, 3) := by decide +kernel
theorem d_MD_note_46 : decode c_MD_note 46 = .ok (.iload_n 1, 1) := by decide +kernel
theorem d_MD_note_47 : decode c_MD_note 47 = .ok (.iconst 4, 1) := by decide +kernel
theorem d_MD_note_48 : decode c_MD_note 48 = .ok (.iadd, 1) := by decide +kernel
theorem d_MD_note_49 : decode c_MD_note 49 = .ok (.iaload, 1) := by decide +kernel
theorem d_MD_note_50 : decode c_MD_note 50 = .ok (.iastore, 1) := by decide +kernel
theorem d_MD_note_51 : decode c_MD_note 51 = .ok (.aload_n 0, 1) := by decide +kernel
theorem d_MD_note_52 : decode c_MD_note 52 = .ok (.getfield 41, 3) := by decide +kernel
theorem d_MD_note_55 : decode c_MD_note 55 = .ok (.aload_n 0, 1) := by decide +kernel
theorem d_MD_note_56 : decode c_MD_note 56 = .ok (.getfield 128, 3) := by decide +kernel
theorem d_MD_note_59 : decode c_MD_note 59 = .ok (.iconst 1, 1) := by decide +kernel
theorem d_MD_note_60 : decode c_MD_note 60 = .ok (.bastore, 1) := by decide +kernel
theorem d_MD_note_61 : decode c_MD_note 61 = .ok (.aload_n 0, 1) := by decide +kernel
theorem d_MD_note_62 : decode c_MD_note 62 = .ok (.aload_n 0, 1) := by decide +kernel
theorem d_MD_note_63 : decode c_MD_note 63 = .ok (.getfield 128, 3) := by decide +kernel
theorem d_MD_note_66 : decode c_MD_note 66 = .ok (.iconst 1, 1) := by decide +kernel
theorem d_MD_note_67 : decode c_MD_note 67 = .ok (.iadd, 1) := by decide +kernel
theorem d_MD_note_68 : decode c_MD_note 68 = .ok (.putfield 128, 3) := by decide +kernel
theorem d_MD_note_71 : decode c_MD_note 71 = .ok (.return_, 1) := by decide +kernel
theorem d_MD_take_0 : decode c_MD_take 0 = .ok (.sipush 1440, 3) := by decide +kernel
theorem d_MD_take_3 : decode c_MD_take 3 = .ok (.iload_n 1, 1) := by decide +kernel
theorem d_MD_take_4 : decode c_MD_take 4 = .ok (.imul, 1) := by decide +kernel
theorem d_MD_take_5 : decode c_MD_take 5 = .ok (.istore_n 2, 1) := by decide +kernel
theorem d_MD_take_6 : decode c_MD_take 6 = .ok (.sipush 2790, 3) := by decide +kernel
theorem d_MD_take_9 : decode c_MD_take 9 = .ok (.istore_n 3, 1) := by decide +kernel
theorem d_MD_take_10 : decode c_MD_take 10 = .ok (.aload_n 0, 1) := by decide +kernel
theorem d_MD_take_11 : decode c_MD_take 11 = .ok (.getfield 44, 3) := by decide +kernel
theorem d_MD_take_14 : decode c_MD_take 14 = .ok (.iload_n 1, 1) := by decide +kernel
theorem d_MD_take_15 : decode c_MD_take 15 = .ok (.aload_n 0, 1) := by decide +kernel
theorem d_MD_take_16 : decode c_MD_take 16 = .ok (.getfield 44, 3) := by decide +kernel
theorem d_MD_take_19 : decode c_MD_take 19 = .ok (.iload_n 1, 1) := by decide +kernel
theorem d_MD_take_20 : decode c_MD_take 20 = .ok (.iaload, 1) := by decide +kernel
theorem d_MD_take_21 : decode c_MD_take 21 = .ok (.iconst 1, 1) := by decide +kernel
theorem d_MD_take_22 : decode c_MD_take 22 = .ok (.isub, 1) := by decide +kernel
theorem d_MD_take_23 : decode c_MD_take 23 = .ok (.iastore, 1) := by decide +kernel
theorem d_MD_take_24 : decode c_MD_take 24 = .ok (.iconst 0, 1) := by decide +kernel
theorem d_MD_take_25 : decode c_MD_take 25 = .ok (.istore 4, 2) := by decide +kernel
theorem d_MD_take_27 : decode c_MD_take 27 = .ok (.iload 4, 2) := by decide +kernel
theorem d_MD_take_29 : decode c_MD_take 29 = .ok (.bipush 90, 2) := by decide +kernel
theorem d_MD_take_31 : decode c_MD_take 31 = .ok (.if_icmp .ge 27, 3) := by decide +kernel
theorem d_MD_take_34 : decode c_MD_take 34 = .ok (.aload_n 0, 1) := by decide +kernel
theorem d_MD_take_35 : decode c_MD_take 35 = .ok (.getfield 47, 3) := by decide +kernel
theorem d_MD_take_38 : decode c_MD_take 38 = .ok (.iload_n 3, 1) := by decide +kernel
theorem d_MD_take_39 : decode c_MD_take 39 = .ok (.iload 4, 2) := by decide +kernel
theorem d_MD_take_41 : decode c_MD_take 41 = .ok (.iadd, 1) := by decide +kernel
theorem d_MD_take_42 : decode c_MD_take 42 = .ok (.aload_n 0, 1) := by decide +kernel
theorem d_MD_take_43 : decode c_MD_take 43 = .ok (.getfield 47, 3) := by decide +kernel
theorem d_MD_take_46 : decode c_MD_take 46 = .ok (.iload_n 2, 1) := by decide +kernel
theorem d_MD_take_47 : decode c_MD_take 47 = .ok (.iload 4, 2) := by decide +kernel
theorem d_MD_take_49 : decode c_MD_take 49 = .ok (.iadd, 1) := by decide +kernel
theorem d_MD_take_50 : decode c_MD_take 50 = .ok (.iaload, 1) := by decide +kernel
theorem d_MD_take_51 : decode c_MD_take 51 = .ok (.iastore, 1) := by decide +kernel
theorem d_MD_take_52 : decode c_MD_take 52 = .ok (.iinc 4 1, 3) := by decide +kernel
theorem d_MD_take_55 : decode c_MD_take 55 = .ok (.goto (-28), 3) := by decide +kernel
theorem d_MD_take_58 : decode c_MD_take 58 = .ok (.iload_n 2, 1) := by decide +kernel
theorem d_MD_take_59 : decode c_MD_take 59 = .ok (.istore 4, 2) := by decide +kernel
theorem d_MD_take_61 : decode c_MD_take 61 = .ok (.iload 4, 2) := by decide +kernel
theorem d_MD_take_63 : decode c_MD_take 63 = .ok (.iload_n 2, 1) := by decide +kernel
theorem d_MD_take_64 : decode c_MD_take 64 = .ok (.bipush 90, 2) := by decide +kernel
theorem d_MD_take_66 : decode c_MD_take 66 = .ok (.aload_n 0, 1) := by decide +kernel
theorem d_MD_take_67 : decode c_MD_take 67 = .ok (.getfield 44, 3) := by decide +kernel
theorem d_MD_take_70 : decode c_MD_take 70 = .ok (.iload_n 1, 1) := by decide +kernel
theorem d_MD_take_71 : decode c_MD_take 71 = .ok (.iaload, 1) := by decide +kernel
theorem d_MD_take_72 : decode c_MD_take 72 = .ok (.imul, 1) := by decide +kernel
theorem d_MD_take_73 : decode c_MD_take 73 = .ok (.iadd, 1) := by decide +kernel
theorem d_MD_take_74 : decode c_MD_take 74 = .ok (.if_icmp .ge 26, 3) := by decide +kernel
theorem d_MD_take_77 : decode c_MD_take 77 = .ok (.aload_n 0, 1) := by decide +kernel
theorem d_MD_take_78 : decode c_MD_take 78 = .ok (.getfield 47, 3) := by decide +kernel
theorem d_MD_take_81 : decode c_MD_take 81 = .ok (.iload 4, 2) := by decide +kernel
theorem d_MD_take_83 : decode c_MD_take 83 = .ok (.aload_n 0, 1) := by decide +kernel
theorem d_MD_take_84 : decode c_MD_take 84 = .ok (.getfield 47, 3) := by decide +kernel
theorem d_MD_take_87 : decode c_MD_take 87 = .ok (.iload 4, 2) := by decide +kernel
theorem d_MD_take_89 : decode c_MD_take 89 = .ok (.bipush 90, 2) := by decide +kernel
theorem d_MD_take_91 : decode c_MD_take 91 = .ok (.iadd, 1) := by decide +kernel
theorem d_MD_take_92 : decode c_MD_take 92 = .ok (.iaload, 1) := by decide +kernel
theorem d_MD_take_93 : decode c_MD_take 93 = .ok (.iastore, 1) := by decide +kernel
theorem d_MD_take_94 : decode c_MD_take 94 = .ok (.iinc 4 1, 3) := by decide +kernel
theorem d_MD_take_97 : decode c_MD_take 97 = .ok (.goto (-36), 3) := by decide +kernel
theorem d_MD_take_100 : decode c_MD_take 100 = .ok (.iload_n 3, 1) := by decide +kernel
theorem d_MD_take_101 : decode c_MD_take 101 = .ok (.ireturn, 1) := by decide +kernel
theorem d_MD_deliver_0 : decode c_MD_deliver 0 = .ok (.iload_n 1, 1) := by decide +kernel
theorem d_MD_deliver_1 : decode c_MD_deliver 1 = .ok (.iconst 1, 1) := by decide +kernel
theorem d_MD_deliver_2 : decode c_MD_deliver 2 = .ok (.invokestatic 68, 3) := by decide +kernel
theorem d_MD_deliver_5 : decode c_MD_deliver 5 = .ok (.ifCond .eq 12, 3) := by decide +kernel
theorem d_MD_deliver_8 : decode c_MD_deliver 8 = .ok (.aload_n 0, 1) := by decide +kernel
theorem d_MD_deliver_9 : decode c_MD_deliver 9 = .ok (.getfield 44, 3) := by decide +kernel
theorem d_MD_deliver_12 : decode c_MD_deliver 12 = .ok (.iload_n 1, 1) := by decide +kernel
theorem d_MD_deliver_13 : decode c_MD_deliver 13 = .ok (.iaload, 1) := by decide +kernel
theorem d_MD_deliver_14 : decode c_MD_deliver 14 = .ok (.ifCond .ne 5, 3) := by decide +kernel
theorem d_MD_deliver_17 : decode c_MD_deliver 17 = .ok (.iconst 0, 1) := by decide +kernel
theorem d_MD_deliver_18 : decode c_MD_deliver 18 = .ok (.ireturn, 1) := by decide +kernel
theorem d_MD_deliver_19 : decode c_MD_deliver 19 = .ok (.iload_n 1, 1) := by decide +kernel
theorem d_MD_deliver_20 : decode c_MD_deliver 20 = .ok (.iconst 1, 1) := by decide +kernel
theorem d_MD_deliver_21 : decode c_MD_deliver 21 = .ok (.if_icmp .ne 14, 3) := by decide +kernel
theorem d_MD_deliver_24 : decode c_MD_deliver 24 = .ok (.aload_n 0, 1) := by decide +kernel
theorem d_MD_deliver_25 : decode c_MD_deliver 25 = .ok (.getfield 112, 3) := by decide +kernel
theorem d_MD_deliver_28 : decode c_MD_deliver 28 = .ok (.ifCond .le 7, 3) := by decide +kernel
theorem d_MD_deliver_31 : decode c_MD_deliver 31 = .ok (.aload_n 0, 1) := by decide +kernel
theorem d_MD_deliver_32 : decode c_MD_deliver 32 = .ok (.invokevirtual 118, 3) := by decide +kernel
theorem d_MD_deliver_35 : decode c_MD_deliver 35 = .ok (.aload_n 0, 1) := by decide +kernel
theorem d_MD_deliver_36 : decode c_MD_deliver 36 = .ok (.iload_n 1, 1) := by decide +kernel
theorem d_MD_deliver_37 : decode c_MD_deliver 37 = .ok (.invokevirtual 159, 3) := by decide +kernel
theorem d_MD_deliver_40 : decode c_MD_deliver 40 = .ok (.istore_n 2, 1) := by decide +kernel
theorem d_MD_deliver_41 : decode c_MD_deliver 41 = .ok (.aload_n 0, 1) := by decide +kernel
theorem d_MD_deliver_42 : decode c_MD_deliver 42 = .ok (.getfield 47, 3) := by decide +kernel
theorem d_MD_deliver_45 : decode c_MD_deliver 45 = .ok (.iload_n 2, 1) := by decide +kernel
theorem d_MD_deliver_46 : decode c_MD_deliver 46 = .ok (.iaload, 1) := by decide +kernel
theorem d_MD_deliver_47 : decode c_MD_deliver 47 = .ok (.istore_n 3, 1) := by decide +kernel
theorem d_MD_deliver_48 : decode c_MD_deliver 48 = .ok (.iload_n 3, 1) := by decide +kernel
theorem d_MD_deliver_49 : decode c_MD_deliver 49 = .ok (.iconst 1, 1) := by decide +kernel
theorem d_MD_deliver_50 : decode c_MD_deliver 50 = .ok (.if_icmp .ne 11, 3) := by decide +kernel
theorem d_MD_deliver_53 : decode c_MD_deliver 53 = .ok (.aload_n 0, 1) := by decide +kernel
theorem d_MD_deliver_54 : decode c_MD_deliver 54 = .ok (.iload_n 2, 1) := by decide +kernel
theorem d_MD_deliver_55 : decode c_MD_deliver 55 = .ok (.invokevirtual 162, 3) := by decide +kernel
theorem d_MD_deliver_58 : decode c_MD_deliver 58 = .ok (.goto 68, 3) := by decide +kernel
theorem d_MD_deliver_61 : decode c_MD_deliver 61 = .ok (.iload_n 3, 1) := by decide +kernel
theorem d_MD_deliver_62 : decode c_MD_deliver 62 = .ok (.iconst 2, 1) := by decide +kernel
theorem d_MD_deliver_63 : decode c_MD_deliver 63 = .ok (.if_icmp .ne 10, 3) := by decide +kernel
theorem d_MD_deliver_66 : decode c_MD_deliver 66 = .ok (.aload_n 0, 1) := by decide +kernel
theorem d_MD_deliver_67 : decode c_MD_deliver 67 = .ok (.invokevirtual 165, 3) := by decide +kernel
theorem d_MD_deliver_70 : decode c_MD_deliver 70 = .ok (.goto 56, 3) := by decide +kernel
theorem d_MD_deliver_73 : decode c_MD_deliver 73 = .ok (.iload_n 3, 1) := by decide +kernel
theorem d_MD_deliver_74 : decode c_MD_deliver 74 = .ok (.iconst 3, 1) := by decide +kernel
theorem d_MD_deliver_75 : decode c_MD_deliver 75 = .ok (.if_icmp .ne 11, 3) := by decide +kernel
theorem d_MD_deliver_78 : decode c_MD_deliver 78 = .ok (.aload_n 0, 1) := by decide +kernel
theorem d_MD_deliver_79 : decode c_MD_deliver 79 = .ok (.iload_n 2, 1) := by decide +kernel
theorem d_MD_deliver_80 : decode c_MD_deliver 80 = .ok (.invokevirtual 168, 3) := by decide +kernel
theorem d_MD_deliver_83 : decode c_MD_deliver 83 = .ok (.goto 43, 3) := by decide +kernel
theorem d_MD_deliver_86 : decode c_MD_deliver 86 = .ok (.iload_n 3, 1) := by decide +kernel
theorem d_MD_deliver_87 : decode c_MD_deliver 87 = .ok (.iconst 4, 1) := by decide +kernel
theorem d_MD_deliver_88 : decode c_MD_deliver 88 = .ok (.if_icmp .ne 11, 3) := by decide +kernel
theorem d_MD_deliver_91 : decode c_MD_deliver 91 = .ok (.aload_n 0, 1) := by decide +kernel
theorem d_MD_deliver_92 : decode c_MD_deliver 92 = .ok (.iload_n 2, 1) := by decide +kernel
theorem d_MD_deliver_93 : decode c_MD_deliver 93 = .ok (.invokevirtual 171, 3) := by decide +kernel
theorem d_MD_deliver_96 : decode c_MD_deliver 96 = .ok (.goto 30, 3) := by decide +kernel
theorem d_MD_deliver_99 : decode c_MD_deliver 99 = .ok (.aload_n 0, 1) := by decide +kernel
theorem d_MD_deliver_100 : decode c_MD_deliver 100 = .ok (.getfield 41, 3) := by decide +kernel
theorem d_MD_deliver_103 : decode c_MD_deliver 103 = .ok (.aload_n 0, 1) := by decide +kernel
theorem d_MD_deliver_104 : decode c_MD_deliver 104 = .ok (.aload_n 0, 1) := by decide +kernel
theorem d_MD_deliver_105 : decode c_MD_deliver 105 = .ok (.getfield 47, 3) := by decide +kernel
theorem d_MD_deliver_108 : decode c_MD_deliver 108 = .ok (.iload_n 2, 1) := by decide +kernel
theorem d_MD_deliver_109 : decode c_MD_deliver 109 = .ok (.iconst 1, 1) := by decide +kernel
theorem d_MD_deliver_110 : decode c_MD_deliver 110 = .ok (.iadd, 1) := by decide +kernel
theorem d_MD_deliver_111 : decode c_MD_deliver 111 = .ok (.iaload, 1) := by decide +kernel
theorem d_MD_deliver_112 : decode c_MD_deliver 112 = .ok (.invokevirtual 152, 3) := by decide +kernel
theorem d_MD_deliver_115 : decode c_MD_deliver 115 = .ok (.iconst 0, 1) := by decide +kernel
theorem d_MD_deliver_116 : decode c_MD_deliver 116 = .ok (.bastore, 1) := by decide +kernel
theorem d_MD_deliver_117 : decode c_MD_deliver 117 = .ok (.aload_n 0, 1) := by decide +kernel
theorem d_MD_deliver_118 : decode c_MD_deliver 118 = .ok (.iconst 3, 1) := by decide +kernel
theorem d_MD_deliver_119 : decode c_MD_deliver 119 = .ok (.invokevirtual 115, 3) := by decide +kernel
theorem d_MD_deliver_122 : decode c_MD_deliver 122 = .ok (.aload_n 0, 1) := by decide +kernel
theorem d_MD_deliver_123 : decode c_MD_deliver 123 = .ok (.invokevirtual 141, 3) := by decide +kernel
theorem d_MD_deliver_126 : decode c_MD_deliver 126 = .ok (.iload_n 3, 1) := by decide +kernel
theorem d_MD_deliver_127 : decode c_MD_deliver 127 = .ok (.ireturn, 1) := by decide +kernel
theorem d_MD_on_0 : decode c_MD_on 0 = .ok (.aload_n 0, 1) := by decide +kernel
theorem d_MD_on_1 : decode c_MD_on 1 = .ok (.getfield 121, 3) := by decide +kernel
theorem d_MD_on_4 : decode c_MD_on 4 = .ok (.ireturn, 1) := by decide +kernel
theorem d_MD_waiting_0 : decode c_MD_waiting 0 = .ok (.iload_n 1, 1) := by decide +kernel
theorem d_MD_waiting_1 : decode c_MD_waiting 1 = .ok (.iconst 1, 1) := by decide +kernel
theorem d_MD_waiting_2 : decode c_MD_waiting 2 = .ok (.invokestatic 68, 3) := by decide +kernel
theorem d_MD_waiting_5 : decode c_MD_waiting 5 = .ok (.ifCond .eq 12, 3) := by decide +kernel
theorem d_MD_waiting_8 : decode c_MD_waiting 8 = .ok (.aload_n 0, 1) := by decide +kernel
theorem d_MD_waiting_9 : decode c_MD_waiting 9 = .ok (.getfield 44, 3) := by decide +kernel
theorem d_MD_waiting_12 : decode c_MD_waiting 12 = .ok (.iload_n 1, 1) := by decide +kernel
theorem d_MD_waiting_13 : decode c_MD_waiting 13 = .ok (.iaload, 1) := by decide +kernel
theorem d_MD_waiting_14 : decode c_MD_waiting 14 = .ok (.goto 4, 3) := by decide +kernel
theorem d_MD_waiting_17 : decode c_MD_waiting 17 = .ok (.iconst (-1), 1) := by decide +kernel
theorem d_MD_waiting_18 : decode c_MD_waiting 18 = .ok (.ireturn, 1) := by decide +kernel
theorem d_MD_next_0 : decode c_MD_next 0 = .ok (.iload_n 1, 1) := by decide +kernel
theorem d_MD_next_1 : decode c_MD_next 1 = .ok (.iconst 1, 1) := by decide +kernel
theorem d_MD_next_2 : decode c_MD_next 2 = .ok (.invokestatic 68, 3) := by decide +kernel
theorem d_MD_next_5 : decode c_MD_next 5 = .ok (.ifCond .eq 25, 3) := by decide +kernel
theorem d_MD_next_8 : decode c_MD_next 8 = .ok (.aload_n 0, 1) := by decide +kernel
theorem d_MD_next_9 : decode c_MD_next 9 = .ok (.getfield 44, 3) := by decide +kernel
theorem d_MD_next_12 : decode c_MD_next 12 = .ok (.iload_n 1, 1) := by decide +kernel
theorem d_MD_next_13 : decode c_MD_next 13 = .ok (.iaload, 1) := by decide +kernel
theorem d_MD_next_14 : decode c_MD_next 14 = .ok (.ifCond .le 16, 3) := by decide +kernel
theorem d_MD_next_17 : decode c_MD_next 17 = .ok (.aload_n 0, 1) := by decide +kernel
theorem d_MD_next_18 : decode c_MD_next 18 = .ok (.getfield 47, 3) := by decide +kernel
theorem d_MD_next_21 : decode c_MD_next 21 = .ok (.sipush 1440, 3) := by decide +kernel
theorem d_MD_next_24 : decode c_MD_next 24 = .ok (.iload_n 1, 1) := by decide +kernel
theorem d_MD_next_25 : decode c_MD_next 25 = .ok (.imul, 1) := by decide +kernel
theorem d_MD_next_26 : decode c_MD_next 26 = .ok (.iaload, 1) := by decide +kernel
theorem d_MD_next_27 : decode c_MD_next 27 = .ok (.goto 4, 3) := by decide +kernel
theorem d_MD_next_30 : decode c_MD_next 30 = .ok (.iconst 0, 1) := by decide +kernel
theorem d_MD_next_31 : decode c_MD_next 31 = .ok (.ireturn, 1) := by decide +kernel
theorem d_MD_journal_0 : decode c_MD_journal 0 = .ok (.aload_n 0, 1) := by decide +kernel
theorem d_MD_journal_1 : decode c_MD_journal 1 = .ok (.getfield 112, 3) := by decide +kernel
theorem d_MD_journal_4 : decode c_MD_journal 4 = .ok (.ireturn, 1) := by decide +kernel
theorem d_MD_count_0 : decode c_MD_count 0 = .ok (.iload_n 1, 1) := by decide +kernel
theorem d_MD_count_1 : decode c_MD_count 1 = .ok (.bipush 7, 2) := by decide +kernel
theorem d_MD_count_3 : decode c_MD_count 3 = .ok (.invokestatic 68, 3) := by decide +kernel
theorem d_MD_count_6 : decode c_MD_count 6 = .ok (.ifCond .eq 12, 3) := by decide +kernel
theorem d_MD_count_9 : decode c_MD_count 9 = .ok (.aload_n 0, 1) := by decide +kernel
theorem d_MD_count_10 : decode c_MD_count 10 = .ok (.getfield 65, 3) := by decide +kernel
theorem d_MD_count_13 : decode c_MD_count 13 = .ok (.iload_n 1, 1) := by decide +kernel
theorem d_MD_count_14 : decode c_MD_count 14 = .ok (.iaload, 1) := by decide +kernel
theorem d_MD_count_15 : decode c_MD_count 15 = .ok (.goto 4, 3) := by decide +kernel
theorem d_MD_count_18 : decode c_MD_count 18 = .ok (.iconst (-1), 1) := by decide +kernel
theorem d_MD_count_19 : decode c_MD_count 19 = .ok (.ireturn, 1) := by decide +kernel
end
section
theorem d_LW_law_0 : decode code 0 = .ok (.new 7, 3) := by decide +kernel
theorem d_LW_law_3 : decode code 3 = .ok (.dup, 1) := by decide +kernel
theorem d_LW_law_4 : decode code 4 = .ok (.invokespecial 9, 3) := by decide +kernel
theorem d_LW_law_7 : decode code 7 = .ok (.astore_n 1, 1) := by decide +kernel
theorem d_LW_law_8 : decode code 8 = .ok (.new 10, 3) := by decide +kernel
theorem d_LW_law_11 : decode code 11 = .ok (.dup, 1) := by decide +kernel
theorem d_LW_law_12 : decode code 12 = .ok (.invokespecial 12, 3) := by decide +kernel
theorem d_LW_law_15 : decode code 15 = .ok (.astore_n 2, 1) := by decide +kernel
theorem d_LW_law_16 : decode code 16 = .ok (.iconst 0, 1) := by decide +kernel
theorem d_LW_law_17 : decode code 17 = .ok (.istore_n 3, 1) := by decide +kernel
theorem d_LW_law_18 : decode code 18 = .ok (.iload_n 3, 1) := by decide +kernel
theorem d_LW_law_19 : decode code 19 = .ok (.aload_n 0, 1) := by decide +kernel
theorem d_LW_law_20 : decode code 20 = .ok (.arraylength, 1) := by decide +kernel
theorem d_LW_law_21 : decode code 21 = .ok (.iconst 5, 1) := by decide +kernel
theorem d_LW_law_22 : decode code 22 = .ok (.isub, 1) := by decide +kernel
theorem d_LW_law_23 : decode code 23 = .ok (.if_icmp .gt 595, 3) := by decide +kernel
theorem d_LW_law_26 : decode code 26 = .ok (.aload_n 0, 1) := by decide +kernel
theorem d_LW_law_27 : decode code 27 = .ok (.iload_n 3, 1) := by decide +kernel
theorem d_LW_law_28 : decode code 28 = .ok (.iaload, 1) := by decide +kernel
theorem d_LW_law_29 : decode code 29 = .ok (.bipush 15, 2) := by decide +kernel
theorem d_LW_law_31 : decode code 31 = .ok (.iand, 1) := by decide +kernel
theorem d_LW_law_32 : decode code 32 = .ok (.tableswitch 580 0 15 #[80, 139, 182, 235, 268, 317, 340, 353, 366, 399, 442, 475, 498, 521, 544, 557], 80) := by decide +kernel
theorem d_LW_law_112 : decode code 112 = .ok (.aload_n 1, 1) := by decide +kernel
theorem d_LW_law_113 : decode code 113 = .ok (.aload_n 0, 1) := by decide +kernel
theorem d_LW_law_114 : decode code 114 = .ok (.iload_n 3, 1) := by decide +kernel
theorem d_LW_law_115 : decode code 115 = .ok (.iconst 1, 1) := by decide +kernel
theorem d_LW_law_116 : decode code 116 = .ok (.iadd, 1) := by decide +kernel
theorem d_LW_law_117 : decode code 117 = .ok (.iaload, 1) := by decide +kernel
theorem d_LW_law_118 : decode code 118 = .ok (.ifCond .eq 7, 3) := by decide +kernel
theorem d_LW_law_121 : decode code 121 = .ok (.iconst 1, 1) := by decide +kernel
theorem d_LW_law_122 : decode code 122 = .ok (.goto 4, 3) := by decide +kernel
theorem d_LW_law_125 : decode code 125 = .ok (.iconst 0, 1) := by decide +kernel
theorem d_LW_law_126 : decode code 126 = .ok (.aload_n 0, 1) := by decide +kernel
theorem d_LW_law_127 : decode code 127 = .ok (.iload_n 3, 1) := by decide +kernel
theorem d_LW_law_128 : decode code 128 = .ok (.iconst 2, 1) := by decide +kernel
theorem d_LW_law_129 : decode code 129 = .ok (.iadd, 1) := by decide +kernel
theorem d_LW_law_130 : decode code 130 = .ok (.iaload, 1) := by decide +kernel
theorem d_LW_law_131 : decode code 131 = .ok (.aload_n 0, 1) := by decide +kernel
theorem d_LW_law_132 : decode code 132 = .ok (.iload_n 3, 1) := by decide +kernel
theorem d_LW_law_133 : decode code 133 = .ok (.iconst 3, 1) := by decide +kernel
theorem d_LW_law_134 : decode code 134 = .ok (.iadd, 1) := by decide +kernel
theorem d_LW_law_135 : decode code 135 = .ok (.iaload, 1) := by decide +kernel
theorem d_LW_law_136 : decode code 136 = .ok (.invokevirtual 13, 3) := by decide +kernel
theorem d_LW_law_139 : decode code 139 = .ok (.aload_n 2, 1) := by decide +kernel
theorem d_LW_law_140 : decode code 140 = .ok (.aload_n 0, 1) := by decide +kernel
theorem d_LW_law_141 : decode code 141 = .ok (.iload_n 3, 1) := by decide +kernel
theorem d_LW_law_142 : decode code 142 = .ok (.iconst 1, 1) := by decide +kernel
theorem d_LW_law_143 : decode code 143 = .ok (.iadd, 1) := by decide +kernel
theorem d_LW_law_144 : decode code 144 = .ok (.iaload, 1) := by decide +kernel
theorem d_LW_law_145 : decode code 145 = .ok (.ifCond .eq 7, 3) := by decide +kernel
theorem d_LW_law_148 : decode code 148 = .ok (.iconst 1, 1) := by decide +kernel
theorem d_LW_law_149 : decode code 149 = .ok (.goto 4, 3) := by decide +kernel
theorem d_LW_law_152 : decode code 152 = .ok (.iconst 0, 1) := by decide +kernel
theorem d_LW_law_153 : decode code 153 = .ok (.aload_n 0, 1) := by decide +kernel
theorem d_LW_law_154 : decode code 154 = .ok (.iload_n 3, 1) := by decide +kernel
theorem d_LW_law_155 : decode code 155 = .ok (.iconst 2, 1) := by decide +kernel
theorem d_LW_law_156 : decode code 156 = .ok (.iadd, 1) := by decide +kernel
theorem d_LW_law_157 : decode code 157 = .ok (.iaload, 1) := by decide +kernel
theorem d_LW_law_158 : decode code 158 = .ok (.aload_n 0, 1) := by decide +kernel
theorem d_LW_law_159 : decode code 159 = .ok (.iload_n 3, 1) := by decide +kernel
theorem d_LW_law_160 : decode code 160 = .ok (.iconst 3, 1) := by decide +kernel
theorem d_LW_law_161 : decode code 161 = .ok (.iadd, 1) := by decide +kernel
theorem d_LW_law_162 : decode code 162 = .ok (.iaload, 1) := by decide +kernel
theorem d_LW_law_163 : decode code 163 = .ok (.invokevirtual 17, 3) := by decide +kernel
theorem d_LW_law_166 : decode code 166 = .ok (.if_icmp .eq 446, 3) := by decide +kernel
theorem d_LW_law_169 : decode code 169 = .ok (.iconst 0, 1) := by decide +kernel
theorem d_LW_law_170 : decode code 170 = .ok (.ireturn, 1) := by decide +kernel
theorem d_LW_law_171 : decode code 171 = .ok (.aload_n 1, 1) := by decide +kernel
theorem d_LW_law_172 : decode code 172 = .ok (.aload_n 0, 1) := by decide +kernel
theorem d_LW_law_173 : decode code 173 = .ok (.iload_n 3, 1) := by decide +kernel
theorem d_LW_law_174 : decode code 174 = .ok (.iconst 1, 1) := by decide +kernel
theorem d_LW_law_175 : decode code 175 = .ok (.iadd, 1) := by decide +kernel
theorem d_LW_law_176 : decode code 176 = .ok (.iaload, 1) := by decide +kernel
theorem d_LW_law_177 : decode code 177 = .ok (.aload_n 0, 1) := by decide +kernel
theorem d_LW_law_178 : decode code 178 = .ok (.iload_n 3, 1) := by decide +kernel
theorem d_LW_law_179 : decode code 179 = .ok (.iconst 2, 1) := by decide +kernel
theorem d_LW_law_180 : decode code 180 = .ok (.iadd, 1) := by decide +kernel
theorem d_LW_law_181 : decode code 181 = .ok (.iaload, 1) := by decide +kernel
theorem d_LW_law_182 : decode code 182 = .ok (.aload_n 0, 1) := by decide +kernel
theorem d_LW_law_183 : decode code 183 = .ok (.iload_n 3, 1) := by decide +kernel
theorem d_LW_law_184 : decode code 184 = .ok (.iconst 3, 1) := by decide +kernel
theorem d_LW_law_185 : decode code 185 = .ok (.iadd, 1) := by decide +kernel
theorem d_LW_law_186 : decode code 186 = .ok (.iaload, 1) := by decide +kernel
theorem d_LW_law_187 : decode code 187 = .ok (.invokevirtual 18, 3) := by decide +kernel
theorem d_LW_law_190 : decode code 190 = .ok (.aload_n 2, 1) := by decide +kernel
theorem d_LW_law_191 : decode code 191 = .ok (.aload_n 0, 1) := by decide +kernel
theorem d_LW_law_192 : decode code 192 = .ok (.iload_n 3, 1) := by decide +kernel
theorem d_LW_law_193 : decode code 193 = .ok (.iconst 1, 1) := by decide +kernel
theorem d_LW_law_194 : decode code 194 = .ok (.iadd, 1) := by decide +kernel
theorem d_LW_law_195 : decode code 195 = .ok (.iaload, 1) := by decide +kernel
theorem d_LW_law_196 : decode code 196 = .ok (.aload_n 0, 1) := by decide +kernel
theorem d_LW_law_197 : decode code 197 = .ok (.iload_n 3, 1) := by decide +kernel
theorem d_LW_law_198 : decode code 198 = .ok (.iconst 2, 1) := by decide +kernel
theorem d_LW_law_199 : decode code 199 = .ok (.iadd, 1) := by decide +kernel
theorem d_LW_law_200 : decode code 200 = .ok (.iaload, 1) := by decide +kernel
theorem d_LW_law_201 : decode code 201 = .ok (.aload_n 0, 1) := by decide +kernel
theorem d_LW_law_202 : decode code 202 = .ok (.iload_n 3, 1) := by decide +kernel
theorem d_LW_law_203 : decode code 203 = .ok (.iconst 3, 1) := by decide +kernel
theorem d_LW_law_204 : decode code 204 = .ok (.iadd, 1) := by decide +kernel
theorem d_LW_law_205 : decode code 205 = .ok (.iaload, 1) := by decide +kernel
theorem d_LW_law_206 : decode code 206 = .ok (.invokevirtual 22, 3) := by decide +kernel
theorem d_LW_law_209 : decode code 209 = .ok (.if_icmp .eq 403, 3) := by decide +kernel
theorem d_LW_law_212 : decode code 212 = .ok (.iconst 0, 1) := by decide +kernel
theorem d_LW_law_213 : decode code 213 = .ok (.ireturn, 1) := by decide +kernel
theorem d_LW_law_214 : decode code 214 = .ok (.aload_n 1, 1) := by decide +kernel
theorem d_LW_law_215 : decode code 215 = .ok (.aload_n 0, 1) := by decide +kernel
theorem d_LW_law_216 : decode code 216 = .ok (.iload_n 3, 1) := by decide +kernel
theorem d_LW_law_217 : decode code 217 = .ok (.iconst 1, 1) := by decide +kernel
theorem d_LW_law_218 : decode code 218 = .ok (.iadd, 1) := by decide +kernel
theorem d_LW_law_219 : decode code 219 = .ok (.iaload, 1) := by decide +kernel
theorem d_LW_law_220 : decode code 220 = .ok (.aload_n 0, 1) := by decide +kernel
theorem d_LW_law_221 : decode code 221 = .ok (.iload_n 3, 1) := by decide +kernel
theorem d_LW_law_222 : decode code 222 = .ok (.iconst 2, 1) := by decide +kernel
theorem d_LW_law_223 : decode code 223 = .ok (.iadd, 1) := by decide +kernel
theorem d_LW_law_224 : decode code 224 = .ok (.iaload, 1) := by decide +kernel
theorem d_LW_law_225 : decode code 225 = .ok (.aload_n 0, 1) := by decide +kernel
theorem d_LW_law_226 : decode code 226 = .ok (.iload_n 3, 1) := by decide +kernel
theorem d_LW_law_227 : decode code 227 = .ok (.iconst 3, 1) := by decide +kernel
theorem d_LW_law_228 : decode code 228 = .ok (.iadd, 1) := by decide +kernel
theorem d_LW_law_229 : decode code 229 = .ok (.iaload, 1) := by decide +kernel
theorem d_LW_law_230 : decode code 230 = .ok (.aload_n 0, 1) := by decide +kernel
theorem d_LW_law_231 : decode code 231 = .ok (.iload_n 3, 1) := by decide +kernel
theorem d_LW_law_232 : decode code 232 = .ok (.iconst 4, 1) := by decide +kernel
theorem d_LW_law_233 : decode code 233 = .ok (.iadd, 1) := by decide +kernel
theorem d_LW_law_234 : decode code 234 = .ok (.iaload, 1) := by decide +kernel
theorem d_LW_law_235 : decode code 235 = .ok (.invokevirtual 23, 3) := by decide +kernel
theorem d_LW_law_238 : decode code 238 = .ok (.aload_n 2, 1) := by decide +kernel
theorem d_LW_law_239 : decode code 239 = .ok (.aload_n 0, 1) := by decide +kernel
theorem d_LW_law_240 : decode code 240 = .ok (.iload_n 3, 1) := by decide +kernel
theorem d_LW_law_241 : decode code 241 = .ok (.iconst 1, 1) := by decide +kernel
theorem d_LW_law_242 : decode code 242 = .ok (.iadd, 1) := by decide +kernel
theorem d_LW_law_243 : decode code 243 = .ok (.iaload, 1) := by decide +kernel
theorem d_LW_law_244 : decode code 244 = .ok (.aload_n 0, 1) := by decide +kernel
theorem d_LW_law_245 : decode code 245 = .ok (.iload_n 3, 1) := by decide +kernel
theorem d_LW_law_246 : decode code 246 = .ok (.iconst 2, 1) := by decide +kernel
theorem d_LW_law_247 : decode code 247 = .ok (.iadd, 1) := by decide +kernel
theorem d_LW_law_248 : decode code 248 = .ok (.iaload, 1) := by decide +kernel
theorem d_LW_law_249 : decode code 249 = .ok (.aload_n 0, 1) := by decide +kernel
theorem d_LW_law_250 : decode code 250 = .ok (.iload_n 3, 1) := by decide +kernel
theorem d_LW_law_251 : decode code 251 = .ok (.iconst 3, 1) := by decide +kernel
theorem d_LW_law_252 : decode code 252 = .ok (.iadd, 1) := by decide +kernel
theorem d_LW_law_253 : decode code 253 = .ok (.iaload, 1) := by decide +kernel
theorem d_LW_law_254 : decode code 254 = .ok (.aload_n 0, 1) := by decide +kernel
theorem d_LW_law_255 : decode code 255 = .ok (.iload_n 3, 1) := by decide +kernel
theorem d_LW_law_256 : decode code 256 = .ok (.iconst 4, 1) := by decide +kernel
theorem d_LW_law_257 : decode code 257 = .ok (.iadd, 1) := by decide +kernel
theorem d_LW_law_258 : decode code 258 = .ok (.iaload, 1) := by decide +kernel
theorem d_LW_law_259 : decode code 259 = .ok (.invokevirtual 27, 3) := by decide +kernel
theorem d_LW_law_262 : decode code 262 = .ok (.if_icmp .eq 350, 3) := by decide +kernel
theorem d_LW_law_265 : decode code 265 = .ok (.iconst 0, 1) := by decide +kernel
theorem d_LW_law_266 : decode code 266 = .ok (.ireturn, 1) := by decide +kernel
theorem d_LW_law_267 : decode code 267 = .ok (.aload_n 1, 1) := by decide +kernel
theorem d_LW_law_268 : decode code 268 = .ok (.aload_n 0, 1) := by decide +kernel
theorem d_LW_law_269 : decode code 269 = .ok (.iload_n 3, 1) := by decide +kernel
theorem d_LW_law_270 : decode code 270 = .ok (.iconst 1, 1) := by decide +kernel
theorem d_LW_law_271 : decode code 271 = .ok (.iadd, 1) := by decide +kernel
theorem d_LW_law_272 : decode code 272 = .ok (.iaload, 1) := by decide +kernel
theorem d_LW_law_273 : decode code 273 = .ok (.aload_n 0, 1) := by decide +kernel
theorem d_LW_law_274 : decode code 274 = .ok (.iload_n 3, 1) := by decide +kernel
theorem d_LW_law_275 : decode code 275 = .ok (.iconst 2, 1) := by decide +kernel
theorem d_LW_law_276 : decode code 276 = .ok (.iadd, 1) := by decide +kernel
theorem d_LW_law_277 : decode code 277 = .ok (.iaload, 1) := by decide +kernel
theorem d_LW_law_278 : decode code 278 = .ok (.invokevirtual 28, 3) := by decide +kernel
theorem d_LW_law_281 : decode code 281 = .ok (.aload_n 2, 1) := by decide +kernel
theorem d_LW_law_282 : decode code 282 = .ok (.aload_n 0, 1) := by decide +kernel
theorem d_LW_law_283 : decode code 283 = .ok (.iload_n 3, 1) := by decide +kernel
theorem d_LW_law_284 : decode code 284 = .ok (.iconst 1, 1) := by decide +kernel
theorem d_LW_law_285 : decode code 285 = .ok (.iadd, 1) := by decide +kernel
theorem d_LW_law_286 : decode code 286 = .ok (.iaload, 1) := by decide +kernel
theorem d_LW_law_287 : decode code 287 = .ok (.aload_n 0, 1) := by decide +kernel
theorem d_LW_law_288 : decode code 288 = .ok (.iload_n 3, 1) := by decide +kernel
theorem d_LW_law_289 : decode code 289 = .ok (.iconst 2, 1) := by decide +kernel
theorem d_LW_law_290 : decode code 290 = .ok (.iadd, 1) := by decide +kernel
theorem d_LW_law_291 : decode code 291 = .ok (.iaload, 1) := by decide +kernel
theorem d_LW_law_292 : decode code 292 = .ok (.invokevirtual 32, 3) := by decide +kernel
theorem d_LW_law_295 : decode code 295 = .ok (.if_icmp .eq 317, 3) := by decide +kernel
theorem d_LW_law_298 : decode code 298 = .ok (.iconst 0, 1) := by decide +kernel
theorem d_LW_law_299 : decode code 299 = .ok (.ireturn, 1) := by decide +kernel
theorem d_LW_law_300 : decode code 300 = .ok (.aload_n 1, 1) := by decide +kernel
theorem d_LW_law_301 : decode code 301 = .ok (.aload_n 0, 1) := by decide +kernel
theorem d_LW_law_302 : decode code 302 = .ok (.iload_n 3, 1) := by decide +kernel
theorem d_LW_law_303 : decode code 303 = .ok (.iconst 1, 1) := by decide +kernel
theorem d_LW_law_304 : decode code 304 = .ok (.iadd, 1) := by decide +kernel
theorem d_LW_law_305 : decode code 305 = .ok (.iaload, 1) := by decide +kernel
theorem d_LW_law_306 : decode code 306 = .ok (.aload_n 0, 1) := by decide +kernel
theorem d_LW_law_307 : decode code 307 = .ok (.iload_n 3, 1) := by decide +kernel
theorem d_LW_law_308 : decode code 308 = .ok (.iconst 2, 1) := by decide +kernel
theorem d_LW_law_309 : decode code 309 = .ok (.iadd, 1) := by decide +kernel
theorem d_LW_law_310 : decode code 310 = .ok (.iaload, 1) := by decide +kernel
theorem d_LW_law_311 : decode code 311 = .ok (.ifCond .eq 7, 3) := by decide +kernel
theorem d_LW_law_314 : decode code 314 = .ok (.iconst 1, 1) := by decide +kernel
theorem d_LW_law_315 : decode code 315 = .ok (.goto 4, 3) := by decide +kernel
theorem d_LW_law_318 : decode code 318 = .ok (.iconst 0, 1) := by decide +kernel
theorem d_LW_law_319 : decode code 319 = .ok (.invokevirtual 33, 3) := by decide +kernel
theorem d_LW_law_322 : decode code 322 = .ok (.aload_n 2, 1) := by decide +kernel
theorem d_LW_law_323 : decode code 323 = .ok (.aload_n 0, 1) := by decide +kernel
theorem d_LW_law_324 : decode code 324 = .ok (.iload_n 3, 1) := by decide +kernel
theorem d_LW_law_325 : decode code 325 = .ok (.iconst 1, 1) := by decide +kernel
theorem d_LW_law_326 : decode code 326 = .ok (.iadd, 1) := by decide +kernel
theorem d_LW_law_327 : decode code 327 = .ok (.iaload, 1) := by decide +kernel
theorem d_LW_law_328 : decode code 328 = .ok (.aload_n 0, 1) := by decide +kernel
theorem d_LW_law_329 : decode code 329 = .ok (.iload_n 3, 1) := by decide +kernel
theorem d_LW_law_330 : decode code 330 = .ok (.iconst 2, 1) := by decide +kernel
theorem d_LW_law_331 : decode code 331 = .ok (.iadd, 1) := by decide +kernel
theorem d_LW_law_332 : decode code 332 = .ok (.iaload, 1) := by decide +kernel
theorem d_LW_law_333 : decode code 333 = .ok (.ifCond .eq 7, 3) := by decide +kernel
theorem d_LW_law_336 : decode code 336 = .ok (.iconst 1, 1) := by decide +kernel
theorem d_LW_law_337 : decode code 337 = .ok (.goto 4, 3) := by decide +kernel
theorem d_LW_law_340 : decode code 340 = .ok (.iconst 0, 1) := by decide +kernel
theorem d_LW_law_341 : decode code 341 = .ok (.invokevirtual 37, 3) := by decide +kernel
theorem d_LW_law_344 : decode code 344 = .ok (.if_icmp .eq 268, 3) := by decide +kernel
theorem d_LW_law_347 : decode code 347 = .ok (.iconst 0, 1) := by decide +kernel
theorem d_LW_law_348 : decode code 348 = .ok (.ireturn, 1) := by decide +kernel
theorem d_LW_law_349 : decode code 349 = .ok (.aload_n 1, 1) := by decide +kernel
theorem d_LW_law_350 : decode code 350 = .ok (.aload_n 0, 1) := by decide +kernel
theorem d_LW_law_351 : decode code 351 = .ok (.iload_n 3, 1) := by decide +kernel
theorem d_LW_law_352 : decode code 352 = .ok (.iconst 1, 1) := by decide +kernel
theorem d_LW_law_353 : decode code 353 = .ok (.iadd, 1) := by decide +kernel
theorem d_LW_law_354 : decode code 354 = .ok (.iaload, 1) := by decide +kernel
theorem d_LW_law_355 : decode code 355 = .ok (.invokevirtual 38, 3) := by decide +kernel
theorem d_LW_law_358 : decode code 358 = .ok (.aload_n 2, 1) := by decide +kernel
theorem d_LW_law_359 : decode code 359 = .ok (.aload_n 0, 1) := by decide +kernel
theorem d_LW_law_360 : decode code 360 = .ok (.iload_n 3, 1) := by decide +kernel
theorem d_LW_law_361 : decode code 361 = .ok (.iconst 1, 1) := by decide +kernel
theorem d_LW_law_362 : decode code 362 = .ok (.iadd, 1) := by decide +kernel
theorem d_LW_law_363 : decode code 363 = .ok (.iaload, 1) := by decide +kernel
theorem d_LW_law_364 : decode code 364 = .ok (.invokevirtual 42, 3) := by decide +kernel
theorem d_LW_law_367 : decode code 367 = .ok (.if_icmp .eq 245, 3) := by decide +kernel
theorem d_LW_law_370 : decode code 370 = .ok (.iconst 0, 1) := by decide +kernel
theorem d_LW_law_371 : decode code 371 = .ok (.ireturn, 1) := by decide +kernel
theorem d_LW_law_372 : decode code 372 = .ok (.aload_n 1, 1) := by decide +kernel
theorem d_LW_law_373 : decode code 373 = .ok (.invokevirtual 43, 3) := by decide +kernel
theorem d_LW_law_376 : decode code 376 = .ok (.aload_n 2, 1) := by decide +kernel
theorem d_LW_law_377 : decode code 377 = .ok (.invokevirtual 47, 3) := by decide +kernel
theorem d_LW_law_380 : decode code 380 = .ok (.if_icmp .eq 232, 3) := by decide +kernel
theorem d_LW_law_383 : decode code 383 = .ok (.iconst 0, 1) := by decide +kernel
theorem d_LW_law_384 : decode code 384 = .ok (.ireturn, 1) := by decide +kernel
theorem d_LW_law_385 : decode code 385 = .ok (.aload_n 1, 1) := by decide +kernel
theorem d_LW_law_386 : decode code 386 = .ok (.invokevirtual 48, 3) := by decide +kernel
theorem d_LW_law_389 : decode code 389 = .ok (.aload_n 2, 1) := by decide +kernel
theorem d_LW_law_390 : decode code 390 = .ok (.invokevirtual 51, 3) := by decide +kernel
theorem d_LW_law_393 : decode code 393 = .ok (.if_icmp .eq 219, 3) := by decide +kernel
theorem d_LW_law_396 : decode code 396 = .ok (.iconst 0, 1) := by decide +kernel
theorem d_LW_law_397 : decode code 397 = .ok (.ireturn, 1) := by decide +kernel
theorem d_LW_law_398 : decode code 398 = .ok (.aload_n 1, 1) := by decide +kernel
theorem d_LW_law_399 : decode code 399 = .ok (.aload_n 0, 1) := by decide +kernel
theorem d_LW_law_400 : decode code 400 = .ok (.iload_n 3, 1) := by decide +kernel
theorem d_LW_law_401 : decode code 401 = .ok (.iconst 1, 1) := by decide +kernel
theorem d_LW_law_402 : decode code 402 = .ok (.iadd, 1) := by decide +kernel
theorem d_LW_law_403 : decode code 403 = .ok (.iaload, 1) := by decide +kernel
theorem d_LW_law_404 : decode code 404 = .ok (.aload_n 0, 1) := by decide +kernel
theorem d_LW_law_405 : decode code 405 = .ok (.iload_n 3, 1) := by decide +kernel
theorem d_LW_law_406 : decode code 406 = .ok (.iconst 2, 1) := by decide +kernel
theorem d_LW_law_407 : decode code 407 = .ok (.iadd, 1) := by decide +kernel
theorem d_LW_law_408 : decode code 408 = .ok (.iaload, 1) := by decide +kernel
theorem d_LW_law_409 : decode code 409 = .ok (.invokevirtual 52, 3) := by decide +kernel
theorem d_LW_law_412 : decode code 412 = .ok (.aload_n 2, 1) := by decide +kernel
theorem d_LW_law_413 : decode code 413 = .ok (.aload_n 0, 1) := by decide +kernel
theorem d_LW_law_414 : decode code 414 = .ok (.iload_n 3, 1) := by decide +kernel
theorem d_LW_law_415 : decode code 415 = .ok (.iconst 1, 1) := by decide +kernel
theorem d_LW_law_416 : decode code 416 = .ok (.iadd, 1) := by decide +kernel
theorem d_LW_law_417 : decode code 417 = .ok (.iaload, 1) := by decide +kernel
theorem d_LW_law_418 : decode code 418 = .ok (.aload_n 0, 1) := by decide +kernel
theorem d_LW_law_419 : decode code 419 = .ok (.iload_n 3, 1) := by decide +kernel
theorem d_LW_law_420 : decode code 420 = .ok (.iconst 2, 1) := by decide +kernel
theorem d_LW_law_421 : decode code 421 = .ok (.iadd, 1) := by decide +kernel
theorem d_LW_law_422 : decode code 422 = .ok (.iaload, 1) := by decide +kernel
theorem d_LW_law_423 : decode code 423 = .ok (.invokevirtual 56, 3) := by decide +kernel
theorem d_LW_law_426 : decode code 426 = .ok (.if_icmp .eq 186, 3) := by decide +kernel
theorem d_LW_law_429 : decode code 429 = .ok (.iconst 0, 1) := by decide +kernel
theorem d_LW_law_430 : decode code 430 = .ok (.ireturn, 1) := by decide +kernel
theorem d_LW_law_431 : decode code 431 = .ok (.aload_n 1, 1) := by decide +kernel
theorem d_LW_law_432 : decode code 432 = .ok (.aload_n 0, 1) := by decide +kernel
theorem d_LW_law_433 : decode code 433 = .ok (.iload_n 3, 1) := by decide +kernel
theorem d_LW_law_434 : decode code 434 = .ok (.iconst 1, 1) := by decide +kernel
theorem d_LW_law_435 : decode code 435 = .ok (.iadd, 1) := by decide +kernel
theorem d_LW_law_436 : decode code 436 = .ok (.iaload, 1) := by decide +kernel
theorem d_LW_law_437 : decode code 437 = .ok (.aload_n 0, 1) := by decide +kernel
theorem d_LW_law_438 : decode code 438 = .ok (.iload_n 3, 1) := by decide +kernel
theorem d_LW_law_439 : decode code 439 = .ok (.iconst 2, 1) := by decide +kernel
theorem d_LW_law_440 : decode code 440 = .ok (.iadd, 1) := by decide +kernel
theorem d_LW_law_441 : decode code 441 = .ok (.iaload, 1) := by decide +kernel
theorem d_LW_law_442 : decode code 442 = .ok (.aload_n 0, 1) := by decide +kernel
theorem d_LW_law_443 : decode code 443 = .ok (.iload_n 3, 1) := by decide +kernel
theorem d_LW_law_444 : decode code 444 = .ok (.iconst 3, 1) := by decide +kernel
theorem d_LW_law_445 : decode code 445 = .ok (.iadd, 1) := by decide +kernel
theorem d_LW_law_446 : decode code 446 = .ok (.iaload, 1) := by decide +kernel
theorem d_LW_law_447 : decode code 447 = .ok (.invokevirtual 57, 3) := by decide +kernel
theorem d_LW_law_450 : decode code 450 = .ok (.aload_n 2, 1) := by decide +kernel
theorem d_LW_law_451 : decode code 451 = .ok (.aload_n 0, 1) := by decide +kernel
theorem d_LW_law_452 : decode code 452 = .ok (.iload_n 3, 1) := by decide +kernel
theorem d_LW_law_453 : decode code 453 = .ok (.iconst 1, 1) := by decide +kernel
theorem d_LW_law_454 : decode code 454 = .ok (.iadd, 1) := by decide +kernel
theorem d_LW_law_455 : decode code 455 = .ok (.iaload, 1) := by decide +kernel
theorem d_LW_law_456 : decode code 456 = .ok (.aload_n 0, 1) := by decide +kernel
theorem d_LW_law_457 : decode code 457 = .ok (.iload_n 3, 1) := by decide +kernel
theorem d_LW_law_458 : decode code 458 = .ok (.iconst 2, 1) := by decide +kernel
theorem d_LW_law_459 : decode code 459 = .ok (.iadd, 1) := by decide +kernel
theorem d_LW_law_460 : decode code 460 = .ok (.iaload, 1) := by decide +kernel
theorem d_LW_law_461 : decode code 461 = .ok (.aload_n 0, 1) := by decide +kernel
theorem d_LW_law_462 : decode code 462 = .ok (.iload_n 3, 1) := by decide +kernel
theorem d_LW_law_463 : decode code 463 = .ok (.iconst 3, 1) := by decide +kernel
theorem d_LW_law_464 : decode code 464 = .ok (.iadd, 1) := by decide +kernel
theorem d_LW_law_465 : decode code 465 = .ok (.iaload, 1) := by decide +kernel
theorem d_LW_law_466 : decode code 466 = .ok (.invokevirtual 61, 3) := by decide +kernel
theorem d_LW_law_469 : decode code 469 = .ok (.if_icmp .eq 143, 3) := by decide +kernel
theorem d_LW_law_472 : decode code 472 = .ok (.iconst 0, 1) := by decide +kernel
theorem d_LW_law_473 : decode code 473 = .ok (.ireturn, 1) := by decide +kernel
theorem d_LW_law_474 : decode code 474 = .ok (.aload_n 1, 1) := by decide +kernel
theorem d_LW_law_475 : decode code 475 = .ok (.aload_n 0, 1) := by decide +kernel
theorem d_LW_law_476 : decode code 476 = .ok (.iload_n 3, 1) := by decide +kernel
theorem d_LW_law_477 : decode code 477 = .ok (.iconst 1, 1) := by decide +kernel
theorem d_LW_law_478 : decode code 478 = .ok (.iadd, 1) := by decide +kernel
theorem d_LW_law_479 : decode code 479 = .ok (.iaload, 1) := by decide +kernel
theorem d_LW_law_480 : decode code 480 = .ok (.aload_n 0, 1) := by decide +kernel
theorem d_LW_law_481 : decode code 481 = .ok (.iload_n 3, 1) := by decide +kernel
theorem d_LW_law_482 : decode code 482 = .ok (.iconst 2, 1) := by decide +kernel
theorem d_LW_law_483 : decode code 483 = .ok (.iadd, 1) := by decide +kernel
theorem d_LW_law_484 : decode code 484 = .ok (.iaload, 1) := by decide +kernel
theorem d_LW_law_485 : decode code 485 = .ok (.invokevirtual 62, 3) := by decide +kernel
theorem d_LW_law_488 : decode code 488 = .ok (.aload_n 2, 1) := by decide +kernel
theorem d_LW_law_489 : decode code 489 = .ok (.aload_n 0, 1) := by decide +kernel
theorem d_LW_law_490 : decode code 490 = .ok (.iload_n 3, 1) := by decide +kernel
theorem d_LW_law_491 : decode code 491 = .ok (.iconst 1, 1) := by decide +kernel
theorem d_LW_law_492 : decode code 492 = .ok (.iadd, 1) := by decide +kernel
theorem d_LW_law_493 : decode code 493 = .ok (.iaload, 1) := by decide +kernel
theorem d_LW_law_494 : decode code 494 = .ok (.aload_n 0, 1) := by decide +kernel
theorem d_LW_law_495 : decode code 495 = .ok (.iload_n 3, 1) := by decide +kernel
theorem d_LW_law_496 : decode code 496 = .ok (.iconst 2, 1) := by decide +kernel
theorem d_LW_law_497 : decode code 497 = .ok (.iadd, 1) := by decide +kernel
theorem d_LW_law_498 : decode code 498 = .ok (.iaload, 1) := by decide +kernel
theorem d_LW_law_499 : decode code 499 = .ok (.invokevirtual 65, 3) := by decide +kernel
theorem d_LW_law_502 : decode code 502 = .ok (.if_icmp .eq 110, 3) := by decide +kernel
theorem d_LW_law_505 : decode code 505 = .ok (.iconst 0, 1) := by decide +kernel
theorem d_LW_law_506 : decode code 506 = .ok (.ireturn, 1) := by decide +kernel
theorem d_LW_law_507 : decode code 507 = .ok (.aload_n 1, 1) := by decide +kernel
theorem d_LW_law_508 : decode code 508 = .ok (.aload_n 0, 1) := by decide +kernel
theorem d_LW_law_509 : decode code 509 = .ok (.iload_n 3, 1) := by decide +kernel
theorem d_LW_law_510 : decode code 510 = .ok (.iconst 1, 1) := by decide +kernel
theorem d_LW_law_511 : decode code 511 = .ok (.iadd, 1) := by decide +kernel
theorem d_LW_law_512 : decode code 512 = .ok (.iaload, 1) := by decide +kernel
theorem d_LW_law_513 : decode code 513 = .ok (.invokevirtual 66, 3) := by decide +kernel
theorem d_LW_law_516 : decode code 516 = .ok (.aload_n 2, 1) := by decide +kernel
theorem d_LW_law_517 : decode code 517 = .ok (.aload_n 0, 1) := by decide +kernel
theorem d_LW_law_518 : decode code 518 = .ok (.iload_n 3, 1) := by decide +kernel
theorem d_LW_law_519 : decode code 519 = .ok (.iconst 1, 1) := by decide +kernel
theorem d_LW_law_520 : decode code 520 = .ok (.iadd, 1) := by decide +kernel
theorem d_LW_law_521 : decode code 521 = .ok (.iaload, 1) := by decide +kernel
theorem d_LW_law_522 : decode code 522 = .ok (.invokevirtual 70, 3) := by decide +kernel
theorem d_LW_law_525 : decode code 525 = .ok (.if_icmp .eq 87, 3) := by decide +kernel
theorem d_LW_law_528 : decode code 528 = .ok (.iconst 0, 1) := by decide +kernel
theorem d_LW_law_529 : decode code 529 = .ok (.ireturn, 1) := by decide +kernel
theorem d_LW_law_530 : decode code 530 = .ok (.aload_n 1, 1) := by decide +kernel
theorem d_LW_law_531 : decode code 531 = .ok (.aload_n 0, 1) := by decide +kernel
theorem d_LW_law_532 : decode code 532 = .ok (.iload_n 3, 1) := by decide +kernel
theorem d_LW_law_533 : decode code 533 = .ok (.iconst 1, 1) := by decide +kernel
theorem d_LW_law_534 : decode code 534 = .ok (.iadd, 1) := by decide +kernel
theorem d_LW_law_535 : decode code 535 = .ok (.iaload, 1) := by decide +kernel
theorem d_LW_law_536 : decode code 536 = .ok (.invokevirtual 71, 3) := by decide +kernel
theorem d_LW_law_539 : decode code 539 = .ok (.aload_n 2, 1) := by decide +kernel
theorem d_LW_law_540 : decode code 540 = .ok (.aload_n 0, 1) := by decide +kernel
theorem d_LW_law_541 : decode code 541 = .ok (.iload_n 3, 1) := by decide +kernel
theorem d_LW_law_542 : decode code 542 = .ok (.iconst 1, 1) := by decide +kernel
theorem d_LW_law_543 : decode code 543 = .ok (.iadd, 1) := by decide +kernel
theorem d_LW_law_544 : decode code 544 = .ok (.iaload, 1) := by decide +kernel
theorem d_LW_law_545 : decode code 545 = .ok (.invokevirtual 74, 3) := by decide +kernel
theorem d_LW_law_548 : decode code 548 = .ok (.if_icmp .eq 64, 3) := by decide +kernel
theorem d_LW_law_551 : decode code 551 = .ok (.iconst 0, 1) := by decide +kernel
theorem d_LW_law_552 : decode code 552 = .ok (.ireturn, 1) := by decide +kernel
theorem d_LW_law_553 : decode code 553 = .ok (.aload_n 1, 1) := by decide +kernel
theorem d_LW_law_554 : decode code 554 = .ok (.aload_n 0, 1) := by decide +kernel
theorem d_LW_law_555 : decode code 555 = .ok (.iload_n 3, 1) := by decide +kernel
theorem d_LW_law_556 : decode code 556 = .ok (.iconst 1, 1) := by decide +kernel
theorem d_LW_law_557 : decode code 557 = .ok (.iadd, 1) := by decide +kernel
theorem d_LW_law_558 : decode code 558 = .ok (.iaload, 1) := by decide +kernel
theorem d_LW_law_559 : decode code 559 = .ok (.invokevirtual 75, 3) := by decide +kernel
theorem d_LW_law_562 : decode code 562 = .ok (.aload_n 2, 1) := by decide +kernel
theorem d_LW_law_563 : decode code 563 = .ok (.aload_n 0, 1) := by decide +kernel
theorem d_LW_law_564 : decode code 564 = .ok (.iload_n 3, 1) := by decide +kernel
theorem d_LW_law_565 : decode code 565 = .ok (.iconst 1, 1) := by decide +kernel
theorem d_LW_law_566 : decode code 566 = .ok (.iadd, 1) := by decide +kernel
theorem d_LW_law_567 : decode code 567 = .ok (.iaload, 1) := by decide +kernel
theorem d_LW_law_568 : decode code 568 = .ok (.invokevirtual 78, 3) := by decide +kernel
theorem d_LW_law_571 : decode code 571 = .ok (.if_icmp .eq 41, 3) := by decide +kernel
theorem d_LW_law_574 : decode code 574 = .ok (.iconst 0, 1) := by decide +kernel
theorem d_LW_law_575 : decode code 575 = .ok (.ireturn, 1) := by decide +kernel
theorem d_LW_law_576 : decode code 576 = .ok (.aload_n 1, 1) := by decide +kernel
theorem d_LW_law_577 : decode code 577 = .ok (.invokevirtual 79, 3) := by decide +kernel
theorem d_LW_law_580 : decode code 580 = .ok (.aload_n 2, 1) := by decide +kernel
theorem d_LW_law_581 : decode code 581 = .ok (.invokevirtual 83, 3) := by decide +kernel
theorem d_LW_law_584 : decode code 584 = .ok (.if_icmp .eq 28, 3) := by decide +kernel
theorem d_LW_law_587 : decode code 587 = .ok (.iconst 0, 1) := by decide +kernel
theorem d_LW_law_588 : decode code 588 = .ok (.ireturn, 1) := by decide +kernel
theorem d_LW_law_589 : decode code 589 = .ok (.aload_n 1, 1) := by decide +kernel
theorem d_LW_law_590 : decode code 590 = .ok (.aload_n 0, 1) := by decide +kernel
theorem d_LW_law_591 : decode code 591 = .ok (.iload_n 3, 1) := by decide +kernel
theorem d_LW_law_592 : decode code 592 = .ok (.iconst 1, 1) := by decide +kernel
theorem d_LW_law_593 : decode code 593 = .ok (.iadd, 1) := by decide +kernel
theorem d_LW_law_594 : decode code 594 = .ok (.iaload, 1) := by decide +kernel
theorem d_LW_law_595 : decode code 595 = .ok (.invokevirtual 84, 3) := by decide +kernel
theorem d_LW_law_598 : decode code 598 = .ok (.aload_n 2, 1) := by decide +kernel
theorem d_LW_law_599 : decode code 599 = .ok (.aload_n 0, 1) := by decide +kernel
theorem d_LW_law_600 : decode code 600 = .ok (.iload_n 3, 1) := by decide +kernel
theorem d_LW_law_601 : decode code 601 = .ok (.iconst 1, 1) := by decide +kernel
theorem d_LW_law_602 : decode code 602 = .ok (.iadd, 1) := by decide +kernel
theorem d_LW_law_603 : decode code 603 = .ok (.iaload, 1) := by decide +kernel
theorem d_LW_law_604 : decode code 604 = .ok (.invokevirtual 87, 3) := by decide +kernel
theorem d_LW_law_607 : decode code 607 = .ok (.if_icmp .eq 5, 3) := by decide +kernel
theorem d_LW_law_610 : decode code 610 = .ok (.iconst 0, 1) := by decide +kernel
theorem d_LW_law_611 : decode code 611 = .ok (.ireturn, 1) := by decide +kernel
theorem d_LW_law_612 : decode code 612 = .ok (.iinc 3 5, 3) := by decide +kernel
theorem d_LW_law_615 : decode code 615 = .ok (.goto (-597), 3) := by decide +kernel
theorem d_LW_law_618 : decode code 618 = .ok (.iconst 1, 1) := by decide +kernel
theorem d_LW_law_619 : decode code 619 = .ok (.ireturn, 1) := by decide +kernel
end
section
theorem gw {w : Cond} (k : Nat) (h : tables_1[k]? = some w) (hg : goodWord w = true) : w ∈ lw_good := List.mem_filter.mpr ⟨List.mem_append_right _ (List.mem_of_getElem? h), hg⟩
theorem gp {w : Cond} (k : Nat) (h : (k2_sels lw_privs)[k]? = some w) (hg : goodWord w = true) : w ∈ lw_good := List.mem_filter.mpr ⟨List.mem_append_left _ (List.mem_of_getElem? h), hg⟩
theorem kc_En : mt_cls 0 R_En F_En 4 t_En := ⟨rfl, by decide +kernel, t_En_ok, n_En, gw 181 (by decide +kernel) (by decide +kernel), gw 9 (by decide +kernel) (by decide +kernel)⟩
theorem wini_En : Cond.initialized R_En ∈ lw_good := kc_En.2.2.2.2.2
theorem kc_Jo : mt_cls 1 R_Jo F_Jo 3 t_Jo := ⟨rfl, by decide +kernel, t_Jo_ok, n_Jo, gw 103 (by decide +kernel) (by decide +kernel), gw 5 (by decide +kernel) (by decide +kernel)⟩
theorem wini_Jo : Cond.initialized R_Jo ∈ lw_good := kc_Jo.2.2.2.2.2
theorem kc_Jr : mt_cls 2 R_Jr F_Jr 3 t_Jr := ⟨rfl, by decide +kernel, t_Jr_ok, n_Jr, gw 110 (by decide +kernel) (by decide +kernel), gw 6 (by decide +kernel) (by decide +kernel)⟩
theorem wini_Jr : Cond.initialized R_Jr ∈ lw_good := kc_Jr.2.2.2.2.2
theorem kc_Li : mt_cls 3 R_Li F_Li 3 t_Li := ⟨rfl, by decide +kernel, t_Li_ok, n_Li, gw 43 (by decide +kernel) (by decide +kernel), gw 3 (by decide +kernel) (by decide +kernel)⟩
theorem wini_Li : Cond.initialized R_Li ∈ lw_good := kc_Li.2.2.2.2.2
theorem kc_Ms : mt_cls 4 R_Ms F_Ms 8 t_Ms := ⟨rfl, by decide +kernel, t_Ms_ok, n_Ms, gw 50 (by decide +kernel) (by decide +kernel), gw 4 (by decide +kernel) (by decide +kernel)⟩
theorem wini_Ms : Cond.initialized R_Ms ∈ lw_good := kc_Ms.2.2.2.2.2
theorem kc_Ro : mt_cls 5 R_Ro F_Ro 2 t_Ro := ⟨rfl, by decide +kernel, t_Ro_ok, n_Ro, gw 116 (by decide +kernel) (by decide +kernel), gw 7 (by decide +kernel) (by decide +kernel)⟩
theorem wini_Ro : Cond.initialized R_Ro ∈ lw_good := kc_Ro.2.2.2.2.2
theorem kc_Ru : mt_cls 6 R_Ru F_Ru 4 t_Ru := ⟨rfl, by decide +kernel, t_Ru_ok, n_Ru, gw 22 (by decide +kernel) (by decide +kernel), gw 2 (by decide +kernel) (by decide +kernel)⟩
theorem wini_Ru : Cond.initialized R_Ru ∈ lw_good := kc_Ru.2.2.2.2.2
theorem kc_Sf : mt_cls 7 R_Sf F_Sf 3 t_Sf := ⟨rfl, by decide +kernel, t_Sf_ok, n_Sf, gw 159 (by decide +kernel) (by decide +kernel), gw 8 (by decide +kernel) (by decide +kernel)⟩
theorem wini_Sf : Cond.initialized R_Sf ∈ lw_good := kc_Sf.2.2.2.2.2
theorem kc_TC : mt_cls 8 R_TC F_TC 12 t_TC := ⟨rfl, by decide +kernel, t_TC_ok, n_TC, gw 12 (by decide +kernel) (by decide +kernel), gw 1 (by decide +kernel) (by decide +kernel)⟩
theorem wini_TC : Cond.initialized R_TC ∈ lw_good := kc_TC.2.2.2.2.2
theorem kc_MD : mt_cls 9 R_MD F_MD 28 t_MD := ⟨rfl, by decide +kernel, t_MD_ok, n_MD, gw 510 (by decide +kernel) (by decide +kernel), gw 10 (by decide +kernel) (by decide +kernel)⟩
theorem wini_MD : Cond.initialized R_MD ∈ lw_good := kc_MD.2.2.2.2.2
theorem w_oi_i : Cond.instanceMethod Lib.objectInit ∈ lw_good := gw 17 (by decide +kernel) (by decide +kernel)
theorem w_oi_c : Cond.code Lib.objectInit ⟨#[0xb1]⟩ 1 none ∈ lw_good := gw 18 (by decide +kernel) (by decide +kernel)
theorem w_int : Cond.arrayClass .int ∈ lw_good := gw 41 (by decide +kernel) (by decide +kernel)
theorem w_bool : Cond.arrayClass .boolean ∈ lw_good := gw 40 (by decide +kernel) (by decide +kernel)
section SN
variable {Z : Nat → State → Prop} {cc : ByteArray} {nL : Nat} {own nm : String} {ret : Option FieldType} {fr lo pc n : Nat}
theorem sn_newInt (d : decode cc pc = .ok (.newarray .int, 2)) (hn : pc + 2 = n) : mt_Sp Z cc nL own nm ret fr lo pc n (o_newI 0) := sn_newI d rfl w_int (fun _ _ => rfl) (by decide) (fun _ => rfl) (fun _ _ _ h1 h2 => Option.some.inj (h1.symm.trans h2)) hn
theorem sn_newBool (d : decode cc pc = .ok (.newarray .boolean, 2)) (hn : pc + 2 = n) : mt_Sp Z cc nL own nm ret fr lo pc n (o_newI 1) := sn_newI d rfl w_bool (fun _ _ => rfl) (by decide) (fun _ => rfl) (fun _ _ _ h1 h2 => Option.some.inj (h1.symm.trans h2)) hn
end SN
theorem wc_En_init : Cond.code y_En_init c_En_init 1 none ∈ lw_good := gw 184 (by decide +kernel) (by decide +kernel)
theorem wi_En_init : Cond.instanceMethod y_En_init ∈ lw_good := gw 183 (by decide +kernel) (by decide +kernel)
theorem wc_En_agreesWith : Cond.code y_En_agreesWith c_En_agreesWith 2 (some .boolean) ∈ lw_good := gw 373 (by decide +kernel) (by decide +kernel)
theorem wi_En_agreesWith : Cond.instanceMethod y_En_agreesWith ∈ lw_good := gw 371 (by decide +kernel) (by decide +kernel)
theorem ws_En_agreesWith : Cond.selects R_En y_En_agreesWith y_En_agreesWith ∈ lw_good := gw 372 (by decide +kernel) (by decide +kernel)
theorem wc_En_forget : Cond.code y_En_forget c_En_forget 1 none ∈ lw_good := gw 451 (by decide +kernel) (by decide +kernel)
theorem wi_En_forget : Cond.instanceMethod y_En_forget ∈ lw_good := gw 449 (by decide +kernel) (by decide +kernel)
theorem ws_En_forget : Cond.selects R_En y_En_forget y_En_forget ∈ lw_good := gw 450 (by decide +kernel) (by decide +kernel)
theorem wc_Jo_init : Cond.code y_Jo_init c_Jo_init 2 none ∈ lw_good := gw 106 (by decide +kernel) (by decide +kernel)
theorem wi_Jo_init : Cond.instanceMethod y_Jo_init ∈ lw_good := gw 105 (by decide +kernel) (by decide +kernel)
theorem wc_Jo_append : Cond.code y_Jo_append c_Jo_append 5 none ∈ lw_good := gw 422 (by decide +kernel) (by decide +kernel)
theorem wi_Jo_append : Cond.instanceMethod y_Jo_append ∈ lw_good := gw 420 (by decide +kernel) (by decide +kernel)
theorem ws_Jo_append : Cond.selects R_Jo y_Jo_append y_Jo_append ∈ lw_good := gw 421 (by decide +kernel) (by decide +kernel)
theorem wc_Jo_take : Cond.code y_Jo_take c_Jo_take 2 (some (.object "TreeCarrier$JournalRecord")) ∈ lw_good := gw 321 (by decide +kernel) (by decide +kernel)
theorem wi_Jo_take : Cond.instanceMethod y_Jo_take ∈ lw_good := gw 319 (by decide +kernel) (by decide +kernel)
theorem ws_Jo_take : Cond.selects R_Jo y_Jo_take y_Jo_take ∈ lw_good := gw 320 (by decide +kernel) (by decide +kernel)
theorem wc_Jr_init : Cond.code y_Jr_init c_Jr_init 1 none ∈ lw_good := gw 113 (by decide +kernel) (by decide +kernel)
theorem wi_Jr_init : Cond.instanceMethod y_Jr_init ∈ lw_good := gw 112 (by decide +kernel) (by decide +kernel)
theorem wc_Li_init : Cond.code y_Li_init c_Li_init 2 none ∈ lw_good := gw 46 (by decide +kernel) (by decide +kernel)
theorem wi_Li_init : Cond.instanceMethod y_Li_init ∈ lw_good := gw 45 (by decide +kernel) (by decide +kernel)
theorem wc_Li_append : Cond.code y_Li_append c_Li_append 4 (some (.object "TreeCarrier$Message")) ∈ lw_good := gw 337 (by decide +kernel) (by decide +kernel)
theorem wi_Li_append : Cond.instanceMethod y_Li_append ∈ lw_good := gw 335 (by decide +kernel) (by decide +kernel)
theorem ws_Li_append : Cond.selects R_Li y_Li_append y_Li_append ∈ lw_good := gw 336 (by decide +kernel) (by decide +kernel)
theorem wc_Li_take : Cond.code y_Li_take c_Li_take 2 (some (.object "TreeCarrier$Message")) ∈ lw_good := gw 353 (by decide +kernel) (by decide +kernel)
theorem wi_Li_take : Cond.instanceMethod y_Li_take ∈ lw_good := gw 351 (by decide +kernel) (by decide +kernel)
theorem ws_Li_take : Cond.selects R_Li y_Li_take y_Li_take ∈ lw_good := gw 352 (by decide +kernel) (by decide +kernel)
theorem wc_Li_oldestKind : Cond.code y_Li_oldestKind c_Li_oldestKind 1 (some .int) ∈ lw_good := gw 500 (by decide +kernel) (by decide +kernel)
theorem wi_Li_oldestKind : Cond.instanceMethod y_Li_oldestKind ∈ lw_good := gw 498 (by decide +kernel) (by decide +kernel)
theorem ws_Li_oldestKind : Cond.selects R_Li y_Li_oldestKind y_Li_oldestKind ∈ lw_good := gw 499 (by decide +kernel) (by decide +kernel)
theorem wc_Li_clear : Cond.code y_Li_clear c_Li_clear 1 none ∈ lw_good := gw 447 (by decide +kernel) (by decide +kernel)
theorem wi_Li_clear : Cond.instanceMethod y_Li_clear ∈ lw_good := gw 445 (by decide +kernel) (by decide +kernel)
theorem ws_Li_clear : Cond.selects R_Li y_Li_clear y_Li_clear ∈ lw_good := gw 446 (by decide +kernel) (by decide +kernel)
theorem wc_Ms_init : Cond.code y_Ms_init c_Ms_init 1 none ∈ lw_good := gw 53 (by decide +kernel) (by decide +kernel)
theorem wi_Ms_init : Cond.instanceMethod y_Ms_init ∈ lw_good := gw 52 (by decide +kernel) (by decide +kernel)
theorem wc_Ms_startAs : Cond.code y_Ms_startAs c_Ms_startAs 3 none ∈ lw_good := gw 341 (by decide +kernel) (by decide +kernel)
theorem wi_Ms_startAs : Cond.instanceMethod y_Ms_startAs ∈ lw_good := gw 339 (by decide +kernel) (by decide +kernel)
theorem ws_Ms_startAs : Cond.selects R_Ms y_Ms_startAs y_Ms_startAs ∈ lw_good := gw 340 (by decide +kernel) (by decide +kernel)
theorem wc_Ms_addItem : Cond.code y_Ms_addItem c_Ms_addItem 2 none ∈ lw_good := gw 398 (by decide +kernel) (by decide +kernel)
theorem wi_Ms_addItem : Cond.instanceMethod y_Ms_addItem ∈ lw_good := gw 396 (by decide +kernel) (by decide +kernel)
theorem ws_Ms_addItem : Cond.selects R_Ms y_Ms_addItem y_Ms_addItem ∈ lw_good := gw 397 (by decide +kernel) (by decide +kernel)
theorem wc_Ro_init : Cond.code y_Ro_init c_Ro_init 1 none ∈ lw_good := gw 119 (by decide +kernel) (by decide +kernel)
theorem wi_Ro_init : Cond.instanceMethod y_Ro_init ∈ lw_good := gw 118 (by decide +kernel) (by decide +kernel)
theorem wc_Ro_isFull : Cond.code y_Ro_isFull c_Ro_isFull 1 (some .boolean) ∈ lw_good := gw 268 (by decide +kernel) (by decide +kernel)
theorem wi_Ro_isFull : Cond.instanceMethod y_Ro_isFull ∈ lw_good := gw 266 (by decide +kernel) (by decide +kernel)
theorem ws_Ro_isFull : Cond.selects R_Ro y_Ro_isFull y_Ro_isFull ∈ lw_good := gw 267 (by decide +kernel) (by decide +kernel)
theorem wc_Ro_holds : Cond.code y_Ro_holds c_Ro_holds 2 (some .boolean) ∈ lw_good := gw 288 (by decide +kernel) (by decide +kernel)
theorem wi_Ro_holds : Cond.instanceMethod y_Ro_holds ∈ lw_good := gw 286 (by decide +kernel) (by decide +kernel)
theorem ws_Ro_holds : Cond.selects R_Ro y_Ro_holds y_Ro_holds ∈ lw_good := gw 287 (by decide +kernel) (by decide +kernel)
theorem wc_Ro_byteAt : Cond.code y_Ro_byteAt c_Ro_byteAt 2 (some .int) ∈ lw_good := gw 389 (by decide +kernel) (by decide +kernel)
theorem wi_Ro_byteAt : Cond.instanceMethod y_Ro_byteAt ∈ lw_good := gw 387 (by decide +kernel) (by decide +kernel)
theorem ws_Ro_byteAt : Cond.selects R_Ro y_Ro_byteAt y_Ro_byteAt ∈ lw_good := gw 388 (by decide +kernel) (by decide +kernel)
theorem wc_Ro_clear : Cond.code y_Ro_clear c_Ro_clear 1 none ∈ lw_good := gw 305 (by decide +kernel) (by decide +kernel)
theorem wi_Ro_clear : Cond.instanceMethod y_Ro_clear ∈ lw_good := gw 303 (by decide +kernel) (by decide +kernel)
theorem ws_Ro_clear : Cond.selects R_Ro y_Ro_clear y_Ro_clear ∈ lw_good := gw 304 (by decide +kernel) (by decide +kernel)
theorem wc_Ro_append : Cond.code y_Ro_append c_Ro_append 2 none ∈ lw_good := gw 272 (by decide +kernel) (by decide +kernel)
theorem wi_Ro_append : Cond.instanceMethod y_Ro_append ∈ lw_good := gw 270 (by decide +kernel) (by decide +kernel)
theorem ws_Ro_append : Cond.selects R_Ro y_Ro_append y_Ro_append ∈ lw_good := gw 271 (by decide +kernel) (by decide +kernel)
theorem wc_Ro_replace : Cond.code y_Ro_replace c_Ro_replace 3 none ∈ lw_good := gw 292 (by decide +kernel) (by decide +kernel)
theorem wi_Ro_replace : Cond.instanceMethod y_Ro_replace ∈ lw_good := gw 290 (by decide +kernel) (by decide +kernel)
theorem ws_Ro_replace : Cond.selects R_Ro y_Ro_replace y_Ro_replace ∈ lw_good := gw 291 (by decide +kernel) (by decide +kernel)
theorem wc_Ro_appendPart : Cond.code y_Ro_appendPart c_Ro_appendPart 5 none ∈ lw_good := gw 411 (by decide +kernel) (by decide +kernel)
theorem wi_Ro_appendPart : Cond.instanceMethod y_Ro_appendPart ∈ lw_good := gw 409 (by decide +kernel) (by decide +kernel)
theorem ws_Ro_appendPart : Cond.selects R_Ro y_Ro_appendPart y_Ro_appendPart ∈ lw_good := gw 410 (by decide +kernel) (by decide +kernel)
theorem wc_Ro_become : Cond.code y_Ro_become c_Ro_become 3 none ∈ lw_good := gw 325 (by decide +kernel) (by decide +kernel)
theorem wi_Ro_become : Cond.instanceMethod y_Ro_become ∈ lw_good := gw 323 (by decide +kernel) (by decide +kernel)
theorem ws_Ro_become : Cond.selects R_Ro y_Ro_become y_Ro_become ∈ lw_good := gw 324 (by decide +kernel) (by decide +kernel)
theorem wc_Ro_sums : Cond.code y_Ro_sums c_Ro_sums 6 (some .int) ∈ lw_good := gw 381 (by decide +kernel) (by decide +kernel)
theorem wi_Ro_sums : Cond.instanceMethod y_Ro_sums ∈ lw_good := gw 379 (by decide +kernel) (by decide +kernel)
theorem ws_Ro_sums : Cond.selects R_Ro y_Ro_sums y_Ro_sums ∈ lw_good := gw 380 (by decide +kernel) (by decide +kernel)
theorem wc_Ro_weakSum : Cond.code y_Ro_weakSum c_Ro_weakSum 7 (some .int) ∈ lw_good := gw 394 (by decide +kernel) (by decide +kernel)
theorem wi_Ro_weakSum : Cond.instanceMethod y_Ro_weakSum ∈ lw_good := gw 393 (by decide +kernel) (by decide +kernel)
theorem ws_Ro_weakSum : Cond.selects R_Ro y_Ro_weakSum y_Ro_weakSum ∈ lw_good := gp 13 (by decide +kernel) (by decide +kernel)
theorem wc_Ro_strongSum : Cond.code y_Ro_strongSum c_Ro_strongSum 5 (some .int) ∈ lw_good := gw 385 (by decide +kernel) (by decide +kernel)
theorem wi_Ro_strongSum : Cond.instanceMethod y_Ro_strongSum ∈ lw_good := gw 384 (by decide +kernel) (by decide +kernel)
theorem ws_Ro_strongSum : Cond.selects R_Ro y_Ro_strongSum y_Ro_strongSum ∈ lw_good := gp 12 (by decide +kernel) (by decide +kernel)
theorem wc_Ro_digest : Cond.code y_Ro_digest c_Ro_digest 3 (some .int) ∈ lw_good := gw 416 (by decide +kernel) (by decide +kernel)
theorem wi_Ro_digest : Cond.instanceMethod y_Ro_digest ∈ lw_good := gw 414 (by decide +kernel) (by decide +kernel)
theorem ws_Ro_digest : Cond.selects R_Ro y_Ro_digest y_Ro_digest ∈ lw_good := gw 415 (by decide +kernel) (by decide +kernel)
theorem wc_Ru_init : Cond.code y_Ru_init c_Ru_init 1 none ∈ lw_good := gw 25 (by decide +kernel) (by decide +kernel)
theorem wi_Ru_init : Cond.instanceMethod y_Ru_init ∈ lw_good := gw 24 (by decide +kernel) (by decide +kernel)
theorem wc_Ru_append : Cond.code y_Ru_append c_Ru_append 4 (some .boolean) ∈ lw_good := gw 250 (by decide +kernel) (by decide +kernel)
theorem wi_Ru_append : Cond.instanceMethod y_Ru_append ∈ lw_good := gw 248 (by decide +kernel) (by decide +kernel)
theorem ws_Ru_append : Cond.selects R_Ru y_Ru_append y_Ru_append ∈ lw_good := gw 249 (by decide +kernel) (by decide +kernel)
theorem wc_Ru_select : Cond.code y_Ru_select c_Ru_select 3 (some .boolean) ∈ lw_good := gw 333 (by decide +kernel) (by decide +kernel)
theorem wi_Ru_select : Cond.instanceMethod y_Ru_select ∈ lw_good := gw 331 (by decide +kernel) (by decide +kernel)
theorem ws_Ru_select : Cond.selects R_Ru y_Ru_select y_Ru_select ∈ lw_good := gw 332 (by decide +kernel) (by decide +kernel)
theorem wc_Sf_init : Cond.code y_Sf_init c_Sf_init 1 none ∈ lw_good := gw 162 (by decide +kernel) (by decide +kernel)
theorem wi_Sf_init : Cond.instanceMethod y_Sf_init ∈ lw_good := gw 161 (by decide +kernel) (by decide +kernel)
theorem wc_Sf_erase : Cond.code y_Sf_erase c_Sf_erase 1 none ∈ lw_good := gw 301 (by decide +kernel) (by decide +kernel)
theorem wi_Sf_erase : Cond.instanceMethod y_Sf_erase ∈ lw_good := gw 299 (by decide +kernel) (by decide +kernel)
theorem ws_Sf_erase : Cond.selects R_Sf y_Sf_erase y_Sf_erase ∈ lw_good := gw 300 (by decide +kernel) (by decide +kernel)
theorem wc_TC_init : Cond.code y_TC_init c_TC_init 2 none ∈ lw_good := gw 15 (by decide +kernel) (by decide +kernel)
theorem wi_TC_init : Cond.instanceMethod y_TC_init ∈ lw_good := gw 14 (by decide +kernel) (by decide +kernel)
theorem wc_TC_rule : Cond.code y_TC_rule c_TC_rule 4 (some .boolean) ∈ lw_good := gw 243 (by decide +kernel) (by decide +kernel)
theorem wi_TC_rule : Cond.instanceMethod y_TC_rule ∈ lw_good := gw 241 (by decide +kernel) (by decide +kernel)
theorem ws_TC_rule : Cond.selects R_TC y_TC_rule y_TC_rule ∈ lw_good := gw 242 (by decide +kernel) (by decide +kernel)
theorem wc_TC_put : Cond.code y_TC_put c_TC_put 5 (some .boolean) ∈ lw_good := gw 254 (by decide +kernel) (by decide +kernel)
theorem wi_TC_put : Cond.instanceMethod y_TC_put ∈ lw_good := gw 252 (by decide +kernel) (by decide +kernel)
theorem ws_TC_put : Cond.selects R_TC y_TC_put y_TC_put ∈ lw_good := gw 253 (by decide +kernel) (by decide +kernel)
theorem wc_TC_set : Cond.code y_TC_set c_TC_set 6 (some .boolean) ∈ lw_good := gw 280 (by decide +kernel) (by decide +kernel)
theorem wi_TC_set : Cond.instanceMethod y_TC_set ∈ lw_good := gw 278 (by decide +kernel) (by decide +kernel)
theorem ws_TC_set : Cond.selects R_TC y_TC_set y_TC_set ∈ lw_good := gw 279 (by decide +kernel) (by decide +kernel)
theorem wc_TC_remove : Cond.code y_TC_remove c_TC_remove 4 (some .boolean) ∈ lw_good := gw 297 (by decide +kernel) (by decide +kernel)
theorem wi_TC_remove : Cond.instanceMethod y_TC_remove ∈ lw_good := gw 295 (by decide +kernel) (by decide +kernel)
theorem ws_TC_remove : Cond.selects R_TC y_TC_remove y_TC_remove ∈ lw_good := gw 296 (by decide +kernel) (by decide +kernel)
theorem wc_TC_begin : Cond.code y_TC_begin c_TC_begin 3 (some .boolean) ∈ lw_good := gw 309 (by decide +kernel) (by decide +kernel)
theorem wi_TC_begin : Cond.instanceMethod y_TC_begin ∈ lw_good := gw 307 (by decide +kernel) (by decide +kernel)
theorem ws_TC_begin : Cond.selects R_TC y_TC_begin y_TC_begin ∈ lw_good := gw 308 (by decide +kernel) (by decide +kernel)
theorem wc_TC_deliver : Cond.code y_TC_deliver c_TC_deliver 5 (some .int) ∈ lw_good := gw 345 (by decide +kernel) (by decide +kernel)
theorem wi_TC_deliver : Cond.instanceMethod y_TC_deliver ∈ lw_good := gw 343 (by decide +kernel) (by decide +kernel)
theorem ws_TC_deliver : Cond.selects R_TC y_TC_deliver y_TC_deliver ∈ lw_good := gw 344 (by decide +kernel) (by decide +kernel)
theorem wc_TC_crash : Cond.code y_TC_crash c_TC_crash 1 (some .boolean) ∈ lw_good := gw 468 (by decide +kernel) (by decide +kernel)
theorem wi_TC_crash : Cond.instanceMethod y_TC_crash ∈ lw_good := gw 466 (by decide +kernel) (by decide +kernel)
theorem ws_TC_crash : Cond.selects R_TC y_TC_crash y_TC_crash ∈ lw_good := gw 467 (by decide +kernel) (by decide +kernel)
theorem wc_TC_on : Cond.code y_TC_on c_TC_on 1 (some .boolean) ∈ lw_good := gw 472 (by decide +kernel) (by decide +kernel)
theorem wi_TC_on : Cond.instanceMethod y_TC_on ∈ lw_good := gw 470 (by decide +kernel) (by decide +kernel)
theorem ws_TC_on : Cond.selects R_TC y_TC_on y_TC_on ∈ lw_good := gw 471 (by decide +kernel) (by decide +kernel)
theorem wc_TC_size : Cond.code y_TC_size c_TC_size 4 (some .int) ∈ lw_good := gw 476 (by decide +kernel) (by decide +kernel)
theorem wi_TC_size : Cond.instanceMethod y_TC_size ∈ lw_good := gw 474 (by decide +kernel) (by decide +kernel)
theorem ws_TC_size : Cond.selects R_TC y_TC_size y_TC_size ∈ lw_good := gw 475 (by decide +kernel) (by decide +kernel)
theorem wc_TC_at : Cond.code y_TC_at c_TC_at 5 (some .int) ∈ lw_good := gw 480 (by decide +kernel) (by decide +kernel)
theorem wi_TC_at : Cond.instanceMethod y_TC_at ∈ lw_good := gw 478 (by decide +kernel) (by decide +kernel)
theorem ws_TC_at : Cond.selects R_TC y_TC_at y_TC_at ∈ lw_good := gw 479 (by decide +kernel) (by decide +kernel)
theorem wc_TC_time : Cond.code y_TC_time c_TC_time 4 (some .int) ∈ lw_good := gw 484 (by decide +kernel) (by decide +kernel)
theorem wi_TC_time : Cond.instanceMethod y_TC_time ∈ lw_good := gw 482 (by decide +kernel) (by decide +kernel)
theorem ws_TC_time : Cond.selects R_TC y_TC_time y_TC_time ∈ lw_good := gw 483 (by decide +kernel) (by decide +kernel)
theorem wc_TC_selected : Cond.code y_TC_selected c_TC_selected 2 (some .boolean) ∈ lw_good := gw 488 (by decide +kernel) (by decide +kernel)
theorem wi_TC_selected : Cond.instanceMethod y_TC_selected ∈ lw_good := gw 486 (by decide +kernel) (by decide +kernel)
theorem ws_TC_selected : Cond.selects R_TC y_TC_selected y_TC_selected ∈ lw_good := gw 487 (by decide +kernel) (by decide +kernel)
theorem wc_TC_waiting : Cond.code y_TC_waiting c_TC_waiting 3 (some .int) ∈ lw_good := gw 492 (by decide +kernel) (by decide +kernel)
theorem wi_TC_waiting : Cond.instanceMethod y_TC_waiting ∈ lw_good := gw 490 (by decide +kernel) (by decide +kernel)
theorem ws_TC_waiting : Cond.selects R_TC y_TC_waiting y_TC_waiting ∈ lw_good := gw 491 (by decide +kernel) (by decide +kernel)
theorem wc_TC_next : Cond.code y_TC_next c_TC_next 3 (some .int) ∈ lw_good := gw 496 (by decide +kernel) (by decide +kernel)
theorem wi_TC_next : Cond.instanceMethod y_TC_next ∈ lw_good := gw 494 (by decide +kernel) (by decide +kernel)
theorem ws_TC_next : Cond.selects R_TC y_TC_next y_TC_next ∈ lw_good := gw 495 (by decide +kernel) (by decide +kernel)
theorem wc_TC_journal : Cond.code y_TC_journal c_TC_journal 1 (some .int) ∈ lw_good := gw 504 (by decide +kernel) (by decide +kernel)
theorem wi_TC_journal : Cond.instanceMethod y_TC_journal ∈ lw_good := gw 502 (by decide +kernel) (by decide +kernel)
theorem ws_TC_journal : Cond.selects R_TC y_TC_journal y_TC_journal ∈ lw_good := gw 503 (by decide +kernel) (by decide +kernel)
theorem wc_TC_count : Cond.code y_TC_count c_TC_count 2 (some .int) ∈ lw_good := gw 508 (by decide +kernel) (by decide +kernel)
theorem wi_TC_count : Cond.instanceMethod y_TC_count ∈ lw_good := gw 506 (by decide +kernel) (by decide +kernel)
theorem ws_TC_count : Cond.selects R_TC y_TC_count y_TC_count ∈ lw_good := gw 507 (by decide +kernel) (by decide +kernel)
theorem wc_TC_isName : Cond.code y_TC_isName c_TC_isName 1 (some .boolean) ∈ lw_good := gw 261 (by decide +kernel) (by decide +kernel)
theorem wst_TC_isName : Cond.static y_TC_isName ∈ lw_good := gw 260 (by decide +kernel) (by decide +kernel)
theorem wc_TC_isByte : Cond.code y_TC_isByte c_TC_isByte 1 (some .boolean) ∈ lw_good := gw 264 (by decide +kernel) (by decide +kernel)
theorem wst_TC_isByte : Cond.static y_TC_isByte ∈ lw_good := gw 263 (by decide +kernel) (by decide +kernel)
theorem wc_TC_isMask : Cond.code y_TC_isMask c_TC_isMask 1 (some .boolean) ∈ lw_good := gw 246 (by decide +kernel) (by decide +kernel)
theorem wst_TC_isMask : Cond.static y_TC_isMask ∈ lw_good := gw 245 (by decide +kernel) (by decide +kernel)
theorem wc_TC_slotOf : Cond.code y_TC_slotOf c_TC_slotOf 3 (some (.object "TreeCarrier$StoredFile")) ∈ lw_good := gw 258 (by decide +kernel) (by decide +kernel)
theorem wi_TC_slotOf : Cond.instanceMethod y_TC_slotOf ∈ lw_good := gw 257 (by decide +kernel) (by decide +kernel)
theorem ws_TC_slotOf : Cond.selects R_TC y_TC_slotOf y_TC_slotOf ∈ lw_good := gp 0 (by decide +kernel) (by decide +kernel)
theorem wc_TC_fileOf : Cond.code y_TC_fileOf c_TC_fileOf 4 (some (.object "TreeCarrier$StoredFile")) ∈ lw_good := gw 284 (by decide +kernel) (by decide +kernel)
theorem wi_TC_fileOf : Cond.instanceMethod y_TC_fileOf ∈ lw_good := gw 283 (by decide +kernel) (by decide +kernel)
theorem ws_TC_fileOf : Cond.selects R_TC y_TC_fileOf y_TC_fileOf ∈ lw_good := gp 2 (by decide +kernel) (by decide +kernel)
theorem wc_TC_lineOf : Cond.code y_TC_lineOf c_TC_lineOf 2 (some (.object "TreeCarrier$Line")) ∈ lw_good := gw 349 (by decide +kernel) (by decide +kernel)
theorem wi_TC_lineOf : Cond.instanceMethod y_TC_lineOf ∈ lw_good := gw 348 (by decide +kernel) (by decide +kernel)
theorem ws_TC_lineOf : Cond.selects R_TC y_TC_lineOf y_TC_lineOf ∈ lw_good := gp 6 (by decide +kernel) (by decide +kernel)
theorem wc_TC_entryOf : Cond.code y_TC_entryOf c_TC_entryOf 2 (some (.object "TreeCarrier$Entry")) ∈ lw_good := gw 365 (by decide +kernel) (by decide +kernel)
theorem wi_TC_entryOf : Cond.instanceMethod y_TC_entryOf ∈ lw_good := gw 364 (by decide +kernel) (by decide +kernel)
theorem ws_TC_entryOf : Cond.selects R_TC y_TC_entryOf y_TC_entryOf ∈ lw_good := gp 9 (by decide +kernel) (by decide +kernel)
theorem wc_TC_tick : Cond.code y_TC_tick c_TC_tick 1 (some .int) ∈ lw_good := gw 276 (by decide +kernel) (by decide +kernel)
theorem wi_TC_tick : Cond.instanceMethod y_TC_tick ∈ lw_good := gw 275 (by decide +kernel) (by decide +kernel)
theorem ws_TC_tick : Cond.selects R_TC y_TC_tick y_TC_tick ∈ lw_good := gp 1 (by decide +kernel) (by decide +kernel)
theorem wc_TC_sendEntries : Cond.code y_TC_sendEntries c_TC_sendEntries 4 none ∈ lw_good := gw 329 (by decide +kernel) (by decide +kernel)
theorem wi_TC_sendEntries : Cond.instanceMethod y_TC_sendEntries ∈ lw_good := gw 328 (by decide +kernel) (by decide +kernel)
theorem ws_TC_sendEntries : Cond.selects R_TC y_TC_sendEntries y_TC_sendEntries ∈ lw_good := gp 5 (by decide +kernel) (by decide +kernel)
theorem wc_TC_receive : Cond.code y_TC_receive c_TC_receive 2 none ∈ lw_good := gw 357 (by decide +kernel) (by decide +kernel)
theorem wi_TC_receive : Cond.instanceMethod y_TC_receive ∈ lw_good := gw 356 (by decide +kernel) (by decide +kernel)
theorem ws_TC_receive : Cond.selects R_TC y_TC_receive y_TC_receive ∈ lw_good := gp 7 (by decide +kernel) (by decide +kernel)
theorem wc_TC_noteEntry : Cond.code y_TC_noteEntry c_TC_noteEntry 3 none ∈ lw_good := gw 361 (by decide +kernel) (by decide +kernel)
theorem wi_TC_noteEntry : Cond.instanceMethod y_TC_noteEntry ∈ lw_good := gw 360 (by decide +kernel) (by decide +kernel)
theorem ws_TC_noteEntry : Cond.selects R_TC y_TC_noteEntry y_TC_noteEntry ∈ lw_good := gp 8 (by decide +kernel) (by decide +kernel)
theorem wc_TC_openEntries : Cond.code y_TC_openEntries c_TC_openEntries 3 none ∈ lw_good := gw 369 (by decide +kernel) (by decide +kernel)
theorem wi_TC_openEntries : Cond.instanceMethod y_TC_openEntries ∈ lw_good := gw 368 (by decide +kernel) (by decide +kernel)
theorem ws_TC_openEntries : Cond.selects R_TC y_TC_openEntries y_TC_openEntries ∈ lw_good := gp 10 (by decide +kernel) (by decide +kernel)
theorem wc_TC_hasOpenEntry : Cond.code y_TC_hasOpenEntry c_TC_hasOpenEntry 2 (some .boolean) ∈ lw_good := gw 431 (by decide +kernel) (by decide +kernel)
theorem wi_TC_hasOpenEntry : Cond.instanceMethod y_TC_hasOpenEntry ∈ lw_good := gw 430 (by decide +kernel) (by decide +kernel)
theorem ws_TC_hasOpenEntry : Cond.selects R_TC y_TC_hasOpenEntry y_TC_hasOpenEntry ∈ lw_good := gp 17 (by decide +kernel) (by decide +kernel)
theorem wc_TC_sendSignature : Cond.code y_TC_sendSignature c_TC_sendSignature 7 none ∈ lw_good := gw 377 (by decide +kernel) (by decide +kernel)
theorem wi_TC_sendSignature : Cond.instanceMethod y_TC_sendSignature ∈ lw_good := gw 376 (by decide +kernel) (by decide +kernel)
theorem ws_TC_sendSignature : Cond.selects R_TC y_TC_sendSignature y_TC_sendSignature ∈ lw_good := gp 11 (by decide +kernel) (by decide +kernel)
theorem wc_TC_answerSignature : Cond.code y_TC_answerSignature c_TC_answerSignature 4 none ∈ lw_good := gw 455 (by decide +kernel) (by decide +kernel)
theorem wi_TC_answerSignature : Cond.instanceMethod y_TC_answerSignature ∈ lw_good := gw 454 (by decide +kernel) (by decide +kernel)
theorem ws_TC_answerSignature : Cond.selects R_TC y_TC_answerSignature y_TC_answerSignature ∈ lw_good := gp 21 (by decide +kernel) (by decide +kernel)
theorem wc_TC_fillDelta : Cond.code y_TC_fillDelta c_TC_fillDelta 7 none ∈ lw_good := gw 459 (by decide +kernel) (by decide +kernel)
theorem wi_TC_fillDelta : Cond.instanceMethod y_TC_fillDelta ∈ lw_good := gw 458 (by decide +kernel) (by decide +kernel)
theorem ws_TC_fillDelta : Cond.selects R_TC y_TC_fillDelta y_TC_fillDelta ∈ lw_good := gp 22 (by decide +kernel) (by decide +kernel)
theorem wc_TC_findBlock : Cond.code y_TC_findBlock c_TC_findBlock 6 (some .int) ∈ lw_good := gw 463 (by decide +kernel) (by decide +kernel)
theorem wi_TC_findBlock : Cond.instanceMethod y_TC_findBlock ∈ lw_good := gw 462 (by decide +kernel) (by decide +kernel)
theorem ws_TC_findBlock : Cond.selects R_TC y_TC_findBlock y_TC_findBlock ∈ lw_good := gp 23 (by decide +kernel) (by decide +kernel)
theorem wc_TC_receiveDelta : Cond.code y_TC_receiveDelta c_TC_receiveDelta 4 none ∈ lw_good := gw 402 (by decide +kernel) (by decide +kernel)
theorem wi_TC_receiveDelta : Cond.instanceMethod y_TC_receiveDelta ∈ lw_good := gw 401 (by decide +kernel) (by decide +kernel)
theorem ws_TC_receiveDelta : Cond.selects R_TC y_TC_receiveDelta y_TC_receiveDelta ∈ lw_good := gp 14 (by decide +kernel) (by decide +kernel)
theorem wc_TC_rebuild : Cond.code y_TC_rebuild c_TC_rebuild 5 none ∈ lw_good := gw 406 (by decide +kernel) (by decide +kernel)
theorem wi_TC_rebuild : Cond.instanceMethod y_TC_rebuild ∈ lw_good := gw 405 (by decide +kernel) (by decide +kernel)
theorem ws_TC_rebuild : Cond.selects R_TC y_TC_rebuild y_TC_rebuild ∈ lw_good := gp 15 (by decide +kernel) (by decide +kernel)
theorem wc_TC_failEntry : Cond.code y_TC_failEntry c_TC_failEntry 3 none ∈ lw_good := gw 427 (by decide +kernel) (by decide +kernel)
theorem wi_TC_failEntry : Cond.instanceMethod y_TC_failEntry ∈ lw_good := gw 426 (by decide +kernel) (by decide +kernel)
theorem ws_TC_failEntry : Cond.selects R_TC y_TC_failEntry y_TC_failEntry ∈ lw_good := gp 16 (by decide +kernel) (by decide +kernel)
theorem wc_TC_doOldestRecord : Cond.code y_TC_doOldestRecord c_TC_doOldestRecord 3 none ∈ lw_good := gw 317 (by decide +kernel) (by decide +kernel)
theorem wi_TC_doOldestRecord : Cond.instanceMethod y_TC_doOldestRecord ∈ lw_good := gw 316 (by decide +kernel) (by decide +kernel)
theorem ws_TC_doOldestRecord : Cond.selects R_TC y_TC_doOldestRecord y_TC_doOldestRecord ∈ lw_good := gp 4 (by decide +kernel) (by decide +kernel)
theorem wc_TC_doAllRecords : Cond.code y_TC_doAllRecords c_TC_doAllRecords 3 none ∈ lw_good := gw 313 (by decide +kernel) (by decide +kernel)
theorem wi_TC_doAllRecords : Cond.instanceMethod y_TC_doAllRecords ∈ lw_good := gw 312 (by decide +kernel) (by decide +kernel)
theorem ws_TC_doAllRecords : Cond.selects R_TC y_TC_doAllRecords y_TC_doAllRecords ∈ lw_good := gp 3 (by decide +kernel) (by decide +kernel)
theorem wc_TC_concludeSession : Cond.code y_TC_concludeSession c_TC_concludeSession 1 none ∈ lw_good := gw 435 (by decide +kernel) (by decide +kernel)
theorem wi_TC_concludeSession : Cond.instanceMethod y_TC_concludeSession ∈ lw_good := gw 434 (by decide +kernel) (by decide +kernel)
theorem ws_TC_concludeSession : Cond.selects R_TC y_TC_concludeSession y_TC_concludeSession ∈ lw_good := gp 18 (by decide +kernel) (by decide +kernel)
theorem wc_TC_deleteUnlisted : Cond.code y_TC_deleteUnlisted c_TC_deleteUnlisted 3 none ∈ lw_good := gw 439 (by decide +kernel) (by decide +kernel)
theorem wi_TC_deleteUnlisted : Cond.instanceMethod y_TC_deleteUnlisted ∈ lw_good := gw 438 (by decide +kernel) (by decide +kernel)
theorem ws_TC_deleteUnlisted : Cond.selects R_TC y_TC_deleteUnlisted y_TC_deleteUnlisted ∈ lw_good := gp 19 (by decide +kernel) (by decide +kernel)
theorem wc_TC_endSession : Cond.code y_TC_endSession c_TC_endSession 2 none ∈ lw_good := gw 443 (by decide +kernel) (by decide +kernel)
theorem wi_TC_endSession : Cond.instanceMethod y_TC_endSession ∈ lw_good := gw 442 (by decide +kernel) (by decide +kernel)
theorem ws_TC_endSession : Cond.selects R_TC y_TC_endSession y_TC_endSession ∈ lw_good := gp 20 (by decide +kernel) (by decide +kernel)
theorem wc_MD_init : Cond.code y_MD_init c_MD_init 1 none ∈ lw_good := gw 513 (by decide +kernel) (by decide +kernel)
theorem wi_MD_init : Cond.instanceMethod y_MD_init ∈ lw_good := gw 512 (by decide +kernel) (by decide +kernel)
theorem wc_MD_in : Cond.code y_MD_in c_MD_in 2 (some .boolean) ∈ lw_good := gw 606 (by decide +kernel) (by decide +kernel)
theorem wst_MD_in : Cond.static y_MD_in ∈ lw_good := gw 605 (by decide +kernel) (by decide +kernel)
theorem wc_MD_add : Cond.code y_MD_add c_MD_add 2 none ∈ lw_good := gw 662 (by decide +kernel) (by decide +kernel)
theorem wi_MD_add : Cond.instanceMethod y_MD_add ∈ lw_good := gw 661 (by decide +kernel) (by decide +kernel)
theorem ws_MD_add : Cond.selects R_MD y_MD_add y_MD_add ∈ lw_good := gp 29 (by decide +kernel) (by decide +kernel)
theorem wc_MD_rule : Cond.code y_MD_rule c_MD_rule 4 (some .boolean) ∈ lw_good := gw 603 (by decide +kernel) (by decide +kernel)
theorem wi_MD_rule : Cond.instanceMethod y_MD_rule ∈ lw_good := gw 601 (by decide +kernel) (by decide +kernel)
theorem ws_MD_rule : Cond.selects R_MD y_MD_rule y_MD_rule ∈ lw_good := gw 602 (by decide +kernel) (by decide +kernel)
theorem wc_MD_isSelected : Cond.code y_MD_isSelected c_MD_isSelected 4 (some .boolean) ∈ lw_good := gw 614 (by decide +kernel) (by decide +kernel)
theorem wi_MD_isSelected : Cond.instanceMethod y_MD_isSelected ∈ lw_good := gw 613 (by decide +kernel) (by decide +kernel)
theorem ws_MD_isSelected : Cond.selects R_MD y_MD_isSelected y_MD_isSelected ∈ lw_good := gp 24 (by decide +kernel) (by decide +kernel)
theorem wc_MD_selected : Cond.code y_MD_selected c_MD_selected 2 (some .boolean) ∈ lw_good := gw 610 (by decide +kernel) (by decide +kernel)
theorem wi_MD_selected : Cond.instanceMethod y_MD_selected ∈ lw_good := gw 608 (by decide +kernel) (by decide +kernel)
theorem ws_MD_selected : Cond.selects R_MD y_MD_selected y_MD_selected ∈ lw_good := gw 609 (by decide +kernel) (by decide +kernel)
theorem wc_MD_file : Cond.code y_MD_file c_MD_file 3 (some .int) ∈ lw_good := gw 630 (by decide +kernel) (by decide +kernel)
theorem wi_MD_file : Cond.instanceMethod y_MD_file ∈ lw_good := gw 629 (by decide +kernel) (by decide +kernel)
theorem ws_MD_file : Cond.selects R_MD y_MD_file y_MD_file ∈ lw_good := gp 26 (by decide +kernel) (by decide +kernel)
theorem wc_MD_touch : Cond.code y_MD_touch c_MD_touch 2 none ∈ lw_good := gw 622 (by decide +kernel) (by decide +kernel)
theorem wi_MD_touch : Cond.instanceMethod y_MD_touch ∈ lw_good := gw 621 (by decide +kernel) (by decide +kernel)
theorem ws_MD_touch : Cond.selects R_MD y_MD_touch y_MD_touch ∈ lw_good := gp 25 (by decide +kernel) (by decide +kernel)
theorem wc_MD_put : Cond.code y_MD_put c_MD_put 6 (some .boolean) ∈ lw_good := gw 618 (by decide +kernel) (by decide +kernel)
theorem wi_MD_put : Cond.instanceMethod y_MD_put ∈ lw_good := gw 616 (by decide +kernel) (by decide +kernel)
theorem ws_MD_put : Cond.selects R_MD y_MD_put y_MD_put ∈ lw_good := gw 617 (by decide +kernel) (by decide +kernel)
theorem wc_MD_set : Cond.code y_MD_set c_MD_set 6 (some .boolean) ∈ lw_good := gw 626 (by decide +kernel) (by decide +kernel)
theorem wi_MD_set : Cond.instanceMethod y_MD_set ∈ lw_good := gw 624 (by decide +kernel) (by decide +kernel)
theorem ws_MD_set : Cond.selects R_MD y_MD_set y_MD_set ∈ lw_good := gw 625 (by decide +kernel) (by decide +kernel)
theorem wc_MD_remove : Cond.code y_MD_remove c_MD_remove 4 (some .boolean) ∈ lw_good := gw 634 (by decide +kernel) (by decide +kernel)
theorem wi_MD_remove : Cond.instanceMethod y_MD_remove ∈ lw_good := gw 632 (by decide +kernel) (by decide +kernel)
theorem ws_MD_remove : Cond.selects R_MD y_MD_remove y_MD_remove ∈ lw_good := gw 633 (by decide +kernel) (by decide +kernel)
theorem wc_MD_size : Cond.code y_MD_size c_MD_size 4 (some .int) ∈ lw_good := gw 638 (by decide +kernel) (by decide +kernel)
theorem wi_MD_size : Cond.instanceMethod y_MD_size ∈ lw_good := gw 636 (by decide +kernel) (by decide +kernel)
theorem ws_MD_size : Cond.selects R_MD y_MD_size y_MD_size ∈ lw_good := gw 637 (by decide +kernel) (by decide +kernel)
theorem wc_MD_at : Cond.code y_MD_at c_MD_at 5 (some .int) ∈ lw_good := gw 642 (by decide +kernel) (by decide +kernel)
theorem wi_MD_at : Cond.instanceMethod y_MD_at ∈ lw_good := gw 640 (by decide +kernel) (by decide +kernel)
theorem ws_MD_at : Cond.selects R_MD y_MD_at y_MD_at ∈ lw_good := gw 641 (by decide +kernel) (by decide +kernel)
theorem wc_MD_time : Cond.code y_MD_time c_MD_time 4 (some .int) ∈ lw_good := gw 646 (by decide +kernel) (by decide +kernel)
theorem wi_MD_time : Cond.instanceMethod y_MD_time ∈ lw_good := gw 644 (by decide +kernel) (by decide +kernel)
theorem ws_MD_time : Cond.selects R_MD y_MD_time y_MD_time ∈ lw_good := gw 645 (by decide +kernel) (by decide +kernel)
theorem wc_MD_weak : Cond.code y_MD_weak c_MD_weak 6 (some .int) ∈ lw_good := gw 698 (by decide +kernel) (by decide +kernel)
theorem wi_MD_weak : Cond.instanceMethod y_MD_weak ∈ lw_good := gw 697 (by decide +kernel) (by decide +kernel)
theorem ws_MD_weak : Cond.selects R_MD y_MD_weak y_MD_weak ∈ lw_good := gp 36 (by decide +kernel) (by decide +kernel)
theorem wc_MD_strong : Cond.code y_MD_strong c_MD_strong 6 (some .int) ∈ lw_good := gw 706 (by decide +kernel) (by decide +kernel)
theorem wi_MD_strong : Cond.instanceMethod y_MD_strong ∈ lw_good := gw 705 (by decide +kernel) (by decide +kernel)
theorem ws_MD_strong : Cond.selects R_MD y_MD_strong y_MD_strong ∈ lw_good := gp 38 (by decide +kernel) (by decide +kernel)
theorem wc_MD_message : Cond.code y_MD_message c_MD_message 7 none ∈ lw_good := gw 666 (by decide +kernel) (by decide +kernel)
theorem wi_MD_message : Cond.instanceMethod y_MD_message ∈ lw_good := gw 665 (by decide +kernel) (by decide +kernel)
theorem ws_MD_message : Cond.selects R_MD y_MD_message y_MD_message ∈ lw_good := gp 30 (by decide +kernel) (by decide +kernel)
theorem wc_MD_more : Cond.code y_MD_more c_MD_more 2 none ∈ lw_good := gw 702 (by decide +kernel) (by decide +kernel)
theorem wi_MD_more : Cond.instanceMethod y_MD_more ∈ lw_good := gw 701 (by decide +kernel) (by decide +kernel)
theorem ws_MD_more : Cond.selects R_MD y_MD_more y_MD_more ∈ lw_good := gp 37 (by decide +kernel) (by decide +kernel)
theorem wc_MD_sendSignature : Cond.code y_MD_sendSignature c_MD_sendSignature 7 none ∈ lw_good := gw 694 (by decide +kernel) (by decide +kernel)
theorem wi_MD_sendSignature : Cond.instanceMethod y_MD_sendSignature ∈ lw_good := gw 693 (by decide +kernel) (by decide +kernel)
theorem ws_MD_sendSignature : Cond.selects R_MD y_MD_sendSignature y_MD_sendSignature ∈ lw_good := gp 35 (by decide +kernel) (by decide +kernel)
theorem wc_MD_finishRecord : Cond.code y_MD_finishRecord c_MD_finishRecord 3 none ∈ lw_good := gw 658 (by decide +kernel) (by decide +kernel)
theorem wi_MD_finishRecord : Cond.instanceMethod y_MD_finishRecord ∈ lw_good := gw 657 (by decide +kernel) (by decide +kernel)
theorem ws_MD_finishRecord : Cond.selects R_MD y_MD_finishRecord y_MD_finishRecord ∈ lw_good := gp 28 (by decide +kernel) (by decide +kernel)
theorem wc_MD_finishAll : Cond.code y_MD_finishAll c_MD_finishAll 2 none ∈ lw_good := gw 654 (by decide +kernel) (by decide +kernel)
theorem wi_MD_finishAll : Cond.instanceMethod y_MD_finishAll ∈ lw_good := gw 653 (by decide +kernel) (by decide +kernel)
theorem ws_MD_finishAll : Cond.selects R_MD y_MD_finishAll y_MD_finishAll ∈ lw_good := gp 27 (by decide +kernel) (by decide +kernel)
theorem wc_MD_begin : Cond.code y_MD_begin c_MD_begin 4 (some .boolean) ∈ lw_good := gw 650 (by decide +kernel) (by decide +kernel)
theorem wi_MD_begin : Cond.instanceMethod y_MD_begin ∈ lw_good := gw 648 (by decide +kernel) (by decide +kernel)
theorem ws_MD_begin : Cond.selects R_MD y_MD_begin y_MD_begin ∈ lw_good := gw 649 (by decide +kernel) (by decide +kernel)
theorem wc_MD_over : Cond.code y_MD_over c_MD_over 1 none ∈ lw_good := gw 674 (by decide +kernel) (by decide +kernel)
theorem wi_MD_over : Cond.instanceMethod y_MD_over ∈ lw_good := gw 673 (by decide +kernel) (by decide +kernel)
theorem ws_MD_over : Cond.selects R_MD y_MD_over y_MD_over ∈ lw_good := gp 31 (by decide +kernel) (by decide +kernel)
theorem wc_MD_crash : Cond.code y_MD_crash c_MD_crash 1 (some .boolean) ∈ lw_good := gw 670 (by decide +kernel) (by decide +kernel)
theorem wi_MD_crash : Cond.instanceMethod y_MD_crash ∈ lw_good := gw 668 (by decide +kernel) (by decide +kernel)
theorem ws_MD_crash : Cond.selects R_MD y_MD_crash y_MD_crash ∈ lw_good := gw 669 (by decide +kernel) (by decide +kernel)
theorem wc_MD_concludeIfDone : Cond.code y_MD_concludeIfDone c_MD_concludeIfDone 5 none ∈ lw_good := gw 711 (by decide +kernel) (by decide +kernel)
theorem wi_MD_concludeIfDone : Cond.instanceMethod y_MD_concludeIfDone ∈ lw_good := gw 710 (by decide +kernel) (by decide +kernel)
theorem ws_MD_concludeIfDone : Cond.selects R_MD y_MD_concludeIfDone y_MD_concludeIfDone ∈ lw_good := gp 39 (by decide +kernel) (by decide +kernel)
theorem wc_MD_entryOf : Cond.code y_MD_entryOf c_MD_entryOf 4 (some .int) ∈ lw_good := gw 729 (by decide +kernel) (by decide +kernel)
theorem wi_MD_entryOf : Cond.instanceMethod y_MD_entryOf ∈ lw_good := gw 728 (by decide +kernel) (by decide +kernel)
theorem ws_MD_entryOf : Cond.selects R_MD y_MD_entryOf y_MD_entryOf ∈ lw_good := gp 43 (by decide +kernel) (by decide +kernel)
theorem wc_MD_end : Cond.code y_MD_end c_MD_end 4 none ∈ lw_good := gw 690 (by decide +kernel) (by decide +kernel)
theorem wi_MD_end : Cond.instanceMethod y_MD_end ∈ lw_good := gw 689 (by decide +kernel) (by decide +kernel)
theorem ws_MD_end : Cond.selects R_MD y_MD_end y_MD_end ∈ lw_good := gp 34 (by decide +kernel) (by decide +kernel)
theorem wc_MD_match : Cond.code y_MD_match c_MD_match 8 (some .int) ∈ lw_good := gw 721 (by decide +kernel) (by decide +kernel)
theorem wi_MD_match : Cond.instanceMethod y_MD_match ∈ lw_good := gw 720 (by decide +kernel) (by decide +kernel)
theorem ws_MD_match : Cond.selects R_MD y_MD_match y_MD_match ∈ lw_good := gp 41 (by decide +kernel) (by decide +kernel)
theorem wc_MD_answer : Cond.code y_MD_answer c_MD_answer 8 none ∈ lw_good := gw 715 (by decide +kernel) (by decide +kernel)
theorem wi_MD_answer : Cond.instanceMethod y_MD_answer ∈ lw_good := gw 714 (by decide +kernel) (by decide +kernel)
theorem ws_MD_answer : Cond.selects R_MD y_MD_answer y_MD_answer ∈ lw_good := gp 40 (by decide +kernel) (by decide +kernel)
theorem wc_MD_rebuild : Cond.code y_MD_rebuild c_MD_rebuild 8 (some .int) ∈ lw_good := gw 733 (by decide +kernel) (by decide +kernel)
theorem wi_MD_rebuild : Cond.instanceMethod y_MD_rebuild ∈ lw_good := gw 732 (by decide +kernel) (by decide +kernel)
theorem ws_MD_rebuild : Cond.selects R_MD y_MD_rebuild y_MD_rebuild ∈ lw_good := gp 44 (by decide +kernel) (by decide +kernel)
theorem wc_MD_delta : Cond.code y_MD_delta c_MD_delta 6 none ∈ lw_good := gw 725 (by decide +kernel) (by decide +kernel)
theorem wi_MD_delta : Cond.instanceMethod y_MD_delta ∈ lw_good := gw 724 (by decide +kernel) (by decide +kernel)
theorem ws_MD_delta : Cond.selects R_MD y_MD_delta y_MD_delta ∈ lw_good := gp 42 (by decide +kernel) (by decide +kernel)
theorem wc_MD_note : Cond.code y_MD_note c_MD_note 2 none ∈ lw_good := gw 686 (by decide +kernel) (by decide +kernel)
theorem wi_MD_note : Cond.instanceMethod y_MD_note ∈ lw_good := gw 685 (by decide +kernel) (by decide +kernel)
theorem ws_MD_note : Cond.selects R_MD y_MD_note y_MD_note ∈ lw_good := gp 33 (by decide +kernel) (by decide +kernel)
theorem wc_MD_take : Cond.code y_MD_take c_MD_take 5 (some .int) ∈ lw_good := gw 682 (by decide +kernel) (by decide +kernel)
theorem wi_MD_take : Cond.instanceMethod y_MD_take ∈ lw_good := gw 681 (by decide +kernel) (by decide +kernel)
theorem ws_MD_take : Cond.selects R_MD y_MD_take y_MD_take ∈ lw_good := gp 32 (by decide +kernel) (by decide +kernel)
theorem wc_MD_deliver : Cond.code y_MD_deliver c_MD_deliver 4 (some .int) ∈ lw_good := gw 678 (by decide +kernel) (by decide +kernel)
theorem wi_MD_deliver : Cond.instanceMethod y_MD_deliver ∈ lw_good := gw 676 (by decide +kernel) (by decide +kernel)
theorem ws_MD_deliver : Cond.selects R_MD y_MD_deliver y_MD_deliver ∈ lw_good := gw 677 (by decide +kernel) (by decide +kernel)
theorem wc_MD_on : Cond.code y_MD_on c_MD_on 1 (some .boolean) ∈ lw_good := gw 737 (by decide +kernel) (by decide +kernel)
theorem wi_MD_on : Cond.instanceMethod y_MD_on ∈ lw_good := gw 735 (by decide +kernel) (by decide +kernel)
theorem ws_MD_on : Cond.selects R_MD y_MD_on y_MD_on ∈ lw_good := gw 736 (by decide +kernel) (by decide +kernel)
theorem wc_MD_waiting : Cond.code y_MD_waiting c_MD_waiting 2 (some .int) ∈ lw_good := gw 741 (by decide +kernel) (by decide +kernel)
theorem wi_MD_waiting : Cond.instanceMethod y_MD_waiting ∈ lw_good := gw 739 (by decide +kernel) (by decide +kernel)
theorem ws_MD_waiting : Cond.selects R_MD y_MD_waiting y_MD_waiting ∈ lw_good := gw 740 (by decide +kernel) (by decide +kernel)
theorem wc_MD_next : Cond.code y_MD_next c_MD_next 2 (some .int) ∈ lw_good := gw 745 (by decide +kernel) (by decide +kernel)
theorem wi_MD_next : Cond.instanceMethod y_MD_next ∈ lw_good := gw 743 (by decide +kernel) (by decide +kernel)
theorem ws_MD_next : Cond.selects R_MD y_MD_next y_MD_next ∈ lw_good := gw 744 (by decide +kernel) (by decide +kernel)
theorem wc_MD_journal : Cond.code y_MD_journal c_MD_journal 1 (some .int) ∈ lw_good := gw 749 (by decide +kernel) (by decide +kernel)
theorem wi_MD_journal : Cond.instanceMethod y_MD_journal ∈ lw_good := gw 747 (by decide +kernel) (by decide +kernel)
theorem ws_MD_journal : Cond.selects R_MD y_MD_journal y_MD_journal ∈ lw_good := gw 748 (by decide +kernel) (by decide +kernel)
theorem wc_MD_count : Cond.code y_MD_count c_MD_count 2 (some .int) ∈ lw_good := gw 753 (by decide +kernel) (by decide +kernel)
theorem wi_MD_count : Cond.instanceMethod y_MD_count ∈ lw_good := gw 751 (by decide +kernel) (by decide +kernel)
theorem ws_MD_count : Cond.selects R_MD y_MD_count y_MD_count ∈ lw_good := gw 752 (by decide +kernel) (by decide +kernel)
theorem lo_En_1 : Cond.methodLink R_En 1 Lib.objectInit ∈ lw_good := gw 185 (by decide +kernel) (by decide +kernel)
theorem lk_En_7 : mt_lk R_En 7 R_En F_En 0 := Or.inl (gw 186 (by decide +kernel) (by decide +kernel))
theorem lk_En_13 : mt_lk R_En 13 R_En F_En 1 := Or.inl (gw 188 (by decide +kernel) (by decide +kernel))
theorem lk_En_16 : mt_lk R_En 16 R_En F_En 2 := Or.inl (gw 190 (by decide +kernel) (by decide +kernel))
theorem lk_En_20 : mt_lk R_En 20 R_En F_En 3 := Or.inl (gw 192 (by decide +kernel) (by decide +kernel))
theorem lk_En_23 : mt_lk R_En 23 R_Sf F_Sf 0 := Or.inr ⟨"TreeCarrier", by decide +kernel⟩
theorem lk_En_29 : mt_lk R_En 29 R_Ro F_Ro 1 := Or.inr ⟨"TreeCarrier", by decide +kernel⟩
theorem lk_En_34 : mt_lk R_En 34 R_Sf F_Sf 2 := Or.inr ⟨"TreeCarrier", by decide +kernel⟩
theorem lo_Jo_3 : Cond.methodLink R_Jo 3 Lib.objectInit ∈ lw_good := gw 107 (by decide +kernel) (by decide +kernel)
theorem ln_Jo_9 : Cond.classLink R_Jo 9 R_Jr ∈ lw_good := gw 108 (by decide +kernel) (by decide +kernel)
theorem lf_Jo_11 : Cond.fieldLink R_Jo 11 R_Jo (F_Jo 0).2.1 (F_Jo 0).2.2.1 ∈ lw_good := gw 146 (by decide +kernel) (by decide +kernel)
theorem lk_Jo_17 : mt_lk R_Jo 17 R_Jo F_Jo 1 := Or.inl (gw 147 (by decide +kernel) (by decide +kernel))
theorem lk_Jo_21 : mt_lk R_Jo 21 R_Jo F_Jo 2 := Or.inl (gw 148 (by decide +kernel) (by decide +kernel))
theorem lk_Jo_11 : mt_lk R_Jo 11 R_Jo F_Jo 0 := Or.inl (gw 146 (by decide +kernel) (by decide +kernel))
theorem lm_Jo_24 : mt_lm R_Jo 24 y_Jr_init c_Jr_init 1 none 0 := ⟨by decide +kernel, wc_Jr_init, wini_Jr, Or.inr ⟨"TreeCarrier", by decide +kernel⟩⟩
theorem lk_Jo_25 : mt_lk R_Jo 25 R_Jr F_Jr 1 := Or.inr ⟨"TreeCarrier", by decide +kernel⟩
theorem lk_Jo_28 : mt_lk R_Jo 28 R_Jr F_Jr 0 := Or.inr ⟨"TreeCarrier", by decide +kernel⟩
theorem lm_Jo_32 : mt_lm R_Jo 32 y_Ro_become c_Ro_become 3 none 1 := ⟨by decide +kernel, wc_Ro_become, wini_Ro, Or.inl (gw 423 (by decide +kernel) (by decide +kernel))⟩
theorem lk_Jo_38 : mt_lk R_Jo 38 R_Jr F_Jr 2 := Or.inr ⟨"TreeCarrier", by decide +kernel⟩
theorem lo_Jr_1 : Cond.methodLink R_Jr 1 Lib.objectInit ∈ lw_good := gw 114 (by decide +kernel) (by decide +kernel)
theorem ln_Jr_7 : Cond.classLink R_Jr 7 R_Ro ∈ lw_good := gw 115 (by decide +kernel) (by decide +kernel)
theorem lm_Jr_9 : mt_lm R_Jr 9 y_Ro_init c_Ro_init 1 none 0 := ⟨by decide +kernel, wc_Ro_init, wini_Ro, Or.inr ⟨"TreeCarrier", by decide +kernel⟩⟩
theorem lf_Jr_10 : Cond.fieldLink R_Jr 10 R_Jr (F_Jr 0).2.1 (F_Jr 0).2.2.1 ∈ lw_good := gw 130 (by decide +kernel) (by decide +kernel)
theorem lk_Jr_16 : mt_lk R_Jr 16 R_Jr F_Jr 1 := Or.inl (gw 133 (by decide +kernel) (by decide +kernel))
theorem lk_Jr_20 : mt_lk R_Jr 20 R_Jr F_Jr 2 := Or.inl (gw 136 (by decide +kernel) (by decide +kernel))
theorem lo_Li_3 : Cond.methodLink R_Li 3 Lib.objectInit ∈ lw_good := gw 47 (by decide +kernel) (by decide +kernel)
theorem ln_Li_9 : Cond.classLink R_Li 9 R_Ms ∈ lw_good := gw 48 (by decide +kernel) (by decide +kernel)
theorem lf_Li_11 : Cond.fieldLink R_Li 11 R_Li (F_Li 0).2.1 (F_Li 0).2.2.1 ∈ lw_good := gw 89 (by decide +kernel) (by decide +kernel)
theorem lk_Li_17 : mt_lk R_Li 17 R_Li F_Li 1 := Or.inl (gw 90 (by decide +kernel) (by decide +kernel))
theorem lk_Li_21 : mt_lk R_Li 21 R_Li F_Li 2 := Or.inl (gw 91 (by decide +kernel) (by decide +kernel))
theorem lk_Li_11 : mt_lk R_Li 11 R_Li F_Li 0 := Or.inl (gw 89 (by decide +kernel) (by decide +kernel))
theorem lm_Li_24 : mt_lm R_Li 24 y_Ms_init c_Ms_init 1 none 0 := ⟨by decide +kernel, wc_Ms_init, wini_Ms, Or.inr ⟨"TreeCarrier", by decide +kernel⟩⟩
theorem lm_Li_25 : mt_lm R_Li 25 y_Ms_startAs c_Ms_startAs 3 none 2 := ⟨by decide +kernel, wc_Ms_startAs, wini_Ms, Or.inl (gw 338 (by decide +kernel) (by decide +kernel))⟩
theorem lk_Li_29 : mt_lk R_Li 29 R_Ms F_Ms 0 := Or.inr ⟨"TreeCarrier", by decide +kernel⟩
theorem lo_Ms_3 : Cond.methodLink R_Ms 3 Lib.objectInit ∈ lw_good := gw 54 (by decide +kernel) (by decide +kernel)
theorem lk_Ms_9 : mt_lk R_Ms 9 R_Ms F_Ms 0 := Or.inl (gw 55 (by decide +kernel) (by decide +kernel))
theorem lk_Ms_15 : mt_lk R_Ms 15 R_Ms F_Ms 1 := Or.inl (gw 58 (by decide +kernel) (by decide +kernel))
theorem lk_Ms_18 : mt_lk R_Ms 18 R_Ms F_Ms 2 := Or.inl (gw 60 (by decide +kernel) (by decide +kernel))
theorem lk_Ms_21 : mt_lk R_Ms 21 R_Ms F_Ms 3 := Or.inl (gw 62 (by decide +kernel) (by decide +kernel))
theorem lk_Ms_24 : mt_lk R_Ms 24 R_Ms F_Ms 4 := Or.inl (gw 64 (by decide +kernel) (by decide +kernel))
theorem lk_Ms_27 : mt_lk R_Ms 27 R_Ms F_Ms 5 := Or.inl (gw 66 (by decide +kernel) (by decide +kernel))
theorem lk_Ms_30 : mt_lk R_Ms 30 R_Ms F_Ms 6 := Or.inl (gw 68 (by decide +kernel) (by decide +kernel))
theorem lf_Ms_33 : Cond.fieldLink R_Ms 33 R_Ms (F_Ms 7).2.1 (F_Ms 7).2.2.1 ∈ lw_good := gw 70 (by decide +kernel) (by decide +kernel)
theorem lk_Ms_33 : mt_lk R_Ms 33 R_Ms F_Ms 7 := Or.inl (gw 70 (by decide +kernel) (by decide +kernel))
theorem lo_Ro_3 : Cond.methodLink R_Ro 3 Lib.objectInit ∈ lw_good := gw 120 (by decide +kernel) (by decide +kernel)
theorem lf_Ro_9 : Cond.fieldLink R_Ro 9 R_Ro (F_Ro 0).2.1 (F_Ro 0).2.2.1 ∈ lw_good := gw 121 (by decide +kernel) (by decide +kernel)
theorem lk_Ro_15 : mt_lk R_Ro 15 R_Ro F_Ro 1 := Or.inl (gw 122 (by decide +kernel) (by decide +kernel))
theorem lk_Ro_9 : mt_lk R_Ro 9 R_Ro F_Ro 0 := Or.inl (gw 121 (by decide +kernel) (by decide +kernel))
theorem lm_Ro_19 : mt_lm R_Ro 19 y_Ro_holds c_Ro_holds 2 (some .boolean) 1 := ⟨by decide +kernel, wc_Ro_holds, wini_Ro, Or.inl (gw 293 (by decide +kernel) (by decide +kernel))⟩
theorem lm_Ro_23 : mt_lm R_Ro 23 y_Ro_append c_Ro_append 2 none 1 := ⟨by decide +kernel, wc_Ro_append, wini_Ro, Or.inl (gw 412 (by decide +kernel) (by decide +kernel))⟩
theorem lm_Ro_27 : mt_lm R_Ro 27 y_Ro_strongSum c_Ro_strongSum 5 (some .int) 2 := ⟨by decide +kernel, wc_Ro_strongSum, wini_Ro, Or.inl (gw 382 (by decide +kernel) (by decide +kernel))⟩
theorem lm_Ro_31 : mt_lm R_Ro 31 y_Ro_weakSum c_Ro_weakSum 7 (some .int) 2 := ⟨by decide +kernel, wc_Ro_weakSum, wini_Ro, Or.inl (gw 391 (by decide +kernel) (by decide +kernel))⟩
theorem lm_Ro_34 : mt_lm R_Ro 34 y_Ro_byteAt c_Ro_byteAt 2 (some .int) 1 := ⟨by decide +kernel, wc_Ro_byteAt, wini_Ro, Or.inl (gw 386 (by decide +kernel) (by decide +kernel))⟩
theorem lc_Ro_38 : Cond.constant R_Ro 38 (nI 65521) ∈ lw_good := gw 390 (by decide +kernel) (by decide +kernel)
theorem lc_Ro_39 : Cond.constant R_Ro 39 (-2128831035) ∈ lw_good := gw 417 (by decide +kernel) (by decide +kernel)
theorem lc_Ro_40 : Cond.constant R_Ro 40 (nI 16777619) ∈ lw_good := gw 418 (by decide +kernel) (by decide +kernel)
theorem lo_Ru_3 : Cond.methodLink R_Ru 3 Lib.objectInit ∈ lw_good := gw 26 (by decide +kernel) (by decide +kernel)
theorem lf_Ru_9 : Cond.fieldLink R_Ru 9 R_Ru (F_Ru 0).2.1 (F_Ru 0).2.2.1 ∈ lw_good := gw 27 (by decide +kernel) (by decide +kernel)
theorem lf_Ru_15 : Cond.fieldLink R_Ru 15 R_Ru (F_Ru 1).2.1 (F_Ru 1).2.2.1 ∈ lw_good := gw 28 (by decide +kernel) (by decide +kernel)
theorem lf_Ru_19 : Cond.fieldLink R_Ru 19 R_Ru (F_Ru 2).2.1 (F_Ru 2).2.2.1 ∈ lw_good := gw 29 (by decide +kernel) (by decide +kernel)
theorem lk_Ru_22 : mt_lk R_Ru 22 R_Ru F_Ru 3 := Or.inl (gw 30 (by decide +kernel) (by decide +kernel))
theorem lk_Ru_9 : mt_lk R_Ru 9 R_Ru F_Ru 0 := Or.inl (gw 27 (by decide +kernel) (by decide +kernel))
theorem lk_Ru_15 : mt_lk R_Ru 15 R_Ru F_Ru 1 := Or.inl (gw 28 (by decide +kernel) (by decide +kernel))
theorem lk_Ru_19 : mt_lk R_Ru 19 R_Ru F_Ru 2 := Or.inl (gw 29 (by decide +kernel) (by decide +kernel))
theorem lo_Sf_1 : Cond.methodLink R_Sf 1 Lib.objectInit ∈ lw_good := gw 163 (by decide +kernel) (by decide +kernel)
theorem ln_Sf_7 : Cond.classLink R_Sf 7 R_Ro ∈ lw_good := gw 164 (by decide +kernel) (by decide +kernel)
theorem lm_Sf_9 : mt_lm R_Sf 9 y_Ro_init c_Ro_init 1 none 0 := ⟨by decide +kernel, wc_Ro_init, wini_Ro, Or.inr ⟨"TreeCarrier", by decide +kernel⟩⟩
theorem lf_Sf_10 : Cond.fieldLink R_Sf 10 R_Sf (F_Sf 0).2.1 (F_Sf 0).2.2.1 ∈ lw_good := gw 166 (by decide +kernel) (by decide +kernel)
theorem lk_Sf_16 : mt_lk R_Sf 16 R_Sf F_Sf 1 := Or.inl (gw 169 (by decide +kernel) (by decide +kernel))
theorem lk_Sf_20 : mt_lk R_Sf 20 R_Sf F_Sf 2 := Or.inl (gw 171 (by decide +kernel) (by decide +kernel))
theorem lk_Sf_10 : mt_lk R_Sf 10 R_Sf F_Sf 0 := Or.inl (gw 166 (by decide +kernel) (by decide +kernel))
theorem lm_Sf_24 : mt_lm R_Sf 24 y_Ro_clear c_Ro_clear 1 none 0 := ⟨by decide +kernel, wc_Ro_clear, wini_Ro, Or.inl (gw 302 (by decide +kernel) (by decide +kernel))⟩
theorem lo_TC_3 : Cond.methodLink R_TC 3 Lib.objectInit ∈ lw_good := gw 16 (by decide +kernel) (by decide +kernel)
theorem ln_TC_9 : Cond.classLink R_TC 9 R_Sf ∈ lw_good := gw 19 (by decide +kernel) (by decide +kernel)
theorem lf_TC_11 : Cond.fieldLink R_TC 11 R_TC (F_TC 0).2.1 (F_TC 0).2.2.1 ∈ lw_good := gw 203 (by decide +kernel) (by decide +kernel)
theorem ln_TC_15 : Cond.classLink R_TC 15 R_Ru ∈ lw_good := gw 21 (by decide +kernel) (by decide +kernel)
theorem lm_TC_17 : mt_lm R_TC 17 y_Ru_init c_Ru_init 1 none 0 := ⟨by decide +kernel, wc_Ru_init, wini_Ru, Or.inr ⟨"TreeCarrier", by decide +kernel⟩⟩
theorem lf_TC_18 : Cond.fieldLink R_TC 18 R_TC (F_TC 1).2.1 (F_TC 1).2.2.1 ∈ lw_good := gw 204 (by decide +kernel) (by decide +kernel)
theorem ln_TC_22 : Cond.classLink R_TC 22 R_Li ∈ lw_good := gw 42 (by decide +kernel) (by decide +kernel)
theorem lm_TC_24 : mt_lm R_TC 24 y_Li_init c_Li_init 2 none 0 := ⟨by decide +kernel, wc_Li_init, wini_Li, Or.inl (gw 44 (by decide +kernel) (by decide +kernel))⟩
theorem lf_TC_25 : Cond.fieldLink R_TC 25 R_TC (F_TC 2).2.1 (F_TC 2).2.2.1 ∈ lw_good := gw 205 (by decide +kernel) (by decide +kernel)
theorem lf_TC_29 : Cond.fieldLink R_TC 29 R_TC (F_TC 3).2.1 (F_TC 3).2.2.1 ∈ lw_good := gw 206 (by decide +kernel) (by decide +kernel)
theorem ln_TC_32 : Cond.classLink R_TC 32 R_En ∈ lw_good := gw 100 (by decide +kernel) (by decide +kernel)
theorem lf_TC_34 : Cond.fieldLink R_TC 34 R_TC (F_TC 4).2.1 (F_TC 4).2.2.1 ∈ lw_good := gw 207 (by decide +kernel) (by decide +kernel)
theorem ln_TC_38 : Cond.classLink R_TC 38 R_Jo ∈ lw_good := gw 102 (by decide +kernel) (by decide +kernel)
theorem lm_TC_40 : mt_lm R_TC 40 y_Jo_init c_Jo_init 2 none 0 := ⟨by decide +kernel, wc_Jo_init, wini_Jo, Or.inl (gw 104 (by decide +kernel) (by decide +kernel))⟩
theorem lf_TC_41 : Cond.fieldLink R_TC 41 R_TC (F_TC 5).2.1 (F_TC 5).2.2.1 ∈ lw_good := gw 208 (by decide +kernel) (by decide +kernel)
theorem ln_TC_45 : Cond.classLink R_TC 45 R_Ro ∈ lw_good := gw 157 (by decide +kernel) (by decide +kernel)
theorem lm_TC_47 : mt_lm R_TC 47 y_Ro_init c_Ro_init 1 none 0 := ⟨by decide +kernel, wc_Ro_init, wini_Ro, Or.inr ⟨"TreeCarrier", by decide +kernel⟩⟩
theorem lf_TC_48 : Cond.fieldLink R_TC 48 R_TC (F_TC 6).2.1 (F_TC 6).2.2.1 ∈ lw_good := gw 209 (by decide +kernel) (by decide +kernel)
theorem lf_TC_52 : Cond.fieldLink R_TC 52 R_TC (F_TC 7).2.1 (F_TC 7).2.2.1 ∈ lw_good := gw 210 (by decide +kernel) (by decide +kernel)
theorem lk_TC_56 : mt_lk R_TC 56 R_TC F_TC 8 := Or.inl (gw 211 (by decide +kernel) (by decide +kernel))
theorem lk_TC_60 : mt_lk R_TC 60 R_TC F_TC 9 := Or.inl (gw 212 (by decide +kernel) (by decide +kernel))
theorem lk_TC_64 : mt_lk R_TC 64 R_TC F_TC 10 := Or.inl (gw 213 (by decide +kernel) (by decide +kernel))
theorem lk_TC_67 : mt_lk R_TC 67 R_TC F_TC 11 := Or.inl (gw 214 (by decide +kernel) (by decide +kernel))
theorem lk_TC_11 : mt_lk R_TC 11 R_TC F_TC 0 := Or.inl (gw 203 (by decide +kernel) (by decide +kernel))
theorem lm_TC_70 : mt_lm R_TC 70 y_Sf_init c_Sf_init 1 none 0 := ⟨by decide +kernel, wc_Sf_init, wini_Sf, Or.inr ⟨"TreeCarrier", by decide +kernel⟩⟩
theorem lk_TC_34 : mt_lk R_TC 34 R_TC F_TC 4 := Or.inl (gw 207 (by decide +kernel) (by decide +kernel))
theorem lm_TC_71 : mt_lm R_TC 71 y_En_init c_En_init 1 none 0 := ⟨by decide +kernel, wc_En_init, wini_En, Or.inr ⟨"TreeCarrier", by decide +kernel⟩⟩
theorem lm_TC_72 : mt_lm R_TC 72 y_TC_isMask c_TC_isMask 1 (some .boolean) 1 := ⟨by decide +kernel, wc_TC_isMask, wini_TC, Or.inl (gw 244 (by decide +kernel) (by decide +kernel))⟩
theorem lk_TC_18 : mt_lk R_TC 18 R_TC F_TC 1 := Or.inl (gw 204 (by decide +kernel) (by decide +kernel))
theorem lm_TC_76 : mt_lm R_TC 76 y_Ru_append c_Ru_append 4 (some .boolean) 3 := ⟨by decide +kernel, wc_Ru_append, wini_Ru, Or.inl (gw 247 (by decide +kernel) (by decide +kernel))⟩
theorem lm_TC_80 : mt_lm R_TC 80 y_TC_slotOf c_TC_slotOf 3 (some (.object "TreeCarrier$StoredFile")) 2 := ⟨by decide +kernel, wc_TC_slotOf, wini_TC, Or.inl (gw 255 (by decide +kernel) (by decide +kernel))⟩
theorem lm_TC_84 : mt_lm R_TC 84 y_TC_isByte c_TC_isByte 1 (some .boolean) 1 := ⟨by decide +kernel, wc_TC_isByte, wini_TC, Or.inl (gw 262 (by decide +kernel) (by decide +kernel))⟩
theorem lk_TC_87 : mt_lk R_TC 87 R_Sf F_Sf 0 := Or.inr ⟨"TreeCarrier", by decide +kernel⟩
theorem lm_TC_90 : mt_lm R_TC 90 y_Ro_isFull c_Ro_isFull 1 (some .boolean) 0 := ⟨by decide +kernel, wc_Ro_isFull, wini_Ro, Or.inl (gw 265 (by decide +kernel) (by decide +kernel))⟩
theorem lk_TC_94 : mt_lk R_TC 94 R_Sf F_Sf 1 := Or.inr ⟨"TreeCarrier", by decide +kernel⟩
theorem lm_TC_97 : mt_lm R_TC 97 y_Ro_append c_Ro_append 2 none 1 := ⟨by decide +kernel, wc_Ro_append, wini_Ro, Or.inl (gw 269 (by decide +kernel) (by decide +kernel))⟩
theorem lm_TC_100 : mt_lm R_TC 100 y_TC_tick c_TC_tick 1 (some .int) 0 := ⟨by decide +kernel, wc_TC_tick, wini_TC, Or.inl (gw 273 (by decide +kernel) (by decide +kernel))⟩
theorem lk_TC_104 : mt_lk R_TC 104 R_Sf F_Sf 2 := Or.inr ⟨"TreeCarrier", by decide +kernel⟩
theorem lm_TC_107 : mt_lm R_TC 107 y_TC_fileOf c_TC_fileOf 4 (some (.object "TreeCarrier$StoredFile")) 2 := ⟨by decide +kernel, wc_TC_fileOf, wini_TC, Or.inl (gw 281 (by decide +kernel) (by decide +kernel))⟩
theorem lm_TC_110 : mt_lm R_TC 110 y_Ro_holds c_Ro_holds 2 (some .boolean) 1 := ⟨by decide +kernel, wc_Ro_holds, wini_Ro, Or.inl (gw 285 (by decide +kernel) (by decide +kernel))⟩
theorem lm_TC_113 : mt_lm R_TC 113 y_Ro_replace c_Ro_replace 3 none 2 := ⟨by decide +kernel, wc_Ro_replace, wini_Ro, Or.inl (gw 289 (by decide +kernel) (by decide +kernel))⟩
theorem lm_TC_117 : mt_lm R_TC 117 y_Sf_erase c_Sf_erase 1 none 0 := ⟨by decide +kernel, wc_Sf_erase, wini_Sf, Or.inl (gw 298 (by decide +kernel) (by decide +kernel))⟩
theorem lm_TC_120 : mt_lm R_TC 120 y_TC_doAllRecords c_TC_doAllRecords 3 none 0 := ⟨by decide +kernel, wc_TC_doAllRecords, wini_TC, Or.inl (gw 310 (by decide +kernel) (by decide +kernel))⟩
theorem lm_TC_123 : mt_lm R_TC 123 y_TC_sendEntries c_TC_sendEntries 4 none 0 := ⟨by decide +kernel, wc_TC_sendEntries, wini_TC, Or.inl (gw 326 (by decide +kernel) (by decide +kernel))⟩
theorem lm_TC_126 : mt_lm R_TC 126 y_TC_lineOf c_TC_lineOf 2 (some (.object "TreeCarrier$Line")) 1 := ⟨by decide +kernel, wc_TC_lineOf, wini_TC, Or.inl (gw 346 (by decide +kernel) (by decide +kernel))⟩
theorem lm_TC_130 : mt_lm R_TC 130 y_Li_take c_Li_take 2 (some (.object "TreeCarrier$Message")) 0 := ⟨by decide +kernel, wc_Li_take, wini_Li, Or.inl (gw 350 (by decide +kernel) (by decide +kernel))⟩
theorem lk_TC_134 : mt_lk R_TC 134 R_Ms F_Ms 0 := Or.inr ⟨"TreeCarrier", by decide +kernel⟩
theorem lk_TC_29 : mt_lk R_TC 29 R_TC F_TC 3 := Or.inl (gw 206 (by decide +kernel) (by decide +kernel))
theorem lm_TC_139 : mt_lm R_TC 139 y_TC_doOldestRecord c_TC_doOldestRecord 3 none 0 := ⟨by decide +kernel, wc_TC_doOldestRecord, wini_TC, Or.inl (gw 314 (by decide +kernel) (by decide +kernel))⟩
theorem lm_TC_142 : mt_lm R_TC 142 y_TC_receive c_TC_receive 2 none 1 := ⟨by decide +kernel, wc_TC_receive, wini_TC, Or.inl (gw 354 (by decide +kernel) (by decide +kernel))⟩
theorem lm_TC_146 : mt_lm R_TC 146 y_TC_answerSignature c_TC_answerSignature 4 none 1 := ⟨by decide +kernel, wc_TC_answerSignature, wini_TC, Or.inl (gw 452 (by decide +kernel) (by decide +kernel))⟩
theorem lm_TC_149 : mt_lm R_TC 149 y_TC_endSession c_TC_endSession 2 none 0 := ⟨by decide +kernel, wc_TC_endSession, wini_TC, Or.inl (gw 440 (by decide +kernel) (by decide +kernel))⟩
theorem lk_TC_152 : mt_lk R_TC 152 R_Ro F_Ro 1 := Or.inr ⟨"TreeCarrier", by decide +kernel⟩
theorem lm_TC_155 : mt_lm R_TC 155 y_Ro_byteAt c_Ro_byteAt 2 (some .int) 1 := ⟨by decide +kernel, wc_Ro_byteAt, wini_Ro, Or.inl (gw 464 (by decide +kernel) (by decide +kernel))⟩
theorem lm_TC_159 : mt_lm R_TC 159 y_TC_isName c_TC_isName 1 (some .boolean) 1 := ⟨by decide +kernel, wc_TC_isName, wini_TC, Or.inl (gw 259 (by decide +kernel) (by decide +kernel))⟩
theorem lm_TC_162 : mt_lm R_TC 162 y_Ru_select c_Ru_select 3 (some .boolean) 1 := ⟨by decide +kernel, wc_Ru_select, wini_Ru, Or.inl (gw 330 (by decide +kernel) (by decide +kernel))⟩
theorem lk_TC_165 : mt_lk R_TC 165 R_Li F_Li 2 := Or.inr ⟨"TreeCarrier", by decide +kernel⟩
theorem lm_TC_166 : mt_lm R_TC 166 y_Li_oldestKind c_Li_oldestKind 1 (some .int) 0 := ⟨by decide +kernel, wc_Li_oldestKind, wini_Li, Or.inl (gw 497 (by decide +kernel) (by decide +kernel))⟩
theorem lk_TC_41 : mt_lk R_TC 41 R_TC F_TC 5 := Or.inl (gw 208 (by decide +kernel) (by decide +kernel))
theorem lk_TC_169 : mt_lk R_TC 169 R_Jo F_Jo 2 := Or.inr ⟨"TreeCarrier", by decide +kernel⟩
theorem lk_TC_52 : mt_lk R_TC 52 R_TC F_TC 7 := Or.inl (gw 210 (by decide +kernel) (by decide +kernel))
theorem lk_TC_25 : mt_lk R_TC 25 R_TC F_TC 2 := Or.inl (gw 205 (by decide +kernel) (by decide +kernel))
theorem lm_TC_170 : mt_lm R_TC 170 y_Li_append c_Li_append 4 (some (.object "TreeCarrier$Message")) 2 := ⟨by decide +kernel, wc_Li_append, wini_Li, Or.inl (gw 334 (by decide +kernel) (by decide +kernel))⟩
theorem lk_TC_173 : mt_lk R_TC 173 R_Ms F_Ms 2 := Or.inr ⟨"TreeCarrier", by decide +kernel⟩
theorem lk_TC_176 : mt_lk R_TC 176 R_Ms F_Ms 3 := Or.inr ⟨"TreeCarrier", by decide +kernel⟩
theorem lm_TC_179 : mt_lm R_TC 179 y_TC_noteEntry c_TC_noteEntry 3 none 1 := ⟨by decide +kernel, wc_TC_noteEntry, wini_TC, Or.inl (gw 358 (by decide +kernel) (by decide +kernel))⟩
theorem lm_TC_182 : mt_lm R_TC 182 y_TC_openEntries c_TC_openEntries 3 none 0 := ⟨by decide +kernel, wc_TC_openEntries, wini_TC, Or.inl (gw 366 (by decide +kernel) (by decide +kernel))⟩
theorem lm_TC_185 : mt_lm R_TC 185 y_TC_receiveDelta c_TC_receiveDelta 4 none 1 := ⟨by decide +kernel, wc_TC_receiveDelta, wini_TC, Or.inl (gw 399 (by decide +kernel) (by decide +kernel))⟩
theorem lk_TC_188 : mt_lk R_TC 188 R_Ms F_Ms 1 := Or.inr ⟨"TreeCarrier", by decide +kernel⟩
theorem lm_TC_191 : mt_lm R_TC 191 y_TC_failEntry c_TC_failEntry 3 none 1 := ⟨by decide +kernel, wc_TC_failEntry, wini_TC, Or.inl (gw 424 (by decide +kernel) (by decide +kernel))⟩
theorem lm_TC_194 : mt_lm R_TC 194 y_TC_hasOpenEntry c_TC_hasOpenEntry 2 (some .boolean) 0 := ⟨by decide +kernel, wc_TC_hasOpenEntry, wini_TC, Or.inl (gw 428 (by decide +kernel) (by decide +kernel))⟩
theorem lm_TC_197 : mt_lm R_TC 197 y_TC_concludeSession c_TC_concludeSession 1 none 0 := ⟨by decide +kernel, wc_TC_concludeSession, wini_TC, Or.inl (gw 432 (by decide +kernel) (by decide +kernel))⟩
theorem lm_TC_200 : mt_lm R_TC 200 y_TC_entryOf c_TC_entryOf 2 (some (.object "TreeCarrier$Entry")) 1 := ⟨by decide +kernel, wc_TC_entryOf, wini_TC, Or.inl (gw 362 (by decide +kernel) (by decide +kernel))⟩
theorem lk_TC_204 : mt_lk R_TC 204 R_En F_En 0 := Or.inr ⟨"TreeCarrier", by decide +kernel⟩
theorem lk_TC_207 : mt_lk R_TC 207 R_En F_En 2 := Or.inr ⟨"TreeCarrier", by decide +kernel⟩
theorem lk_TC_208 : mt_lk R_TC 208 R_En F_En 3 := Or.inr ⟨"TreeCarrier", by decide +kernel⟩
theorem lm_TC_209 : mt_lm R_TC 209 y_En_agreesWith c_En_agreesWith 2 (some .boolean) 1 := ⟨by decide +kernel, wc_En_agreesWith, wini_En, Or.inl (gw 370 (by decide +kernel) (by decide +kernel))⟩
theorem lk_TC_213 : mt_lk R_TC 213 R_En F_En 1 := Or.inr ⟨"TreeCarrier", by decide +kernel⟩
theorem lm_TC_216 : mt_lm R_TC 216 y_TC_sendSignature c_TC_sendSignature 7 none 2 := ⟨by decide +kernel, wc_TC_sendSignature, wini_TC, Or.inl (gw 374 (by decide +kernel) (by decide +kernel))⟩
theorem lk_TC_219 : mt_lk R_TC 219 R_Ms F_Ms 4 := Or.inr ⟨"TreeCarrier", by decide +kernel⟩
theorem lm_TC_222 : mt_lm R_TC 222 y_Ro_sums c_Ro_sums 6 (some .int) 3 := ⟨by decide +kernel, wc_Ro_sums, wini_Ro, Or.inl (gw 378 (by decide +kernel) (by decide +kernel))⟩
theorem lm_TC_226 : mt_lm R_TC 226 y_Ms_addItem c_Ms_addItem 2 none 1 := ⟨by decide +kernel, wc_Ms_addItem, wini_Ms, Or.inl (gw 395 (by decide +kernel) (by decide +kernel))⟩
theorem lm_TC_229 : mt_lm R_TC 229 y_Ro_digest c_Ro_digest 3 (some .int) 0 := ⟨by decide +kernel, wc_Ro_digest, wini_Ro, Or.inl (gw 413 (by decide +kernel) (by decide +kernel))⟩
theorem lk_TC_232 : mt_lk R_TC 232 R_Ms F_Ms 5 := Or.inr ⟨"TreeCarrier", by decide +kernel⟩
theorem lm_TC_234 : mt_lm R_TC 234 y_TC_fillDelta c_TC_fillDelta 7 none 3 := ⟨by decide +kernel, wc_TC_fillDelta, wini_TC, Or.inl (gw 456 (by decide +kernel) (by decide +kernel))⟩
theorem lm_TC_238 : mt_lm R_TC 238 y_TC_findBlock c_TC_findBlock 6 (some .int) 3 := ⟨by decide +kernel, wc_TC_findBlock, wini_TC, Or.inl (gw 460 (by decide +kernel) (by decide +kernel))⟩
theorem lk_TC_242 : mt_lk R_TC 242 R_Ms F_Ms 6 := Or.inr ⟨"TreeCarrier", by decide +kernel⟩
theorem lk_TC_245 : mt_lk R_TC 245 R_Ms F_Ms 7 := Or.inr ⟨"TreeCarrier", by decide +kernel⟩
theorem lm_TC_248 : mt_lm R_TC 248 y_TC_rebuild c_TC_rebuild 5 none 2 := ⟨by decide +kernel, wc_TC_rebuild, wini_TC, Or.inl (gw 403 (by decide +kernel) (by decide +kernel))⟩
theorem lk_TC_48 : mt_lk R_TC 48 R_TC F_TC 6 := Or.inl (gw 209 (by decide +kernel) (by decide +kernel))
theorem lm_TC_252 : mt_lm R_TC 252 y_Jo_append c_Jo_append 5 none 3 := ⟨by decide +kernel, wc_Jo_append, wini_Jo, Or.inl (gw 419 (by decide +kernel) (by decide +kernel))⟩
theorem lm_TC_255 : mt_lm R_TC 255 y_Ro_clear c_Ro_clear 1 none 0 := ⟨by decide +kernel, wc_Ro_clear, wini_Ro, Or.inl (gw 407 (by decide +kernel) (by decide +kernel))⟩
theorem lm_TC_258 : mt_lm R_TC 258 y_Ro_appendPart c_Ro_appendPart 5 none 3 := ⟨by decide +kernel, wc_Ro_appendPart, wini_Ro, Or.inl (gw 408 (by decide +kernel) (by decide +kernel))⟩
theorem lm_TC_262 : mt_lm R_TC 262 y_Jo_take c_Jo_take 2 (some (.object "TreeCarrier$JournalRecord")) 0 := ⟨by decide +kernel, wc_Jo_take, wini_Jo, Or.inl (gw 318 (by decide +kernel) (by decide +kernel))⟩
theorem lk_TC_265 : mt_lk R_TC 265 R_Jr F_Jr 1 := Or.inr ⟨"TreeCarrier", by decide +kernel⟩
theorem lk_TC_268 : mt_lk R_TC 268 R_Jr F_Jr 0 := Or.inr ⟨"TreeCarrier", by decide +kernel⟩
theorem lm_TC_269 : mt_lm R_TC 269 y_Ro_become c_Ro_become 3 none 1 := ⟨by decide +kernel, wc_Ro_become, wini_Ro, Or.inl (gw 322 (by decide +kernel) (by decide +kernel))⟩
theorem lk_TC_273 : mt_lk R_TC 273 R_Jr F_Jr 2 := Or.inr ⟨"TreeCarrier", by decide +kernel⟩
theorem lm_TC_274 : mt_lm R_TC 274 y_TC_deleteUnlisted c_TC_deleteUnlisted 3 none 0 := ⟨by decide +kernel, wc_TC_deleteUnlisted, wini_TC, Or.inl (gw 436 (by decide +kernel) (by decide +kernel))⟩
theorem lm_TC_277 : mt_lm R_TC 277 y_Li_clear c_Li_clear 1 none 0 := ⟨by decide +kernel, wc_Li_clear, wini_Li, Or.inl (gw 444 (by decide +kernel) (by decide +kernel))⟩
theorem lm_TC_278 : mt_lm R_TC 278 y_En_forget c_En_forget 1 none 0 := ⟨by decide +kernel, wc_En_forget, wini_En, Or.inl (gw 448 (by decide +kernel) (by decide +kernel))⟩
theorem lo_MD_1 : Cond.methodLink R_MD 1 Lib.objectInit ∈ lw_good := gw 514 (by decide +kernel) (by decide +kernel)
theorem lk_MD_7 : mt_lk R_MD 7 R_MD F_MD 0 := Or.inl (gw 515 (by decide +kernel) (by decide +kernel))
theorem lk_MD_13 : mt_lk R_MD 13 R_MD F_MD 1 := Or.inl (gw 516 (by decide +kernel) (by decide +kernel))
theorem lk_MD_17 : mt_lk R_MD 17 R_MD F_MD 2 := Or.inl (gw 517 (by decide +kernel) (by decide +kernel))
theorem lk_MD_20 : mt_lk R_MD 20 R_MD F_MD 3 := Or.inl (gw 518 (by decide +kernel) (by decide +kernel))
theorem lk_MD_23 : mt_lk R_MD 23 R_MD F_MD 6 := Or.inl (gw 521 (by decide +kernel) (by decide +kernel))
theorem lk_MD_26 : mt_lk R_MD 26 R_MD F_MD 7 := Or.inl (gw 522 (by decide +kernel) (by decide +kernel))
theorem lk_MD_29 : mt_lk R_MD 29 R_MD F_MD 8 := Or.inl (gw 523 (by decide +kernel) (by decide +kernel))
theorem lk_MD_32 : mt_lk R_MD 32 R_MD F_MD 13 := Or.inl (gw 528 (by decide +kernel) (by decide +kernel))
theorem lk_MD_35 : mt_lk R_MD 35 R_MD F_MD 14 := Or.inl (gw 529 (by decide +kernel) (by decide +kernel))
theorem lk_MD_38 : mt_lk R_MD 38 R_MD F_MD 15 := Or.inl (gw 530 (by decide +kernel) (by decide +kernel))
theorem lk_MD_41 : mt_lk R_MD 41 R_MD F_MD 16 := Or.inl (gw 531 (by decide +kernel) (by decide +kernel))
theorem lk_MD_44 : mt_lk R_MD 44 R_MD F_MD 17 := Or.inl (gw 532 (by decide +kernel) (by decide +kernel))
theorem lk_MD_47 : mt_lk R_MD 47 R_MD F_MD 18 := Or.inl (gw 533 (by decide +kernel) (by decide +kernel))
theorem lk_MD_50 : mt_lk R_MD 50 R_MD F_MD 21 := Or.inl (gw 536 (by decide +kernel) (by decide +kernel))
theorem lk_MD_53 : mt_lk R_MD 53 R_MD F_MD 22 := Or.inl (gw 537 (by decide +kernel) (by decide +kernel))
theorem lk_MD_56 : mt_lk R_MD 56 R_MD F_MD 23 := Or.inl (gw 538 (by decide +kernel) (by decide +kernel))
theorem lk_MD_59 : mt_lk R_MD 59 R_MD F_MD 24 := Or.inl (gw 539 (by decide +kernel) (by decide +kernel))
theorem lk_MD_62 : mt_lk R_MD 62 R_MD F_MD 25 := Or.inl (gw 540 (by decide +kernel) (by decide +kernel))
theorem lk_MD_65 : mt_lk R_MD 65 R_MD F_MD 27 := Or.inl (gw 542 (by decide +kernel) (by decide +kernel))
theorem lm_MD_68 : mt_lm R_MD 68 y_MD_in c_MD_in 2 (some .boolean) 2 := ⟨by decide +kernel, wc_MD_in, wini_MD, Or.inl (gw 604 (by decide +kernel) (by decide +kernel))⟩
theorem lk_MD_72 : mt_lk R_MD 72 R_MD F_MD 5 := Or.inl (gw 520 (by decide +kernel) (by decide +kernel))
theorem lm_MD_76 : mt_lm R_MD 76 y_MD_isSelected c_MD_isSelected 4 (some .boolean) 1 := ⟨by decide +kernel, wc_MD_isSelected, wini_MD, Or.inl (gw 611 (by decide +kernel) (by decide +kernel))⟩
theorem lk_MD_80 : mt_lk R_MD 80 R_MD F_MD 4 := Or.inl (gw 519 (by decide +kernel) (by decide +kernel))
theorem lm_MD_83 : mt_lm R_MD 83 y_MD_touch c_MD_touch 2 none 1 := ⟨by decide +kernel, wc_MD_touch, wini_MD, Or.inl (gw 619 (by decide +kernel) (by decide +kernel))⟩
theorem lm_MD_87 : mt_lm R_MD 87 y_MD_file c_MD_file 3 (some .int) 2 := ⟨by decide +kernel, wc_MD_file, wini_MD, Or.inl (gw 627 (by decide +kernel) (by decide +kernel))⟩
theorem lc_MD_91 : Cond.constant R_MD 91 (nI 65521) ∈ lw_good := gw 707 (by decide +kernel) (by decide +kernel)
theorem lk_MD_92 : mt_lk R_MD 92 R_MD F_MD 19 := Or.inl (gw 534 (by decide +kernel) (by decide +kernel))
theorem lm_MD_95 : mt_lm R_MD 95 y_MD_message c_MD_message 7 none 6 := ⟨by decide +kernel, wc_MD_message, wini_MD, Or.inl (gw 663 (by decide +kernel) (by decide +kernel))⟩
theorem lk_MD_99 : mt_lk R_MD 99 R_MD F_MD 10 := Or.inl (gw 525 (by decide +kernel) (by decide +kernel))
theorem lm_MD_102 : mt_lm R_MD 102 y_MD_weak c_MD_weak 6 (some .int) 2 := ⟨by decide +kernel, wc_MD_weak, wini_MD, Or.inl (gw 695 (by decide +kernel) (by decide +kernel))⟩
theorem lm_MD_105 : mt_lm R_MD 105 y_MD_more c_MD_more 2 none 1 := ⟨by decide +kernel, wc_MD_more, wini_MD, Or.inl (gw 699 (by decide +kernel) (by decide +kernel))⟩
theorem lm_MD_108 : mt_lm R_MD 108 y_MD_strong c_MD_strong 6 (some .int) 3 := ⟨by decide +kernel, wc_MD_strong, wini_MD, Or.inl (gw 703 (by decide +kernel) (by decide +kernel))⟩
theorem lk_MD_112 : mt_lk R_MD 112 R_MD F_MD 20 := Or.inl (gw 535 (by decide +kernel) (by decide +kernel))
theorem lm_MD_115 : mt_lm R_MD 115 y_MD_add c_MD_add 2 none 1 := ⟨by decide +kernel, wc_MD_add, wini_MD, Or.inl (gw 659 (by decide +kernel) (by decide +kernel))⟩
theorem lm_MD_118 : mt_lm R_MD 118 y_MD_finishRecord c_MD_finishRecord 3 none 0 := ⟨by decide +kernel, wc_MD_finishRecord, wini_MD, Or.inl (gw 655 (by decide +kernel) (by decide +kernel))⟩
theorem lk_MD_121 : mt_lk R_MD 121 R_MD F_MD 9 := Or.inl (gw 524 (by decide +kernel) (by decide +kernel))
theorem lk_MD_125 : mt_lk R_MD 125 R_MD F_MD 11 := Or.inl (gw 526 (by decide +kernel) (by decide +kernel))
theorem lk_MD_128 : mt_lk R_MD 128 R_MD F_MD 12 := Or.inl (gw 527 (by decide +kernel) (by decide +kernel))
theorem lm_MD_131 : mt_lm R_MD 131 y_MD_finishAll c_MD_finishAll 2 none 0 := ⟨by decide +kernel, wc_MD_finishAll, wini_MD, Or.inl (gw 651 (by decide +kernel) (by decide +kernel))⟩
theorem lm_MD_134 : mt_lm R_MD 134 y_MD_over c_MD_over 1 none 0 := ⟨by decide +kernel, wc_MD_over, wini_MD, Or.inl (gw 671 (by decide +kernel) (by decide +kernel))⟩
theorem lm_MD_137 : mt_lm R_MD 137 y_MD_sendSignature c_MD_sendSignature 7 none 2 := ⟨by decide +kernel, wc_MD_sendSignature, wini_MD, Or.inl (gw 691 (by decide +kernel) (by decide +kernel))⟩
theorem lm_MD_141 : mt_lm R_MD 141 y_MD_concludeIfDone c_MD_concludeIfDone 5 none 0 := ⟨by decide +kernel, wc_MD_concludeIfDone, wini_MD, Or.inl (gw 708 (by decide +kernel) (by decide +kernel))⟩
theorem lc_MD_144 : Cond.constant R_MD 144 (-2128831035) ∈ lw_good := gw 716 (by decide +kernel) (by decide +kernel)
theorem lc_MD_145 : Cond.constant R_MD 145 (nI 16777619) ∈ lw_good := gw 717 (by decide +kernel) (by decide +kernel)
theorem lm_MD_146 : mt_lm R_MD 146 y_MD_match c_MD_match 8 (some .int) 3 := ⟨by decide +kernel, wc_MD_match, wini_MD, Or.inl (gw 718 (by decide +kernel) (by decide +kernel))⟩
theorem lk_MD_149 : mt_lk R_MD 149 R_MD F_MD 26 := Or.inl (gw 541 (by decide +kernel) (by decide +kernel))
theorem lm_MD_152 : mt_lm R_MD 152 y_MD_entryOf c_MD_entryOf 4 (some .int) 1 := ⟨by decide +kernel, wc_MD_entryOf, wini_MD, Or.inl (gw 726 (by decide +kernel) (by decide +kernel))⟩
theorem lm_MD_156 : mt_lm R_MD 156 y_MD_rebuild c_MD_rebuild 8 (some .int) 1 := ⟨by decide +kernel, wc_MD_rebuild, wini_MD, Or.inl (gw 730 (by decide +kernel) (by decide +kernel))⟩
theorem lm_MD_159 : mt_lm R_MD 159 y_MD_take c_MD_take 5 (some .int) 1 := ⟨by decide +kernel, wc_MD_take, wini_MD, Or.inl (gw 679 (by decide +kernel) (by decide +kernel))⟩
theorem lm_MD_162 : mt_lm R_MD 162 y_MD_note c_MD_note 2 none 1 := ⟨by decide +kernel, wc_MD_note, wini_MD, Or.inl (gw 683 (by decide +kernel) (by decide +kernel))⟩
theorem lm_MD_165 : mt_lm R_MD 165 y_MD_end c_MD_end 4 none 0 := ⟨by decide +kernel, wc_MD_end, wini_MD, Or.inl (gw 687 (by decide +kernel) (by decide +kernel))⟩
theorem lm_MD_168 : mt_lm R_MD 168 y_MD_answer c_MD_answer 8 none 1 := ⟨by decide +kernel, wc_MD_answer, wini_MD, Or.inl (gw 712 (by decide +kernel) (by decide +kernel))⟩
theorem lm_MD_171 : mt_lm R_MD 171 y_MD_delta c_MD_delta 6 none 1 := ⟨by decide +kernel, wc_MD_delta, wini_MD, Or.inl (gw 722 (by decide +kernel) (by decide +kernel))⟩
theorem ln_LW_7 : Cond.classLink R_LW 7 R_TC ∈ lw_good := gw 11 (by decide +kernel) (by decide +kernel)
theorem lm_LW_9 : mt_lm R_LW 9 y_TC_init c_TC_init 2 none 0 := ⟨by decide +kernel, wc_TC_init, wini_TC, Or.inl (gw 13 (by decide +kernel) (by decide +kernel))⟩
theorem ln_LW_10 : Cond.classLink R_LW 10 R_MD ∈ lw_good := gw 509 (by decide +kernel) (by decide +kernel)
theorem lm_LW_12 : mt_lm R_LW 12 y_MD_init c_MD_init 1 none 0 := ⟨by decide +kernel, wc_MD_init, wini_MD, Or.inl (gw 511 (by decide +kernel) (by decide +kernel))⟩
theorem lm_LW_13 : mt_lm R_LW 13 y_TC_rule c_TC_rule 4 (some .boolean) 3 := ⟨by decide +kernel, wc_TC_rule, wini_TC, Or.inl (gw 240 (by decide +kernel) (by decide +kernel))⟩
theorem lm_LW_17 : mt_lm R_LW 17 y_MD_rule c_MD_rule 4 (some .boolean) 3 := ⟨by decide +kernel, wc_MD_rule, wini_MD, Or.inl (gw 600 (by decide +kernel) (by decide +kernel))⟩
theorem lm_LW_18 : mt_lm R_LW 18 y_TC_put c_TC_put 5 (some .boolean) 3 := ⟨by decide +kernel, wc_TC_put, wini_TC, Or.inl (gw 251 (by decide +kernel) (by decide +kernel))⟩
theorem lm_LW_22 : mt_lm R_LW 22 y_MD_put c_MD_put 6 (some .boolean) 3 := ⟨by decide +kernel, wc_MD_put, wini_MD, Or.inl (gw 615 (by decide +kernel) (by decide +kernel))⟩
theorem lm_LW_23 : mt_lm R_LW 23 y_TC_set c_TC_set 6 (some .boolean) 4 := ⟨by decide +kernel, wc_TC_set, wini_TC, Or.inl (gw 277 (by decide +kernel) (by decide +kernel))⟩
theorem lm_LW_27 : mt_lm R_LW 27 y_MD_set c_MD_set 6 (some .boolean) 4 := ⟨by decide +kernel, wc_MD_set, wini_MD, Or.inl (gw 623 (by decide +kernel) (by decide +kernel))⟩
theorem lm_LW_28 : mt_lm R_LW 28 y_TC_remove c_TC_remove 4 (some .boolean) 2 := ⟨by decide +kernel, wc_TC_remove, wini_TC, Or.inl (gw 294 (by decide +kernel) (by decide +kernel))⟩
theorem lm_LW_32 : mt_lm R_LW 32 y_MD_remove c_MD_remove 4 (some .boolean) 2 := ⟨by decide +kernel, wc_MD_remove, wini_MD, Or.inl (gw 631 (by decide +kernel) (by decide +kernel))⟩
theorem lm_LW_33 : mt_lm R_LW 33 y_TC_begin c_TC_begin 3 (some .boolean) 2 := ⟨by decide +kernel, wc_TC_begin, wini_TC, Or.inl (gw 306 (by decide +kernel) (by decide +kernel))⟩
theorem lm_LW_37 : mt_lm R_LW 37 y_MD_begin c_MD_begin 4 (some .boolean) 2 := ⟨by decide +kernel, wc_MD_begin, wini_MD, Or.inl (gw 647 (by decide +kernel) (by decide +kernel))⟩
theorem lm_LW_38 : mt_lm R_LW 38 y_TC_deliver c_TC_deliver 5 (some .int) 1 := ⟨by decide +kernel, wc_TC_deliver, wini_TC, Or.inl (gw 342 (by decide +kernel) (by decide +kernel))⟩
theorem lm_LW_42 : mt_lm R_LW 42 y_MD_deliver c_MD_deliver 4 (some .int) 1 := ⟨by decide +kernel, wc_MD_deliver, wini_MD, Or.inl (gw 675 (by decide +kernel) (by decide +kernel))⟩
theorem lm_LW_43 : mt_lm R_LW 43 y_TC_crash c_TC_crash 1 (some .boolean) 0 := ⟨by decide +kernel, wc_TC_crash, wini_TC, Or.inl (gw 465 (by decide +kernel) (by decide +kernel))⟩
theorem lm_LW_47 : mt_lm R_LW 47 y_MD_crash c_MD_crash 1 (some .boolean) 0 := ⟨by decide +kernel, wc_MD_crash, wini_MD, Or.inl (gw 667 (by decide +kernel) (by decide +kernel))⟩
theorem lm_LW_48 : mt_lm R_LW 48 y_TC_on c_TC_on 1 (some .boolean) 0 := ⟨by decide +kernel, wc_TC_on, wini_TC, Or.inl (gw 469 (by decide +kernel) (by decide +kernel))⟩
theorem lm_LW_51 : mt_lm R_LW 51 y_MD_on c_MD_on 1 (some .boolean) 0 := ⟨by decide +kernel, wc_MD_on, wini_MD, Or.inl (gw 734 (by decide +kernel) (by decide +kernel))⟩
theorem lm_LW_52 : mt_lm R_LW 52 y_TC_size c_TC_size 4 (some .int) 2 := ⟨by decide +kernel, wc_TC_size, wini_TC, Or.inl (gw 473 (by decide +kernel) (by decide +kernel))⟩
theorem lm_LW_56 : mt_lm R_LW 56 y_MD_size c_MD_size 4 (some .int) 2 := ⟨by decide +kernel, wc_MD_size, wini_MD, Or.inl (gw 635 (by decide +kernel) (by decide +kernel))⟩
theorem lm_LW_57 : mt_lm R_LW 57 y_TC_at c_TC_at 5 (some .int) 3 := ⟨by decide +kernel, wc_TC_at, wini_TC, Or.inl (gw 477 (by decide +kernel) (by decide +kernel))⟩
theorem lm_LW_61 : mt_lm R_LW 61 y_MD_at c_MD_at 5 (some .int) 3 := ⟨by decide +kernel, wc_MD_at, wini_MD, Or.inl (gw 639 (by decide +kernel) (by decide +kernel))⟩
theorem lm_LW_62 : mt_lm R_LW 62 y_TC_time c_TC_time 4 (some .int) 2 := ⟨by decide +kernel, wc_TC_time, wini_TC, Or.inl (gw 481 (by decide +kernel) (by decide +kernel))⟩
theorem lm_LW_65 : mt_lm R_LW 65 y_MD_time c_MD_time 4 (some .int) 2 := ⟨by decide +kernel, wc_MD_time, wini_MD, Or.inl (gw 643 (by decide +kernel) (by decide +kernel))⟩
theorem lm_LW_66 : mt_lm R_LW 66 y_TC_selected c_TC_selected 2 (some .boolean) 1 := ⟨by decide +kernel, wc_TC_selected, wini_TC, Or.inl (gw 485 (by decide +kernel) (by decide +kernel))⟩
theorem lm_LW_70 : mt_lm R_LW 70 y_MD_selected c_MD_selected 2 (some .boolean) 1 := ⟨by decide +kernel, wc_MD_selected, wini_MD, Or.inl (gw 607 (by decide +kernel) (by decide +kernel))⟩
theorem lm_LW_71 : mt_lm R_LW 71 y_TC_waiting c_TC_waiting 3 (some .int) 1 := ⟨by decide +kernel, wc_TC_waiting, wini_TC, Or.inl (gw 489 (by decide +kernel) (by decide +kernel))⟩
theorem lm_LW_74 : mt_lm R_LW 74 y_MD_waiting c_MD_waiting 2 (some .int) 1 := ⟨by decide +kernel, wc_MD_waiting, wini_MD, Or.inl (gw 738 (by decide +kernel) (by decide +kernel))⟩
theorem lm_LW_75 : mt_lm R_LW 75 y_TC_next c_TC_next 3 (some .int) 1 := ⟨by decide +kernel, wc_TC_next, wini_TC, Or.inl (gw 493 (by decide +kernel) (by decide +kernel))⟩
theorem lm_LW_78 : mt_lm R_LW 78 y_MD_next c_MD_next 2 (some .int) 1 := ⟨by decide +kernel, wc_MD_next, wini_MD, Or.inl (gw 742 (by decide +kernel) (by decide +kernel))⟩
theorem lm_LW_79 : mt_lm R_LW 79 y_TC_journal c_TC_journal 1 (some .int) 0 := ⟨by decide +kernel, wc_TC_journal, wini_TC, Or.inl (gw 501 (by decide +kernel) (by decide +kernel))⟩
theorem lm_LW_83 : mt_lm R_LW 83 y_MD_journal c_MD_journal 1 (some .int) 0 := ⟨by decide +kernel, wc_MD_journal, wini_MD, Or.inl (gw 746 (by decide +kernel) (by decide +kernel))⟩
theorem lm_LW_84 : mt_lm R_LW 84 y_TC_count c_TC_count 2 (some .int) 1 := ⟨by decide +kernel, wc_TC_count, wini_TC, Or.inl (gw 505 (by decide +kernel) (by decide +kernel))⟩
theorem lm_LW_87 : mt_lm R_LW 87 y_MD_count c_MD_count 2 (some .int) 1 := ⟨by decide +kernel, wc_MD_count, wini_MD, Or.inl (gw 750 (by decide +kernel) (by decide +kernel))⟩
end
