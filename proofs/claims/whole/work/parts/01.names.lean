-- ===== PART A: goes FIRST, ahead of the names: the tables' words, and 'selects' of the private methods out of them =====
/-- a private method of a class that the tables say can be made, by its rows of tables_1 -/
def lw_okq (q : MethodName × Nat) : Prop := (q.1.cls ≠ "java/lang/invoke/MethodHandle" ∧ q.1.cls ≠ "java/lang/invoke/VarHandle") ∧ Cond.instantiable q.1.cls q.2 ∈ tables_1 ∧ Cond.privateMethod q.1 ∈ tables_1 ∧ Cond.instanceMethod q.1 ∈ tables_1
theorem lw_p0 : lw_okq (⟨"ZlibBox$Unpacker", "makeFixedCodes", "()V"⟩, 9) := ⟨⟨by decide +kernel, by decide +kernel⟩, List.mem_of_getElem? (i := 26) (by decide +kernel), List.mem_of_getElem? (i := 69) (by decide +kernel), List.mem_of_getElem? (i := 70) (by decide +kernel)⟩
theorem lw_p1 : lw_okq (⟨"java/lang/Throwable", "fillInStackTrace", "(I)Ljava/lang/Throwable;"⟩, 6) := ⟨⟨by decide +kernel, by decide +kernel⟩, List.mem_of_getElem? (i := 230) (by decide +kernel), List.mem_of_getElem? (i := 228) (by decide +kernel), List.mem_of_getElem? (i := 229) (by decide +kernel)⟩
theorem lw_p2 : lw_okq (⟨"ZlibBox", "putInt", "(II)V"⟩, 7) := ⟨⟨by decide +kernel, by decide +kernel⟩, List.mem_of_getElem? (i := 18) (by decide +kernel), List.mem_of_getElem? (i := 259) (by decide +kernel), List.mem_of_getElem? (i := 260) (by decide +kernel)⟩
theorem lw_p3 : lw_okq (⟨"ZlibBox$Unpacker", "readHead", "()V"⟩, 9) := ⟨⟨by decide +kernel, by decide +kernel⟩, List.mem_of_getElem? (i := 26) (by decide +kernel), List.mem_of_getElem? (i := 303) (by decide +kernel), List.mem_of_getElem? (i := 304) (by decide +kernel)⟩
theorem lw_p4 : lw_okq (⟨"ZlibBox$Unpacker", "readBlocks", "()V"⟩, 9) := ⟨⟨by decide +kernel, by decide +kernel⟩, List.mem_of_getElem? (i := 26) (by decide +kernel), List.mem_of_getElem? (i := 330) (by decide +kernel), List.mem_of_getElem? (i := 331) (by decide +kernel)⟩
theorem lw_p5 : lw_okq (⟨"ZlibBox$Unpacker", "readStored", "()V"⟩, 9) := ⟨⟨by decide +kernel, by decide +kernel⟩, List.mem_of_getElem? (i := 26) (by decide +kernel), List.mem_of_getElem? (i := 339) (by decide +kernel), List.mem_of_getElem? (i := 340) (by decide +kernel)⟩
theorem lw_p6 : lw_okq (⟨"ZlibBox$Unpacker", "put", "(I)V"⟩, 9) := ⟨⟨by decide +kernel, by decide +kernel⟩, List.mem_of_getElem? (i := 26) (by decide +kernel), List.mem_of_getElem? (i := 349) (by decide +kernel), List.mem_of_getElem? (i := 350) (by decide +kernel)⟩
theorem lw_p7 : lw_okq (⟨"ZlibBox$Unpacker", "readCoded", "(LZlibBox$Codes;LZlibBox$Codes;)V"⟩, 9) := ⟨⟨by decide +kernel, by decide +kernel⟩, List.mem_of_getElem? (i := 26) (by decide +kernel), List.mem_of_getElem? (i := 356) (by decide +kernel), List.mem_of_getElem? (i := 357) (by decide +kernel)⟩
theorem lw_p8 : lw_okq (⟨"ZlibBox$Unpacker", "readCopy", "(ILZlibBox$Codes;)V"⟩, 9) := ⟨⟨by decide +kernel, by decide +kernel⟩, List.mem_of_getElem? (i := 26) (by decide +kernel), List.mem_of_getElem? (i := 368) (by decide +kernel), List.mem_of_getElem? (i := 369) (by decide +kernel)⟩
theorem lw_p9 : lw_okq (⟨"ZlibBox$Unpacker", "readToldCodes", "()V"⟩, 9) := ⟨⟨by decide +kernel, by decide +kernel⟩, List.mem_of_getElem? (i := 26) (by decide +kernel), List.mem_of_getElem? (i := 383) (by decide +kernel), List.mem_of_getElem? (i := 384) (by decide +kernel)⟩
theorem lw_p10 : lw_okq (⟨"ZlibBox$Unpacker", "readLengthCodes", "(I)V"⟩, 9) := ⟨⟨by decide +kernel, by decide +kernel⟩, List.mem_of_getElem? (i := 26) (by decide +kernel), List.mem_of_getElem? (i := 388) (by decide +kernel), List.mem_of_getElem? (i := 389) (by decide +kernel)⟩
theorem lw_p11 : lw_okq (⟨"ZlibBox$Unpacker", "readLengths", "(I)V"⟩, 9) := ⟨⟨by decide +kernel, by decide +kernel⟩, List.mem_of_getElem? (i := 26) (by decide +kernel), List.mem_of_getElem? (i := 399) (by decide +kernel), List.mem_of_getElem? (i := 400) (by decide +kernel)⟩
theorem lw_p12 : lw_okq (⟨"ZlibBox$Unpacker", "readRun", "(III)I"⟩, 9) := ⟨⟨by decide +kernel, by decide +kernel⟩, List.mem_of_getElem? (i := 26) (by decide +kernel), List.mem_of_getElem? (i := 403) (by decide +kernel), List.mem_of_getElem? (i := 404) (by decide +kernel)⟩
theorem lw_p13 : lw_okq (⟨"ZlibBox$Unpacker", "readTail", "()V"⟩, 9) := ⟨⟨by decide +kernel, by decide +kernel⟩, List.mem_of_getElem? (i := 26) (by decide +kernel), List.mem_of_getElem? (i := 416) (by decide +kernel), List.mem_of_getElem? (i := 417) (by decide +kernel)⟩
theorem lw_p14 : lw_okq (⟨"ZlibBox", "keepDraft", "(I)I"⟩, 7) := ⟨⟨by decide +kernel, by decide +kernel⟩, List.mem_of_getElem? (i := 18) (by decide +kernel), List.mem_of_getElem? (i := 426) (by decide +kernel), List.mem_of_getElem? (i := 427) (by decide +kernel)⟩
theorem lw_p15 : lw_okq (⟨"ZlibBox$Packer", "open", "([BI[B)V"⟩, 10) := ⟨⟨by decide +kernel, by decide +kernel⟩, List.mem_of_getElem? (i := 110) (by decide +kernel), List.mem_of_getElem? (i := 441) (by decide +kernel), List.mem_of_getElem? (i := 442) (by decide +kernel)⟩
def lw_privs_1 : List (MethodName × Nat) := [(⟨"ZlibBox$Unpacker", "makeFixedCodes", "()V"⟩, 9), (⟨"java/lang/Throwable", "fillInStackTrace", "(I)Ljava/lang/Throwable;"⟩, 6), (⟨"ZlibBox", "putInt", "(II)V"⟩, 7), (⟨"ZlibBox$Unpacker", "readHead", "()V"⟩, 9), (⟨"ZlibBox$Unpacker", "readBlocks", "()V"⟩, 9), (⟨"ZlibBox$Unpacker", "readStored", "()V"⟩, 9), (⟨"ZlibBox$Unpacker", "put", "(I)V"⟩, 9), (⟨"ZlibBox$Unpacker", "readCoded", "(LZlibBox$Codes;LZlibBox$Codes;)V"⟩, 9), (⟨"ZlibBox$Unpacker", "readCopy", "(ILZlibBox$Codes;)V"⟩, 9), (⟨"ZlibBox$Unpacker", "readToldCodes", "()V"⟩, 9), (⟨"ZlibBox$Unpacker", "readLengthCodes", "(I)V"⟩, 9), (⟨"ZlibBox$Unpacker", "readLengths", "(I)V"⟩, 9), (⟨"ZlibBox$Unpacker", "readRun", "(III)I"⟩, 9), (⟨"ZlibBox$Unpacker", "readTail", "()V"⟩, 9), (⟨"ZlibBox", "keepDraft", "(I)I"⟩, 7), (⟨"ZlibBox$Packer", "open", "([BI[B)V"⟩, 10)]
theorem lw_r1 : ∀ q ∈ lw_privs_1, lw_okq q := List.forall_mem_cons.mpr ⟨lw_p0, List.forall_mem_cons.mpr ⟨lw_p1, List.forall_mem_cons.mpr ⟨lw_p2, List.forall_mem_cons.mpr ⟨lw_p3, List.forall_mem_cons.mpr ⟨lw_p4, List.forall_mem_cons.mpr ⟨lw_p5, List.forall_mem_cons.mpr ⟨lw_p6, List.forall_mem_cons.mpr ⟨lw_p7, List.forall_mem_cons.mpr ⟨lw_p8, List.forall_mem_cons.mpr ⟨lw_p9, List.forall_mem_cons.mpr ⟨lw_p10, List.forall_mem_cons.mpr ⟨lw_p11, List.forall_mem_cons.mpr ⟨lw_p12, List.forall_mem_cons.mpr ⟨lw_p13, List.forall_mem_cons.mpr ⟨lw_p14, List.forall_mem_cons.mpr ⟨lw_p15, fun _ h => absurd h List.not_mem_nil⟩⟩⟩⟩⟩⟩⟩⟩⟩⟩⟩⟩⟩⟩⟩⟩
theorem lw_p16 : lw_okq (⟨"ZlibBox$Packer", "putByte", "(I)V"⟩, 10) := ⟨⟨by decide +kernel, by decide +kernel⟩, List.mem_of_getElem? (i := 110) (by decide +kernel), List.mem_of_getElem? (i := 446) (by decide +kernel), List.mem_of_getElem? (i := 447) (by decide +kernel)⟩
theorem lw_p17 : lw_okq (⟨"ZlibBox$Packer", "putNumber", "(II)V"⟩, 10) := ⟨⟨by decide +kernel, by decide +kernel⟩, List.mem_of_getElem? (i := 110) (by decide +kernel), List.mem_of_getElem? (i := 453) (by decide +kernel), List.mem_of_getElem? (i := 454) (by decide +kernel)⟩
theorem lw_p18 : lw_okq (⟨"ZlibBox$Packer", "writeTape", "()V"⟩, 10) := ⟨⟨by decide +kernel, by decide +kernel⟩, List.mem_of_getElem? (i := 110) (by decide +kernel), List.mem_of_getElem? (i := 457) (by decide +kernel), List.mem_of_getElem? (i := 458) (by decide +kernel)⟩
theorem lw_p19 : lw_okq (⟨"ZlibBox$Packer", "findCopy", "(I)V"⟩, 10) := ⟨⟨by decide +kernel, by decide +kernel⟩, List.mem_of_getElem? (i := 110) (by decide +kernel), List.mem_of_getElem? (i := 461) (by decide +kernel), List.mem_of_getElem? (i := 462) (by decide +kernel)⟩
theorem lw_p20 : lw_okq (⟨"ZlibBox$Packer", "chainOf", "(I)I"⟩, 10) := ⟨⟨by decide +kernel, by decide +kernel⟩, List.mem_of_getElem? (i := 110) (by decide +kernel), List.mem_of_getElem? (i := 471) (by decide +kernel), List.mem_of_getElem? (i := 472) (by decide +kernel)⟩
theorem lw_p21 : lw_okq (⟨"ZlibBox$Packer", "agreement", "(III)I"⟩, 10) := ⟨⟨by decide +kernel, by decide +kernel⟩, List.mem_of_getElem? (i := 110) (by decide +kernel), List.mem_of_getElem? (i := 475) (by decide +kernel), List.mem_of_getElem? (i := 476) (by decide +kernel)⟩
theorem lw_p22 : lw_okq (⟨"ZlibBox$Packer", "putLiteral", "(I)V"⟩, 10) := ⟨⟨by decide +kernel, by decide +kernel⟩, List.mem_of_getElem? (i := 110) (by decide +kernel), List.mem_of_getElem? (i := 479) (by decide +kernel), List.mem_of_getElem? (i := 480) (by decide +kernel)⟩
theorem lw_p23 : lw_okq (⟨"ZlibBox$Packer", "putCopy", "()V"⟩, 10) := ⟨⟨by decide +kernel, by decide +kernel⟩, List.mem_of_getElem? (i := 110) (by decide +kernel), List.mem_of_getElem? (i := 486) (by decide +kernel), List.mem_of_getElem? (i := 487) (by decide +kernel)⟩
theorem lw_p24 : lw_okq (⟨"ZlibBox$Packer", "remember", "(I)V"⟩, 10) := ⟨⟨by decide +kernel, by decide +kernel⟩, List.mem_of_getElem? (i := 110) (by decide +kernel), List.mem_of_getElem? (i := 497) (by decide +kernel), List.mem_of_getElem? (i := 498) (by decide +kernel)⟩
theorem lw_p25 : lw_okq (⟨"ZlibBox$Packer", "putLastBits", "()V"⟩, 10) := ⟨⟨by decide +kernel, by decide +kernel⟩, List.mem_of_getElem? (i := 110) (by decide +kernel), List.mem_of_getElem? (i := 501) (by decide +kernel), List.mem_of_getElem? (i := 502) (by decide +kernel)⟩
theorem lw_p26 : lw_okq (⟨"ZlibBox$Packer", "putAdler", "(I)V"⟩, 10) := ⟨⟨by decide +kernel, by decide +kernel⟩, List.mem_of_getElem? (i := 110) (by decide +kernel), List.mem_of_getElem? (i := 506) (by decide +kernel), List.mem_of_getElem? (i := 507) (by decide +kernel)⟩
theorem lw_p27 : lw_okq (⟨"ZlibBoxModel", "inflate", "()V"⟩, 20) := ⟨⟨by decide +kernel, by decide +kernel⟩, List.mem_of_getElem? (i := 526) (by decide +kernel), List.mem_of_getElem? (i := 623) (by decide +kernel), List.mem_of_getElem? (i := 624) (by decide +kernel)⟩
theorem lw_p28 : lw_okq (⟨"ZlibBoxModel", "can", "(Z)V"⟩, 20) := ⟨⟨by decide +kernel, by decide +kernel⟩, List.mem_of_getElem? (i := 526) (by decide +kernel), List.mem_of_getElem? (i := 627) (by decide +kernel), List.mem_of_getElem? (i := 628) (by decide +kernel)⟩
theorem lw_p29 : lw_okq (⟨"ZlibBoxModel", "bits", "(I)I"⟩, 20) := ⟨⟨by decide +kernel, by decide +kernel⟩, List.mem_of_getElem? (i := 526) (by decide +kernel), List.mem_of_getElem? (i := 641) (by decide +kernel), List.mem_of_getElem? (i := 642) (by decide +kernel)⟩
theorem lw_p30 : lw_okq (⟨"ZlibBoxModel", "give", "(I)V"⟩, 20) := ⟨⟨by decide +kernel, by decide +kernel⟩, List.mem_of_getElem? (i := 526) (by decide +kernel), List.mem_of_getElem? (i := 646) (by decide +kernel), List.mem_of_getElem? (i := 647) (by decide +kernel)⟩
theorem lw_p31 : lw_okq (⟨"ZlibBoxModel", "fixedCodes", "()V"⟩, 20) := ⟨⟨by decide +kernel, by decide +kernel⟩, List.mem_of_getElem? (i := 526) (by decide +kernel), List.mem_of_getElem? (i := 654) (by decide +kernel), List.mem_of_getElem? (i := 655) (by decide +kernel)⟩
def lw_privs_2 : List (MethodName × Nat) := [(⟨"ZlibBox$Packer", "putByte", "(I)V"⟩, 10), (⟨"ZlibBox$Packer", "putNumber", "(II)V"⟩, 10), (⟨"ZlibBox$Packer", "writeTape", "()V"⟩, 10), (⟨"ZlibBox$Packer", "findCopy", "(I)V"⟩, 10), (⟨"ZlibBox$Packer", "chainOf", "(I)I"⟩, 10), (⟨"ZlibBox$Packer", "agreement", "(III)I"⟩, 10), (⟨"ZlibBox$Packer", "putLiteral", "(I)V"⟩, 10), (⟨"ZlibBox$Packer", "putCopy", "()V"⟩, 10), (⟨"ZlibBox$Packer", "remember", "(I)V"⟩, 10), (⟨"ZlibBox$Packer", "putLastBits", "()V"⟩, 10), (⟨"ZlibBox$Packer", "putAdler", "(I)V"⟩, 10), (⟨"ZlibBoxModel", "inflate", "()V"⟩, 20), (⟨"ZlibBoxModel", "can", "(Z)V"⟩, 20), (⟨"ZlibBoxModel", "bits", "(I)I"⟩, 20), (⟨"ZlibBoxModel", "give", "(I)V"⟩, 20), (⟨"ZlibBoxModel", "fixedCodes", "()V"⟩, 20)]
theorem lw_r2 : ∀ q ∈ lw_privs_2, lw_okq q := List.forall_mem_cons.mpr ⟨lw_p16, List.forall_mem_cons.mpr ⟨lw_p17, List.forall_mem_cons.mpr ⟨lw_p18, List.forall_mem_cons.mpr ⟨lw_p19, List.forall_mem_cons.mpr ⟨lw_p20, List.forall_mem_cons.mpr ⟨lw_p21, List.forall_mem_cons.mpr ⟨lw_p22, List.forall_mem_cons.mpr ⟨lw_p23, List.forall_mem_cons.mpr ⟨lw_p24, List.forall_mem_cons.mpr ⟨lw_p25, List.forall_mem_cons.mpr ⟨lw_p26, List.forall_mem_cons.mpr ⟨lw_p27, List.forall_mem_cons.mpr ⟨lw_p28, List.forall_mem_cons.mpr ⟨lw_p29, List.forall_mem_cons.mpr ⟨lw_p30, List.forall_mem_cons.mpr ⟨lw_p31, fun _ h => absurd h List.not_mem_nil⟩⟩⟩⟩⟩⟩⟩⟩⟩⟩⟩⟩⟩⟩⟩⟩
theorem lw_p32 : lw_okq (⟨"ZlibBoxModel", "toldCodes", "()V"⟩, 20) := ⟨⟨by decide +kernel, by decide +kernel⟩, List.mem_of_getElem? (i := 526) (by decide +kernel), List.mem_of_getElem? (i := 663) (by decide +kernel), List.mem_of_getElem? (i := 664) (by decide +kernel)⟩
theorem lw_p33 : lw_okq (⟨"ZlibBoxModel", "meaning", "(LZlibBoxModel$Codes;)I"⟩, 20) := ⟨⟨by decide +kernel, by decide +kernel⟩, List.mem_of_getElem? (i := 526) (by decide +kernel), List.mem_of_getElem? (i := 669) (by decide +kernel), List.mem_of_getElem? (i := 670) (by decide +kernel)⟩
theorem lw_p34 : lw_okq (⟨"ZlibBoxModel", "block", "()V"⟩, 20) := ⟨⟨by decide +kernel, by decide +kernel⟩, List.mem_of_getElem? (i := 526) (by decide +kernel), List.mem_of_getElem? (i := 673) (by decide +kernel), List.mem_of_getElem? (i := 674) (by decide +kernel)⟩
theorem lw_p35 : lw_okq (⟨"ZlibBoxModel", "fail", "(I)I"⟩, 20) := ⟨⟨by decide +kernel, by decide +kernel⟩, List.mem_of_getElem? (i := 526) (by decide +kernel), List.mem_of_getElem? (i := 690) (by decide +kernel), List.mem_of_getElem? (i := 691) (by decide +kernel)⟩
theorem lw_p36 : lw_okq (⟨"ZlibBoxModel", "put", "(I)V"⟩, 20) := ⟨⟨by decide +kernel, by decide +kernel⟩, List.mem_of_getElem? (i := 526) (by decide +kernel), List.mem_of_getElem? (i := 698) (by decide +kernel), List.mem_of_getElem? (i := 699) (by decide +kernel)⟩
theorem lw_p37 : lw_okq (⟨"ZlibBoxModel", "deflate", "()V"⟩, 20) := ⟨⟨by decide +kernel, by decide +kernel⟩, List.mem_of_getElem? (i := 526) (by decide +kernel), List.mem_of_getElem? (i := 702) (by decide +kernel), List.mem_of_getElem? (i := 703) (by decide +kernel)⟩
theorem lw_p38 : lw_okq (⟨"ZlibBoxModel", "putBits", "(II)V"⟩, 20) := ⟨⟨by decide +kernel, by decide +kernel⟩, List.mem_of_getElem? (i := 526) (by decide +kernel), List.mem_of_getElem? (i := 706) (by decide +kernel), List.mem_of_getElem? (i := 707) (by decide +kernel)⟩
theorem lw_p39 : lw_okq (⟨"ZlibBoxModel", "flush", "()V"⟩, 20) := ⟨⟨by decide +kernel, by decide +kernel⟩, List.mem_of_getElem? (i := 526) (by decide +kernel), List.mem_of_getElem? (i := 710) (by decide +kernel), List.mem_of_getElem? (i := 711) (by decide +kernel)⟩
theorem lw_p40 : lw_okq (⟨"ZlibBoxModel", "mark", "(I)I"⟩, 20) := ⟨⟨by decide +kernel, by decide +kernel⟩, List.mem_of_getElem? (i := 526) (by decide +kernel), List.mem_of_getElem? (i := 714) (by decide +kernel), List.mem_of_getElem? (i := 715) (by decide +kernel)⟩
theorem lw_p41 : lw_okq (⟨"ZlibBoxModel", "putCopy", "(II)V"⟩, 20) := ⟨⟨by decide +kernel, by decide +kernel⟩, List.mem_of_getElem? (i := 526) (by decide +kernel), List.mem_of_getElem? (i := 721) (by decide +kernel), List.mem_of_getElem? (i := 722) (by decide +kernel)⟩
theorem lw_p42 : lw_okq (⟨"ZlibBoxModel", "putLiteral", "(I)V"⟩, 20) := ⟨⟨by decide +kernel, by decide +kernel⟩, List.mem_of_getElem? (i := 526) (by decide +kernel), List.mem_of_getElem? (i := 725) (by decide +kernel), List.mem_of_getElem? (i := 726) (by decide +kernel)⟩
theorem lw_p43 : lw_okq (⟨"ZlibBoxModel", "putCode", "(II)V"⟩, 20) := ⟨⟨by decide +kernel, by decide +kernel⟩, List.mem_of_getElem? (i := 526) (by decide +kernel), List.mem_of_getElem? (i := 729) (by decide +kernel), List.mem_of_getElem? (i := 730) (by decide +kernel)⟩
theorem lw_p44 : lw_okq (⟨"ZlibBoxModel", "putBig", "(J)V"⟩, 20) := ⟨⟨by decide +kernel, by decide +kernel⟩, List.mem_of_getElem? (i := 526) (by decide +kernel), List.mem_of_getElem? (i := 733) (by decide +kernel), List.mem_of_getElem? (i := 734) (by decide +kernel)⟩
def lw_privs_3 : List (MethodName × Nat) := [(⟨"ZlibBoxModel", "toldCodes", "()V"⟩, 20), (⟨"ZlibBoxModel", "meaning", "(LZlibBoxModel$Codes;)I"⟩, 20), (⟨"ZlibBoxModel", "block", "()V"⟩, 20), (⟨"ZlibBoxModel", "fail", "(I)I"⟩, 20), (⟨"ZlibBoxModel", "put", "(I)V"⟩, 20), (⟨"ZlibBoxModel", "deflate", "()V"⟩, 20), (⟨"ZlibBoxModel", "putBits", "(II)V"⟩, 20), (⟨"ZlibBoxModel", "flush", "()V"⟩, 20), (⟨"ZlibBoxModel", "mark", "(I)I"⟩, 20), (⟨"ZlibBoxModel", "putCopy", "(II)V"⟩, 20), (⟨"ZlibBoxModel", "putLiteral", "(I)V"⟩, 20), (⟨"ZlibBoxModel", "putCode", "(II)V"⟩, 20), (⟨"ZlibBoxModel", "putBig", "(J)V"⟩, 20)]
theorem lw_r3 : ∀ q ∈ lw_privs_3, lw_okq q := List.forall_mem_cons.mpr ⟨lw_p32, List.forall_mem_cons.mpr ⟨lw_p33, List.forall_mem_cons.mpr ⟨lw_p34, List.forall_mem_cons.mpr ⟨lw_p35, List.forall_mem_cons.mpr ⟨lw_p36, List.forall_mem_cons.mpr ⟨lw_p37, List.forall_mem_cons.mpr ⟨lw_p38, List.forall_mem_cons.mpr ⟨lw_p39, List.forall_mem_cons.mpr ⟨lw_p40, List.forall_mem_cons.mpr ⟨lw_p41, List.forall_mem_cons.mpr ⟨lw_p42, List.forall_mem_cons.mpr ⟨lw_p43, List.forall_mem_cons.mpr ⟨lw_p44, fun _ h => absurd h List.not_mem_nil⟩⟩⟩⟩⟩⟩⟩⟩⟩⟩⟩⟩⟩
def lw_privs : List (MethodName × Nat) := lw_privs_1 ++ (lw_privs_2 ++ (lw_privs_3))
def lw_tbl : List Cond := k2_sels lw_privs ++ tables_1
theorem lw_privs_ok : ∀ q ∈ lw_privs, lw_okq q := by
  show ∀ q ∈ lw_privs_1 ++ (lw_privs_2 ++ (lw_privs_3)), lw_okq q
  exact List.forall_mem_append.mpr ⟨lw_r1, List.forall_mem_append.mpr ⟨lw_r2, lw_r3⟩⟩
/-! names: printed by wip/whole/znames.py -/
def T_BR : u_T := fun k => match k with
  | 0 => ("ZlibBox$BitReader", "bytes", "[B", false)
  | 1 => ("ZlibBox$BitReader", "bitEnd", "I", false)
  | _ => ("ZlibBox$BitReader", "place", "I", false)
def t_BR : Nat → FieldType := fun k => match k with
  | 0 => .array .byte
  | 1 => .int
  | _ => .int
theorem nm_BR : ∀ a, a < 3 → ∀ b, b < 3 → a ≠ b → (T_BR a).2.1 ≠ (T_BR b).2.1 := by decide +kernel
theorem ty_BR : ∀ k, k < 3 → parseFieldDescriptor (T_BR k).2.2.1 = some (t_BR k) := by decide +kernel
def T_CO : u_T := fun k => match k with
  | 0 => ("ZlibBox$Codes", "counts", "[I", true)
  | 1 => ("ZlibBox$Codes", "meanings", "[I", true)
  | 2 => ("ZlibBox$Codes", "places", "[I", true)
  | _ => ("ZlibBox$Codes", "usedWords", "I", false)
def t_CO : Nat → FieldType := fun k => match k with
  | 0 => .array .int
  | 1 => .array .int
  | 2 => .array .int
  | _ => .int
theorem nm_CO : ∀ a, a < 4 → ∀ b, b < 4 → a ≠ b → (T_CO a).2.1 ≠ (T_CO b).2.1 := by decide +kernel
theorem ty_CO : ∀ k, k < 4 → parseFieldDescriptor (T_CO k).2.2.1 = some (t_CO k) := by decide +kernel
def T_PA : u_T := fun k => match k with
  | 0 => ("ZlibBox$Packer", "newest", "[I", true)
  | 1 => ("ZlibBox$Packer", "older", "[I", true)
  | 2 => ("ZlibBox$Packer", "in", "[B", false)
  | 3 => ("ZlibBox$Packer", "inLength", "I", false)
  | 4 => ("ZlibBox$Packer", "out", "[B", false)
  | 5 => ("ZlibBox$Packer", "written", "I", false)
  | 6 => ("ZlibBox$Packer", "heldBits", "I", false)
  | 7 => ("ZlibBox$Packer", "heldCount", "I", false)
  | 8 => ("ZlibBox$Packer", "copyLength", "I", false)
  | _ => ("ZlibBox$Packer", "copyDistance", "I", false)
def t_PA : Nat → FieldType := fun k => match k with
  | 0 => .array .int
  | 1 => .array .int
  | 2 => .array .byte
  | 3 => .int
  | 4 => .array .byte
  | 5 => .int
  | 6 => .int
  | 7 => .int
  | 8 => .int
  | _ => .int
theorem nm_PA : ∀ a, a < 10 → ∀ b, b < 10 → a ≠ b → (T_PA a).2.1 ≠ (T_PA b).2.1 := by decide +kernel
theorem ty_PA : ∀ k, k < 10 → parseFieldDescriptor (T_PA k).2.2.1 = some (t_PA k) := by decide +kernel
def T_UN : u_T := fun k => match k with
  | 0 => ("ZlibBox$Unpacker", "in", "LZlibBox$BitReader;", true)
  | 1 => ("ZlibBox$Unpacker", "fixedLiterals", "LZlibBox$Codes;", true)
  | 2 => ("ZlibBox$Unpacker", "fixedDistances", "LZlibBox$Codes;", true)
  | 3 => ("ZlibBox$Unpacker", "literals", "LZlibBox$Codes;", true)
  | 4 => ("ZlibBox$Unpacker", "distances", "LZlibBox$Codes;", true)
  | 5 => ("ZlibBox$Unpacker", "lengthCodes", "LZlibBox$Codes;", true)
  | 6 => ("ZlibBox$Unpacker", "lengths", "[I", true)
  | 7 => ("ZlibBox$Unpacker", "out", "[B", false)
  | _ => ("ZlibBox$Unpacker", "written", "I", false)
def t_UN : Nat → FieldType := fun k => match k with
  | 0 => .object "ZlibBox$BitReader"
  | 1 => .object "ZlibBox$Codes"
  | 2 => .object "ZlibBox$Codes"
  | 3 => .object "ZlibBox$Codes"
  | 4 => .object "ZlibBox$Codes"
  | 5 => .object "ZlibBox$Codes"
  | 6 => .array .int
  | 7 => .array .byte
  | _ => .int
theorem nm_UN : ∀ a, a < 9 → ∀ b, b < 9 → a ≠ b → (T_UN a).2.1 ≠ (T_UN b).2.1 := by decide +kernel
theorem ty_UN : ∀ k, k < 9 → parseFieldDescriptor (T_UN k).2.2.1 = some (t_UN k) := by decide +kernel
def T_ZB : u_T := fun k => match k with
  | 0 => ("ZlibBox", "tape", "[B", true)
  | 1 => ("ZlibBox", "tapeLength", "I", false)
  | 2 => ("ZlibBox", "result", "[B", false)
  | 3 => ("ZlibBox", "resultLength", "I", false)
  | 4 => ("ZlibBox", "draft", "[B", false)
  | 5 => ("ZlibBox", "unpacker", "LZlibBox$Unpacker;", true)
  | _ => ("ZlibBox", "packer", "LZlibBox$Packer;", true)
def t_ZB : Nat → FieldType := fun k => match k with
  | 0 => .array .byte
  | 1 => .int
  | 2 => .array .byte
  | 3 => .int
  | 4 => .array .byte
  | 5 => .object "ZlibBox$Unpacker"
  | _ => .object "ZlibBox$Packer"
theorem nm_ZB : ∀ a, a < 7 → ∀ b, b < 7 → a ≠ b → (T_ZB a).2.1 ≠ (T_ZB b).2.1 := by decide +kernel
theorem ty_ZB : ∀ k, k < 7 → parseFieldDescriptor (T_ZB k).2.2.1 = some (t_ZB k) := by decide +kernel
def T_MC : u_T := fun k => match k with
  | 0 => ("ZlibBoxModel$Codes", "counts", "[I", true)
  | 1 => ("ZlibBoxModel$Codes", "meanings", "[I", true)
  | _ => ("ZlibBoxModel$Codes", "all", "I", false)
def t_MC : Nat → FieldType := fun k => match k with
  | 0 => .array .int
  | 1 => .array .int
  | _ => .int
theorem nm_MC : ∀ a, a < 3 → ∀ b, b < 3 → a ≠ b → (T_MC a).2.1 ≠ (T_MC b).2.1 := by decide +kernel
theorem ty_MC : ∀ k, k < 3 → parseFieldDescriptor (T_MC k).2.2.1 = some (t_MC k) := by decide +kernel
def T_MO : u_T := fun k => match k with
  | 0 => ("ZlibBoxModel", "failed", "I", false)
  | 1 => ("ZlibBoxModel", "tape", "[B", true)
  | 2 => ("ZlibBoxModel", "taped", "I", false)
  | 3 => ("ZlibBoxModel", "result", "[B", true)
  | 4 => ("ZlibBoxModel", "size", "I", false)
  | 5 => ("ZlibBoxModel", "data", "[B", false)
  | 6 => ("ZlibBoxModel", "dataSize", "I", false)
  | 7 => ("ZlibBoxModel", "rows", "[B", true)
  | 8 => ("ZlibBoxModel", "rowBytes", "I", false)
  | 9 => ("ZlibBoxModel", "bitAt", "I", false)
  | 10 => ("ZlibBoxModel", "literals", "LZlibBoxModel$Codes;", true)
  | 11 => ("ZlibBoxModel", "distances", "LZlibBoxModel$Codes;", true)
  | 12 => ("ZlibBoxModel", "lengthCodes", "LZlibBoxModel$Codes;", true)
  | 13 => ("ZlibBoxModel", "lengths", "[I", true)
  | 14 => ("ZlibBoxModel", "out", "[B", true)
  | 15 => ("ZlibBoxModel", "outSize", "I", false)
  | 16 => ("ZlibBoxModel", "bitBuffer", "I", false)
  | 17 => ("ZlibBoxModel", "bitCount", "I", false)
  | 18 => ("ZlibBoxModel", "heads", "[I", true)
  | _ => ("ZlibBoxModel", "chain", "[I", true)
def t_MO : Nat → FieldType := fun k => match k with
  | 0 => .int
  | 1 => .array .byte
  | 2 => .int
  | 3 => .array .byte
  | 4 => .int
  | 5 => .array .byte
  | 6 => .int
  | 7 => .array .byte
  | 8 => .int
  | 9 => .int
  | 10 => .object "ZlibBoxModel$Codes"
  | 11 => .object "ZlibBoxModel$Codes"
  | 12 => .object "ZlibBoxModel$Codes"
  | 13 => .array .int
  | 14 => .array .byte
  | 15 => .int
  | 16 => .int
  | 17 => .int
  | 18 => .array .int
  | _ => .array .int
theorem nm_MO : ∀ a, a < 20 → ∀ b, b < 20 → a ≠ b → (T_MO a).2.1 ≠ (T_MO b).2.1 := by decide +kernel
theorem ty_MO : ∀ k, k < 20 → parseFieldDescriptor (T_MO k).2.2.1 = some (t_MO k) := by decide +kernel
abbrev vwCl : List vw_C := [("ZlibBox$BitReader", T_BR, 3), ("ZlibBox$Codes", T_CO, 4), ("ZlibBox$Packer", T_PA, 10), ("ZlibBox$Unpacker", T_UN, 9), ("ZlibBox", T_ZB, 7), ("ZlibBoxModel$Codes", T_MC, 3), ("ZlibBoxModel", T_MO, 20)]
/-- the words that stay, and those that only stay while tables grow warmer -/
def zT : List Cond := lw_tbl.filter goodWord
theorem zT_good : GoodIn zT zT := fun w hw => ⟨hw, good_of_word (List.mem_filter.mp hw).2⟩
def zok : Cond → Bool
  | .fieldLinkNest .. => true
  | .methodLinkNest .. => true
  | .castable .. => true
  | .declares .. => true
  | .stringRef .. => true
  | _ => false
def zxW : List Cond := lw_tbl.filter zok
theorem in_BR : ∀ w ∈ u_ws "ZlibBox$BitReader" T_BR 3, w ∈ zT := by decide +kernel
theorem in_CO : ∀ w ∈ u_ws "ZlibBox$Codes" T_CO 4, w ∈ zT := by decide +kernel
theorem in_PA : ∀ w ∈ u_ws "ZlibBox$Packer" T_PA 10, w ∈ zT := by decide +kernel
theorem in_UN : ∀ w ∈ u_ws "ZlibBox$Unpacker" T_UN 9, w ∈ zT := by decide +kernel
theorem in_ZB : ∀ w ∈ u_ws "ZlibBox" T_ZB 7, w ∈ zT := by decide +kernel
theorem in_MC : ∀ w ∈ u_ws "ZlibBoxModel$Codes" T_MC 3, w ∈ zT := by decide +kernel
theorem in_MO : ∀ w ∈ u_ws "ZlibBoxModel" T_MO 20, w ∈ zT := by decide +kernel
def y_ZB_init : MethodName := ⟨"ZlibBox", "<init>", "()V"⟩
abbrev c_ZB_init : ByteArray := prog_1_method_1_code
abbrev w_ZB_init : Cond := .code y_ZB_init c_ZB_init 1 none
def y_UN_init : MethodName := ⟨"ZlibBox$Unpacker", "<init>", "()V"⟩
abbrev c_UN_init : ByteArray := prog_5_method_1_code
abbrev w_UN_init : Cond := .code y_UN_init c_UN_init 1 none
def y_BR_init : MethodName := ⟨"ZlibBox$BitReader", "<init>", "()V"⟩
abbrev c_BR_init : ByteArray := prog_2_method_1_code
abbrev w_BR_init : Cond := .code y_BR_init c_BR_init 1 none
def y_CO_init : MethodName := ⟨"ZlibBox$Codes", "<init>", "()V"⟩
abbrev c_CO_init : ByteArray := prog_3_method_1_code
abbrev w_CO_init : Cond := .code y_CO_init c_CO_init 1 none
def y_UN_makeFixedCodes : MethodName := ⟨"ZlibBox$Unpacker", "makeFixedCodes", "()V"⟩
abbrev c_UN_makeFixedCodes : ByteArray := prog_5_method_3_code
abbrev w_UN_makeFixedCodes : Cond := .code y_UN_makeFixedCodes c_UN_makeFixedCodes 3 none
def y_CO_make : MethodName := ⟨"ZlibBox$Codes", "make", "([III)V"⟩
abbrev c_CO_make : ByteArray := prog_3_method_2_code
abbrev w_CO_make : Cond := .code y_CO_make c_CO_make 6 none
def y_AR_fill : MethodName := ⟨"java/util/Arrays", "fill", "([II)V"⟩
abbrev c_AR_fill : ByteArray := prog_18_method_103_code
abbrev w_AR_fill : Cond := .code y_AR_fill c_AR_fill 4 none
def y_PA_init : MethodName := ⟨"ZlibBox$Packer", "<init>", "()V"⟩
abbrev c_PA_init : ByteArray := prog_4_method_1_code
abbrev w_PA_init : Cond := .code y_PA_init c_PA_init 1 none
def y_ZB_again : MethodName := ⟨"ZlibBox", "again", "()I"⟩
abbrev c_ZB_again : ByteArray := prog_1_method_4_code
abbrev w_ZB_again : Cond := .code y_ZB_again c_ZB_again 1 (some .int)
def y_ZB_adler : MethodName := ⟨"ZlibBox", "adler", "()I"⟩
abbrev c_ZB_adler : ByteArray := prog_1_method_7_code
abbrev w_ZB_adler : Cond := .code y_ZB_adler c_ZB_adler 1 (some .int)
def y_ZB_adlerOf : MethodName := ⟨"ZlibBox", "adlerOf", "([BI)I"⟩
abbrev c_ZB_adlerOf : ByteArray := prog_1_method_12_code
abbrev w_ZB_adlerOf : Cond := .code y_ZB_adlerOf c_ZB_adlerOf 5 (some .int)
def y_LW_feed : MethodName := ⟨"ZlibBoxLaw", "feed", "(LZlibBox;IIIII[J)I"⟩
abbrev c_LW_feed : ByteArray := method_3_code
abbrev w_LW_feed : Cond := .codeWith y_LW_feed c_LW_feed 8 (some .int) [((0 : Nat), (16 : Nat), (19 : Nat), (13 : Nat))]
def y_ZB_feed : MethodName := ⟨"ZlibBox", "feed", "(IIIII)I"⟩
abbrev c_ZB_feed : ByteArray := prog_1_method_2_code
abbrev w_ZB_feed : Cond := .code y_ZB_feed c_ZB_feed 6 (some .int)
def y_ZB_putInt : MethodName := ⟨"ZlibBox", "putInt", "(II)V"⟩
abbrev c_ZB_putInt : ByteArray := prog_1_method_10_code
abbrev w_ZB_putInt : Cond := .code y_ZB_putInt c_ZB_putInt 3 none
def y_LW_end : MethodName := ⟨"ZlibBoxLaw", "end", "(LZlibBox;I[J)I"⟩
abbrev c_LW_end : ByteArray := method_4_code
abbrev w_LW_end : Cond := .codeWith y_LW_end c_LW_end 4 (some .int) [((0 : Nat), (9 : Nat), (12 : Nat), (19 : Nat))]
def y_ZB_end : MethodName := ⟨"ZlibBox", "end", "(I)I"⟩
abbrev c_ZB_end : ByteArray := prog_1_method_3_code
abbrev w_ZB_end : Cond := .code y_ZB_end c_ZB_end 2 (some .int)
def y_LW_unpack : MethodName := ⟨"ZlibBoxLaw", "unpack", "(LZlibBox;[J)I"⟩
abbrev c_LW_unpack : ByteArray := method_5_code
abbrev w_LW_unpack : Cond := .codeWith y_LW_unpack c_LW_unpack 3 (some .int) [((0 : Nat), (8 : Nat), (11 : Nat), (25 : Nat)), ((0 : Nat), (8 : Nat), (14 : Nat), (13 : Nat))]
def y_ZB_unpack : MethodName := ⟨"ZlibBox", "unpack", "()I"⟩
abbrev c_ZB_unpack : ByteArray := prog_1_method_5_code
abbrev w_ZB_unpack : Cond := .code y_ZB_unpack c_ZB_unpack 2 (some .int)
def y_UN_read : MethodName := ⟨"ZlibBox$Unpacker", "read", "([BI[B)I"⟩
abbrev c_UN_read : ByteArray := prog_5_method_2_code
abbrev w_UN_read : Cond := .code y_UN_read c_UN_read 4 (some .int)
def y_BR_open : MethodName := ⟨"ZlibBox$BitReader", "open", "([BI)V"⟩
abbrev c_BR_open : ByteArray := prog_2_method_2_code
abbrev w_BR_open : Cond := .code y_BR_open c_BR_open 3 none
def y_UN_readHead : MethodName := ⟨"ZlibBox$Unpacker", "readHead", "()V"⟩
abbrev c_UN_readHead : ByteArray := prog_5_method_4_code
abbrev w_UN_readHead : Cond := .code y_UN_readHead c_UN_readHead 5 none
def y_BR_number : MethodName := ⟨"ZlibBox$BitReader", "number", "(I)I"⟩
abbrev c_BR_number : ByteArray := prog_2_method_4_code
abbrev w_BR_number : Cond := .code y_BR_number c_BR_number 4 (some .int)
def y_UN_readBlocks : MethodName := ⟨"ZlibBox$Unpacker", "readBlocks", "()V"⟩
abbrev c_UN_readBlocks : ByteArray := prog_5_method_6_code
abbrev w_UN_readBlocks : Cond := .code y_UN_readBlocks c_UN_readBlocks 4 none
def y_BR_bit : MethodName := ⟨"ZlibBox$BitReader", "bit", "()I"⟩
abbrev c_BR_bit : ByteArray := prog_2_method_3_code
abbrev w_BR_bit : Cond := .code y_BR_bit c_BR_bit 2 (some .int)
def y_UN_readStored : MethodName := ⟨"ZlibBox$Unpacker", "readStored", "()V"⟩
abbrev c_UN_readStored : ByteArray := prog_5_method_7_code
abbrev w_UN_readStored : Cond := .code y_UN_readStored c_UN_readStored 3 none
def y_BR_skipToByte : MethodName := ⟨"ZlibBox$BitReader", "skipToByte", "()V"⟩
abbrev c_BR_skipToByte : ByteArray := prog_2_method_5_code
abbrev w_BR_skipToByte : Cond := .code y_BR_skipToByte c_BR_skipToByte 1 none
def y_UN_put : MethodName := ⟨"ZlibBox$Unpacker", "put", "(I)V"⟩
abbrev c_UN_put : ByteArray := prog_5_method_14_code
abbrev w_UN_put : Cond := .code y_UN_put c_UN_put 2 none
def y_UN_readCoded : MethodName := ⟨"ZlibBox$Unpacker", "readCoded", "(LZlibBox$Codes;LZlibBox$Codes;)V"⟩
abbrev c_UN_readCoded : ByteArray := prog_5_method_12_code
abbrev w_UN_readCoded : Cond := .code y_UN_readCoded c_UN_readCoded 5 none
def y_CO_read : MethodName := ⟨"ZlibBox$Codes", "read", "(LZlibBox$BitReader;)I"⟩
abbrev c_CO_read : ByteArray := prog_3_method_5_code
abbrev w_CO_read : Cond := .code y_CO_read c_CO_read 7 (some .int)
def y_UN_readCopy : MethodName := ⟨"ZlibBox$Unpacker", "readCopy", "(ILZlibBox$Codes;)V"⟩
abbrev c_UN_readCopy : ByteArray := prog_5_method_13_code
abbrev w_UN_readCopy : Cond := .code y_UN_readCopy c_UN_readCopy 7 none
def y_UN_readToldCodes : MethodName := ⟨"ZlibBox$Unpacker", "readToldCodes", "()V"⟩
abbrev c_UN_readToldCodes : ByteArray := prog_5_method_8_code
abbrev w_UN_readToldCodes : Cond := .code y_UN_readToldCodes c_UN_readToldCodes 4 none
def y_UN_readLengthCodes : MethodName := ⟨"ZlibBox$Unpacker", "readLengthCodes", "(I)V"⟩
abbrev c_UN_readLengthCodes : ByteArray := prog_5_method_9_code
abbrev w_UN_readLengthCodes : Cond := .code y_UN_readLengthCodes c_UN_readLengthCodes 3 none
def y_CO_useAllWords : MethodName := ⟨"ZlibBox$Codes", "useAllWords", "()Z"⟩
abbrev c_CO_useAllWords : ByteArray := prog_3_method_3_code
abbrev w_CO_useAllWords : Cond := .code y_CO_useAllWords c_CO_useAllWords 1 (some .boolean)
def y_UN_readLengths : MethodName := ⟨"ZlibBox$Unpacker", "readLengths", "(I)V"⟩
abbrev c_UN_readLengths : ByteArray := prog_5_method_10_code
abbrev w_UN_readLengths : Cond := .code y_UN_readLengths c_UN_readLengths 5 none
def y_UN_readRun : MethodName := ⟨"ZlibBox$Unpacker", "readRun", "(III)I"⟩
abbrev c_UN_readRun : ByteArray := prog_5_method_11_code
abbrev w_UN_readRun : Cond := .code y_UN_readRun c_UN_readRun 7 (some .int)
def y_CO_areOneOfOneBitOrNone : MethodName := ⟨"ZlibBox$Codes", "areOneOfOneBitOrNone", "()Z"⟩
abbrev c_CO_areOneOfOneBitOrNone : ByteArray := prog_3_method_4_code
abbrev w_CO_areOneOfOneBitOrNone : Cond := .code y_CO_areOneOfOneBitOrNone c_CO_areOneOfOneBitOrNone 1 (some .boolean)
def y_UN_readTail : MethodName := ⟨"ZlibBox$Unpacker", "readTail", "()V"⟩
abbrev c_UN_readTail : ByteArray := prog_5_method_5_code
abbrev w_UN_readTail : Cond := .code y_UN_readTail c_UN_readTail 3 none
def y_BR_atEnd : MethodName := ⟨"ZlibBox$BitReader", "atEnd", "()Z"⟩
abbrev c_BR_atEnd : ByteArray := prog_2_method_6_code
abbrev w_BR_atEnd : Cond := .code y_BR_atEnd c_BR_atEnd 1 (some .boolean)
def y_ZB_keepDraft : MethodName := ⟨"ZlibBox", "keepDraft", "(I)I"⟩
abbrev c_ZB_keepDraft : ByteArray := prog_1_method_11_code
abbrev w_ZB_keepDraft : Cond := .code y_ZB_keepDraft c_ZB_keepDraft 3 (some .int)
def y_LW_pack : MethodName := ⟨"ZlibBoxLaw", "pack", "(LZlibBox;[J)I"⟩
abbrev c_LW_pack : ByteArray := method_6_code
abbrev w_LW_pack : Cond := .codeWith y_LW_pack c_LW_pack 3 (some .int) [((0 : Nat), (8 : Nat), (11 : Nat), (13 : Nat))]
def y_ZB_pack : MethodName := ⟨"ZlibBox", "pack", "()I"⟩
abbrev c_ZB_pack : ByteArray := prog_1_method_6_code
abbrev w_ZB_pack : Cond := .code y_ZB_pack c_ZB_pack 1 (some .int)
def y_PA_write : MethodName := ⟨"ZlibBox$Packer", "write", "([BI[B)I"⟩
abbrev c_PA_write : ByteArray := prog_4_method_2_code
abbrev w_PA_write : Cond := .code y_PA_write c_PA_write 4 (some .int)
def y_PA_open : MethodName := ⟨"ZlibBox$Packer", "open", "([BI[B)V"⟩
abbrev c_PA_open : ByteArray := prog_4_method_3_code
abbrev w_PA_open : Cond := .code y_PA_open c_PA_open 4 none
def y_PA_putByte : MethodName := ⟨"ZlibBox$Packer", "putByte", "(I)V"⟩
abbrev c_PA_putByte : ByteArray := prog_4_method_16_code
abbrev w_PA_putByte : Cond := .code y_PA_putByte c_PA_putByte 2 none
def y_PA_putNumber : MethodName := ⟨"ZlibBox$Packer", "putNumber", "(II)V"⟩
abbrev c_PA_putNumber : ByteArray := prog_4_method_13_code
abbrev w_PA_putNumber : Cond := .code y_PA_putNumber c_PA_putNumber 3 none
def y_PA_writeTape : MethodName := ⟨"ZlibBox$Packer", "writeTape", "()V"⟩
abbrev c_PA_writeTape : ByteArray := prog_4_method_4_code
abbrev w_PA_writeTape : Cond := .code y_PA_writeTape c_PA_writeTape 4 none
def y_PA_findCopy : MethodName := ⟨"ZlibBox$Packer", "findCopy", "(I)V"⟩
abbrev c_PA_findCopy : ByteArray := prog_4_method_5_code
abbrev w_PA_findCopy : Cond := .code y_PA_findCopy c_PA_findCopy 8 none
def y_PA_chainOf : MethodName := ⟨"ZlibBox$Packer", "chainOf", "(I)I"⟩
abbrev c_PA_chainOf : ByteArray := prog_4_method_8_code
abbrev w_PA_chainOf : Cond := .code y_PA_chainOf c_PA_chainOf 5 (some .int)
def y_PA_agreement : MethodName := ⟨"ZlibBox$Packer", "agreement", "(III)I"⟩
abbrev c_PA_agreement : ByteArray := prog_4_method_6_code
abbrev w_PA_agreement : Cond := .code y_PA_agreement c_PA_agreement 5 (some .int)
def y_PA_putLiteral : MethodName := ⟨"ZlibBox$Packer", "putLiteral", "(I)V"⟩
abbrev c_PA_putLiteral : ByteArray := prog_4_method_11_code
abbrev w_PA_putLiteral : Cond := .code y_PA_putLiteral c_PA_putLiteral 2 none
def y_PA_turned : MethodName := ⟨"ZlibBox$Packer", "turned", "(II)I"⟩
abbrev c_PA_turned : ByteArray := prog_4_method_12_code
abbrev w_PA_turned : Cond := .code y_PA_turned c_PA_turned 4 (some .int)
def y_PA_putCopy : MethodName := ⟨"ZlibBox$Packer", "putCopy", "()V"⟩
abbrev c_PA_putCopy : ByteArray := prog_4_method_9_code
abbrev w_PA_putCopy : Cond := .code y_PA_putCopy c_PA_putCopy 3 none
def y_PA_lastNotAbove : MethodName := ⟨"ZlibBox$Packer", "lastNotAbove", "([II)I"⟩
abbrev c_PA_lastNotAbove : ByteArray := prog_4_method_10_code
abbrev w_PA_lastNotAbove : Cond := .code y_PA_lastNotAbove c_PA_lastNotAbove 4 (some .int)
def y_PA_remember : MethodName := ⟨"ZlibBox$Packer", "remember", "(I)V"⟩
abbrev c_PA_remember : ByteArray := prog_4_method_7_code
abbrev w_PA_remember : Cond := .code y_PA_remember c_PA_remember 3 none
def y_PA_putLastBits : MethodName := ⟨"ZlibBox$Packer", "putLastBits", "()V"⟩
abbrev c_PA_putLastBits : ByteArray := prog_4_method_14_code
abbrev w_PA_putLastBits : Cond := .code y_PA_putLastBits c_PA_putLastBits 1 none
def y_PA_putAdler : MethodName := ⟨"ZlibBox$Packer", "putAdler", "(I)V"⟩
abbrev c_PA_putAdler : ByteArray := prog_4_method_15_code
abbrev w_PA_putAdler : Cond := .code y_PA_putAdler c_PA_putAdler 3 none
def y_LW_word : MethodName := ⟨"ZlibBoxLaw", "word", "(LZlibBox;I[J)I"⟩
abbrev c_LW_word : ByteArray := method_7_code
abbrev w_LW_word : Cond := .codeWith y_LW_word c_LW_word 4 (some .int) [((0 : Nat), (8 : Nat), (11 : Nat), (13 : Nat))]
def y_ZB_word : MethodName := ⟨"ZlibBox", "word", "(I)J"⟩
abbrev c_ZB_word : ByteArray := prog_1_method_8_code
abbrev w_ZB_word : Cond := .code y_ZB_word c_ZB_word 6 (some .long)
def y_LW_count : MethodName := ⟨"ZlibBoxLaw", "count", "(LZlibBox;I[J)I"⟩
abbrev c_LW_count : ByteArray := method_8_code
abbrev w_LW_count : Cond := .codeWith y_LW_count c_LW_count 4 (some .int) [((0 : Nat), (9 : Nat), (12 : Nat), (19 : Nat))]
def y_ZB_count : MethodName := ⟨"ZlibBox", "count", "(I)I"⟩
abbrev c_ZB_count : ByteArray := prog_1_method_9_code
abbrev w_ZB_count : Cond := .code y_ZB_count c_ZB_count 2 (some .int)
def y_MO_init : MethodName := ⟨"ZlibBoxModel", "<init>", "()V"⟩
abbrev c_MO_init : ByteArray := prog_7_method_1_code
abbrev w_MO_init : Cond := .code y_MO_init c_MO_init 1 none
def y_MC_init : MethodName := ⟨"ZlibBoxModel$Codes", "<init>", "()V"⟩
abbrev c_MC_init : ByteArray := prog_8_method_1_code
abbrev w_MC_init : Cond := .code y_MC_init c_MC_init 1 none
def y_MO_thrown : MethodName := ⟨"ZlibBoxModel", "thrown", "()I"⟩
abbrev c_MO_thrown : ByteArray := prog_7_method_2_code
abbrev w_MO_thrown : Cond := .code y_MO_thrown c_MO_thrown 1 (some .int)
def y_MO_unpack : MethodName := ⟨"ZlibBoxModel", "unpack", "()I"⟩
abbrev c_MO_unpack : ByteArray := prog_7_method_24_code
abbrev w_MO_unpack : Cond := .codeWith y_MO_unpack c_MO_unpack 2 (some .int) [((46 : Nat), (50 : Nat), (53 : Nat), (53 : Nat)), ((46 : Nat), (50 : Nat), (60 : Nat), (93 : Nat))]
def y_MO_inflate : MethodName := ⟨"ZlibBoxModel", "inflate", "()V"⟩
abbrev c_MO_inflate : ByteArray := prog_7_method_13_code
abbrev w_MO_inflate : Cond := .code y_MO_inflate c_MO_inflate 7 none
def y_MO_can : MethodName := ⟨"ZlibBoxModel", "can", "(Z)V"⟩
abbrev c_MO_can : ByteArray := prog_7_method_4_code
abbrev w_MO_can : Cond := .code y_MO_can c_MO_can 2 none
def y_MO_bits : MethodName := ⟨"ZlibBoxModel", "bits", "(I)I"⟩
abbrev c_MO_bits : ByteArray := prog_7_method_5_code
abbrev w_MO_bits : Cond := .code y_MO_bits c_MO_bits 4 (some .int)
def y_MO_give : MethodName := ⟨"ZlibBoxModel", "give", "(I)V"⟩
abbrev c_MO_give : ByteArray := prog_7_method_9_code
abbrev w_MO_give : Cond := .code y_MO_give c_MO_give 2 none
def y_MO_fixedCodes : MethodName := ⟨"ZlibBoxModel", "fixedCodes", "()V"⟩
abbrev c_MO_fixedCodes : ByteArray := prog_7_method_7_code
abbrev w_MO_fixedCodes : Cond := .code y_MO_fixedCodes c_MO_fixedCodes 3 none
def y_MC_make : MethodName := ⟨"ZlibBoxModel$Codes", "make", "([III)I"⟩
abbrev c_MC_make : ByteArray := prog_8_method_2_code
abbrev w_MC_make : Cond := .code y_MC_make c_MC_make 6 (some .int)
def y_MO_toldCodes : MethodName := ⟨"ZlibBoxModel", "toldCodes", "()V"⟩
abbrev c_MO_toldCodes : ByteArray := prog_7_method_8_code
abbrev w_MO_toldCodes : Cond := .code y_MO_toldCodes c_MO_toldCodes 9 none
def y_MO_meaning : MethodName := ⟨"ZlibBoxModel", "meaning", "(LZlibBoxModel$Codes;)I"⟩
abbrev c_MO_meaning : ByteArray := prog_7_method_6_code
abbrev w_MO_meaning : Cond := .code y_MO_meaning c_MO_meaning 6 (some .int)
def y_MO_block : MethodName := ⟨"ZlibBoxModel", "block", "()V"⟩
abbrev c_MO_block : ByteArray := prog_7_method_10_code
abbrev w_MO_block : Cond := .code y_MO_block c_MO_block 6 none
def y_MO_lengthBits : MethodName := ⟨"ZlibBoxModel", "lengthBits", "(I)I"⟩
abbrev c_MO_lengthBits : ByteArray := prog_7_method_11_code
abbrev w_MO_lengthBits : Cond := .code y_MO_lengthBits c_MO_lengthBits 1 (some .int)
def y_MO_distanceBits : MethodName := ⟨"ZlibBoxModel", "distanceBits", "(I)I"⟩
abbrev c_MO_distanceBits : ByteArray := prog_7_method_12_code
abbrev w_MO_distanceBits : Cond := .code y_MO_distanceBits c_MO_distanceBits 1 (some .int)
def y_MO_adler : MethodName := ⟨"ZlibBoxModel", "adler", "([BI)J"⟩
abbrev c_MO_adler : ByteArray := prog_7_method_14_code
abbrev w_MO_adler : Cond := .code y_MO_adler c_MO_adler 5 (some .long)
def y_MO_fail : MethodName := ⟨"ZlibBoxModel", "fail", "(I)I"⟩
abbrev c_MO_fail : ByteArray := prog_7_method_3_code
abbrev w_MO_fail : Cond := .code y_MO_fail c_MO_fail 2 (some .int)
def y_MO_pack : MethodName := ⟨"ZlibBoxModel", "pack", "()I"⟩
abbrev c_MO_pack : ByteArray := prog_7_method_25_code
abbrev w_MO_pack : Cond := .code y_MO_pack c_MO_pack 2 (some .int)
def y_MO_put : MethodName := ⟨"ZlibBoxModel", "put", "(I)V"⟩
abbrev c_MO_put : ByteArray := prog_7_method_15_code
abbrev w_MO_put : Cond := .code y_MO_put c_MO_put 2 none
def y_MO_deflate : MethodName := ⟨"ZlibBoxModel", "deflate", "()V"⟩
abbrev c_MO_deflate : ByteArray := prog_7_method_23_code
abbrev w_MO_deflate : Cond := .code y_MO_deflate c_MO_deflate 8 none
def y_MO_putBits : MethodName := ⟨"ZlibBoxModel", "putBits", "(II)V"⟩
abbrev c_MO_putBits : ByteArray := prog_7_method_17_code
abbrev w_MO_putBits : Cond := .code y_MO_putBits c_MO_putBits 4 none
def y_MO_flush : MethodName := ⟨"ZlibBoxModel", "flush", "()V"⟩
abbrev c_MO_flush : ByteArray := prog_7_method_18_code
abbrev w_MO_flush : Cond := .code y_MO_flush c_MO_flush 1 none
def y_MO_mark : MethodName := ⟨"ZlibBoxModel", "mark", "(I)I"⟩
abbrev c_MO_mark : ByteArray := prog_7_method_22_code
abbrev w_MO_mark : Cond := .code y_MO_mark c_MO_mark 2 (some .int)
def y_MO_putCopy : MethodName := ⟨"ZlibBoxModel", "putCopy", "(II)V"⟩
abbrev c_MO_putCopy : ByteArray := prog_7_method_21_code
abbrev w_MO_putCopy : Cond := .code y_MO_putCopy c_MO_putCopy 7 none
def y_MO_putLiteral : MethodName := ⟨"ZlibBoxModel", "putLiteral", "(I)V"⟩
abbrev c_MO_putLiteral : ByteArray := prog_7_method_20_code
abbrev w_MO_putLiteral : Cond := .code y_MO_putLiteral c_MO_putLiteral 2 none
def y_MO_putCode : MethodName := ⟨"ZlibBoxModel", "putCode", "(II)V"⟩
abbrev c_MO_putCode : ByteArray := prog_7_method_19_code
abbrev w_MO_putCode : Cond := .code y_MO_putCode c_MO_putCode 4 none
def y_MO_putBig : MethodName := ⟨"ZlibBoxModel", "putBig", "(J)V"⟩
abbrev c_MO_putBig : ByteArray := prog_7_method_16_code
abbrev w_MO_putBig : Cond := .code y_MO_putBig c_MO_putBig 4 none
def y_MO_adler2 : MethodName := ⟨"ZlibBoxModel", "adler", "()I"⟩
abbrev c_MO_adler2 : ByteArray := prog_7_method_26_code
abbrev w_MO_adler2 : Cond := .code y_MO_adler2 c_MO_adler2 1 (some .int)
def y_MO_feed : MethodName := ⟨"ZlibBoxModel", "feed", "(IIIII)I"⟩
abbrev c_MO_feed : ByteArray := prog_7_method_27_code
abbrev w_MO_feed : Cond := .code y_MO_feed c_MO_feed 8 (some .int)
def y_MO_end : MethodName := ⟨"ZlibBoxModel", "end", "(I)I"⟩
abbrev c_MO_end : ByteArray := prog_7_method_28_code
abbrev w_MO_end : Cond := .code y_MO_end c_MO_end 2 (some .int)
def y_MO_again : MethodName := ⟨"ZlibBoxModel", "again", "()I"⟩
abbrev c_MO_again : ByteArray := prog_7_method_29_code
abbrev w_MO_again : Cond := .code y_MO_again c_MO_again 2 (some .int)
def y_MO_word : MethodName := ⟨"ZlibBoxModel", "word", "(I)J"⟩
abbrev c_MO_word : ByteArray := prog_7_method_30_code
abbrev w_MO_word : Cond := .code y_MO_word c_MO_word 5 (some .long)
def y_MO_count : MethodName := ⟨"ZlibBoxModel", "count", "(I)I"⟩
abbrev c_MO_count : ByteArray := prog_7_method_31_code
abbrev w_MO_count : Cond := .code y_MO_count c_MO_count 2 (some .int)
