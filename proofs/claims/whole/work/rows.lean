section
-- ===== PART A: goes FIRST, ahead of the names: the tables' words, and 'selects' of the private methods out of them =====
/-- a private method of a class that the tables say can be made, by its rows of tables_1 -/
def lw_okq (q : MethodName × Nat) : Prop := (q.1.cls ≠ "java/lang/invoke/MethodHandle" ∧ q.1.cls ≠ "java/lang/invoke/VarHandle") ∧ Cond.instantiable q.1.cls q.2 ∈ tables_1 ∧ Cond.privateMethod q.1 ∈ tables_1 ∧ Cond.instanceMethod q.1 ∈ tables_1
theorem lw_p0 : lw_okq (⟨"ZlibBox$Unpacker", "makeFixedCodes", "()V"⟩, 9) := ⟨⟨by decide +kernel, by decide +kernel⟩, List.mem_of_getElem? (i := 26) (by decide +kernel), List.mem_of_getElem? (i := 69) (by decide +kernel), List.mem_of_getElem? (i := 70) (by decide +kernel)⟩
theorem lw_p1 : lw_okq (⟨"java/lang/Throwable", "fillInStackTrace", "(I)Ljava/lang/Throwable;"⟩, 6) := ⟨⟨by decide +kernel, by decide +kernel⟩, List.mem_of_getElem? (i := 230) (by decide +kernel), List.mem_of_getElem? (i := 228) (by decide +kernel), List.mem_of_getElem? (i := 229) (by decide +kernel)⟩
theorem lw_p2 : lw_okq (⟨"ZlibBox", "putInt", "(II)V"⟩, 7) := ⟨⟨by decide +kernel, by decide +kernel⟩, List.mem_of_getElem? (i := 18) (by decide +kernel), List.mem_of_getElem? (i := 259) (by decide +kernel), List.mem_of_getElem? (i := 260) (by decide +kernel)⟩
theorem lw_p3 : lw_okq (⟨"ZlibBox$Unpacker", "readHead", "()V"⟩, 9) := ⟨⟨by decide +kernel, by decide +kernel⟩, List.mem_of_getElem? (i := 26) (by decide +kernel), List.mem_of_getElem? (i := 303) (by decide +kernel), List.mem_of_getElem? (i := 304) (by decide +kernel)⟩
theorem lw_p4 : lw_okq (⟨"ZlibBox$Unpacker", "readBlocks", "()V"⟩, 9) := ⟨⟨by decide +kernel, by decide +kernel⟩, List.mem_of_getElem? (i := 26) (by decide +kernel), List.mem_of_getElem? (i := 330) (by decide +kernel), List.mem_of_getElem? (i := 331) (by decide +kernel)⟩
theorem lw_p5 : lw_okq (⟨"ZlibBox$Unpacker", "readStored", "()V"⟩, 9) := ⟨⟨by decide +kernel, by decide +kernel⟩, List.mem_of_getElem? (i := 26) (by decide +kernel), List.mem_of_getElem? (i := 339) (by decide +kernel), List.mem_of_getElem? (i := 340) (by decide +kernel)⟩
theorem lw_p6 : lw_okq (⟨"ZlibBox$Unpacker", "put", "(I)V"⟩, 9) := ⟨⟨by decide +kernel, by decide +kernel⟩, List.mem_of_getElem? (i := 26) (by decide +kernel), List.mem_of_getElem? (i := 349) (by decide +kernel), List.mem_of_getElem? (i := 350) (by decide +kernel)⟩
theorem lw_p7 : lw_okq (⟨"ZlibBox$Unpacker", "readCoded", "(LZlibBox$Codes;LZlibBox$Codes;)V"⟩, 9) := ⟨⟨by decide +kernel, by decide +kernel⟩, List.mem_of_getElem? (i := 26) (by decide +kernel), List.mem_of_getElem? (i := 356) (by decide +kernel), List.mem_of_getElem? (i := 357) (by decide +kernel)⟩
theorem lw_p8 : lw_okq (⟨"ZlibBox$Unpacker", "readCopy", "(ILZlibBox$Codes;)V"⟩, 9) := ⟨⟨by decide +kernel, by decide +kernel⟩, List.mem_of_getElem? (i := 26) (by decide +kernel), List.mem_of_getElem? (i := 368) (by decide +kernel), List.mem_of_getElem? (i := 369) (by decide +kernel)⟩
theorem lw_p9 : lw_okq (⟨"ZlibBox$Unpacker", "readToldCodes", "()V"⟩, 9) := ⟨⟨by decide +kernel, by decide +kernel⟩, List.mem_of_getElem? (i := 26) (by decide +kernel), List.mem_of_getElem? (i := 383) (by decide +kernel), List.mem_of_getElem? (i := 384) (by decide +kernel)⟩
theorem lw_p10 : lw_okq (⟨"ZlibBox$Unpacker", "readLengthCodes", "(I)V"⟩, 9) := ⟨⟨by decide +kernel, by decide +kernel⟩, List.mem_of_getElem? (i := 26) (by decide +kernel), List.mem_of_getElem? (i := 388) (by decide +kernel), List.mem_of_getElem? (i := 389) (by decide +kernel)⟩
theorem lw_p11 : lw_okq (⟨"ZlibBox$Unpacker", "readLengths", "(I)V"⟩, 9) := ⟨⟨by decide +kernel, by decide +kernel⟩, List.mem_of_getElem? (i := 26) (by decide +kernel), List.mem_of_getElem? (i := 399) (by decide +kernel), List.mem_of_getElem? (i := 400) (by decide +kernel)⟩
theorem lw_p12 : lw_okq (⟨"ZlibBox$Unpacker", "readRun", "(III)I"⟩, 9) := ⟨⟨by decide +kernel, by decide +kernel⟩, List.mem_of_getElem? (i := 26) (by decide +kernel), List.mem_of_getElem? (i := 403) (by decide +kernel), List.mem_of_getElem? (i := 404) (by decide +kernel)⟩
theorem lw_p13 : lw_okq (⟨"ZlibBox$Unpacker", "readTail", "()V"⟩, 9) := ⟨⟨by decide +kernel, by decide +kernel⟩, List.mem_of_getElem? (i := 26) (by decide +kernel), List.mem_of_getElem? (i := 416) (by decide +kernel), List.mem_of_getElem? (i := 417) (by decide +kernel)⟩
theorem lw_p14 : lw_okq (⟨"ZlibBox", "keepDraft", "(I)I"⟩, 7) := ⟨⟨by decide +kernel, by decide +kernel⟩, List.mem_of_getElem? (i := 18) (by decide +kernel), List.mem_of_getElem? (i := 426) (by decide +kernel), List.mem_of_getElem? (i := 427) (by decide +kernel)⟩
theorem lw_p15 : lw_okq (⟨"ZlibBox$Packer", "open", "([BI[B)V"⟩, 10) := ⟨⟨by decide +kernel, by decide +kernel⟩, List.mem_of_getElem? (i := 110) (by decide +kernel), List.mem_of_getElem? (i := 441) (by decide +kernel), List.mem_of_getElem? (i := 442) (by decide +kernel)⟩
def lw_privs_1 : List (MethodName × Nat) := [(⟨"ZlibBox$Unpacker", "makeFixedCodes", "()V"⟩, 9), (⟨"java/lang/Throwable", "fillInStackTrace", "(I)Ljava/lang/Throwable;"⟩, 6), (⟨"ZlibBox", "putInt", "(II)V"⟩, 7), (⟨"ZlibBox$Unpacker", "readHead", "()V"⟩, 9), (⟨"ZlibBox$Unpacker", "readBlocks", "()V"⟩, 9), (⟨"ZlibBox$Unpacker", "readStored", "()V"⟩, 9), (⟨"ZlibBox$Unpacker", "put", "(I)V"⟩, 9), (⟨"ZlibBox$Unpacker", "readCoded", "(LZlibBox$Codes;LZlibBox$Codes;)V"⟩, 9), (⟨"ZlibBox$Unpacker", "readCopy", "(ILZlibBox$Codes;)V"⟩, 9), (⟨"ZlibBox$Unpacker", "readToldCodes", "()V"⟩, 9), (⟨"ZlibBox$Unpacker", "readLengthCodes", "(I)V"⟩, 9), (⟨"ZlibBox$Unpacker", "readLengths", "(I)V"⟩, 9), (⟨"ZlibBox$Unpacker", "readRun", "(III)I"⟩, 9), (⟨"ZlibBox$Unpacker", "readTail", "()V"⟩, 9), (⟨"ZlibBox", "keepDraft", "(I)I"⟩, 7), (⟨"ZlibBox$Packer", "open", "([BI[B)V"⟩, 10)]
theorem lw_r1 : ∀ q ∈ lw_privs_1, lw_okq q := List.forall_mem_cons.mpr ⟨lw_p0, List.forall_mem_cons.mpr ⟨lw_p1, List.forall_mem_cons.mpr ⟨lw_p2, List.forall_mem_cons.mpr ⟨lw_p3, List.forall_mem_cons.mpr ⟨lw_p4, List.forall_mem_cons.mpr ⟨lw_p5, List.forall_mem_cons.mpr ⟨lw_p6, List.forall_mem_cons.mpr ⟨lw_p7, List.forall_mem_cons.mpr ⟨lw_p8, List.forall_mem_cons.mpr ⟨lw_p9, List.forall_mem_cons.mpr ⟨lw_p10, List.forall_mem_cons.mpr ⟨lw_p11, List.forall_mem_cons.mpr ⟨lw_p12, List.forall_mem_cons.mpr ⟨lw_p13, List.forall_mem_cons.mpr ⟨lw_p14, List.forall_mem_cons.mpr ⟨lw_p15, fun _ h => absurd h List.not_mem_nil⟩⟩⟩⟩⟩⟩⟩⟩⟩⟩⟩⟩⟩⟩⟩⟩
theorem lw_p16 : lw_okq (⟨"ZlibBox$Packer", "putByte", "(I)V"⟩, 10) := ⟨⟨by decide +kernel, by decide +kernel⟩, List.mem_of_getElem? (i := 110) (by decide +kernel), List.mem_of_getElem? (i := 446) (by decide +kernel), List.mem_of_getElem? (i := 447) (by decide +kernel)⟩
theorem lw_p17 : lw_okq (⟨"ZlibBox$Packer", "putNumber", "(II)V"⟩, 10) := ⟨⟨by decide +kernel, by decide +kernel⟩, List.mem_of_getElem? (i := 110) (by decide +kernel), List.mem_of_getElem? (i := 453) (by decide +kernel), List.mem_of_getElem? (i := 454) (by decide +kernel)⟩
theorem lw_p18 : lw_okq (⟨"ZlibBox$Packer", "writeTape", "()V"⟩, 10) := ⟨⟨by decide +kernel, by decide +kernel⟩, List.mem_of_getElem? (i := 110) (by decide +kernel), List.mem_of_getElem? (i := 457) (by decide +kernel), List.mem_of_getElem? (i := 458) (by decide +kernel)⟩
theorem lw_p19 : lw_okq (⟨"ZlibBox$Packer", "findCopy", "(I)V"⟩, 10) := ⟨⟨by decide +kernel, by decide +kernel⟩, List.mem_of_getElem? (i := 110) (by decide +kernel), List.mem_of_getElem? (i := 461) (by decide +kernel), List.mem_of_getElem? (i := 462) (by decide +kernel)⟩
theorem lw_p20 : lw_okq (⟨"ZlibBox$Packer", "chainOf", "(I)I"⟩, 10) := ⟨⟨by decide +kernel, by decide +kernel⟩, List.mem_of_getElem? (i := 110) (by decide +kernel), List.mem_of_getElem? (i := 471) (by decide +kernel), List.mem_of_getElem? (i := 472) (by decide +kernel)⟩
theorem lw_p21 : lw_okq (⟨"ZlibBox$Packer", "agreement", "(III)I"⟩, 10) := ⟨⟨by decide +kernel, by decide +kernel⟩, List.mem_of_getElem? (i := 110) (by decide +kernel), List.mem_of_getElem? (i := 475) (by decide +kernel), List.mem_of_getElem? (i := 476) (by decide +kernel)⟩
theorem lw_p22 : lw_okq (⟨"ZlibBox$Packer", "putLiteral", "(I)V"⟩, 10) := ⟨⟨by decide +kernel, by decide +kernel⟩, List.mem_of_getElem? (i := 110) (by decide +kernel), List.mem_of_getElem? (i := 479) (by decide +kernel), List.mem_of_getElem? (i := 480) (by decide +kernel)⟩
theorem lw_p23 : lw_okq (⟨"ZlibBox$Packer", "putCopy", "()V"⟩, 10) := ⟨⟨by decide +kernel, by decide +kernel⟩, List.mem_of_getElem? (i := 110) (by decide +kernel), List.mem_of_getElem? (i := 486) (by decide +kernel), List.mem_of_getElem? (i := 487) (by decide +kernel)⟩
theorem lw_p24 : lw_okq (⟨"ZlibBox$Packer", "remember", "(I)V"⟩, 10) := ⟨⟨by decide +kernel, by decide +kernel⟩, List.mem_of_getElem? (i := 110) (by decide +kernel), List.mem_of_getElem? (i := 497) (by decide +kernel), List.mem_of_getElem? (i := 498) (by decide +kernel)⟩
theorem lw_p25 : lw_okq (⟨"ZlibBox$Packer", "putLastBits", "()V"⟩, 10) := ⟨⟨by decide +kernel, by decide +kernel⟩, List.mem_of_getElem? (i := 110) (by decide +kernel), List.mem_of_getElem? (i := 501) (by decide +kernel), List.mem_of_getElem? (i := 502) (by decide +kernel)⟩
theorem lw_p26 : lw_okq (⟨"ZlibBox$Packer", "putAdler", "(I)V"⟩, 10) := ⟨⟨by decide +kernel, by decide +kernel⟩, List.mem_of_getElem? (i := 110) (by decide +kernel), List.mem_of_getElem? (i := 506) (by decide +kernel), List.mem_of_getElem? (i := 507) (by decide +kernel)⟩
theorem lw_p27 : lw_okq (⟨"ZlibBoxModel", "inflate", "()V"⟩, 20) := ⟨⟨by decide +kernel, by decide +kernel⟩, List.mem_of_getElem? (i := 526) (by decide +kernel), List.mem_of_getElem? (i := 623) (by decide +kernel), List.mem_of_getElem? (i := 624) (by decide +kernel)⟩
theorem lw_p28 : lw_okq (⟨"ZlibBoxModel", "can", "(Z)V"⟩, 20) := ⟨⟨by decide +kernel, by decide +kernel⟩, List.mem_of_getElem? (i := 526) (by decide +kernel), List.mem_of_getElem? (i := 627) (by decide +kernel), List.mem_of_getElem? (i := 628) (by decide +kernel)⟩
theorem lw_p29 : lw_okq (⟨"ZlibBoxModel", "bits", "(I)I"⟩, 20) := ⟨⟨by decide +kernel, by decide +kernel⟩, List.mem_of_getElem? (i := 526) (by decide +kernel), List.mem_of_getElem? (i := 641) (by decide +kernel), List.mem_of_getElem? (i := 642) (by decide +kernel)⟩
theorem lw_p30 : lw_okq (⟨"ZlibBoxModel", "give", "(I)V"⟩, 20) := ⟨⟨by decide +kernel, by decide +kernel⟩, List.mem_of_getElem? (i := 526) (by decide +kernel), List.mem_of_getElem? (i := 646) (by decide +kernel), List.mem_of_getElem? (i := 647) (by decide +kernel)⟩
theorem lw_p31 : lw_okq (⟨"ZlibBoxModel", "fixedCodes", "()V"⟩, 20) := ⟨⟨by decide +kernel, by decide +kernel⟩, List.mem_of_getElem? (i := 526) (by decide +kernel), List.mem_of_getElem? (i := 654) (by decide +kernel), List.mem_of_getElem? (i := 655) (by decide +kernel)⟩
def lw_privs_2 : List (MethodName × Nat) := [(⟨"ZlibBox$Packer", "putByte", "(I)V"⟩, 10), (⟨"ZlibBox$Packer", "putNumber", "(II)V"⟩, 10), (⟨"ZlibBox$Packer", "writeTape", "()V"⟩, 10), (⟨"ZlibBox$Packer", "findCopy", "(I)V"⟩, 10), (⟨"ZlibBox$Packer", "chainOf", "(I)I"⟩, 10), (⟨"ZlibBox$Packer", "agreement", "(III)I"⟩, 10), (⟨"ZlibBox$Packer", "putLiteral", "(I)V"⟩, 10), (⟨"ZlibBox$Packer", "putCopy", "()V"⟩, 10), (⟨"ZlibBox$Packer", "remember", "(I)V"⟩, 10), (⟨"ZlibBox$Packer", "putLastBits", "()V"⟩, 10), (⟨"ZlibBox$Packer", "putAdler", "(I)V"⟩, 10), (⟨"ZlibBoxModel", "inflate", "()V"⟩, 20), (⟨"ZlibBoxModel", "can", "(Z)V"⟩, 20), (⟨"ZlibBoxModel", "bits", "(I)I"⟩, 20), (⟨"ZlibBoxModel", "give", "(I)V"⟩, 20), (⟨"ZlibBoxModel", "fixedCodes", "()V"⟩, 20)]
theorem lw_r2 : ∀ q ∈ lw_privs_2, lw_okq q := List.forall_mem_cons.mpr ⟨lw_p16, List.forall_mem_cons.mpr ⟨lw_p17, List.forall_mem_cons.mpr ⟨lw_p18, List.forall_mem_cons.mpr ⟨lw_p19, List.forall_mem_cons.mpr ⟨lw_p20, List.forall_mem_cons.mpr ⟨lw_p21, List.forall_mem_cons.mpr ⟨lw_p22, List.forall_mem_cons.mpr ⟨lw_p23, List.forall_mem_cons.mpr ⟨lw_p24, List.forall_mem_cons.mpr ⟨lw_p25, List.forall_mem_cons.mpr ⟨lw_p26, List.forall_mem_cons.mpr ⟨lw_p27, List.forall_mem_cons.mpr ⟨lw_p28, List.forall_mem_cons.mpr ⟨lw_p29, List.forall_mem_cons.mpr ⟨lw_p30, List.forall_mem_cons.mpr ⟨lw_p31, fun _ h => absurd h List.not_mem_nil⟩⟩⟩⟩⟩⟩⟩⟩⟩⟩⟩⟩⟩⟩⟩⟩
theorem lw_p32 : lw_okq (⟨"ZlibBoxModel", "toldCodes", "()V"⟩, 20) := ⟨⟨by decide +kernel, by decide +kernel⟩, List.mem_of_getElem? (i := 526) (by decide +kernel), List.mem_of_getElem? (i := 663) (by decide +kernel), List.mem_of_getElem? (i := 664) (by decide +kernel)⟩
theorem lw_p33 : lw_okq (⟨"ZlibBoxModel", "meaning", "(LZlibBoxModel$Codes;)I"⟩, 20) := ⟨⟨by decide +kernel, by decide +kernel⟩, List.mem_of_getElem? (i := 526) (by decide +kernel), List.mem_of_getElem? (i := 669) (by decide +kernel), List.mem_of_getElem? (i := 670) (by decide +kernel)⟩
theorem lw_p34 : lw_okq (⟨"ZlibBoxModel", "block", "()V"⟩, 20) := ⟨⟨by decide +kernel, by decide +kernel⟩, List.mem_of_getElem? (i := 526) (by decide +kernel), List.mem_of_getElem? (i := 673) (by decide +kernel), List.mem_of_getElem? (i := 674) (by decide +kernel)⟩
theorem lw_p35 : lw_okq (⟨"ZlibBoxModel", "fail", "(I)I"⟩, 20) := ⟨⟨by decide +kernel, by decide +kernel⟩, List.mem_of_getElem? (i := 526) (by decide +kernel), List.mem_of_getElem? (i := 690) (by decide +kernel), List.mem_of_getElem? (i := 691) (by decide +kernel)⟩
theorem lw_p36 : lw_okq (⟨"ZlibBoxModel", "put", "(I)V"⟩, 20) := ⟨⟨by decide +kernel, by decide +kernel⟩, List.mem_of_getElem? (i := 526) (by decide +kernel), List.mem_of_getElem? (i := 698) (by decide +kernel), List.mem_of_getElem? (i := 699) (by decide +kernel)⟩
theorem lw_p37 : lw_okq (⟨"ZlibBoxModel", "deflate", "()V"⟩, 20) := ⟨⟨by decide +kernel, by decide +kernel⟩, List.mem_of_getElem? (i := 526) (by decide +kernel), List.mem_of_getElem? (i := 702) (by decide +kernel), List.mem_of_getElem? (i := 703) (by decide +kernel)⟩
theorem lw_p38 : lw_okq (⟨"ZlibBoxModel", "putBits", "(II)V"⟩, 20) := ⟨⟨by decide +kernel, by decide +kernel⟩, List.mem_of_getElem? (i := 526) (by decide +kernel), List.mem_of_getElem? (i := 706) (by decide +kernel), List.mem_of_getElem? (i := 707) (by decide +kernel)⟩
theorem lw_p39 : lw_okq (⟨"ZlibBoxModel", "flush", "()V"⟩, 20) := ⟨⟨by decide +kernel, by decide +kernel⟩, List.mem_of_getElem? (i := 526) (by decide +kernel), List.mem_of_getElem? (i := 710) (by decide +kernel), List.mem_of_getElem? (i := 711) (by decide +kernel)⟩
theorem lw_p40 : lw_okq (⟨"ZlibBoxModel", "mark", "(I)I"⟩, 20) := ⟨⟨by decide +kernel, by decide +kernel⟩, List.mem_of_getElem? (i := 526) (by decide +kernel), List.mem_of_getElem? (i := 714) (by decide +kernel), List.mem_of_getElem? (i := 715) (by decide +kernel)⟩
theorem lw_p41 : lw_okq (⟨"ZlibBoxModel", "putCopy", "(II)V"⟩, 20) := ⟨⟨by decide +kernel, by decide +kernel⟩, List.mem_of_getElem? (i := 526) (by decide +kernel), List.mem_of_getElem? (i := 721) (by decide +kernel), List.mem_of_getElem? (i := 722) (by decide +kernel)⟩
theorem lw_p42 : lw_okq (⟨"ZlibBoxModel", "putLiteral", "(I)V"⟩, 20) := ⟨⟨by decide +kernel, by decide +kernel⟩, List.mem_of_getElem? (i := 526) (by decide +kernel), List.mem_of_getElem? (i := 725) (by decide +kernel), List.mem_of_getElem? (i := 726) (by decide +kernel)⟩
theorem lw_p43 : lw_okq (⟨"ZlibBoxModel", "putCode", "(II)V"⟩, 20) := ⟨⟨by decide +kernel, by decide +kernel⟩, List.mem_of_getElem? (i := 526) (by decide +kernel), List.mem_of_getElem? (i := 729) (by decide +kernel), List.mem_of_getElem? (i := 730) (by decide +kernel)⟩
theorem lw_p44 : lw_okq (⟨"ZlibBoxModel", "putBig", "(J)V"⟩, 20) := ⟨⟨by decide +kernel, by decide +kernel⟩, List.mem_of_getElem? (i := 526) (by decide +kernel), List.mem_of_getElem? (i := 733) (by decide +kernel), List.mem_of_getElem? (i := 734) (by decide +kernel)⟩
def lw_privs_3 : List (MethodName × Nat) := [(⟨"ZlibBoxModel", "toldCodes", "()V"⟩, 20), (⟨"ZlibBoxModel", "meaning", "(LZlibBoxModel$Codes;)I"⟩, 20), (⟨"ZlibBoxModel", "block", "()V"⟩, 20), (⟨"ZlibBoxModel", "fail", "(I)I"⟩, 20), (⟨"ZlibBoxModel", "put", "(I)V"⟩, 20), (⟨"ZlibBoxModel", "deflate", "()V"⟩, 20), (⟨"ZlibBoxModel", "putBits", "(II)V"⟩, 20), (⟨"ZlibBoxModel", "flush", "()V"⟩, 20), (⟨"ZlibBoxModel", "mark", "(I)I"⟩, 20), (⟨"ZlibBoxModel", "putCopy", "(II)V"⟩, 20), (⟨"ZlibBoxModel", "putLiteral", "(I)V"⟩, 20), (⟨"ZlibBoxModel", "putCode", "(II)V"⟩, 20), (⟨"ZlibBoxModel", "putBig", "(J)V"⟩, 20)]
theorem lw_r3 : ∀ q ∈ lw_privs_3, lw_okq q := List.forall_mem_cons.mpr ⟨lw_p32, List.forall_mem_cons.mpr ⟨lw_p33, List.forall_mem_cons.mpr ⟨lw_p34, List.forall_mem_cons.mpr ⟨lw_p35, List.forall_mem_cons.mpr ⟨lw_p36, List.forall_mem_cons.mpr ⟨lw_p37, List.forall_mem_cons.mpr ⟨lw_p38, List.forall_mem_cons.mpr ⟨lw_p39, List.forall_mem_cons.mpr ⟨lw_p40, List.forall_mem_cons.mpr ⟨lw_p41, List.forall_mem_cons.mpr ⟨lw_p42, List.forall_mem_cons.mpr ⟨lw_p43, List.forall_mem_cons.mpr ⟨lw_p44, fun _ h => absurd h List.not_mem_nil⟩⟩⟩⟩⟩⟩⟩⟩⟩⟩⟩⟩⟩
def lw_privs : List (MethodName × Nat) := lw_privs_1 ++ (lw_privs_2 ++ (lw_privs_3))
def lw_tbl : List Cond := k2_sels lw_privs ++ tables_1
theorem lw_privs_ok : ∀ q ∈ lw_privs, lw_okq q := by
  show ∀ q ∈ lw_privs_1 ++ (lw_privs_2 ++ (lw_privs_3)), lw_okq q
  exact List.forall_mem_append.mpr ⟨lw_r1, List.forall_mem_append.mpr ⟨lw_r2, lw_r3⟩⟩
/-! names: printed by wip/whole/znames.py -/
def T_BR : u_T := fun k => match k with
  | 0 => ("ZlibBox$BitReader", "bytes", "[B", false)
  | 1 => ("ZlibBox$BitReader", "bitEnd", "I", false)
  | _ => ("ZlibBox$BitReader", "place", "I", false)
def t_BR : Nat → FieldType := fun k => match k with
  | 0 => .array .byte
  | 1 => .int
  | _ => .int
theorem nm_BR : ∀ a, a < 3 → ∀ b, b < 3 → a ≠ b → (T_BR a).2.1 ≠ (T_BR b).2.1 := by decide +kernel
theorem ty_BR : ∀ k, k < 3 → parseFieldDescriptor (T_BR k).2.2.1 = some (t_BR k) := by decide +kernel
def T_CO : u_T := fun k => match k with
  | 0 => ("ZlibBox$Codes", "counts", "[I", true)
  | 1 => ("ZlibBox$Codes", "meanings", "[I", true)
  | 2 => ("ZlibBox$Codes", "places", "[I", true)
  | _ => ("ZlibBox$Codes", "usedWords", "I", false)
def t_CO : Nat → FieldType := fun k => match k with
  | 0 => .array .int
  | 1 => .array .int
  | 2 => .array .int
  | _ => .int
theorem nm_CO : ∀ a, a < 4 → ∀ b, b < 4 → a ≠ b → (T_CO a).2.1 ≠ (T_CO b).2.1 := by decide +kernel
theorem ty_CO : ∀ k, k < 4 → parseFieldDescriptor (T_CO k).2.2.1 = some (t_CO k) := by decide +kernel
def T_PA : u_T := fun k => match k with
  | 0 => ("ZlibBox$Packer", "newest", "[I", true)
  | 1 => ("ZlibBox$Packer", "older", "[I", true)
  | 2 => ("ZlibBox$Packer", "in", "[B", false)
  | 3 => ("ZlibBox$Packer", "inLength", "I", false)
  | 4 => ("ZlibBox$Packer", "out", "[B", false)
  | 5 => ("ZlibBox$Packer", "written", "I", false)
  | 6 => ("ZlibBox$Packer", "heldBits", "I", false)
  | 7 => ("ZlibBox$Packer", "heldCount", "I", false)
  | 8 => ("ZlibBox$Packer", "copyLength", "I", false)
  | _ => ("ZlibBox$Packer", "copyDistance", "I", false)
def t_PA : Nat → FieldType := fun k => match k with
  | 0 => .array .int
  | 1 => .array .int
  | 2 => .array .byte
  | 3 => .int
  | 4 => .array .byte
  | 5 => .int
  | 6 => .int
  | 7 => .int
  | 8 => .int
  | _ => .int
theorem nm_PA : ∀ a, a < 10 → ∀ b, b < 10 → a ≠ b → (T_PA a).2.1 ≠ (T_PA b).2.1 := by decide +kernel
theorem ty_PA : ∀ k, k < 10 → parseFieldDescriptor (T_PA k).2.2.1 = some (t_PA k) := by decide +kernel
def T_UN : u_T := fun k => match k with
  | 0 => ("ZlibBox$Unpacker", "in", "LZlibBox$BitReader;", true)
  | 1 => ("ZlibBox$Unpacker", "fixedLiterals", "LZlibBox$Codes;", true)
  | 2 => ("ZlibBox$Unpacker", "fixedDistances", "LZlibBox$Codes;", true)
  | 3 => ("ZlibBox$Unpacker", "literals", "LZlibBox$Codes;", true)
  | 4 => ("ZlibBox$Unpacker", "distances", "LZlibBox$Codes;", true)
  | 5 => ("ZlibBox$Unpacker", "lengthCodes", "LZlibBox$Codes;", true)
  | 6 => ("ZlibBox$Unpacker", "lengths", "[I", true)
  | 7 => ("ZlibBox$Unpacker", "out", "[B", false)
  | _ => ("ZlibBox$Unpacker", "written", "I", false)
def t_UN : Nat → FieldType := fun k => match k with
  | 0 => .object "ZlibBox$BitReader"
  | 1 => .object "ZlibBox$Codes"
  | 2 => .object "ZlibBox$Codes"
  | 3 => .object "ZlibBox$Codes"
  | 4 => .object "ZlibBox$Codes"
  | 5 => .object "ZlibBox$Codes"
  | 6 => .array .int
  | 7 => .array .byte
  | _ => .int
theorem nm_UN : ∀ a, a < 9 → ∀ b, b < 9 → a ≠ b → (T_UN a).2.1 ≠ (T_UN b).2.1 := by decide +kernel
theorem ty_UN : ∀ k, k < 9 → parseFieldDescriptor (T_UN k).2.2.1 = some (t_UN k) := by decide +kernel
def T_ZB : u_T := fun k => match k with
  | 0 => ("ZlibBox", "tape", "[B", true)
  | 1 => ("ZlibBox", "tapeLength", "I", false)
  | 2 => ("ZlibBox", "result", "[B", false)
  | 3 => ("ZlibBox", "resultLength", "I", false)
  | 4 => ("ZlibBox", "draft", "[B", false)
  | 5 => ("ZlibBox", "unpacker", "LZlibBox$Unpacker;", true)
  | _ => ("ZlibBox", "packer", "LZlibBox$Packer;", true)
def t_ZB : Nat → FieldType := fun k => match k with
  | 0 => .array .byte
  | 1 => .int
  | 2 => .array .byte
  | 3 => .int
  | 4 => .array .byte
  | 5 => .object "ZlibBox$Unpacker"
  | _ => .object "ZlibBox$Packer"
theorem nm_ZB : ∀ a, a < 7 → ∀ b, b < 7 → a ≠ b → (T_ZB a).2.1 ≠ (T_ZB b).2.1 := by decide +kernel
theorem ty_ZB : ∀ k, k < 7 → parseFieldDescriptor (T_ZB k).2.2.1 = some (t_ZB k) := by decide +kernel
def T_MC : u_T := fun k => match k with
  | 0 => ("ZlibBoxModel$Codes", "counts", "[I", true)
  | 1 => ("ZlibBoxModel$Codes", "meanings", "[I", true)
  | _ => ("ZlibBoxModel$Codes", "all", "I", false)
def t_MC : Nat → FieldType := fun k => match k with
  | 0 => .array .int
  | 1 => .array .int
  | _ => .int
theorem nm_MC : ∀ a, a < 3 → ∀ b, b < 3 → a ≠ b → (T_MC a).2.1 ≠ (T_MC b).2.1 := by decide +kernel
theorem ty_MC : ∀ k, k < 3 → parseFieldDescriptor (T_MC k).2.2.1 = some (t_MC k) := by decide +kernel
def T_MO : u_T := fun k => match k with
  | 0 => ("ZlibBoxModel", "failed", "I", false)
  | 1 => ("ZlibBoxModel", "tape", "[B", true)
  | 2 => ("ZlibBoxModel", "taped", "I", false)
  | 3 => ("ZlibBoxModel", "result", "[B", true)
  | 4 => ("ZlibBoxModel", "size", "I", false)
  | 5 => ("ZlibBoxModel", "data", "[B", false)
  | 6 => ("ZlibBoxModel", "dataSize", "I", false)
  | 7 => ("ZlibBoxModel", "rows", "[B", true)
  | 8 => ("ZlibBoxModel", "rowBytes", "I", false)
  | 9 => ("ZlibBoxModel", "bitAt", "I", false)
  | 10 => ("ZlibBoxModel", "literals", "LZlibBoxModel$Codes;", true)
  | 11 => ("ZlibBoxModel", "distances", "LZlibBoxModel$Codes;", true)
  | 12 => ("ZlibBoxModel", "lengthCodes", "LZlibBoxModel$Codes;", true)
  | 13 => ("ZlibBoxModel", "lengths", "[I", true)
  | 14 => ("ZlibBoxModel", "out", "[B", true)
  | 15 => ("ZlibBoxModel", "outSize", "I", false)
  | 16 => ("ZlibBoxModel", "bitBuffer", "I", false)
  | 17 => ("ZlibBoxModel", "bitCount", "I", false)
  | 18 => ("ZlibBoxModel", "heads", "[I", true)
  | _ => ("ZlibBoxModel", "chain", "[I", true)
def t_MO : Nat → FieldType := fun k => match k with
  | 0 => .int
  | 1 => .array .byte
  | 2 => .int
  | 3 => .array .byte
  | 4 => .int
  | 5 => .array .byte
  | 6 => .int
  | 7 => .array .byte
  | 8 => .int
  | 9 => .int
  | 10 => .object "ZlibBoxModel$Codes"
  | 11 => .object "ZlibBoxModel$Codes"
  | 12 => .object "ZlibBoxModel$Codes"
  | 13 => .array .int
  | 14 => .array .byte
  | 15 => .int
  | 16 => .int
  | 17 => .int
  | 18 => .array .int
  | _ => .array .int
theorem nm_MO : ∀ a, a < 20 → ∀ b, b < 20 → a ≠ b → (T_MO a).2.1 ≠ (T_MO b).2.1 := by decide +kernel
theorem ty_MO : ∀ k, k < 20 → parseFieldDescriptor (T_MO k).2.2.1 = some (t_MO k) := by decide +kernel
abbrev vwCl : List vw_C := [("ZlibBox$BitReader", T_BR, 3), ("ZlibBox$Codes", T_CO, 4), ("ZlibBox$Packer", T_PA, 10), ("ZlibBox$Unpacker", T_UN, 9), ("ZlibBox", T_ZB, 7), ("ZlibBoxModel$Codes", T_MC, 3), ("ZlibBoxModel", T_MO, 20)]
/-- the words that stay, and those that only stay while tables grow warmer -/
def zT : List Cond := lw_tbl.filter goodWord
theorem zT_good : GoodIn zT zT := fun w hw => ⟨hw, good_of_word (List.mem_filter.mp hw).2⟩
def zok : Cond → Bool
  | .fieldLinkNest .. => true
  | .methodLinkNest .. => true
  | .castable .. => true
  | .declares .. => true
  | .stringRef .. => true
  | _ => false
def zxW : List Cond := lw_tbl.filter zok
theorem in_BR : ∀ w ∈ u_ws "ZlibBox$BitReader" T_BR 3, w ∈ zT := by decide +kernel
theorem in_CO : ∀ w ∈ u_ws "ZlibBox$Codes" T_CO 4, w ∈ zT := by decide +kernel
theorem in_PA : ∀ w ∈ u_ws "ZlibBox$Packer" T_PA 10, w ∈ zT := by decide +kernel
theorem in_UN : ∀ w ∈ u_ws "ZlibBox$Unpacker" T_UN 9, w ∈ zT := by decide +kernel
theorem in_ZB : ∀ w ∈ u_ws "ZlibBox" T_ZB 7, w ∈ zT := by decide +kernel
theorem in_MC : ∀ w ∈ u_ws "ZlibBoxModel$Codes" T_MC 3, w ∈ zT := by decide +kernel
theorem in_MO : ∀ w ∈ u_ws "ZlibBoxModel" T_MO 20, w ∈ zT := by decide +kernel
def y_ZB_init : MethodName := ⟨"ZlibBox", "<init>", "()V"⟩
abbrev c_ZB_init : ByteArray := prog_1_method_1_code
abbrev w_ZB_init : Cond := .code y_ZB_init c_ZB_init 1 none
def y_UN_init : MethodName := ⟨"ZlibBox$Unpacker", "<init>", "()V"⟩
abbrev c_UN_init : ByteArray := prog_5_method_1_code
abbrev w_UN_init : Cond := .code y_UN_init c_UN_init 1 none
def y_BR_init : MethodName := ⟨"ZlibBox$BitReader", "<init>", "()V"⟩
abbrev c_BR_init : ByteArray := prog_2_method_1_code
abbrev w_BR_init : Cond := .code y_BR_init c_BR_init 1 none
def y_CO_init : MethodName := ⟨"ZlibBox$Codes", "<init>", "()V"⟩
abbrev c_CO_init : ByteArray := prog_3_method_1_code
abbrev w_CO_init : Cond := .code y_CO_init c_CO_init 1 none
def y_UN_makeFixedCodes : MethodName := ⟨"ZlibBox$Unpacker", "makeFixedCodes", "()V"⟩
abbrev c_UN_makeFixedCodes : ByteArray := prog_5_method_3_code
abbrev w_UN_makeFixedCodes : Cond := .code y_UN_makeFixedCodes c_UN_makeFixedCodes 3 none
def y_CO_make : MethodName := ⟨"ZlibBox$Codes", "make", "([III)V"⟩
abbrev c_CO_make : ByteArray := prog_3_method_2_code
abbrev w_CO_make : Cond := .code y_CO_make c_CO_make 6 none
def y_AR_fill : MethodName := ⟨"java/util/Arrays", "fill", "([II)V"⟩
abbrev c_AR_fill : ByteArray := prog_18_method_103_code
abbrev w_AR_fill : Cond := .code y_AR_fill c_AR_fill 4 none
def y_PA_init : MethodName := ⟨"ZlibBox$Packer", "<init>", "()V"⟩
abbrev c_PA_init : ByteArray := prog_4_method_1_code
abbrev w_PA_init : Cond := .code y_PA_init c_PA_init 1 none
def y_ZB_again : MethodName := ⟨"ZlibBox", "again", "()I"⟩
abbrev c_ZB_again : ByteArray := prog_1_method_4_code
abbrev w_ZB_again : Cond := .code y_ZB_again c_ZB_again 1 (some .int)
def y_ZB_adler : MethodName := ⟨"ZlibBox", "adler", "()I"⟩
abbrev c_ZB_adler : ByteArray := prog_1_method_7_code
abbrev w_ZB_adler : Cond := .code y_ZB_adler c_ZB_adler 1 (some .int)
def y_ZB_adlerOf : MethodName := ⟨"ZlibBox", "adlerOf", "([BI)I"⟩
abbrev c_ZB_adlerOf : ByteArray := prog_1_method_12_code
abbrev w_ZB_adlerOf : Cond := .code y_ZB_adlerOf c_ZB_adlerOf 5 (some .int)
def y_LW_feed : MethodName := ⟨"ZlibBoxLaw", "feed", "(LZlibBox;IIIII[J)I"⟩
abbrev c_LW_feed : ByteArray := method_3_code
abbrev w_LW_feed : Cond := .codeWith y_LW_feed c_LW_feed 8 (some .int) [((0 : Nat), (16 : Nat), (19 : Nat), (13 : Nat))]
def y_ZB_feed : MethodName := ⟨"ZlibBox", "feed", "(IIIII)I"⟩
abbrev c_ZB_feed : ByteArray := prog_1_method_2_code
abbrev w_ZB_feed : Cond := .code y_ZB_feed c_ZB_feed 6 (some .int)
def y_ZB_putInt : MethodName := ⟨"ZlibBox", "putInt", "(II)V"⟩
abbrev c_ZB_putInt : ByteArray := prog_1_method_10_code
abbrev w_ZB_putInt : Cond := .code y_ZB_putInt c_ZB_putInt 3 none
def y_LW_end : MethodName := ⟨"ZlibBoxLaw", "end", "(LZlibBox;I[J)I"⟩
abbrev c_LW_end : ByteArray := method_4_code
abbrev w_LW_end : Cond := .codeWith y_LW_end c_LW_end 4 (some .int) [((0 : Nat), (9 : Nat), (12 : Nat), (19 : Nat))]
def y_ZB_end : MethodName := ⟨"ZlibBox", "end", "(I)I"⟩
abbrev c_ZB_end : ByteArray := prog_1_method_3_code
abbrev w_ZB_end : Cond := .code y_ZB_end c_ZB_end 2 (some .int)
def y_LW_unpack : MethodName := ⟨"ZlibBoxLaw", "unpack", "(LZlibBox;[J)I"⟩
abbrev c_LW_unpack : ByteArray := method_5_code
abbrev w_LW_unpack : Cond := .codeWith y_LW_unpack c_LW_unpack 3 (some .int) [((0 : Nat), (8 : Nat), (11 : Nat), (25 : Nat)), ((0 : Nat), (8 : Nat), (14 : Nat), (13 : Nat))]
def y_ZB_unpack : MethodName := ⟨"ZlibBox", "unpack", "()I"⟩
abbrev c_ZB_unpack : ByteArray := prog_1_method_5_code
abbrev w_ZB_unpack : Cond := .code y_ZB_unpack c_ZB_unpack 2 (some .int)
def y_UN_read : MethodName := ⟨"ZlibBox$Unpacker", "read", "([BI[B)I"⟩
abbrev c_UN_read : ByteArray := prog_5_method_2_code
abbrev w_UN_read : Cond := .code y_UN_read c_UN_read 4 (some .int)
def y_BR_open : MethodName := ⟨"ZlibBox$BitReader", "open", "([BI)V"⟩
abbrev c_BR_open : ByteArray := prog_2_method_2_code
abbrev w_BR_open : Cond := .code y_BR_open c_BR_open 3 none
def y_UN_readHead : MethodName := ⟨"ZlibBox$Unpacker", "readHead", "()V"⟩
abbrev c_UN_readHead : ByteArray := prog_5_method_4_code
abbrev w_UN_readHead : Cond := .code y_UN_readHead c_UN_readHead 5 none
def y_BR_number : MethodName := ⟨"ZlibBox$BitReader", "number", "(I)I"⟩
abbrev c_BR_number : ByteArray := prog_2_method_4_code
abbrev w_BR_number : Cond := .code y_BR_number c_BR_number 4 (some .int)
def y_UN_readBlocks : MethodName := ⟨"ZlibBox$Unpacker", "readBlocks", "()V"⟩
abbrev c_UN_readBlocks : ByteArray := prog_5_method_6_code
abbrev w_UN_readBlocks : Cond := .code y_UN_readBlocks c_UN_readBlocks 4 none
def y_BR_bit : MethodName := ⟨"ZlibBox$BitReader", "bit", "()I"⟩
abbrev c_BR_bit : ByteArray := prog_2_method_3_code
abbrev w_BR_bit : Cond := .code y_BR_bit c_BR_bit 2 (some .int)
def y_UN_readStored : MethodName := ⟨"ZlibBox$Unpacker", "readStored", "()V"⟩
abbrev c_UN_readStored : ByteArray := prog_5_method_7_code
abbrev w_UN_readStored : Cond := .code y_UN_readStored c_UN_readStored 3 none
def y_BR_skipToByte : MethodName := ⟨"ZlibBox$BitReader", "skipToByte", "()V"⟩
abbrev c_BR_skipToByte : ByteArray := prog_2_method_5_code
abbrev w_BR_skipToByte : Cond := .code y_BR_skipToByte c_BR_skipToByte 1 none
def y_UN_put : MethodName := ⟨"ZlibBox$Unpacker", "put", "(I)V"⟩
abbrev c_UN_put : ByteArray := prog_5_method_14_code
abbrev w_UN_put : Cond := .code y_UN_put c_UN_put 2 none
def y_UN_readCoded : MethodName := ⟨"ZlibBox$Unpacker", "readCoded", "(LZlibBox$Codes;LZlibBox$Codes;)V"⟩
abbrev c_UN_readCoded : ByteArray := prog_5_method_12_code
abbrev w_UN_readCoded : Cond := .code y_UN_readCoded c_UN_readCoded 5 none
def y_CO_read : MethodName := ⟨"ZlibBox$Codes", "read", "(LZlibBox$BitReader;)I"⟩
abbrev c_CO_read : ByteArray := prog_3_method_5_code
abbrev w_CO_read : Cond := .code y_CO_read c_CO_read 7 (some .int)
def y_UN_readCopy : MethodName := ⟨"ZlibBox$Unpacker", "readCopy", "(ILZlibBox$Codes;)V"⟩
abbrev c_UN_readCopy : ByteArray := prog_5_method_13_code
abbrev w_UN_readCopy : Cond := .code y_UN_readCopy c_UN_readCopy 7 none
def y_UN_readToldCodes : MethodName := ⟨"ZlibBox$Unpacker", "readToldCodes", "()V"⟩
abbrev c_UN_readToldCodes : ByteArray := prog_5_method_8_code
abbrev w_UN_readToldCodes : Cond := .code y_UN_readToldCodes c_UN_readToldCodes 4 none
def y_UN_readLengthCodes : MethodName := ⟨"ZlibBox$Unpacker", "readLengthCodes", "(I)V"⟩
abbrev c_UN_readLengthCodes : ByteArray := prog_5_method_9_code
abbrev w_UN_readLengthCodes : Cond := .code y_UN_readLengthCodes c_UN_readLengthCodes 3 none
def y_CO_useAllWords : MethodName := ⟨"ZlibBox$Codes", "useAllWords", "()Z"⟩
abbrev c_CO_useAllWords : ByteArray := prog_3_method_3_code
abbrev w_CO_useAllWords : Cond := .code y_CO_useAllWords c_CO_useAllWords 1 (some .boolean)
def y_UN_readLengths : MethodName := ⟨"ZlibBox$Unpacker", "readLengths", "(I)V"⟩
abbrev c_UN_readLengths : ByteArray := prog_5_method_10_code
abbrev w_UN_readLengths : Cond := .code y_UN_readLengths c_UN_readLengths 5 none
def y_UN_readRun : MethodName := ⟨"ZlibBox$Unpacker", "readRun", "(III)I"⟩
abbrev c_UN_readRun : ByteArray := prog_5_method_11_code
abbrev w_UN_readRun : Cond := .code y_UN_readRun c_UN_readRun 7 (some .int)
def y_CO_areOneOfOneBitOrNone : MethodName := ⟨"ZlibBox$Codes", "areOneOfOneBitOrNone", "()Z"⟩
abbrev c_CO_areOneOfOneBitOrNone : ByteArray := prog_3_method_4_code
abbrev w_CO_areOneOfOneBitOrNone : Cond := .code y_CO_areOneOfOneBitOrNone c_CO_areOneOfOneBitOrNone 1 (some .boolean)
def y_UN_readTail : MethodName := ⟨"ZlibBox$Unpacker", "readTail", "()V"⟩
abbrev c_UN_readTail : ByteArray := prog_5_method_5_code
abbrev w_UN_readTail : Cond := .code y_UN_readTail c_UN_readTail 3 none
def y_BR_atEnd : MethodName := ⟨"ZlibBox$BitReader", "atEnd", "()Z"⟩
abbrev c_BR_atEnd : ByteArray := prog_2_method_6_code
abbrev w_BR_atEnd : Cond := .code y_BR_atEnd c_BR_atEnd 1 (some .boolean)
def y_ZB_keepDraft : MethodName := ⟨"ZlibBox", "keepDraft", "(I)I"⟩
abbrev c_ZB_keepDraft : ByteArray := prog_1_method_11_code
abbrev w_ZB_keepDraft : Cond := .code y_ZB_keepDraft c_ZB_keepDraft 3 (some .int)
def y_LW_pack : MethodName := ⟨"ZlibBoxLaw", "pack", "(LZlibBox;[J)I"⟩
abbrev c_LW_pack : ByteArray := method_6_code
abbrev w_LW_pack : Cond := .codeWith y_LW_pack c_LW_pack 3 (some .int) [((0 : Nat), (8 : Nat), (11 : Nat), (13 : Nat))]
def y_ZB_pack : MethodName := ⟨"ZlibBox", "pack", "()I"⟩
abbrev c_ZB_pack : ByteArray := prog_1_method_6_code
abbrev w_ZB_pack : Cond := .code y_ZB_pack c_ZB_pack 1 (some .int)
def y_PA_write : MethodName := ⟨"ZlibBox$Packer", "write", "([BI[B)I"⟩
abbrev c_PA_write : ByteArray := prog_4_method_2_code
abbrev w_PA_write : Cond := .code y_PA_write c_PA_write 4 (some .int)
def y_PA_open : MethodName := ⟨"ZlibBox$Packer", "open", "([BI[B)V"⟩
abbrev c_PA_open : ByteArray := prog_4_method_3_code
abbrev w_PA_open : Cond := .code y_PA_open c_PA_open 4 none
def y_PA_putByte : MethodName := ⟨"ZlibBox$Packer", "putByte", "(I)V"⟩
abbrev c_PA_putByte : ByteArray := prog_4_method_16_code
abbrev w_PA_putByte : Cond := .code y_PA_putByte c_PA_putByte 2 none
def y_PA_putNumber : MethodName := ⟨"ZlibBox$Packer", "putNumber", "(II)V"⟩
abbrev c_PA_putNumber : ByteArray := prog_4_method_13_code
abbrev w_PA_putNumber : Cond := .code y_PA_putNumber c_PA_putNumber 3 none
def y_PA_writeTape : MethodName := ⟨"ZlibBox$Packer", "writeTape", "()V"⟩
abbrev c_PA_writeTape : ByteArray := prog_4_method_4_code
abbrev w_PA_writeTape : Cond := .code y_PA_writeTape c_PA_writeTape 4 none
def y_PA_findCopy : MethodName := ⟨"ZlibBox$Packer", "findCopy", "(I)V"⟩
abbrev c_PA_findCopy : ByteArray := prog_4_method_5_code
abbrev w_PA_findCopy : Cond := .code y_PA_findCopy c_PA_findCopy 8 none
def y_PA_chainOf : MethodName := ⟨"ZlibBox$Packer", "chainOf", "(I)I"⟩
abbrev c_PA_chainOf : ByteArray := prog_4_method_8_code
abbrev w_PA_chainOf : Cond := .code y_PA_chainOf c_PA_chainOf 5 (some .int)
def y_PA_agreement : MethodName := ⟨"ZlibBox$Packer", "agreement", "(III)I"⟩
abbrev c_PA_agreement : ByteArray := prog_4_method_6_code
abbrev w_PA_agreement : Cond := .code y_PA_agreement c_PA_agreement 5 (some .int)
def y_PA_putLiteral : MethodName := ⟨"ZlibBox$Packer", "putLiteral", "(I)V"⟩
abbrev c_PA_putLiteral : ByteArray := prog_4_method_11_code
abbrev w_PA_putLiteral : Cond := .code y_PA_putLiteral c_PA_putLiteral 2 none
def y_PA_turned : MethodName := ⟨"ZlibBox$Packer", "turned", "(II)I"⟩
abbrev c_PA_turned : ByteArray := prog_4_method_12_code
abbrev w_PA_turned : Cond := .code y_PA_turned c_PA_turned 4 (some .int)
def y_PA_putCopy : MethodName := ⟨"ZlibBox$Packer", "putCopy", "()V"⟩
abbrev c_PA_putCopy : ByteArray := prog_4_method_9_code
abbrev w_PA_putCopy : Cond := .code y_PA_putCopy c_PA_putCopy 3 none
def y_PA_lastNotAbove : MethodName := ⟨"ZlibBox$Packer", "lastNotAbove", "([II)I"⟩
abbrev c_PA_lastNotAbove : ByteArray := prog_4_method_10_code
abbrev w_PA_lastNotAbove : Cond := .code y_PA_lastNotAbove c_PA_lastNotAbove 4 (some .int)
def y_PA_remember : MethodName := ⟨"ZlibBox$Packer", "remember", "(I)V"⟩
abbrev c_PA_remember : ByteArray := prog_4_method_7_code
abbrev w_PA_remember : Cond := .code y_PA_remember c_PA_remember 3 none
def y_PA_putLastBits : MethodName := ⟨"ZlibBox$Packer", "putLastBits", "()V"⟩
abbrev c_PA_putLastBits : ByteArray := prog_4_method_14_code
abbrev w_PA_putLastBits : Cond := .code y_PA_putLastBits c_PA_putLastBits 1 none
def y_PA_putAdler : MethodName := ⟨"ZlibBox$Packer", "putAdler", "(I)V"⟩
abbrev c_PA_putAdler : ByteArray := prog_4_method_15_code
abbrev w_PA_putAdler : Cond := .code y_PA_putAdler c_PA_putAdler 3 none
def y_LW_word : MethodName := ⟨"ZlibBoxLaw", "word", "(LZlibBox;I[J)I"⟩
abbrev c_LW_word : ByteArray := method_7_code
abbrev w_LW_word : Cond := .codeWith y_LW_word c_LW_word 4 (some .int) [((0 : Nat), (8 : Nat), (11 : Nat), (13 : Nat))]
def y_ZB_word : MethodName := ⟨"ZlibBox", "word", "(I)J"⟩
abbrev c_ZB_word : ByteArray := prog_1_method_8_code
abbrev w_ZB_word : Cond := .code y_ZB_word c_ZB_word 6 (some .long)
def y_LW_count : MethodName := ⟨"ZlibBoxLaw", "count", "(LZlibBox;I[J)I"⟩
abbrev c_LW_count : ByteArray := method_8_code
abbrev w_LW_count : Cond := .codeWith y_LW_count c_LW_count 4 (some .int) [((0 : Nat), (9 : Nat), (12 : Nat), (19 : Nat))]
def y_ZB_count : MethodName := ⟨"ZlibBox", "count", "(I)I"⟩
abbrev c_ZB_count : ByteArray := prog_1_method_9_code
abbrev w_ZB_count : Cond := .code y_ZB_count c_ZB_count 2 (some .int)
def y_MO_init : MethodName := ⟨"ZlibBoxModel", "<init>", "()V"⟩
abbrev c_MO_init : ByteArray := prog_7_method_1_code
abbrev w_MO_init : Cond := .code y_MO_init c_MO_init 1 none
def y_MC_init : MethodName := ⟨"ZlibBoxModel$Codes", "<init>", "()V"⟩
abbrev c_MC_init : ByteArray := prog_8_method_1_code
abbrev w_MC_init : Cond := .code y_MC_init c_MC_init 1 none
def y_MO_thrown : MethodName := ⟨"ZlibBoxModel", "thrown", "()I"⟩
abbrev c_MO_thrown : ByteArray := prog_7_method_2_code
abbrev w_MO_thrown : Cond := .code y_MO_thrown c_MO_thrown 1 (some .int)
def y_MO_unpack : MethodName := ⟨"ZlibBoxModel", "unpack", "()I"⟩
abbrev c_MO_unpack : ByteArray := prog_7_method_24_code
abbrev w_MO_unpack : Cond := .codeWith y_MO_unpack c_MO_unpack 2 (some .int) [((46 : Nat), (50 : Nat), (53 : Nat), (53 : Nat)), ((46 : Nat), (50 : Nat), (60 : Nat), (93 : Nat))]
def y_MO_inflate : MethodName := ⟨"ZlibBoxModel", "inflate", "()V"⟩
abbrev c_MO_inflate : ByteArray := prog_7_method_13_code
abbrev w_MO_inflate : Cond := .code y_MO_inflate c_MO_inflate 7 none
def y_MO_can : MethodName := ⟨"ZlibBoxModel", "can", "(Z)V"⟩
abbrev c_MO_can : ByteArray := prog_7_method_4_code
abbrev w_MO_can : Cond := .code y_MO_can c_MO_can 2 none
def y_MO_bits : MethodName := ⟨"ZlibBoxModel", "bits", "(I)I"⟩
abbrev c_MO_bits : ByteArray := prog_7_method_5_code
abbrev w_MO_bits : Cond := .code y_MO_bits c_MO_bits 4 (some .int)
def y_MO_give : MethodName := ⟨"ZlibBoxModel", "give", "(I)V"⟩
abbrev c_MO_give : ByteArray := prog_7_method_9_code
abbrev w_MO_give : Cond := .code y_MO_give c_MO_give 2 none
def y_MO_fixedCodes : MethodName := ⟨"ZlibBoxModel", "fixedCodes", "()V"⟩
abbrev c_MO_fixedCodes : ByteArray := prog_7_method_7_code
abbrev w_MO_fixedCodes : Cond := .code y_MO_fixedCodes c_MO_fixedCodes 3 none
def y_MC_make : MethodName := ⟨"ZlibBoxModel$Codes", "make", "([III)I"⟩
abbrev c_MC_make : ByteArray := prog_8_method_2_code
abbrev w_MC_make : Cond := .code y_MC_make c_MC_make 6 (some .int)
def y_MO_toldCodes : MethodName := ⟨"ZlibBoxModel", "toldCodes", "()V"⟩
abbrev c_MO_toldCodes : ByteArray := prog_7_method_8_code
abbrev w_MO_toldCodes : Cond := .code y_MO_toldCodes c_MO_toldCodes 9 none
def y_MO_meaning : MethodName := ⟨"ZlibBoxModel", "meaning", "(LZlibBoxModel$Codes;)I"⟩
abbrev c_MO_meaning : ByteArray := prog_7_method_6_code
abbrev w_MO_meaning : Cond := .code y_MO_meaning c_MO_meaning 6 (some .int)
def y_MO_block : MethodName := ⟨"ZlibBoxModel", "block", "()V"⟩
abbrev c_MO_block : ByteArray := prog_7_method_10_code
abbrev w_MO_block : Cond := .code y_MO_block c_MO_block 6 none
def y_MO_lengthBits : MethodName := ⟨"ZlibBoxModel", "lengthBits", "(I)I"⟩
abbrev c_MO_lengthBits : ByteArray := prog_7_method_11_code
abbrev w_MO_lengthBits : Cond := .code y_MO_lengthBits c_MO_lengthBits 1 (some .int)
def y_MO_distanceBits : MethodName := ⟨"ZlibBoxModel", "distanceBits", "(I)I"⟩
abbrev c_MO_distanceBits : ByteArray := prog_7_method_12_code
abbrev w_MO_distanceBits : Cond := .code y_MO_distanceBits c_MO_distanceBits 1 (some .int)
def y_MO_adler : MethodName := ⟨"ZlibBoxModel", "adler", "([BI)J"⟩
abbrev c_MO_adler : ByteArray := prog_7_method_14_code
abbrev w_MO_adler : Cond := .code y_MO_adler c_MO_adler 5 (some .long)
def y_MO_fail : MethodName := ⟨"ZlibBoxModel", "fail", "(I)I"⟩
abbrev c_MO_fail : ByteArray := prog_7_method_3_code
abbrev w_MO_fail : Cond := .code y_MO_fail c_MO_fail 2 (some .int)
def y_MO_pack : MethodName := ⟨"ZlibBoxModel", "pack", "()I"⟩
abbrev c_MO_pack : ByteArray := prog_7_method_25_code
abbrev w_MO_pack : Cond := .code y_MO_pack c_MO_pack 2 (some .int)
def y_MO_put : MethodName := ⟨"ZlibBoxModel", "put", "(I)V"⟩
abbrev c_MO_put : ByteArray := prog_7_method_15_code
abbrev w_MO_put : Cond := .code y_MO_put c_MO_put 2 none
def y_MO_deflate : MethodName := ⟨"ZlibBoxModel", "deflate", "()V"⟩
abbrev c_MO_deflate : ByteArray := prog_7_method_23_code
abbrev w_MO_deflate : Cond := .code y_MO_deflate c_MO_deflate 8 none
def y_MO_putBits : MethodName := ⟨"ZlibBoxModel", "putBits", "(II)V"⟩
abbrev c_MO_putBits : ByteArray := prog_7_method_17_code
abbrev w_MO_putBits : Cond := .code y_MO_putBits c_MO_putBits 4 none
def y_MO_flush : MethodName := ⟨"ZlibBoxModel", "flush", "()V"⟩
abbrev c_MO_flush : ByteArray := prog_7_method_18_code
abbrev w_MO_flush : Cond := .code y_MO_flush c_MO_flush 1 none
def y_MO_mark : MethodName := ⟨"ZlibBoxModel", "mark", "(I)I"⟩
abbrev c_MO_mark : ByteArray := prog_7_method_22_code
abbrev w_MO_mark : Cond := .code y_MO_mark c_MO_mark 2 (some .int)
def y_MO_putCopy : MethodName := ⟨"ZlibBoxModel", "putCopy", "(II)V"⟩
abbrev c_MO_putCopy : ByteArray := prog_7_method_21_code
abbrev w_MO_putCopy : Cond := .code y_MO_putCopy c_MO_putCopy 7 none
def y_MO_putLiteral : MethodName := ⟨"ZlibBoxModel", "putLiteral", "(I)V"⟩
abbrev c_MO_putLiteral : ByteArray := prog_7_method_20_code
abbrev w_MO_putLiteral : Cond := .code y_MO_putLiteral c_MO_putLiteral 2 none
def y_MO_putCode : MethodName := ⟨"ZlibBoxModel", "putCode", "(II)V"⟩
abbrev c_MO_putCode : ByteArray := prog_7_method_19_code
abbrev w_MO_putCode : Cond := .code y_MO_putCode c_MO_putCode 4 none
def y_MO_putBig : MethodName := ⟨"ZlibBoxModel", "putBig", "(J)V"⟩
abbrev c_MO_putBig : ByteArray := prog_7_method_16_code
abbrev w_MO_putBig : Cond := .code y_MO_putBig c_MO_putBig 4 none
def y_MO_adler2 : MethodName := ⟨"ZlibBoxModel", "adler", "()I"⟩
abbrev c_MO_adler2 : ByteArray := prog_7_method_26_code
abbrev w_MO_adler2 : Cond := .code y_MO_adler2 c_MO_adler2 1 (some .int)
def y_MO_feed : MethodName := ⟨"ZlibBoxModel", "feed", "(IIIII)I"⟩
abbrev c_MO_feed : ByteArray := prog_7_method_27_code
abbrev w_MO_feed : Cond := .code y_MO_feed c_MO_feed 8 (some .int)
def y_MO_end : MethodName := ⟨"ZlibBoxModel", "end", "(I)I"⟩
abbrev c_MO_end : ByteArray := prog_7_method_28_code
abbrev w_MO_end : Cond := .code y_MO_end c_MO_end 2 (some .int)
def y_MO_again : MethodName := ⟨"ZlibBoxModel", "again", "()I"⟩
abbrev c_MO_again : ByteArray := prog_7_method_29_code
abbrev w_MO_again : Cond := .code y_MO_again c_MO_again 2 (some .int)
def y_MO_word : MethodName := ⟨"ZlibBoxModel", "word", "(I)J"⟩
abbrev c_MO_word : ByteArray := prog_7_method_30_code
abbrev w_MO_word : Cond := .code y_MO_word c_MO_word 5 (some .long)
def y_MO_count : MethodName := ⟨"ZlibBoxModel", "count", "(I)I"⟩
abbrev c_MO_count : ByteArray := prog_7_method_31_code
abbrev w_MO_count : Cond := .code y_MO_count c_MO_count 2 (some .int)
end
section
/-! words of the tables, by their places: printed by wip/whole/znames.py -/
theorem q_0 : (Jvm.Cond.initialized "ZlibBoxLaw") ∈ zT := List.mem_filter.mpr ⟨List.mem_append_right _ (List.mem_of_getElem? (i := 0) (by decide +kernel)), by decide +kernel⟩
theorem q_1 : (Jvm.Cond.initialized "ZlibBox") ∈ zT := List.mem_filter.mpr ⟨List.mem_append_right _ (List.mem_of_getElem? (i := 1) (by decide +kernel)), by decide +kernel⟩
theorem q_2 : (Jvm.Cond.initialized "ZlibBox$Unpacker") ∈ zT := List.mem_filter.mpr ⟨List.mem_append_right _ (List.mem_of_getElem? (i := 2) (by decide +kernel)), by decide +kernel⟩
theorem q_3 : (Jvm.Cond.initialized "ZlibBox$BitReader") ∈ zT := List.mem_filter.mpr ⟨List.mem_append_right _ (List.mem_of_getElem? (i := 3) (by decide +kernel)), by decide +kernel⟩
theorem q_4 : (Jvm.Cond.initialized "ZlibBox$Codes") ∈ zT := List.mem_filter.mpr ⟨List.mem_append_right _ (List.mem_of_getElem? (i := 4) (by decide +kernel)), by decide +kernel⟩
theorem q_5 : (Jvm.Cond.initialized "java/util/Arrays") ∈ zT := List.mem_filter.mpr ⟨List.mem_append_right _ (List.mem_of_getElem? (i := 5) (by decide +kernel)), by decide +kernel⟩
theorem q_6 : (Jvm.Cond.initialized "ZlibBox$Packer") ∈ zT := List.mem_filter.mpr ⟨List.mem_append_right _ (List.mem_of_getElem? (i := 6) (by decide +kernel)), by decide +kernel⟩
theorem q_7 : (Jvm.Cond.initialized "ZlibBoxModel") ∈ zT := List.mem_filter.mpr ⟨List.mem_append_right _ (List.mem_of_getElem? (i := 7) (by decide +kernel)), by decide +kernel⟩
theorem q_8 : (Jvm.Cond.initialized "ZlibBoxModel$Codes") ∈ zT := List.mem_filter.mpr ⟨List.mem_append_right _ (List.mem_of_getElem? (i := 8) (by decide +kernel)), by decide +kernel⟩
theorem q_9 : (Jvm.Cond.initialized "java/lang/Throwable") ∈ zT := List.mem_filter.mpr ⟨List.mem_append_right _ (List.mem_of_getElem? (i := 9) (by decide +kernel)), by decide +kernel⟩
theorem q_10 : (Jvm.Cond.initialized "java/lang/Exception") ∈ zT := List.mem_filter.mpr ⟨List.mem_append_right _ (List.mem_of_getElem? (i := 10) (by decide +kernel)), by decide +kernel⟩
theorem q_11 : (Jvm.Cond.initialized "java/lang/RuntimeException") ∈ zT := List.mem_filter.mpr ⟨List.mem_append_right _ (List.mem_of_getElem? (i := 11) (by decide +kernel)), by decide +kernel⟩
theorem q_12 : (Jvm.Cond.initialized "java/lang/IndexOutOfBoundsException") ∈ zT := List.mem_filter.mpr ⟨List.mem_append_right _ (List.mem_of_getElem? (i := 12) (by decide +kernel)), by decide +kernel⟩
theorem q_13 : (Jvm.Cond.initialized "java/lang/IllegalArgumentException") ∈ zT := List.mem_filter.mpr ⟨List.mem_append_right _ (List.mem_of_getElem? (i := 13) (by decide +kernel)), by decide +kernel⟩
theorem q_14 : (Jvm.Cond.initialized "java/lang/System") ∈ zT := List.mem_filter.mpr ⟨List.mem_append_right _ (List.mem_of_getElem? (i := 14) (by decide +kernel)), by decide +kernel⟩
theorem q_15 : (Jvm.Cond.initialized "java/lang/UnsupportedOperationException") ∈ zT := List.mem_filter.mpr ⟨List.mem_append_right _ (List.mem_of_getElem? (i := 15) (by decide +kernel)), by decide +kernel⟩
theorem q_16 : (Jvm.Cond.initialized "java/lang/Math") ∈ zT := List.mem_filter.mpr ⟨List.mem_append_right _ (List.mem_of_getElem? (i := 16) (by decide +kernel)), by decide +kernel⟩
theorem q_17 : (Jvm.Cond.classLink "ZlibBoxLaw" (8 : Nat) "ZlibBox") ∈ zT := List.mem_filter.mpr ⟨List.mem_append_right _ (List.mem_of_getElem? (i := 17) (by decide +kernel)), by decide +kernel⟩
theorem q_18 : (Jvm.Cond.instantiable "ZlibBox" (7 : Nat)) ∈ zT := List.mem_filter.mpr ⟨List.mem_append_right _ (List.mem_of_getElem? (i := 18) (by decide +kernel)), by decide +kernel⟩
theorem q_19 : (Jvm.Cond.methodLink "ZlibBoxLaw" (37 : Nat) ({ cls := "ZlibBox", name := "<init>", desc := "()V" } : Jvm.MethodName)) ∈ zT := List.mem_filter.mpr ⟨List.mem_append_right _ (List.mem_of_getElem? (i := 19) (by decide +kernel)), by decide +kernel⟩
theorem q_20 : (Jvm.Cond.instanceMethod ({ cls := "ZlibBox", name := "<init>", desc := "()V" } : Jvm.MethodName)) ∈ zT := List.mem_filter.mpr ⟨List.mem_append_right _ (List.mem_of_getElem? (i := 20) (by decide +kernel)), by decide +kernel⟩
theorem q_21 : (Jvm.Cond.code ({ cls := "ZlibBox", name := "<init>", desc := "()V" } : Jvm.MethodName) prog_1_method_1_code (1 : Nat) (Option.none : Option Jvm.ClassFile.FieldType)) ∈ zT := List.mem_filter.mpr ⟨List.mem_append_right _ (List.mem_of_getElem? (i := 21) (by decide +kernel)), by decide +kernel⟩
theorem q_22 : (Jvm.Cond.methodLink "ZlibBox" (3 : Nat) ({ cls := "java/lang/Object", name := "<init>", desc := "()V" } : Jvm.MethodName)) ∈ zT := List.mem_filter.mpr ⟨List.mem_append_right _ (List.mem_of_getElem? (i := 22) (by decide +kernel)), by decide +kernel⟩
theorem q_23 : (Jvm.Cond.instanceMethod ({ cls := "java/lang/Object", name := "<init>", desc := "()V" } : Jvm.MethodName)) ∈ zT := List.mem_filter.mpr ⟨List.mem_append_right _ (List.mem_of_getElem? (i := 23) (by decide +kernel)), by decide +kernel⟩
theorem q_24 : (Jvm.Cond.code ({ cls := "java/lang/Object", name := "<init>", desc := "()V" } : Jvm.MethodName) object_method_1_code (1 : Nat) (Option.none : Option Jvm.ClassFile.FieldType)) ∈ zT := List.mem_filter.mpr ⟨List.mem_append_right _ (List.mem_of_getElem? (i := 24) (by decide +kernel)), by decide +kernel⟩
theorem q_25 : (Jvm.Cond.classLink "ZlibBox" (19 : Nat) "ZlibBox$Unpacker") ∈ zT := List.mem_filter.mpr ⟨List.mem_append_right _ (List.mem_of_getElem? (i := 25) (by decide +kernel)), by decide +kernel⟩
theorem q_26 : (Jvm.Cond.instantiable "ZlibBox$Unpacker" (9 : Nat)) ∈ zT := List.mem_filter.mpr ⟨List.mem_append_right _ (List.mem_of_getElem? (i := 26) (by decide +kernel)), by decide +kernel⟩
theorem q_27 : (Jvm.Cond.methodLink "ZlibBox" (21 : Nat) ({ cls := "ZlibBox$Unpacker", name := "<init>", desc := "()V" } : Jvm.MethodName)) ∈ zT := List.mem_filter.mpr ⟨List.mem_append_right _ (List.mem_of_getElem? (i := 27) (by decide +kernel)), by decide +kernel⟩
theorem q_28 : (Jvm.Cond.instanceMethod ({ cls := "ZlibBox$Unpacker", name := "<init>", desc := "()V" } : Jvm.MethodName)) ∈ zT := List.mem_filter.mpr ⟨List.mem_append_right _ (List.mem_of_getElem? (i := 28) (by decide +kernel)), by decide +kernel⟩
theorem q_29 : (Jvm.Cond.code ({ cls := "ZlibBox$Unpacker", name := "<init>", desc := "()V" } : Jvm.MethodName) prog_5_method_1_code (1 : Nat) (Option.none : Option Jvm.ClassFile.FieldType)) ∈ zT := List.mem_filter.mpr ⟨List.mem_append_right _ (List.mem_of_getElem? (i := 29) (by decide +kernel)), by decide +kernel⟩
theorem q_30 : (Jvm.Cond.methodLink "ZlibBox$Unpacker" (3 : Nat) ({ cls := "java/lang/Object", name := "<init>", desc := "()V" } : Jvm.MethodName)) ∈ zT := List.mem_filter.mpr ⟨List.mem_append_right _ (List.mem_of_getElem? (i := 30) (by decide +kernel)), by decide +kernel⟩
theorem q_31 : (Jvm.Cond.classLink "ZlibBox$Unpacker" (9 : Nat) "ZlibBox$BitReader") ∈ zT := List.mem_filter.mpr ⟨List.mem_append_right _ (List.mem_of_getElem? (i := 31) (by decide +kernel)), by decide +kernel⟩
theorem q_32 : (Jvm.Cond.instantiable "ZlibBox$BitReader" (3 : Nat)) ∈ zT := List.mem_filter.mpr ⟨List.mem_append_right _ (List.mem_of_getElem? (i := 32) (by decide +kernel)), by decide +kernel⟩
theorem q_33 : (Jvm.Cond.methodLink "ZlibBox$Unpacker" (11 : Nat) ({ cls := "ZlibBox$BitReader", name := "<init>", desc := "()V" } : Jvm.MethodName)) ∈ zT := List.mem_filter.mpr ⟨List.mem_append_right _ (List.mem_of_getElem? (i := 33) (by decide +kernel)), by decide +kernel⟩
theorem q_34 : (Jvm.Cond.instanceMethod ({ cls := "ZlibBox$BitReader", name := "<init>", desc := "()V" } : Jvm.MethodName)) ∈ zT := List.mem_filter.mpr ⟨List.mem_append_right _ (List.mem_of_getElem? (i := 34) (by decide +kernel)), by decide +kernel⟩
theorem q_35 : (Jvm.Cond.code ({ cls := "ZlibBox$BitReader", name := "<init>", desc := "()V" } : Jvm.MethodName) prog_2_method_1_code (1 : Nat) (Option.none : Option Jvm.ClassFile.FieldType)) ∈ zT := List.mem_filter.mpr ⟨List.mem_append_right _ (List.mem_of_getElem? (i := 35) (by decide +kernel)), by decide +kernel⟩
theorem q_36 : (Jvm.Cond.methodLink "ZlibBox$BitReader" (1 : Nat) ({ cls := "java/lang/Object", name := "<init>", desc := "()V" } : Jvm.MethodName)) ∈ zT := List.mem_filter.mpr ⟨List.mem_append_right _ (List.mem_of_getElem? (i := 36) (by decide +kernel)), by decide +kernel⟩
theorem q_37 : (Jvm.Cond.fieldLink "ZlibBox$BitReader" (7 : Nat) "ZlibBox$BitReader" "bytes" "[B") ∈ zT := List.mem_filter.mpr ⟨List.mem_append_right _ (List.mem_of_getElem? (i := 37) (by decide +kernel)), by decide +kernel⟩
theorem q_38 : (Jvm.Cond.fieldLink "ZlibBox$BitReader" (13 : Nat) "ZlibBox$BitReader" "bitEnd" "I") ∈ zT := List.mem_filter.mpr ⟨List.mem_append_right _ (List.mem_of_getElem? (i := 38) (by decide +kernel)), by decide +kernel⟩
theorem q_39 : (Jvm.Cond.fieldLink "ZlibBox$BitReader" (17 : Nat) "ZlibBox$BitReader" "place" "I") ∈ zT := List.mem_filter.mpr ⟨List.mem_append_right _ (List.mem_of_getElem? (i := 39) (by decide +kernel)), by decide +kernel⟩
theorem q_40 : (Jvm.Cond.lays "ZlibBox$BitReader" "ZlibBox$BitReader" "bytes" "[B") ∈ zT := List.mem_filter.mpr ⟨List.mem_append_right _ (List.mem_of_getElem? (i := 40) (by decide +kernel)), by decide +kernel⟩
theorem q_41 : (Jvm.Cond.soleField "ZlibBox$BitReader" "bytes") ∈ zT := List.mem_filter.mpr ⟨List.mem_append_right _ (List.mem_of_getElem? (i := 41) (by decide +kernel)), by decide +kernel⟩
theorem q_42 : (Jvm.Cond.lays "ZlibBox$BitReader" "ZlibBox$BitReader" "bitEnd" "I") ∈ zT := List.mem_filter.mpr ⟨List.mem_append_right _ (List.mem_of_getElem? (i := 42) (by decide +kernel)), by decide +kernel⟩
theorem q_43 : (Jvm.Cond.soleField "ZlibBox$BitReader" "bitEnd") ∈ zT := List.mem_filter.mpr ⟨List.mem_append_right _ (List.mem_of_getElem? (i := 43) (by decide +kernel)), by decide +kernel⟩
theorem q_44 : (Jvm.Cond.lays "ZlibBox$BitReader" "ZlibBox$BitReader" "place" "I") ∈ zT := List.mem_filter.mpr ⟨List.mem_append_right _ (List.mem_of_getElem? (i := 44) (by decide +kernel)), by decide +kernel⟩
theorem q_45 : (Jvm.Cond.soleField "ZlibBox$BitReader" "place") ∈ zT := List.mem_filter.mpr ⟨List.mem_append_right _ (List.mem_of_getElem? (i := 45) (by decide +kernel)), by decide +kernel⟩
theorem q_46 : (Jvm.Cond.superclass "ZlibBox$BitReader" "java/lang/Object") ∈ zT := List.mem_filter.mpr ⟨List.mem_append_right _ (List.mem_of_getElem? (i := 46) (by decide +kernel)), by decide +kernel⟩
theorem q_47 : (Jvm.Cond.arrayClass Jvm.ClassFile.FieldType.byte) ∈ zT := List.mem_filter.mpr ⟨List.mem_append_right _ (List.mem_of_getElem? (i := 47) (by decide +kernel)), by decide +kernel⟩
theorem q_48 : (Jvm.Cond.classLink "ZlibBox$Unpacker" (18 : Nat) "ZlibBox$Codes") ∈ zT := List.mem_filter.mpr ⟨List.mem_append_right _ (List.mem_of_getElem? (i := 48) (by decide +kernel)), by decide +kernel⟩
theorem q_49 : (Jvm.Cond.instantiable "ZlibBox$Codes" (4 : Nat)) ∈ zT := List.mem_filter.mpr ⟨List.mem_append_right _ (List.mem_of_getElem? (i := 49) (by decide +kernel)), by decide +kernel⟩
theorem q_50 : (Jvm.Cond.methodLink "ZlibBox$Unpacker" (20 : Nat) ({ cls := "ZlibBox$Codes", name := "<init>", desc := "()V" } : Jvm.MethodName)) ∈ zT := List.mem_filter.mpr ⟨List.mem_append_right _ (List.mem_of_getElem? (i := 50) (by decide +kernel)), by decide +kernel⟩
theorem q_51 : (Jvm.Cond.instanceMethod ({ cls := "ZlibBox$Codes", name := "<init>", desc := "()V" } : Jvm.MethodName)) ∈ zT := List.mem_filter.mpr ⟨List.mem_append_right _ (List.mem_of_getElem? (i := 51) (by decide +kernel)), by decide +kernel⟩
theorem q_52 : (Jvm.Cond.code ({ cls := "ZlibBox$Codes", name := "<init>", desc := "()V" } : Jvm.MethodName) prog_3_method_1_code (1 : Nat) (Option.none : Option Jvm.ClassFile.FieldType)) ∈ zT := List.mem_filter.mpr ⟨List.mem_append_right _ (List.mem_of_getElem? (i := 52) (by decide +kernel)), by decide +kernel⟩
theorem q_53 : (Jvm.Cond.methodLink "ZlibBox$Codes" (3 : Nat) ({ cls := "java/lang/Object", name := "<init>", desc := "()V" } : Jvm.MethodName)) ∈ zT := List.mem_filter.mpr ⟨List.mem_append_right _ (List.mem_of_getElem? (i := 53) (by decide +kernel)), by decide +kernel⟩
theorem q_54 : (Jvm.Cond.fieldLink "ZlibBox$Codes" (9 : Nat) "ZlibBox$Codes" "counts" "[I") ∈ zT := List.mem_filter.mpr ⟨List.mem_append_right _ (List.mem_of_getElem? (i := 54) (by decide +kernel)), by decide +kernel⟩
theorem q_55 : (Jvm.Cond.fieldLink "ZlibBox$Codes" (13 : Nat) "ZlibBox$Codes" "meanings" "[I") ∈ zT := List.mem_filter.mpr ⟨List.mem_append_right _ (List.mem_of_getElem? (i := 55) (by decide +kernel)), by decide +kernel⟩
theorem q_56 : (Jvm.Cond.fieldLink "ZlibBox$Codes" (16 : Nat) "ZlibBox$Codes" "places" "[I") ∈ zT := List.mem_filter.mpr ⟨List.mem_append_right _ (List.mem_of_getElem? (i := 56) (by decide +kernel)), by decide +kernel⟩
theorem q_57 : (Jvm.Cond.fieldLink "ZlibBox$Codes" (25 : Nat) "ZlibBox$Codes" "usedWords" "I") ∈ zT := List.mem_filter.mpr ⟨List.mem_append_right _ (List.mem_of_getElem? (i := 57) (by decide +kernel)), by decide +kernel⟩
theorem q_58 : (Jvm.Cond.laysFinal "ZlibBox$Codes" "ZlibBox$Codes" "counts" "[I") ∈ zT := List.mem_filter.mpr ⟨List.mem_append_right _ (List.mem_of_getElem? (i := 58) (by decide +kernel)), by decide +kernel⟩
theorem q_59 : (Jvm.Cond.soleField "ZlibBox$Codes" "counts") ∈ zT := List.mem_filter.mpr ⟨List.mem_append_right _ (List.mem_of_getElem? (i := 59) (by decide +kernel)), by decide +kernel⟩
theorem q_60 : (Jvm.Cond.laysFinal "ZlibBox$Codes" "ZlibBox$Codes" "meanings" "[I") ∈ zT := List.mem_filter.mpr ⟨List.mem_append_right _ (List.mem_of_getElem? (i := 60) (by decide +kernel)), by decide +kernel⟩
theorem q_61 : (Jvm.Cond.soleField "ZlibBox$Codes" "meanings") ∈ zT := List.mem_filter.mpr ⟨List.mem_append_right _ (List.mem_of_getElem? (i := 61) (by decide +kernel)), by decide +kernel⟩
theorem q_62 : (Jvm.Cond.laysFinal "ZlibBox$Codes" "ZlibBox$Codes" "places" "[I") ∈ zT := List.mem_filter.mpr ⟨List.mem_append_right _ (List.mem_of_getElem? (i := 62) (by decide +kernel)), by decide +kernel⟩
theorem q_63 : (Jvm.Cond.soleField "ZlibBox$Codes" "places") ∈ zT := List.mem_filter.mpr ⟨List.mem_append_right _ (List.mem_of_getElem? (i := 63) (by decide +kernel)), by decide +kernel⟩
theorem q_64 : (Jvm.Cond.lays "ZlibBox$Codes" "ZlibBox$Codes" "usedWords" "I") ∈ zT := List.mem_filter.mpr ⟨List.mem_append_right _ (List.mem_of_getElem? (i := 64) (by decide +kernel)), by decide +kernel⟩
theorem q_65 : (Jvm.Cond.soleField "ZlibBox$Codes" "usedWords") ∈ zT := List.mem_filter.mpr ⟨List.mem_append_right _ (List.mem_of_getElem? (i := 65) (by decide +kernel)), by decide +kernel⟩
theorem q_66 : (Jvm.Cond.superclass "ZlibBox$Codes" "java/lang/Object") ∈ zT := List.mem_filter.mpr ⟨List.mem_append_right _ (List.mem_of_getElem? (i := 66) (by decide +kernel)), by decide +kernel⟩
theorem q_67 : (Jvm.Cond.arrayClass Jvm.ClassFile.FieldType.int) ∈ zT := List.mem_filter.mpr ⟨List.mem_append_right _ (List.mem_of_getElem? (i := 67) (by decide +kernel)), by decide +kernel⟩
theorem q_68 : (Jvm.Cond.methodLink "ZlibBox$Unpacker" (45 : Nat) ({ cls := "ZlibBox$Unpacker", name := "makeFixedCodes", desc := "()V" } : Jvm.MethodName)) ∈ zT := List.mem_filter.mpr ⟨List.mem_append_right _ (List.mem_of_getElem? (i := 68) (by decide +kernel)), by decide +kernel⟩
theorem q_70 : (Jvm.Cond.instanceMethod ({ cls := "ZlibBox$Unpacker", name := "makeFixedCodes", desc := "()V" } : Jvm.MethodName)) ∈ zT := List.mem_filter.mpr ⟨List.mem_append_right _ (List.mem_of_getElem? (i := 70) (by decide +kernel)), by decide +kernel⟩
theorem q_71 : (Jvm.Cond.code ({ cls := "ZlibBox$Unpacker", name := "makeFixedCodes", desc := "()V" } : Jvm.MethodName) prog_5_method_3_code (3 : Nat) (Option.none : Option Jvm.ClassFile.FieldType)) ∈ zT := List.mem_filter.mpr ⟨List.mem_append_right _ (List.mem_of_getElem? (i := 71) (by decide +kernel)), by decide +kernel⟩
theorem q_72 : (Jvm.Cond.methodLink "ZlibBox$Unpacker" (65 : Nat) ({ cls := "ZlibBox$Codes", name := "make", desc := "([III)V" } : Jvm.MethodName)) ∈ zT := List.mem_filter.mpr ⟨List.mem_append_right _ (List.mem_of_getElem? (i := 72) (by decide +kernel)), by decide +kernel⟩
theorem q_73 : (Jvm.Cond.instanceMethod ({ cls := "ZlibBox$Codes", name := "make", desc := "([III)V" } : Jvm.MethodName)) ∈ zT := List.mem_filter.mpr ⟨List.mem_append_right _ (List.mem_of_getElem? (i := 73) (by decide +kernel)), by decide +kernel⟩
theorem q_74 : (Jvm.Cond.selects "ZlibBox$Codes" ({ cls := "ZlibBox$Codes", name := "make", desc := "([III)V" } : Jvm.MethodName) ({ cls := "ZlibBox$Codes", name := "make", desc := "([III)V" } : Jvm.MethodName)) ∈ zT := List.mem_filter.mpr ⟨List.mem_append_right _ (List.mem_of_getElem? (i := 74) (by decide +kernel)), by decide +kernel⟩
theorem q_75 : (Jvm.Cond.code ({ cls := "ZlibBox$Codes", name := "make", desc := "([III)V" } : Jvm.MethodName) prog_3_method_2_code (6 : Nat) (Option.none : Option Jvm.ClassFile.FieldType)) ∈ zT := List.mem_filter.mpr ⟨List.mem_append_right _ (List.mem_of_getElem? (i := 75) (by decide +kernel)), by decide +kernel⟩
theorem q_76 : (Jvm.Cond.methodLink "ZlibBox$Codes" (19 : Nat) ({ cls := "java/util/Arrays", name := "fill", desc := "([II)V" } : Jvm.MethodName)) ∈ zT := List.mem_filter.mpr ⟨List.mem_append_right _ (List.mem_of_getElem? (i := 76) (by decide +kernel)), by decide +kernel⟩
theorem q_77 : (Jvm.Cond.static ({ cls := "java/util/Arrays", name := "fill", desc := "([II)V" } : Jvm.MethodName)) ∈ zT := List.mem_filter.mpr ⟨List.mem_append_right _ (List.mem_of_getElem? (i := 77) (by decide +kernel)), by decide +kernel⟩
theorem q_78 : (Jvm.Cond.code ({ cls := "java/util/Arrays", name := "fill", desc := "([II)V" } : Jvm.MethodName) prog_18_method_103_code (4 : Nat) (Option.none : Option Jvm.ClassFile.FieldType)) ∈ zT := List.mem_filter.mpr ⟨List.mem_append_right _ (List.mem_of_getElem? (i := 78) (by decide +kernel)), by decide +kernel⟩
theorem q_79 : (Jvm.Cond.constant "ZlibBox$Codes" (29 : Nat) (32768 : Int32)) ∈ zT := List.mem_filter.mpr ⟨List.mem_append_right _ (List.mem_of_getElem? (i := 79) (by decide +kernel)), by decide +kernel⟩
theorem q_80 : (Jvm.Cond.methodLink "ZlibBox$Unpacker" (69 : Nat) ({ cls := "java/util/Arrays", name := "fill", desc := "([II)V" } : Jvm.MethodName)) ∈ zT := List.mem_filter.mpr ⟨List.mem_append_right _ (List.mem_of_getElem? (i := 80) (by decide +kernel)), by decide +kernel⟩
theorem q_81 : (Jvm.Cond.fieldLink "ZlibBox$Unpacker" (12 : Nat) "ZlibBox$Unpacker" "in" "LZlibBox$BitReader;") ∈ zT := List.mem_filter.mpr ⟨List.mem_append_right _ (List.mem_of_getElem? (i := 81) (by decide +kernel)), by decide +kernel⟩
theorem q_82 : (Jvm.Cond.fieldLink "ZlibBox$Unpacker" (21 : Nat) "ZlibBox$Unpacker" "fixedLiterals" "LZlibBox$Codes;") ∈ zT := List.mem_filter.mpr ⟨List.mem_append_right _ (List.mem_of_getElem? (i := 82) (by decide +kernel)), by decide +kernel⟩
theorem q_83 : (Jvm.Cond.fieldLink "ZlibBox$Unpacker" (25 : Nat) "ZlibBox$Unpacker" "fixedDistances" "LZlibBox$Codes;") ∈ zT := List.mem_filter.mpr ⟨List.mem_append_right _ (List.mem_of_getElem? (i := 83) (by decide +kernel)), by decide +kernel⟩
theorem q_84 : (Jvm.Cond.fieldLink "ZlibBox$Unpacker" (28 : Nat) "ZlibBox$Unpacker" "literals" "LZlibBox$Codes;") ∈ zT := List.mem_filter.mpr ⟨List.mem_append_right _ (List.mem_of_getElem? (i := 84) (by decide +kernel)), by decide +kernel⟩
theorem q_85 : (Jvm.Cond.fieldLink "ZlibBox$Unpacker" (31 : Nat) "ZlibBox$Unpacker" "distances" "LZlibBox$Codes;") ∈ zT := List.mem_filter.mpr ⟨List.mem_append_right _ (List.mem_of_getElem? (i := 85) (by decide +kernel)), by decide +kernel⟩
theorem q_86 : (Jvm.Cond.fieldLink "ZlibBox$Unpacker" (34 : Nat) "ZlibBox$Unpacker" "lengthCodes" "LZlibBox$Codes;") ∈ zT := List.mem_filter.mpr ⟨List.mem_append_right _ (List.mem_of_getElem? (i := 86) (by decide +kernel)), by decide +kernel⟩
theorem q_87 : (Jvm.Cond.fieldLink "ZlibBox$Unpacker" (37 : Nat) "ZlibBox$Unpacker" "lengths" "[I") ∈ zT := List.mem_filter.mpr ⟨List.mem_append_right _ (List.mem_of_getElem? (i := 87) (by decide +kernel)), by decide +kernel⟩
theorem q_88 : (Jvm.Cond.fieldLink "ZlibBox$Unpacker" (41 : Nat) "ZlibBox$Unpacker" "out" "[B") ∈ zT := List.mem_filter.mpr ⟨List.mem_append_right _ (List.mem_of_getElem? (i := 88) (by decide +kernel)), by decide +kernel⟩
theorem q_89 : (Jvm.Cond.fieldLink "ZlibBox$Unpacker" (52 : Nat) "ZlibBox$Unpacker" "written" "I") ∈ zT := List.mem_filter.mpr ⟨List.mem_append_right _ (List.mem_of_getElem? (i := 89) (by decide +kernel)), by decide +kernel⟩
theorem q_90 : (Jvm.Cond.laysFinal "ZlibBox$Unpacker" "ZlibBox$Unpacker" "in" "LZlibBox$BitReader;") ∈ zT := List.mem_filter.mpr ⟨List.mem_append_right _ (List.mem_of_getElem? (i := 90) (by decide +kernel)), by decide +kernel⟩
theorem q_91 : (Jvm.Cond.soleField "ZlibBox$Unpacker" "in") ∈ zT := List.mem_filter.mpr ⟨List.mem_append_right _ (List.mem_of_getElem? (i := 91) (by decide +kernel)), by decide +kernel⟩
theorem q_92 : (Jvm.Cond.laysFinal "ZlibBox$Unpacker" "ZlibBox$Unpacker" "fixedLiterals" "LZlibBox$Codes;") ∈ zT := List.mem_filter.mpr ⟨List.mem_append_right _ (List.mem_of_getElem? (i := 92) (by decide +kernel)), by decide +kernel⟩
theorem q_93 : (Jvm.Cond.soleField "ZlibBox$Unpacker" "fixedLiterals") ∈ zT := List.mem_filter.mpr ⟨List.mem_append_right _ (List.mem_of_getElem? (i := 93) (by decide +kernel)), by decide +kernel⟩
theorem q_94 : (Jvm.Cond.laysFinal "ZlibBox$Unpacker" "ZlibBox$Unpacker" "fixedDistances" "LZlibBox$Codes;") ∈ zT := List.mem_filter.mpr ⟨List.mem_append_right _ (List.mem_of_getElem? (i := 94) (by decide +kernel)), by decide +kernel⟩
theorem q_95 : (Jvm.Cond.soleField "ZlibBox$Unpacker" "fixedDistances") ∈ zT := List.mem_filter.mpr ⟨List.mem_append_right _ (List.mem_of_getElem? (i := 95) (by decide +kernel)), by decide +kernel⟩
theorem q_96 : (Jvm.Cond.laysFinal "ZlibBox$Unpacker" "ZlibBox$Unpacker" "literals" "LZlibBox$Codes;") ∈ zT := List.mem_filter.mpr ⟨List.mem_append_right _ (List.mem_of_getElem? (i := 96) (by decide +kernel)), by decide +kernel⟩
theorem q_97 : (Jvm.Cond.soleField "ZlibBox$Unpacker" "literals") ∈ zT := List.mem_filter.mpr ⟨List.mem_append_right _ (List.mem_of_getElem? (i := 97) (by decide +kernel)), by decide +kernel⟩
theorem q_98 : (Jvm.Cond.laysFinal "ZlibBox$Unpacker" "ZlibBox$Unpacker" "distances" "LZlibBox$Codes;") ∈ zT := List.mem_filter.mpr ⟨List.mem_append_right _ (List.mem_of_getElem? (i := 98) (by decide +kernel)), by decide +kernel⟩
theorem q_99 : (Jvm.Cond.soleField "ZlibBox$Unpacker" "distances") ∈ zT := List.mem_filter.mpr ⟨List.mem_append_right _ (List.mem_of_getElem? (i := 99) (by decide +kernel)), by decide +kernel⟩
theorem q_100 : (Jvm.Cond.laysFinal "ZlibBox$Unpacker" "ZlibBox$Unpacker" "lengthCodes" "LZlibBox$Codes;") ∈ zT := List.mem_filter.mpr ⟨List.mem_append_right _ (List.mem_of_getElem? (i := 100) (by decide +kernel)), by decide +kernel⟩
theorem q_101 : (Jvm.Cond.soleField "ZlibBox$Unpacker" "lengthCodes") ∈ zT := List.mem_filter.mpr ⟨List.mem_append_right _ (List.mem_of_getElem? (i := 101) (by decide +kernel)), by decide +kernel⟩
theorem q_102 : (Jvm.Cond.laysFinal "ZlibBox$Unpacker" "ZlibBox$Unpacker" "lengths" "[I") ∈ zT := List.mem_filter.mpr ⟨List.mem_append_right _ (List.mem_of_getElem? (i := 102) (by decide +kernel)), by decide +kernel⟩
theorem q_103 : (Jvm.Cond.soleField "ZlibBox$Unpacker" "lengths") ∈ zT := List.mem_filter.mpr ⟨List.mem_append_right _ (List.mem_of_getElem? (i := 103) (by decide +kernel)), by decide +kernel⟩
theorem q_104 : (Jvm.Cond.lays "ZlibBox$Unpacker" "ZlibBox$Unpacker" "out" "[B") ∈ zT := List.mem_filter.mpr ⟨List.mem_append_right _ (List.mem_of_getElem? (i := 104) (by decide +kernel)), by decide +kernel⟩
theorem q_105 : (Jvm.Cond.soleField "ZlibBox$Unpacker" "out") ∈ zT := List.mem_filter.mpr ⟨List.mem_append_right _ (List.mem_of_getElem? (i := 105) (by decide +kernel)), by decide +kernel⟩
theorem q_106 : (Jvm.Cond.lays "ZlibBox$Unpacker" "ZlibBox$Unpacker" "written" "I") ∈ zT := List.mem_filter.mpr ⟨List.mem_append_right _ (List.mem_of_getElem? (i := 106) (by decide +kernel)), by decide +kernel⟩
theorem q_107 : (Jvm.Cond.soleField "ZlibBox$Unpacker" "written") ∈ zT := List.mem_filter.mpr ⟨List.mem_append_right _ (List.mem_of_getElem? (i := 107) (by decide +kernel)), by decide +kernel⟩
theorem q_108 : (Jvm.Cond.superclass "ZlibBox$Unpacker" "java/lang/Object") ∈ zT := List.mem_filter.mpr ⟨List.mem_append_right _ (List.mem_of_getElem? (i := 108) (by decide +kernel)), by decide +kernel⟩
theorem q_109 : (Jvm.Cond.classLink "ZlibBox" (26 : Nat) "ZlibBox$Packer") ∈ zT := List.mem_filter.mpr ⟨List.mem_append_right _ (List.mem_of_getElem? (i := 109) (by decide +kernel)), by decide +kernel⟩
theorem q_110 : (Jvm.Cond.instantiable "ZlibBox$Packer" (10 : Nat)) ∈ zT := List.mem_filter.mpr ⟨List.mem_append_right _ (List.mem_of_getElem? (i := 110) (by decide +kernel)), by decide +kernel⟩
theorem q_111 : (Jvm.Cond.methodLink "ZlibBox" (28 : Nat) ({ cls := "ZlibBox$Packer", name := "<init>", desc := "()V" } : Jvm.MethodName)) ∈ zT := List.mem_filter.mpr ⟨List.mem_append_right _ (List.mem_of_getElem? (i := 111) (by decide +kernel)), by decide +kernel⟩
theorem q_112 : (Jvm.Cond.instanceMethod ({ cls := "ZlibBox$Packer", name := "<init>", desc := "()V" } : Jvm.MethodName)) ∈ zT := List.mem_filter.mpr ⟨List.mem_append_right _ (List.mem_of_getElem? (i := 112) (by decide +kernel)), by decide +kernel⟩
theorem q_113 : (Jvm.Cond.code ({ cls := "ZlibBox$Packer", name := "<init>", desc := "()V" } : Jvm.MethodName) prog_4_method_1_code (1 : Nat) (Option.none : Option Jvm.ClassFile.FieldType)) ∈ zT := List.mem_filter.mpr ⟨List.mem_append_right _ (List.mem_of_getElem? (i := 113) (by decide +kernel)), by decide +kernel⟩
theorem q_114 : (Jvm.Cond.methodLink "ZlibBox$Packer" (3 : Nat) ({ cls := "java/lang/Object", name := "<init>", desc := "()V" } : Jvm.MethodName)) ∈ zT := List.mem_filter.mpr ⟨List.mem_append_right _ (List.mem_of_getElem? (i := 114) (by decide +kernel)), by decide +kernel⟩
theorem q_115 : (Jvm.Cond.fieldLink "ZlibBox$Packer" (11 : Nat) "ZlibBox$Packer" "newest" "[I") ∈ zT := List.mem_filter.mpr ⟨List.mem_append_right _ (List.mem_of_getElem? (i := 115) (by decide +kernel)), by decide +kernel⟩
theorem q_116 : (Jvm.Cond.fieldLink "ZlibBox$Packer" (15 : Nat) "ZlibBox$Packer" "older" "[I") ∈ zT := List.mem_filter.mpr ⟨List.mem_append_right _ (List.mem_of_getElem? (i := 116) (by decide +kernel)), by decide +kernel⟩
theorem q_117 : (Jvm.Cond.fieldLink "ZlibBox$Packer" (18 : Nat) "ZlibBox$Packer" "in" "[B") ∈ zT := List.mem_filter.mpr ⟨List.mem_append_right _ (List.mem_of_getElem? (i := 117) (by decide +kernel)), by decide +kernel⟩
theorem q_118 : (Jvm.Cond.fieldLink "ZlibBox$Packer" (63 : Nat) "ZlibBox$Packer" "inLength" "I") ∈ zT := List.mem_filter.mpr ⟨List.mem_append_right _ (List.mem_of_getElem? (i := 118) (by decide +kernel)), by decide +kernel⟩
theorem q_119 : (Jvm.Cond.fieldLink "ZlibBox$Packer" (22 : Nat) "ZlibBox$Packer" "out" "[B") ∈ zT := List.mem_filter.mpr ⟨List.mem_append_right _ (List.mem_of_getElem? (i := 119) (by decide +kernel)), by decide +kernel⟩
theorem q_120 : (Jvm.Cond.fieldLink "ZlibBox$Packer" (53 : Nat) "ZlibBox$Packer" "written" "I") ∈ zT := List.mem_filter.mpr ⟨List.mem_append_right _ (List.mem_of_getElem? (i := 120) (by decide +kernel)), by decide +kernel⟩
theorem q_121 : (Jvm.Cond.fieldLink "ZlibBox$Packer" (66 : Nat) "ZlibBox$Packer" "heldBits" "I") ∈ zT := List.mem_filter.mpr ⟨List.mem_append_right _ (List.mem_of_getElem? (i := 121) (by decide +kernel)), by decide +kernel⟩
theorem q_122 : (Jvm.Cond.fieldLink "ZlibBox$Packer" (69 : Nat) "ZlibBox$Packer" "heldCount" "I") ∈ zT := List.mem_filter.mpr ⟨List.mem_append_right _ (List.mem_of_getElem? (i := 122) (by decide +kernel)), by decide +kernel⟩
theorem q_123 : (Jvm.Cond.fieldLink "ZlibBox$Packer" (75 : Nat) "ZlibBox$Packer" "copyLength" "I") ∈ zT := List.mem_filter.mpr ⟨List.mem_append_right _ (List.mem_of_getElem? (i := 123) (by decide +kernel)), by decide +kernel⟩
theorem q_124 : (Jvm.Cond.fieldLink "ZlibBox$Packer" (101 : Nat) "ZlibBox$Packer" "copyDistance" "I") ∈ zT := List.mem_filter.mpr ⟨List.mem_append_right _ (List.mem_of_getElem? (i := 124) (by decide +kernel)), by decide +kernel⟩
theorem q_125 : (Jvm.Cond.laysFinal "ZlibBox$Packer" "ZlibBox$Packer" "newest" "[I") ∈ zT := List.mem_filter.mpr ⟨List.mem_append_right _ (List.mem_of_getElem? (i := 125) (by decide +kernel)), by decide +kernel⟩
theorem q_126 : (Jvm.Cond.soleField "ZlibBox$Packer" "newest") ∈ zT := List.mem_filter.mpr ⟨List.mem_append_right _ (List.mem_of_getElem? (i := 126) (by decide +kernel)), by decide +kernel⟩
theorem q_127 : (Jvm.Cond.laysFinal "ZlibBox$Packer" "ZlibBox$Packer" "older" "[I") ∈ zT := List.mem_filter.mpr ⟨List.mem_append_right _ (List.mem_of_getElem? (i := 127) (by decide +kernel)), by decide +kernel⟩
theorem q_128 : (Jvm.Cond.soleField "ZlibBox$Packer" "older") ∈ zT := List.mem_filter.mpr ⟨List.mem_append_right _ (List.mem_of_getElem? (i := 128) (by decide +kernel)), by decide +kernel⟩
theorem q_129 : (Jvm.Cond.lays "ZlibBox$Packer" "ZlibBox$Packer" "in" "[B") ∈ zT := List.mem_filter.mpr ⟨List.mem_append_right _ (List.mem_of_getElem? (i := 129) (by decide +kernel)), by decide +kernel⟩
theorem q_130 : (Jvm.Cond.soleField "ZlibBox$Packer" "in") ∈ zT := List.mem_filter.mpr ⟨List.mem_append_right _ (List.mem_of_getElem? (i := 130) (by decide +kernel)), by decide +kernel⟩
theorem q_131 : (Jvm.Cond.lays "ZlibBox$Packer" "ZlibBox$Packer" "inLength" "I") ∈ zT := List.mem_filter.mpr ⟨List.mem_append_right _ (List.mem_of_getElem? (i := 131) (by decide +kernel)), by decide +kernel⟩
theorem q_132 : (Jvm.Cond.soleField "ZlibBox$Packer" "inLength") ∈ zT := List.mem_filter.mpr ⟨List.mem_append_right _ (List.mem_of_getElem? (i := 132) (by decide +kernel)), by decide +kernel⟩
theorem q_133 : (Jvm.Cond.lays "ZlibBox$Packer" "ZlibBox$Packer" "out" "[B") ∈ zT := List.mem_filter.mpr ⟨List.mem_append_right _ (List.mem_of_getElem? (i := 133) (by decide +kernel)), by decide +kernel⟩
theorem q_134 : (Jvm.Cond.soleField "ZlibBox$Packer" "out") ∈ zT := List.mem_filter.mpr ⟨List.mem_append_right _ (List.mem_of_getElem? (i := 134) (by decide +kernel)), by decide +kernel⟩
theorem q_135 : (Jvm.Cond.lays "ZlibBox$Packer" "ZlibBox$Packer" "written" "I") ∈ zT := List.mem_filter.mpr ⟨List.mem_append_right _ (List.mem_of_getElem? (i := 135) (by decide +kernel)), by decide +kernel⟩
theorem q_136 : (Jvm.Cond.soleField "ZlibBox$Packer" "written") ∈ zT := List.mem_filter.mpr ⟨List.mem_append_right _ (List.mem_of_getElem? (i := 136) (by decide +kernel)), by decide +kernel⟩
theorem q_137 : (Jvm.Cond.lays "ZlibBox$Packer" "ZlibBox$Packer" "heldBits" "I") ∈ zT := List.mem_filter.mpr ⟨List.mem_append_right _ (List.mem_of_getElem? (i := 137) (by decide +kernel)), by decide +kernel⟩
theorem q_138 : (Jvm.Cond.soleField "ZlibBox$Packer" "heldBits") ∈ zT := List.mem_filter.mpr ⟨List.mem_append_right _ (List.mem_of_getElem? (i := 138) (by decide +kernel)), by decide +kernel⟩
theorem q_139 : (Jvm.Cond.lays "ZlibBox$Packer" "ZlibBox$Packer" "heldCount" "I") ∈ zT := List.mem_filter.mpr ⟨List.mem_append_right _ (List.mem_of_getElem? (i := 139) (by decide +kernel)), by decide +kernel⟩
theorem q_140 : (Jvm.Cond.soleField "ZlibBox$Packer" "heldCount") ∈ zT := List.mem_filter.mpr ⟨List.mem_append_right _ (List.mem_of_getElem? (i := 140) (by decide +kernel)), by decide +kernel⟩
theorem q_141 : (Jvm.Cond.lays "ZlibBox$Packer" "ZlibBox$Packer" "copyLength" "I") ∈ zT := List.mem_filter.mpr ⟨List.mem_append_right _ (List.mem_of_getElem? (i := 141) (by decide +kernel)), by decide +kernel⟩
theorem q_142 : (Jvm.Cond.soleField "ZlibBox$Packer" "copyLength") ∈ zT := List.mem_filter.mpr ⟨List.mem_append_right _ (List.mem_of_getElem? (i := 142) (by decide +kernel)), by decide +kernel⟩
theorem q_143 : (Jvm.Cond.lays "ZlibBox$Packer" "ZlibBox$Packer" "copyDistance" "I") ∈ zT := List.mem_filter.mpr ⟨List.mem_append_right _ (List.mem_of_getElem? (i := 143) (by decide +kernel)), by decide +kernel⟩
theorem q_144 : (Jvm.Cond.soleField "ZlibBox$Packer" "copyDistance") ∈ zT := List.mem_filter.mpr ⟨List.mem_append_right _ (List.mem_of_getElem? (i := 144) (by decide +kernel)), by decide +kernel⟩
theorem q_145 : (Jvm.Cond.superclass "ZlibBox$Packer" "java/lang/Object") ∈ zT := List.mem_filter.mpr ⟨List.mem_append_right _ (List.mem_of_getElem? (i := 145) (by decide +kernel)), by decide +kernel⟩
theorem q_146 : (Jvm.Cond.fieldLink "ZlibBox" (9 : Nat) "ZlibBox" "tape" "[B") ∈ zT := List.mem_filter.mpr ⟨List.mem_append_right _ (List.mem_of_getElem? (i := 146) (by decide +kernel)), by decide +kernel⟩
theorem q_147 : (Jvm.Cond.fieldLink "ZlibBox" (33 : Nat) "ZlibBox" "tapeLength" "I") ∈ zT := List.mem_filter.mpr ⟨List.mem_append_right _ (List.mem_of_getElem? (i := 147) (by decide +kernel)), by decide +kernel⟩
theorem q_148 : (Jvm.Cond.fieldLink "ZlibBox" (13 : Nat) "ZlibBox" "result" "[B") ∈ zT := List.mem_filter.mpr ⟨List.mem_append_right _ (List.mem_of_getElem? (i := 148) (by decide +kernel)), by decide +kernel⟩
theorem q_149 : (Jvm.Cond.fieldLink "ZlibBox" (53 : Nat) "ZlibBox" "resultLength" "I") ∈ zT := List.mem_filter.mpr ⟨List.mem_append_right _ (List.mem_of_getElem? (i := 149) (by decide +kernel)), by decide +kernel⟩
theorem q_150 : (Jvm.Cond.fieldLink "ZlibBox" (16 : Nat) "ZlibBox" "draft" "[B") ∈ zT := List.mem_filter.mpr ⟨List.mem_append_right _ (List.mem_of_getElem? (i := 150) (by decide +kernel)), by decide +kernel⟩
theorem q_151 : (Jvm.Cond.fieldLink "ZlibBox" (22 : Nat) "ZlibBox" "unpacker" "LZlibBox$Unpacker;") ∈ zT := List.mem_filter.mpr ⟨List.mem_append_right _ (List.mem_of_getElem? (i := 151) (by decide +kernel)), by decide +kernel⟩
theorem q_152 : (Jvm.Cond.fieldLink "ZlibBox" (29 : Nat) "ZlibBox" "packer" "LZlibBox$Packer;") ∈ zT := List.mem_filter.mpr ⟨List.mem_append_right _ (List.mem_of_getElem? (i := 152) (by decide +kernel)), by decide +kernel⟩
theorem q_153 : (Jvm.Cond.laysFinal "ZlibBox" "ZlibBox" "tape" "[B") ∈ zT := List.mem_filter.mpr ⟨List.mem_append_right _ (List.mem_of_getElem? (i := 153) (by decide +kernel)), by decide +kernel⟩
theorem q_154 : (Jvm.Cond.soleField "ZlibBox" "tape") ∈ zT := List.mem_filter.mpr ⟨List.mem_append_right _ (List.mem_of_getElem? (i := 154) (by decide +kernel)), by decide +kernel⟩
theorem q_155 : (Jvm.Cond.lays "ZlibBox" "ZlibBox" "tapeLength" "I") ∈ zT := List.mem_filter.mpr ⟨List.mem_append_right _ (List.mem_of_getElem? (i := 155) (by decide +kernel)), by decide +kernel⟩
theorem q_156 : (Jvm.Cond.soleField "ZlibBox" "tapeLength") ∈ zT := List.mem_filter.mpr ⟨List.mem_append_right _ (List.mem_of_getElem? (i := 156) (by decide +kernel)), by decide +kernel⟩
theorem q_157 : (Jvm.Cond.lays "ZlibBox" "ZlibBox" "result" "[B") ∈ zT := List.mem_filter.mpr ⟨List.mem_append_right _ (List.mem_of_getElem? (i := 157) (by decide +kernel)), by decide +kernel⟩
theorem q_158 : (Jvm.Cond.soleField "ZlibBox" "result") ∈ zT := List.mem_filter.mpr ⟨List.mem_append_right _ (List.mem_of_getElem? (i := 158) (by decide +kernel)), by decide +kernel⟩
theorem q_159 : (Jvm.Cond.lays "ZlibBox" "ZlibBox" "resultLength" "I") ∈ zT := List.mem_filter.mpr ⟨List.mem_append_right _ (List.mem_of_getElem? (i := 159) (by decide +kernel)), by decide +kernel⟩
theorem q_160 : (Jvm.Cond.soleField "ZlibBox" "resultLength") ∈ zT := List.mem_filter.mpr ⟨List.mem_append_right _ (List.mem_of_getElem? (i := 160) (by decide +kernel)), by decide +kernel⟩
theorem q_161 : (Jvm.Cond.lays "ZlibBox" "ZlibBox" "draft" "[B") ∈ zT := List.mem_filter.mpr ⟨List.mem_append_right _ (List.mem_of_getElem? (i := 161) (by decide +kernel)), by decide +kernel⟩
theorem q_162 : (Jvm.Cond.soleField "ZlibBox" "draft") ∈ zT := List.mem_filter.mpr ⟨List.mem_append_right _ (List.mem_of_getElem? (i := 162) (by decide +kernel)), by decide +kernel⟩
theorem q_163 : (Jvm.Cond.laysFinal "ZlibBox" "ZlibBox" "unpacker" "LZlibBox$Unpacker;") ∈ zT := List.mem_filter.mpr ⟨List.mem_append_right _ (List.mem_of_getElem? (i := 163) (by decide +kernel)), by decide +kernel⟩
theorem q_164 : (Jvm.Cond.soleField "ZlibBox" "unpacker") ∈ zT := List.mem_filter.mpr ⟨List.mem_append_right _ (List.mem_of_getElem? (i := 164) (by decide +kernel)), by decide +kernel⟩
theorem q_165 : (Jvm.Cond.laysFinal "ZlibBox" "ZlibBox" "packer" "LZlibBox$Packer;") ∈ zT := List.mem_filter.mpr ⟨List.mem_append_right _ (List.mem_of_getElem? (i := 165) (by decide +kernel)), by decide +kernel⟩
theorem q_166 : (Jvm.Cond.soleField "ZlibBox" "packer") ∈ zT := List.mem_filter.mpr ⟨List.mem_append_right _ (List.mem_of_getElem? (i := 166) (by decide +kernel)), by decide +kernel⟩
theorem q_167 : (Jvm.Cond.superclass "ZlibBox" "java/lang/Object") ∈ zT := List.mem_filter.mpr ⟨List.mem_append_right _ (List.mem_of_getElem? (i := 167) (by decide +kernel)), by decide +kernel⟩
theorem q_168 : (Jvm.Cond.methodLink "ZlibBoxLaw" (54 : Nat) ({ cls := "ZlibBox", name := "again", desc := "()I" } : Jvm.MethodName)) ∈ zT := List.mem_filter.mpr ⟨List.mem_append_right _ (List.mem_of_getElem? (i := 168) (by decide +kernel)), by decide +kernel⟩
theorem q_169 : (Jvm.Cond.instanceMethod ({ cls := "ZlibBox", name := "again", desc := "()I" } : Jvm.MethodName)) ∈ zT := List.mem_filter.mpr ⟨List.mem_append_right _ (List.mem_of_getElem? (i := 169) (by decide +kernel)), by decide +kernel⟩
theorem q_170 : (Jvm.Cond.selects "ZlibBox" ({ cls := "ZlibBox", name := "again", desc := "()I" } : Jvm.MethodName) ({ cls := "ZlibBox", name := "again", desc := "()I" } : Jvm.MethodName)) ∈ zT := List.mem_filter.mpr ⟨List.mem_append_right _ (List.mem_of_getElem? (i := 170) (by decide +kernel)), by decide +kernel⟩
theorem q_171 : (Jvm.Cond.code ({ cls := "ZlibBox", name := "again", desc := "()I" } : Jvm.MethodName) prog_1_method_4_code (1 : Nat) (Option.some Jvm.ClassFile.FieldType.int)) ∈ zT := List.mem_filter.mpr ⟨List.mem_append_right _ (List.mem_of_getElem? (i := 171) (by decide +kernel)), by decide +kernel⟩
theorem q_172 : (Jvm.Cond.methodLink "ZlibBox" (56 : Nat) ({ cls := "java/lang/System", name := "arraycopy", desc := "(Ljava/lang/Object;ILjava/lang/Object;II)V" } : Jvm.MethodName)) ∈ zT := List.mem_filter.mpr ⟨List.mem_append_right _ (List.mem_of_getElem? (i := 172) (by decide +kernel)), by decide +kernel⟩
theorem q_173 : (Jvm.Cond.static ({ cls := "java/lang/System", name := "arraycopy", desc := "(Ljava/lang/Object;ILjava/lang/Object;II)V" } : Jvm.MethodName)) ∈ zT := List.mem_filter.mpr ⟨List.mem_append_right _ (List.mem_of_getElem? (i := 173) (by decide +kernel)), by decide +kernel⟩
theorem q_174 : (Jvm.Cond.native ({ cls := "java/lang/System", name := "arraycopy", desc := "(Ljava/lang/Object;ILjava/lang/Object;II)V" } : Jvm.MethodName)) ∈ zT := List.mem_filter.mpr ⟨List.mem_append_right _ (List.mem_of_getElem? (i := 174) (by decide +kernel)), by decide +kernel⟩
theorem q_175 : (Jvm.Cond.methodLink "ZlibBoxLaw" (65 : Nat) ({ cls := "ZlibBox", name := "adler", desc := "()I" } : Jvm.MethodName)) ∈ zT := List.mem_filter.mpr ⟨List.mem_append_right _ (List.mem_of_getElem? (i := 175) (by decide +kernel)), by decide +kernel⟩
theorem q_176 : (Jvm.Cond.instanceMethod ({ cls := "ZlibBox", name := "adler", desc := "()I" } : Jvm.MethodName)) ∈ zT := List.mem_filter.mpr ⟨List.mem_append_right _ (List.mem_of_getElem? (i := 176) (by decide +kernel)), by decide +kernel⟩
theorem q_177 : (Jvm.Cond.selects "ZlibBox" ({ cls := "ZlibBox", name := "adler", desc := "()I" } : Jvm.MethodName) ({ cls := "ZlibBox", name := "adler", desc := "()I" } : Jvm.MethodName)) ∈ zT := List.mem_filter.mpr ⟨List.mem_append_right _ (List.mem_of_getElem? (i := 177) (by decide +kernel)), by decide +kernel⟩
theorem q_178 : (Jvm.Cond.code ({ cls := "ZlibBox", name := "adler", desc := "()I" } : Jvm.MethodName) prog_1_method_7_code (1 : Nat) (Option.some Jvm.ClassFile.FieldType.int)) ∈ zT := List.mem_filter.mpr ⟨List.mem_append_right _ (List.mem_of_getElem? (i := 178) (by decide +kernel)), by decide +kernel⟩
theorem q_179 : (Jvm.Cond.methodLink "ZlibBox" (73 : Nat) ({ cls := "ZlibBox", name := "adlerOf", desc := "([BI)I" } : Jvm.MethodName)) ∈ zT := List.mem_filter.mpr ⟨List.mem_append_right _ (List.mem_of_getElem? (i := 179) (by decide +kernel)), by decide +kernel⟩
theorem q_180 : (Jvm.Cond.static ({ cls := "ZlibBox", name := "adlerOf", desc := "([BI)I" } : Jvm.MethodName)) ∈ zT := List.mem_filter.mpr ⟨List.mem_append_right _ (List.mem_of_getElem? (i := 180) (by decide +kernel)), by decide +kernel⟩
theorem q_181 : (Jvm.Cond.code ({ cls := "ZlibBox", name := "adlerOf", desc := "([BI)I" } : Jvm.MethodName) prog_1_method_12_code (5 : Nat) (Option.some Jvm.ClassFile.FieldType.int)) ∈ zT := List.mem_filter.mpr ⟨List.mem_append_right _ (List.mem_of_getElem? (i := 181) (by decide +kernel)), by decide +kernel⟩
theorem q_182 : (Jvm.Cond.constant "ZlibBox" (81 : Nat) (65521 : Int32)) ∈ zT := List.mem_filter.mpr ⟨List.mem_append_right _ (List.mem_of_getElem? (i := 182) (by decide +kernel)), by decide +kernel⟩
theorem q_183 : (Jvm.Cond.methodLink "ZlibBoxLaw" (41 : Nat) ({ cls := "ZlibBoxLaw", name := "feed", desc := "(LZlibBox;IIIII[J)I" } : Jvm.MethodName)) ∈ zT := List.mem_filter.mpr ⟨List.mem_append_right _ (List.mem_of_getElem? (i := 183) (by decide +kernel)), by decide +kernel⟩
theorem q_184 : (Jvm.Cond.static ({ cls := "ZlibBoxLaw", name := "feed", desc := "(LZlibBox;IIIII[J)I" } : Jvm.MethodName)) ∈ zT := List.mem_filter.mpr ⟨List.mem_append_right _ (List.mem_of_getElem? (i := 184) (by decide +kernel)), by decide +kernel⟩
theorem q_185 : (Jvm.Cond.codeWith ({ cls := "ZlibBoxLaw", name := "feed", desc := "(LZlibBox;IIIII[J)I" } : Jvm.MethodName) method_3_code (8 : Nat) (Option.some Jvm.ClassFile.FieldType.int) [((0 : Nat), (16 : Nat), (19 : Nat), (13 : Nat))]) ∈ zT := List.mem_filter.mpr ⟨List.mem_append_right _ (List.mem_of_getElem? (i := 185) (by decide +kernel)), by decide +kernel⟩
theorem q_186 : (Jvm.Cond.classLink "ZlibBoxLaw" (13 : Nat) "java/lang/IndexOutOfBoundsException") ∈ zT := List.mem_filter.mpr ⟨List.mem_append_right _ (List.mem_of_getElem? (i := 186) (by decide +kernel)), by decide +kernel⟩
theorem q_187 : (Jvm.Cond.methodLink "ZlibBoxLaw" (7 : Nat) ({ cls := "ZlibBox", name := "feed", desc := "(IIIII)I" } : Jvm.MethodName)) ∈ zT := List.mem_filter.mpr ⟨List.mem_append_right _ (List.mem_of_getElem? (i := 187) (by decide +kernel)), by decide +kernel⟩
theorem q_188 : (Jvm.Cond.instanceMethod ({ cls := "ZlibBox", name := "feed", desc := "(IIIII)I" } : Jvm.MethodName)) ∈ zT := List.mem_filter.mpr ⟨List.mem_append_right _ (List.mem_of_getElem? (i := 188) (by decide +kernel)), by decide +kernel⟩
theorem q_189 : (Jvm.Cond.selects "ZlibBox" ({ cls := "ZlibBox", name := "feed", desc := "(IIIII)I" } : Jvm.MethodName) ({ cls := "ZlibBox", name := "feed", desc := "(IIIII)I" } : Jvm.MethodName)) ∈ zT := List.mem_filter.mpr ⟨List.mem_append_right _ (List.mem_of_getElem? (i := 189) (by decide +kernel)), by decide +kernel⟩
theorem q_190 : (Jvm.Cond.code ({ cls := "ZlibBox", name := "feed", desc := "(IIIII)I" } : Jvm.MethodName) prog_1_method_2_code (6 : Nat) (Option.some Jvm.ClassFile.FieldType.int)) ∈ zT := List.mem_filter.mpr ⟨List.mem_append_right _ (List.mem_of_getElem? (i := 190) (by decide +kernel)), by decide +kernel⟩
theorem q_191 : (Jvm.Cond.classLink "ZlibBox" (37 : Nat) "java/lang/IndexOutOfBoundsException") ∈ zT := List.mem_filter.mpr ⟨List.mem_append_right _ (List.mem_of_getElem? (i := 191) (by decide +kernel)), by decide +kernel⟩
theorem q_192 : (Jvm.Cond.instantiable "java/lang/IndexOutOfBoundsException" (6 : Nat)) ∈ zT := List.mem_filter.mpr ⟨List.mem_append_right _ (List.mem_of_getElem? (i := 192) (by decide +kernel)), by decide +kernel⟩
theorem q_193 : (Jvm.Cond.castable "java/lang/IndexOutOfBoundsException" "java/lang/IndexOutOfBoundsException") ∈ zxW := List.mem_filter.mpr ⟨List.mem_append_right _ (List.mem_of_getElem? (i := 193) (by decide +kernel)), by decide +kernel⟩
theorem q_194 : (Jvm.Cond.declares ({ cls := "java/lang/RuntimeException", name := "<init>", desc := "()V" } : Jvm.MethodName)) ∈ zxW := List.mem_filter.mpr ⟨List.mem_append_right _ (List.mem_of_getElem? (i := 194) (by decide +kernel)), by decide +kernel⟩
theorem q_195 : (Jvm.Cond.declares ({ cls := "java/lang/RuntimeException", name := "<init>", desc := "(Ljava/lang/String;)V" } : Jvm.MethodName)) ∈ zxW := List.mem_filter.mpr ⟨List.mem_append_right _ (List.mem_of_getElem? (i := 195) (by decide +kernel)), by decide +kernel⟩
theorem q_196 : (Jvm.Cond.declares ({ cls := "java/lang/Exception", name := "<init>", desc := "()V" } : Jvm.MethodName)) ∈ zxW := List.mem_filter.mpr ⟨List.mem_append_right _ (List.mem_of_getElem? (i := 196) (by decide +kernel)), by decide +kernel⟩
theorem q_197 : (Jvm.Cond.declares ({ cls := "java/lang/Exception", name := "<init>", desc := "(Ljava/lang/String;)V" } : Jvm.MethodName)) ∈ zxW := List.mem_filter.mpr ⟨List.mem_append_right _ (List.mem_of_getElem? (i := 197) (by decide +kernel)), by decide +kernel⟩
theorem q_198 : (Jvm.Cond.declares ({ cls := "java/lang/Throwable", name := "<init>", desc := "()V" } : Jvm.MethodName)) ∈ zxW := List.mem_filter.mpr ⟨List.mem_append_right _ (List.mem_of_getElem? (i := 198) (by decide +kernel)), by decide +kernel⟩
theorem q_199 : (Jvm.Cond.declares ({ cls := "java/lang/Throwable", name := "<init>", desc := "(Ljava/lang/String;)V" } : Jvm.MethodName)) ∈ zxW := List.mem_filter.mpr ⟨List.mem_append_right _ (List.mem_of_getElem? (i := 199) (by decide +kernel)), by decide +kernel⟩
theorem q_200 : (Jvm.Cond.selects "java/lang/IndexOutOfBoundsException" ({ cls := "java/lang/Throwable", name := "fillInStackTrace", desc := "(I)Ljava/lang/Throwable;" } : Jvm.MethodName) ({ cls := "java/lang/Throwable", name := "fillInStackTrace", desc := "(I)Ljava/lang/Throwable;" } : Jvm.MethodName)) ∈ zT := List.mem_filter.mpr ⟨List.mem_append_right _ (List.mem_of_getElem? (i := 200) (by decide +kernel)), by decide +kernel⟩
theorem q_201 : (Jvm.Cond.selects "java/lang/IndexOutOfBoundsException" ({ cls := "java/lang/Throwable", name := "fillInStackTrace", desc := "()Ljava/lang/Throwable;" } : Jvm.MethodName) ({ cls := "java/lang/Throwable", name := "fillInStackTrace", desc := "()Ljava/lang/Throwable;" } : Jvm.MethodName)) ∈ zT := List.mem_filter.mpr ⟨List.mem_append_right _ (List.mem_of_getElem? (i := 201) (by decide +kernel)), by decide +kernel⟩
theorem q_202 : (Jvm.Cond.lays "java/lang/IndexOutOfBoundsException" "java/lang/Throwable" "cause" "Ljava/lang/Throwable;") ∈ zT := List.mem_filter.mpr ⟨List.mem_append_right _ (List.mem_of_getElem? (i := 202) (by decide +kernel)), by decide +kernel⟩
theorem q_203 : (Jvm.Cond.lays "java/lang/Throwable" "java/lang/Throwable" "cause" "Ljava/lang/Throwable;") ∈ zT := List.mem_filter.mpr ⟨List.mem_append_right _ (List.mem_of_getElem? (i := 203) (by decide +kernel)), by decide +kernel⟩
theorem q_204 : (Jvm.Cond.lays "java/lang/IndexOutOfBoundsException" "java/lang/Throwable" "stackTrace" "[Ljava/lang/StackTraceElement;") ∈ zT := List.mem_filter.mpr ⟨List.mem_append_right _ (List.mem_of_getElem? (i := 204) (by decide +kernel)), by decide +kernel⟩
theorem q_205 : (Jvm.Cond.lays "java/lang/Throwable" "java/lang/Throwable" "stackTrace" "[Ljava/lang/StackTraceElement;") ∈ zT := List.mem_filter.mpr ⟨List.mem_append_right _ (List.mem_of_getElem? (i := 205) (by decide +kernel)), by decide +kernel⟩
theorem q_206 : (Jvm.Cond.lays "java/lang/IndexOutOfBoundsException" "java/lang/Throwable" "suppressedExceptions" "Ljava/util/List;") ∈ zT := List.mem_filter.mpr ⟨List.mem_append_right _ (List.mem_of_getElem? (i := 206) (by decide +kernel)), by decide +kernel⟩
theorem q_207 : (Jvm.Cond.lays "java/lang/Throwable" "java/lang/Throwable" "suppressedExceptions" "Ljava/util/List;") ∈ zT := List.mem_filter.mpr ⟨List.mem_append_right _ (List.mem_of_getElem? (i := 207) (by decide +kernel)), by decide +kernel⟩
theorem q_208 : (Jvm.Cond.lays "java/lang/IndexOutOfBoundsException" "java/lang/Throwable" "detailMessage" "Ljava/lang/String;") ∈ zT := List.mem_filter.mpr ⟨List.mem_append_right _ (List.mem_of_getElem? (i := 208) (by decide +kernel)), by decide +kernel⟩
theorem q_209 : (Jvm.Cond.lays "java/lang/Throwable" "java/lang/Throwable" "detailMessage" "Ljava/lang/String;") ∈ zT := List.mem_filter.mpr ⟨List.mem_append_right _ (List.mem_of_getElem? (i := 209) (by decide +kernel)), by decide +kernel⟩
theorem q_210 : (Jvm.Cond.lays "java/lang/IndexOutOfBoundsException" "java/lang/Throwable" "backtrace" "Ljava/lang/Object;") ∈ zT := List.mem_filter.mpr ⟨List.mem_append_right _ (List.mem_of_getElem? (i := 210) (by decide +kernel)), by decide +kernel⟩
theorem q_211 : (Jvm.Cond.lays "java/lang/Throwable" "java/lang/Throwable" "backtrace" "Ljava/lang/Object;") ∈ zT := List.mem_filter.mpr ⟨List.mem_append_right _ (List.mem_of_getElem? (i := 211) (by decide +kernel)), by decide +kernel⟩
theorem q_212 : (Jvm.Cond.fieldLink "java/lang/Throwable" (198 : Nat) "java/lang/Throwable" "backtrace" "Ljava/lang/Object;") ∈ zT := List.mem_filter.mpr ⟨List.mem_append_right _ (List.mem_of_getElem? (i := 212) (by decide +kernel)), by decide +kernel⟩
theorem q_213 : (Jvm.Cond.superclass "java/lang/Throwable" "java/lang/Object") ∈ zT := List.mem_filter.mpr ⟨List.mem_append_right _ (List.mem_of_getElem? (i := 213) (by decide +kernel)), by decide +kernel⟩
theorem q_214 : (Jvm.Cond.instanceMethod ({ cls := "java/lang/Throwable", name := "<init>", desc := "()V" } : Jvm.MethodName)) ∈ zT := List.mem_filter.mpr ⟨List.mem_append_right _ (List.mem_of_getElem? (i := 214) (by decide +kernel)), by decide +kernel⟩
theorem q_215 : (Jvm.Cond.code ({ cls := "java/lang/Throwable", name := "<init>", desc := "()V" } : Jvm.MethodName) prog_16_method_1_code (1 : Nat) (Option.none : Option Jvm.ClassFile.FieldType)) ∈ zT := List.mem_filter.mpr ⟨List.mem_append_right _ (List.mem_of_getElem? (i := 215) (by decide +kernel)), by decide +kernel⟩
theorem q_216 : (Jvm.Cond.methodLink "java/lang/Throwable" (1 : Nat) ({ cls := "java/lang/Object", name := "<init>", desc := "()V" } : Jvm.MethodName)) ∈ zT := List.mem_filter.mpr ⟨List.mem_append_right _ (List.mem_of_getElem? (i := 216) (by decide +kernel)), by decide +kernel⟩
theorem q_217 : (Jvm.Cond.fieldLink "java/lang/Throwable" (13 : Nat) "java/lang/Throwable" "UNASSIGNED_STACK" "[Ljava/lang/StackTraceElement;") ∈ zT := List.mem_filter.mpr ⟨List.mem_append_right _ (List.mem_of_getElem? (i := 217) (by decide +kernel)), by decide +kernel⟩
theorem q_219 : (Jvm.Cond.fieldLink "java/lang/Throwable" (20 : Nat) "java/lang/Throwable" "SUPPRESSED_SENTINEL" "Ljava/util/List;") ∈ zT := List.mem_filter.mpr ⟨List.mem_append_right _ (List.mem_of_getElem? (i := 219) (by decide +kernel)), by decide +kernel⟩
theorem q_221 : (Jvm.Cond.methodLink "java/lang/Throwable" (27 : Nat) ({ cls := "java/lang/Throwable", name := "fillInStackTrace", desc := "()Ljava/lang/Throwable;" } : Jvm.MethodName)) ∈ zT := List.mem_filter.mpr ⟨List.mem_append_right _ (List.mem_of_getElem? (i := 221) (by decide +kernel)), by decide +kernel⟩
theorem q_222 : (Jvm.Cond.instanceMethod ({ cls := "java/lang/Throwable", name := "fillInStackTrace", desc := "()Ljava/lang/Throwable;" } : Jvm.MethodName)) ∈ zT := List.mem_filter.mpr ⟨List.mem_append_right _ (List.mem_of_getElem? (i := 222) (by decide +kernel)), by decide +kernel⟩
theorem q_223 : (Jvm.Cond.sameMethod "java/lang/Throwable" "java/lang/Throwable" "fillInStackTrace" "()Ljava/lang/Throwable;") ∈ zT := List.mem_filter.mpr ⟨List.mem_append_right _ (List.mem_of_getElem? (i := 223) (by decide +kernel)), by decide +kernel⟩
theorem q_224 : (Jvm.Cond.selects "java/lang/IllegalArgumentException" ({ cls := "java/lang/Throwable", name := "fillInStackTrace", desc := "()Ljava/lang/Throwable;" } : Jvm.MethodName) ({ cls := "java/lang/Throwable", name := "fillInStackTrace", desc := "()Ljava/lang/Throwable;" } : Jvm.MethodName)) ∈ zT := List.mem_filter.mpr ⟨List.mem_append_right _ (List.mem_of_getElem? (i := 224) (by decide +kernel)), by decide +kernel⟩
theorem q_225 : (Jvm.Cond.selects "java/lang/UnsupportedOperationException" ({ cls := "java/lang/Throwable", name := "fillInStackTrace", desc := "()Ljava/lang/Throwable;" } : Jvm.MethodName) ({ cls := "java/lang/Throwable", name := "fillInStackTrace", desc := "()Ljava/lang/Throwable;" } : Jvm.MethodName)) ∈ zT := List.mem_filter.mpr ⟨List.mem_append_right _ (List.mem_of_getElem? (i := 225) (by decide +kernel)), by decide +kernel⟩
theorem q_226 : (Jvm.Cond.codeSync ({ cls := "java/lang/Throwable", name := "fillInStackTrace", desc := "()Ljava/lang/Throwable;" } : Jvm.MethodName) prog_16_method_18_code (1 : Nat) (Option.some (Jvm.ClassFile.FieldType.object "java/lang/Throwable"))) ∈ zT := List.mem_filter.mpr ⟨List.mem_append_right _ (List.mem_of_getElem? (i := 226) (by decide +kernel)), by decide +kernel⟩
theorem q_227 : (Jvm.Cond.methodLink "java/lang/Throwable" (202 : Nat) ({ cls := "java/lang/Throwable", name := "fillInStackTrace", desc := "(I)Ljava/lang/Throwable;" } : Jvm.MethodName)) ∈ zT := List.mem_filter.mpr ⟨List.mem_append_right _ (List.mem_of_getElem? (i := 227) (by decide +kernel)), by decide +kernel⟩
theorem q_229 : (Jvm.Cond.instanceMethod ({ cls := "java/lang/Throwable", name := "fillInStackTrace", desc := "(I)Ljava/lang/Throwable;" } : Jvm.MethodName)) ∈ zT := List.mem_filter.mpr ⟨List.mem_append_right _ (List.mem_of_getElem? (i := 229) (by decide +kernel)), by decide +kernel⟩
theorem q_230 : (Jvm.Cond.instantiable "java/lang/Throwable" (6 : Nat)) ∈ zT := List.mem_filter.mpr ⟨List.mem_append_right _ (List.mem_of_getElem? (i := 230) (by decide +kernel)), by decide +kernel⟩
theorem q_231 : (Jvm.Cond.native ({ cls := "java/lang/Throwable", name := "fillInStackTrace", desc := "(I)Ljava/lang/Throwable;" } : Jvm.MethodName)) ∈ zT := List.mem_filter.mpr ⟨List.mem_append_right _ (List.mem_of_getElem? (i := 231) (by decide +kernel)), by decide +kernel⟩
theorem q_232 : (Jvm.Cond.stringRef "ZlibBox" (39 : Nat) "the tape would be too long") ∈ zxW := List.mem_filter.mpr ⟨List.mem_append_right _ (List.mem_of_getElem? (i := 232) (by decide +kernel)), by decide +kernel⟩
theorem q_233 : (Jvm.Cond.methodLink "ZlibBox" (41 : Nat) ({ cls := "java/lang/IndexOutOfBoundsException", name := "<init>", desc := "(Ljava/lang/String;)V" } : Jvm.MethodName)) ∈ zT := List.mem_filter.mpr ⟨List.mem_append_right _ (List.mem_of_getElem? (i := 233) (by decide +kernel)), by decide +kernel⟩
theorem q_234 : (Jvm.Cond.instanceMethod ({ cls := "java/lang/IndexOutOfBoundsException", name := "<init>", desc := "(Ljava/lang/String;)V" } : Jvm.MethodName)) ∈ zT := List.mem_filter.mpr ⟨List.mem_append_right _ (List.mem_of_getElem? (i := 234) (by decide +kernel)), by decide +kernel⟩
theorem q_235 : (Jvm.Cond.code ({ cls := "java/lang/IndexOutOfBoundsException", name := "<init>", desc := "(Ljava/lang/String;)V" } : Jvm.MethodName) prog_11_method_2_code (2 : Nat) (Option.none : Option Jvm.ClassFile.FieldType)) ∈ zT := List.mem_filter.mpr ⟨List.mem_append_right _ (List.mem_of_getElem? (i := 235) (by decide +kernel)), by decide +kernel⟩
theorem q_236 : (Jvm.Cond.methodLink "java/lang/IndexOutOfBoundsException" (7 : Nat) ({ cls := "java/lang/RuntimeException", name := "<init>", desc := "(Ljava/lang/String;)V" } : Jvm.MethodName)) ∈ zT := List.mem_filter.mpr ⟨List.mem_append_right _ (List.mem_of_getElem? (i := 236) (by decide +kernel)), by decide +kernel⟩
theorem q_237 : (Jvm.Cond.instanceMethod ({ cls := "java/lang/RuntimeException", name := "<init>", desc := "(Ljava/lang/String;)V" } : Jvm.MethodName)) ∈ zT := List.mem_filter.mpr ⟨List.mem_append_right _ (List.mem_of_getElem? (i := 237) (by decide +kernel)), by decide +kernel⟩
theorem q_238 : (Jvm.Cond.code ({ cls := "java/lang/RuntimeException", name := "<init>", desc := "(Ljava/lang/String;)V" } : Jvm.MethodName) prog_13_method_2_code (2 : Nat) (Option.none : Option Jvm.ClassFile.FieldType)) ∈ zT := List.mem_filter.mpr ⟨List.mem_append_right _ (List.mem_of_getElem? (i := 238) (by decide +kernel)), by decide +kernel⟩
theorem q_239 : (Jvm.Cond.methodLink "java/lang/RuntimeException" (7 : Nat) ({ cls := "java/lang/Exception", name := "<init>", desc := "(Ljava/lang/String;)V" } : Jvm.MethodName)) ∈ zT := List.mem_filter.mpr ⟨List.mem_append_right _ (List.mem_of_getElem? (i := 239) (by decide +kernel)), by decide +kernel⟩
theorem q_240 : (Jvm.Cond.instanceMethod ({ cls := "java/lang/Exception", name := "<init>", desc := "(Ljava/lang/String;)V" } : Jvm.MethodName)) ∈ zT := List.mem_filter.mpr ⟨List.mem_append_right _ (List.mem_of_getElem? (i := 240) (by decide +kernel)), by decide +kernel⟩
theorem q_241 : (Jvm.Cond.code ({ cls := "java/lang/Exception", name := "<init>", desc := "(Ljava/lang/String;)V" } : Jvm.MethodName) prog_9_method_2_code (2 : Nat) (Option.none : Option Jvm.ClassFile.FieldType)) ∈ zT := List.mem_filter.mpr ⟨List.mem_append_right _ (List.mem_of_getElem? (i := 241) (by decide +kernel)), by decide +kernel⟩
theorem q_242 : (Jvm.Cond.methodLink "java/lang/Exception" (7 : Nat) ({ cls := "java/lang/Throwable", name := "<init>", desc := "(Ljava/lang/String;)V" } : Jvm.MethodName)) ∈ zT := List.mem_filter.mpr ⟨List.mem_append_right _ (List.mem_of_getElem? (i := 242) (by decide +kernel)), by decide +kernel⟩
theorem q_243 : (Jvm.Cond.instanceMethod ({ cls := "java/lang/Throwable", name := "<init>", desc := "(Ljava/lang/String;)V" } : Jvm.MethodName)) ∈ zT := List.mem_filter.mpr ⟨List.mem_append_right _ (List.mem_of_getElem? (i := 243) (by decide +kernel)), by decide +kernel⟩
theorem q_244 : (Jvm.Cond.code ({ cls := "java/lang/Throwable", name := "<init>", desc := "(Ljava/lang/String;)V" } : Jvm.MethodName) prog_16_method_2_code (2 : Nat) (Option.none : Option Jvm.ClassFile.FieldType)) ∈ zT := List.mem_filter.mpr ⟨List.mem_append_right _ (List.mem_of_getElem? (i := 244) (by decide +kernel)), by decide +kernel⟩
theorem q_245 : (Jvm.Cond.fieldLink "java/lang/Throwable" (198 : Nat) "java/lang/Throwable" "backtrace" "Ljava/lang/Object;") ∈ zT := List.mem_filter.mpr ⟨List.mem_append_right _ (List.mem_of_getElem? (i := 245) (by decide +kernel)), by decide +kernel⟩
theorem q_246 : (Jvm.Cond.fieldLink "java/lang/Throwable" (31 : Nat) "java/lang/Throwable" "detailMessage" "Ljava/lang/String;") ∈ zT := List.mem_filter.mpr ⟨List.mem_append_right _ (List.mem_of_getElem? (i := 246) (by decide +kernel)), by decide +kernel⟩
theorem q_247 : (Jvm.Cond.fieldLink "java/lang/Throwable" (7 : Nat) "java/lang/Throwable" "cause" "Ljava/lang/Throwable;") ∈ zT := List.mem_filter.mpr ⟨List.mem_append_right _ (List.mem_of_getElem? (i := 247) (by decide +kernel)), by decide +kernel⟩
theorem q_248 : (Jvm.Cond.fieldLink "java/lang/Throwable" (17 : Nat) "java/lang/Throwable" "stackTrace" "[Ljava/lang/StackTraceElement;") ∈ zT := List.mem_filter.mpr ⟨List.mem_append_right _ (List.mem_of_getElem? (i := 248) (by decide +kernel)), by decide +kernel⟩
theorem q_249 : (Jvm.Cond.fieldLink "java/lang/Throwable" (24 : Nat) "java/lang/Throwable" "suppressedExceptions" "Ljava/util/List;") ∈ zT := List.mem_filter.mpr ⟨List.mem_append_right _ (List.mem_of_getElem? (i := 249) (by decide +kernel)), by decide +kernel⟩
theorem q_250 : (Jvm.Cond.soleField "java/lang/Throwable" "backtrace") ∈ zT := List.mem_filter.mpr ⟨List.mem_append_right _ (List.mem_of_getElem? (i := 250) (by decide +kernel)), by decide +kernel⟩
theorem q_251 : (Jvm.Cond.soleField "java/lang/Throwable" "detailMessage") ∈ zT := List.mem_filter.mpr ⟨List.mem_append_right _ (List.mem_of_getElem? (i := 251) (by decide +kernel)), by decide +kernel⟩
theorem q_252 : (Jvm.Cond.soleField "java/lang/Throwable" "cause") ∈ zT := List.mem_filter.mpr ⟨List.mem_append_right _ (List.mem_of_getElem? (i := 252) (by decide +kernel)), by decide +kernel⟩
theorem q_253 : (Jvm.Cond.soleField "java/lang/Throwable" "stackTrace") ∈ zT := List.mem_filter.mpr ⟨List.mem_append_right _ (List.mem_of_getElem? (i := 253) (by decide +kernel)), by decide +kernel⟩
theorem q_254 : (Jvm.Cond.lays "java/lang/IndexOutOfBoundsException" "java/lang/Throwable" "depth" "I") ∈ zT := List.mem_filter.mpr ⟨List.mem_append_right _ (List.mem_of_getElem? (i := 254) (by decide +kernel)), by decide +kernel⟩
theorem q_255 : (Jvm.Cond.soleField "java/lang/Throwable" "depth") ∈ zT := List.mem_filter.mpr ⟨List.mem_append_right _ (List.mem_of_getElem? (i := 255) (by decide +kernel)), by decide +kernel⟩
theorem q_256 : (Jvm.Cond.soleField "java/lang/Throwable" "suppressedExceptions") ∈ zT := List.mem_filter.mpr ⟨List.mem_append_right _ (List.mem_of_getElem? (i := 256) (by decide +kernel)), by decide +kernel⟩
theorem q_257 : (Jvm.Cond.superclass "java/lang/IndexOutOfBoundsException" "java/lang/RuntimeException") ∈ zT := List.mem_filter.mpr ⟨List.mem_append_right _ (List.mem_of_getElem? (i := 257) (by decide +kernel)), by decide +kernel⟩
theorem q_258 : (Jvm.Cond.methodLink "ZlibBox" (44 : Nat) ({ cls := "ZlibBox", name := "putInt", desc := "(II)V" } : Jvm.MethodName)) ∈ zT := List.mem_filter.mpr ⟨List.mem_append_right _ (List.mem_of_getElem? (i := 258) (by decide +kernel)), by decide +kernel⟩
theorem q_260 : (Jvm.Cond.instanceMethod ({ cls := "ZlibBox", name := "putInt", desc := "(II)V" } : Jvm.MethodName)) ∈ zT := List.mem_filter.mpr ⟨List.mem_append_right _ (List.mem_of_getElem? (i := 260) (by decide +kernel)), by decide +kernel⟩
theorem q_261 : (Jvm.Cond.code ({ cls := "ZlibBox", name := "putInt", desc := "(II)V" } : Jvm.MethodName) prog_1_method_10_code (3 : Nat) (Option.none : Option Jvm.ClassFile.FieldType)) ∈ zT := List.mem_filter.mpr ⟨List.mem_append_right _ (List.mem_of_getElem? (i := 261) (by decide +kernel)), by decide +kernel⟩
theorem q_262 : (Jvm.Cond.methodLink "ZlibBoxLaw" (50 : Nat) ({ cls := "ZlibBoxLaw", name := "end", desc := "(LZlibBox;I[J)I" } : Jvm.MethodName)) ∈ zT := List.mem_filter.mpr ⟨List.mem_append_right _ (List.mem_of_getElem? (i := 262) (by decide +kernel)), by decide +kernel⟩
theorem q_263 : (Jvm.Cond.static ({ cls := "ZlibBoxLaw", name := "end", desc := "(LZlibBox;I[J)I" } : Jvm.MethodName)) ∈ zT := List.mem_filter.mpr ⟨List.mem_append_right _ (List.mem_of_getElem? (i := 263) (by decide +kernel)), by decide +kernel⟩
theorem q_264 : (Jvm.Cond.codeWith ({ cls := "ZlibBoxLaw", name := "end", desc := "(LZlibBox;I[J)I" } : Jvm.MethodName) method_4_code (4 : Nat) (Option.some Jvm.ClassFile.FieldType.int) [((0 : Nat), (9 : Nat), (12 : Nat), (19 : Nat))]) ∈ zT := List.mem_filter.mpr ⟨List.mem_append_right _ (List.mem_of_getElem? (i := 264) (by decide +kernel)), by decide +kernel⟩
theorem q_265 : (Jvm.Cond.classLink "ZlibBoxLaw" (19 : Nat) "java/lang/IllegalArgumentException") ∈ zT := List.mem_filter.mpr ⟨List.mem_append_right _ (List.mem_of_getElem? (i := 265) (by decide +kernel)), by decide +kernel⟩
theorem q_266 : (Jvm.Cond.methodLink "ZlibBoxLaw" (15 : Nat) ({ cls := "ZlibBox", name := "end", desc := "(I)I" } : Jvm.MethodName)) ∈ zT := List.mem_filter.mpr ⟨List.mem_append_right _ (List.mem_of_getElem? (i := 266) (by decide +kernel)), by decide +kernel⟩
theorem q_267 : (Jvm.Cond.instanceMethod ({ cls := "ZlibBox", name := "end", desc := "(I)I" } : Jvm.MethodName)) ∈ zT := List.mem_filter.mpr ⟨List.mem_append_right _ (List.mem_of_getElem? (i := 267) (by decide +kernel)), by decide +kernel⟩
theorem q_268 : (Jvm.Cond.selects "ZlibBox" ({ cls := "ZlibBox", name := "end", desc := "(I)I" } : Jvm.MethodName) ({ cls := "ZlibBox", name := "end", desc := "(I)I" } : Jvm.MethodName)) ∈ zT := List.mem_filter.mpr ⟨List.mem_append_right _ (List.mem_of_getElem? (i := 268) (by decide +kernel)), by decide +kernel⟩
theorem q_269 : (Jvm.Cond.code ({ cls := "ZlibBox", name := "end", desc := "(I)I" } : Jvm.MethodName) prog_1_method_3_code (2 : Nat) (Option.some Jvm.ClassFile.FieldType.int)) ∈ zT := List.mem_filter.mpr ⟨List.mem_append_right _ (List.mem_of_getElem? (i := 269) (by decide +kernel)), by decide +kernel⟩
theorem q_270 : (Jvm.Cond.classLink "ZlibBox" (48 : Nat) "java/lang/IllegalArgumentException") ∈ zT := List.mem_filter.mpr ⟨List.mem_append_right _ (List.mem_of_getElem? (i := 270) (by decide +kernel)), by decide +kernel⟩
theorem q_271 : (Jvm.Cond.instantiable "java/lang/IllegalArgumentException" (6 : Nat)) ∈ zT := List.mem_filter.mpr ⟨List.mem_append_right _ (List.mem_of_getElem? (i := 271) (by decide +kernel)), by decide +kernel⟩
theorem q_272 : (Jvm.Cond.castable "java/lang/IllegalArgumentException" "java/lang/IllegalArgumentException") ∈ zxW := List.mem_filter.mpr ⟨List.mem_append_right _ (List.mem_of_getElem? (i := 272) (by decide +kernel)), by decide +kernel⟩
theorem q_273 : (Jvm.Cond.selects "java/lang/IllegalArgumentException" ({ cls := "java/lang/Throwable", name := "fillInStackTrace", desc := "(I)Ljava/lang/Throwable;" } : Jvm.MethodName) ({ cls := "java/lang/Throwable", name := "fillInStackTrace", desc := "(I)Ljava/lang/Throwable;" } : Jvm.MethodName)) ∈ zT := List.mem_filter.mpr ⟨List.mem_append_right _ (List.mem_of_getElem? (i := 273) (by decide +kernel)), by decide +kernel⟩
theorem q_274 : (Jvm.Cond.lays "java/lang/IllegalArgumentException" "java/lang/Throwable" "cause" "Ljava/lang/Throwable;") ∈ zT := List.mem_filter.mpr ⟨List.mem_append_right _ (List.mem_of_getElem? (i := 274) (by decide +kernel)), by decide +kernel⟩
theorem q_275 : (Jvm.Cond.lays "java/lang/IllegalArgumentException" "java/lang/Throwable" "stackTrace" "[Ljava/lang/StackTraceElement;") ∈ zT := List.mem_filter.mpr ⟨List.mem_append_right _ (List.mem_of_getElem? (i := 275) (by decide +kernel)), by decide +kernel⟩
theorem q_276 : (Jvm.Cond.lays "java/lang/IllegalArgumentException" "java/lang/Throwable" "suppressedExceptions" "Ljava/util/List;") ∈ zT := List.mem_filter.mpr ⟨List.mem_append_right _ (List.mem_of_getElem? (i := 276) (by decide +kernel)), by decide +kernel⟩
theorem q_277 : (Jvm.Cond.lays "java/lang/IllegalArgumentException" "java/lang/Throwable" "detailMessage" "Ljava/lang/String;") ∈ zT := List.mem_filter.mpr ⟨List.mem_append_right _ (List.mem_of_getElem? (i := 277) (by decide +kernel)), by decide +kernel⟩
theorem q_278 : (Jvm.Cond.lays "java/lang/IllegalArgumentException" "java/lang/Throwable" "backtrace" "Ljava/lang/Object;") ∈ zT := List.mem_filter.mpr ⟨List.mem_append_right _ (List.mem_of_getElem? (i := 278) (by decide +kernel)), by decide +kernel⟩
theorem q_279 : (Jvm.Cond.stringRef "ZlibBox" (50 : Nat) "the tape has no such end") ∈ zxW := List.mem_filter.mpr ⟨List.mem_append_right _ (List.mem_of_getElem? (i := 279) (by decide +kernel)), by decide +kernel⟩
theorem q_280 : (Jvm.Cond.methodLink "ZlibBox" (52 : Nat) ({ cls := "java/lang/IllegalArgumentException", name := "<init>", desc := "(Ljava/lang/String;)V" } : Jvm.MethodName)) ∈ zT := List.mem_filter.mpr ⟨List.mem_append_right _ (List.mem_of_getElem? (i := 280) (by decide +kernel)), by decide +kernel⟩
theorem q_281 : (Jvm.Cond.instanceMethod ({ cls := "java/lang/IllegalArgumentException", name := "<init>", desc := "(Ljava/lang/String;)V" } : Jvm.MethodName)) ∈ zT := List.mem_filter.mpr ⟨List.mem_append_right _ (List.mem_of_getElem? (i := 281) (by decide +kernel)), by decide +kernel⟩
theorem q_282 : (Jvm.Cond.code ({ cls := "java/lang/IllegalArgumentException", name := "<init>", desc := "(Ljava/lang/String;)V" } : Jvm.MethodName) prog_10_method_2_code (2 : Nat) (Option.none : Option Jvm.ClassFile.FieldType)) ∈ zT := List.mem_filter.mpr ⟨List.mem_append_right _ (List.mem_of_getElem? (i := 282) (by decide +kernel)), by decide +kernel⟩
theorem q_283 : (Jvm.Cond.methodLink "java/lang/IllegalArgumentException" (7 : Nat) ({ cls := "java/lang/RuntimeException", name := "<init>", desc := "(Ljava/lang/String;)V" } : Jvm.MethodName)) ∈ zT := List.mem_filter.mpr ⟨List.mem_append_right _ (List.mem_of_getElem? (i := 283) (by decide +kernel)), by decide +kernel⟩
theorem q_284 : (Jvm.Cond.lays "java/lang/IllegalArgumentException" "java/lang/Throwable" "depth" "I") ∈ zT := List.mem_filter.mpr ⟨List.mem_append_right _ (List.mem_of_getElem? (i := 284) (by decide +kernel)), by decide +kernel⟩
theorem q_285 : (Jvm.Cond.superclass "java/lang/IllegalArgumentException" "java/lang/RuntimeException") ∈ zT := List.mem_filter.mpr ⟨List.mem_append_right _ (List.mem_of_getElem? (i := 285) (by decide +kernel)), by decide +kernel⟩
theorem q_286 : (Jvm.Cond.methodLink "ZlibBoxLaw" (58 : Nat) ({ cls := "ZlibBoxLaw", name := "unpack", desc := "(LZlibBox;[J)I" } : Jvm.MethodName)) ∈ zT := List.mem_filter.mpr ⟨List.mem_append_right _ (List.mem_of_getElem? (i := 286) (by decide +kernel)), by decide +kernel⟩
theorem q_287 : (Jvm.Cond.static ({ cls := "ZlibBoxLaw", name := "unpack", desc := "(LZlibBox;[J)I" } : Jvm.MethodName)) ∈ zT := List.mem_filter.mpr ⟨List.mem_append_right _ (List.mem_of_getElem? (i := 287) (by decide +kernel)), by decide +kernel⟩
theorem q_288 : (Jvm.Cond.codeWith ({ cls := "ZlibBoxLaw", name := "unpack", desc := "(LZlibBox;[J)I" } : Jvm.MethodName) method_5_code (3 : Nat) (Option.some Jvm.ClassFile.FieldType.int) [((0 : Nat), (8 : Nat), (11 : Nat), (25 : Nat)), ((0 : Nat), (8 : Nat), (14 : Nat), (13 : Nat))]) ∈ zT := List.mem_filter.mpr ⟨List.mem_append_right _ (List.mem_of_getElem? (i := 288) (by decide +kernel)), by decide +kernel⟩
theorem q_289 : (Jvm.Cond.classLink "ZlibBoxLaw" (25 : Nat) "java/lang/UnsupportedOperationException") ∈ zT := List.mem_filter.mpr ⟨List.mem_append_right _ (List.mem_of_getElem? (i := 289) (by decide +kernel)), by decide +kernel⟩
theorem q_290 : (Jvm.Cond.methodLink "ZlibBoxLaw" (21 : Nat) ({ cls := "ZlibBox", name := "unpack", desc := "()I" } : Jvm.MethodName)) ∈ zT := List.mem_filter.mpr ⟨List.mem_append_right _ (List.mem_of_getElem? (i := 290) (by decide +kernel)), by decide +kernel⟩
theorem q_291 : (Jvm.Cond.instanceMethod ({ cls := "ZlibBox", name := "unpack", desc := "()I" } : Jvm.MethodName)) ∈ zT := List.mem_filter.mpr ⟨List.mem_append_right _ (List.mem_of_getElem? (i := 291) (by decide +kernel)), by decide +kernel⟩
theorem q_292 : (Jvm.Cond.selects "ZlibBox" ({ cls := "ZlibBox", name := "unpack", desc := "()I" } : Jvm.MethodName) ({ cls := "ZlibBox", name := "unpack", desc := "()I" } : Jvm.MethodName)) ∈ zT := List.mem_filter.mpr ⟨List.mem_append_right _ (List.mem_of_getElem? (i := 292) (by decide +kernel)), by decide +kernel⟩
theorem q_293 : (Jvm.Cond.code ({ cls := "ZlibBox", name := "unpack", desc := "()I" } : Jvm.MethodName) prog_1_method_5_code (2 : Nat) (Option.some Jvm.ClassFile.FieldType.int)) ∈ zT := List.mem_filter.mpr ⟨List.mem_append_right _ (List.mem_of_getElem? (i := 293) (by decide +kernel)), by decide +kernel⟩
theorem q_294 : (Jvm.Cond.methodLink "ZlibBox" (62 : Nat) ({ cls := "ZlibBox$Unpacker", name := "read", desc := "([BI[B)I" } : Jvm.MethodName)) ∈ zT := List.mem_filter.mpr ⟨List.mem_append_right _ (List.mem_of_getElem? (i := 294) (by decide +kernel)), by decide +kernel⟩
theorem q_295 : (Jvm.Cond.instanceMethod ({ cls := "ZlibBox$Unpacker", name := "read", desc := "([BI[B)I" } : Jvm.MethodName)) ∈ zT := List.mem_filter.mpr ⟨List.mem_append_right _ (List.mem_of_getElem? (i := 295) (by decide +kernel)), by decide +kernel⟩
theorem q_296 : (Jvm.Cond.selects "ZlibBox$Unpacker" ({ cls := "ZlibBox$Unpacker", name := "read", desc := "([BI[B)I" } : Jvm.MethodName) ({ cls := "ZlibBox$Unpacker", name := "read", desc := "([BI[B)I" } : Jvm.MethodName)) ∈ zT := List.mem_filter.mpr ⟨List.mem_append_right _ (List.mem_of_getElem? (i := 296) (by decide +kernel)), by decide +kernel⟩
theorem q_297 : (Jvm.Cond.code ({ cls := "ZlibBox$Unpacker", name := "read", desc := "([BI[B)I" } : Jvm.MethodName) prog_5_method_2_code (4 : Nat) (Option.some Jvm.ClassFile.FieldType.int)) ∈ zT := List.mem_filter.mpr ⟨List.mem_append_right _ (List.mem_of_getElem? (i := 297) (by decide +kernel)), by decide +kernel⟩
theorem q_298 : (Jvm.Cond.methodLink "ZlibBox$Unpacker" (48 : Nat) ({ cls := "ZlibBox$BitReader", name := "open", desc := "([BI)V" } : Jvm.MethodName)) ∈ zT := List.mem_filter.mpr ⟨List.mem_append_right _ (List.mem_of_getElem? (i := 298) (by decide +kernel)), by decide +kernel⟩
theorem q_299 : (Jvm.Cond.instanceMethod ({ cls := "ZlibBox$BitReader", name := "open", desc := "([BI)V" } : Jvm.MethodName)) ∈ zT := List.mem_filter.mpr ⟨List.mem_append_right _ (List.mem_of_getElem? (i := 299) (by decide +kernel)), by decide +kernel⟩
theorem q_300 : (Jvm.Cond.selects "ZlibBox$BitReader" ({ cls := "ZlibBox$BitReader", name := "open", desc := "([BI)V" } : Jvm.MethodName) ({ cls := "ZlibBox$BitReader", name := "open", desc := "([BI)V" } : Jvm.MethodName)) ∈ zT := List.mem_filter.mpr ⟨List.mem_append_right _ (List.mem_of_getElem? (i := 300) (by decide +kernel)), by decide +kernel⟩
theorem q_301 : (Jvm.Cond.code ({ cls := "ZlibBox$BitReader", name := "open", desc := "([BI)V" } : Jvm.MethodName) prog_2_method_2_code (3 : Nat) (Option.none : Option Jvm.ClassFile.FieldType)) ∈ zT := List.mem_filter.mpr ⟨List.mem_append_right _ (List.mem_of_getElem? (i := 301) (by decide +kernel)), by decide +kernel⟩
theorem q_302 : (Jvm.Cond.methodLink "ZlibBox$Unpacker" (56 : Nat) ({ cls := "ZlibBox$Unpacker", name := "readHead", desc := "()V" } : Jvm.MethodName)) ∈ zT := List.mem_filter.mpr ⟨List.mem_append_right _ (List.mem_of_getElem? (i := 302) (by decide +kernel)), by decide +kernel⟩
theorem q_304 : (Jvm.Cond.instanceMethod ({ cls := "ZlibBox$Unpacker", name := "readHead", desc := "()V" } : Jvm.MethodName)) ∈ zT := List.mem_filter.mpr ⟨List.mem_append_right _ (List.mem_of_getElem? (i := 304) (by decide +kernel)), by decide +kernel⟩
theorem q_305 : (Jvm.Cond.code ({ cls := "ZlibBox$Unpacker", name := "readHead", desc := "()V" } : Jvm.MethodName) prog_5_method_4_code (5 : Nat) (Option.none : Option Jvm.ClassFile.FieldType)) ∈ zT := List.mem_filter.mpr ⟨List.mem_append_right _ (List.mem_of_getElem? (i := 305) (by decide +kernel)), by decide +kernel⟩
theorem q_306 : (Jvm.Cond.methodLink "ZlibBox$Unpacker" (75 : Nat) ({ cls := "ZlibBox$BitReader", name := "number", desc := "(I)I" } : Jvm.MethodName)) ∈ zT := List.mem_filter.mpr ⟨List.mem_append_right _ (List.mem_of_getElem? (i := 306) (by decide +kernel)), by decide +kernel⟩
theorem q_307 : (Jvm.Cond.instanceMethod ({ cls := "ZlibBox$BitReader", name := "number", desc := "(I)I" } : Jvm.MethodName)) ∈ zT := List.mem_filter.mpr ⟨List.mem_append_right _ (List.mem_of_getElem? (i := 307) (by decide +kernel)), by decide +kernel⟩
theorem q_308 : (Jvm.Cond.selects "ZlibBox$BitReader" ({ cls := "ZlibBox$BitReader", name := "number", desc := "(I)I" } : Jvm.MethodName) ({ cls := "ZlibBox$BitReader", name := "number", desc := "(I)I" } : Jvm.MethodName)) ∈ zT := List.mem_filter.mpr ⟨List.mem_append_right _ (List.mem_of_getElem? (i := 308) (by decide +kernel)), by decide +kernel⟩
theorem q_309 : (Jvm.Cond.code ({ cls := "ZlibBox$BitReader", name := "number", desc := "(I)I" } : Jvm.MethodName) prog_2_method_4_code (4 : Nat) (Option.some Jvm.ClassFile.FieldType.int)) ∈ zT := List.mem_filter.mpr ⟨List.mem_append_right _ (List.mem_of_getElem? (i := 309) (by decide +kernel)), by decide +kernel⟩
theorem q_310 : (Jvm.Cond.classLink "ZlibBox$BitReader" (20 : Nat) "java/lang/UnsupportedOperationException") ∈ zT := List.mem_filter.mpr ⟨List.mem_append_right _ (List.mem_of_getElem? (i := 310) (by decide +kernel)), by decide +kernel⟩
theorem q_311 : (Jvm.Cond.instantiable "java/lang/UnsupportedOperationException" (6 : Nat)) ∈ zT := List.mem_filter.mpr ⟨List.mem_append_right _ (List.mem_of_getElem? (i := 311) (by decide +kernel)), by decide +kernel⟩
theorem q_312 : (Jvm.Cond.castable "java/lang/UnsupportedOperationException" "java/lang/UnsupportedOperationException") ∈ zxW := List.mem_filter.mpr ⟨List.mem_append_right _ (List.mem_of_getElem? (i := 312) (by decide +kernel)), by decide +kernel⟩
theorem q_313 : (Jvm.Cond.selects "java/lang/UnsupportedOperationException" ({ cls := "java/lang/Throwable", name := "fillInStackTrace", desc := "(I)Ljava/lang/Throwable;" } : Jvm.MethodName) ({ cls := "java/lang/Throwable", name := "fillInStackTrace", desc := "(I)Ljava/lang/Throwable;" } : Jvm.MethodName)) ∈ zT := List.mem_filter.mpr ⟨List.mem_append_right _ (List.mem_of_getElem? (i := 313) (by decide +kernel)), by decide +kernel⟩
theorem q_314 : (Jvm.Cond.lays "java/lang/UnsupportedOperationException" "java/lang/Throwable" "cause" "Ljava/lang/Throwable;") ∈ zT := List.mem_filter.mpr ⟨List.mem_append_right _ (List.mem_of_getElem? (i := 314) (by decide +kernel)), by decide +kernel⟩
theorem q_315 : (Jvm.Cond.lays "java/lang/UnsupportedOperationException" "java/lang/Throwable" "stackTrace" "[Ljava/lang/StackTraceElement;") ∈ zT := List.mem_filter.mpr ⟨List.mem_append_right _ (List.mem_of_getElem? (i := 315) (by decide +kernel)), by decide +kernel⟩
theorem q_316 : (Jvm.Cond.lays "java/lang/UnsupportedOperationException" "java/lang/Throwable" "suppressedExceptions" "Ljava/util/List;") ∈ zT := List.mem_filter.mpr ⟨List.mem_append_right _ (List.mem_of_getElem? (i := 316) (by decide +kernel)), by decide +kernel⟩
theorem q_317 : (Jvm.Cond.lays "java/lang/UnsupportedOperationException" "java/lang/Throwable" "detailMessage" "Ljava/lang/String;") ∈ zT := List.mem_filter.mpr ⟨List.mem_append_right _ (List.mem_of_getElem? (i := 317) (by decide +kernel)), by decide +kernel⟩
theorem q_318 : (Jvm.Cond.lays "java/lang/UnsupportedOperationException" "java/lang/Throwable" "backtrace" "Ljava/lang/Object;") ∈ zT := List.mem_filter.mpr ⟨List.mem_append_right _ (List.mem_of_getElem? (i := 318) (by decide +kernel)), by decide +kernel⟩
theorem q_319 : (Jvm.Cond.stringRef "ZlibBox$BitReader" (22 : Nat) "ends too early") ∈ zxW := List.mem_filter.mpr ⟨List.mem_append_right _ (List.mem_of_getElem? (i := 319) (by decide +kernel)), by decide +kernel⟩
theorem q_320 : (Jvm.Cond.methodLink "ZlibBox$BitReader" (24 : Nat) ({ cls := "java/lang/UnsupportedOperationException", name := "<init>", desc := "(Ljava/lang/String;)V" } : Jvm.MethodName)) ∈ zT := List.mem_filter.mpr ⟨List.mem_append_right _ (List.mem_of_getElem? (i := 320) (by decide +kernel)), by decide +kernel⟩
theorem q_321 : (Jvm.Cond.instanceMethod ({ cls := "java/lang/UnsupportedOperationException", name := "<init>", desc := "(Ljava/lang/String;)V" } : Jvm.MethodName)) ∈ zT := List.mem_filter.mpr ⟨List.mem_append_right _ (List.mem_of_getElem? (i := 321) (by decide +kernel)), by decide +kernel⟩
theorem q_322 : (Jvm.Cond.code ({ cls := "java/lang/UnsupportedOperationException", name := "<init>", desc := "(Ljava/lang/String;)V" } : Jvm.MethodName) prog_17_method_2_code (2 : Nat) (Option.none : Option Jvm.ClassFile.FieldType)) ∈ zT := List.mem_filter.mpr ⟨List.mem_append_right _ (List.mem_of_getElem? (i := 322) (by decide +kernel)), by decide +kernel⟩
theorem q_323 : (Jvm.Cond.methodLink "java/lang/UnsupportedOperationException" (7 : Nat) ({ cls := "java/lang/RuntimeException", name := "<init>", desc := "(Ljava/lang/String;)V" } : Jvm.MethodName)) ∈ zT := List.mem_filter.mpr ⟨List.mem_append_right _ (List.mem_of_getElem? (i := 323) (by decide +kernel)), by decide +kernel⟩
theorem q_324 : (Jvm.Cond.lays "java/lang/UnsupportedOperationException" "java/lang/Throwable" "depth" "I") ∈ zT := List.mem_filter.mpr ⟨List.mem_append_right _ (List.mem_of_getElem? (i := 324) (by decide +kernel)), by decide +kernel⟩
theorem q_325 : (Jvm.Cond.superclass "java/lang/UnsupportedOperationException" "java/lang/RuntimeException") ∈ zT := List.mem_filter.mpr ⟨List.mem_append_right _ (List.mem_of_getElem? (i := 325) (by decide +kernel)), by decide +kernel⟩
theorem q_326 : (Jvm.Cond.classLink "ZlibBox$Unpacker" (79 : Nat) "java/lang/UnsupportedOperationException") ∈ zT := List.mem_filter.mpr ⟨List.mem_append_right _ (List.mem_of_getElem? (i := 326) (by decide +kernel)), by decide +kernel⟩
theorem q_327 : (Jvm.Cond.stringRef "ZlibBox$Unpacker" (81 : Nat) "no head of ZLIB") ∈ zxW := List.mem_filter.mpr ⟨List.mem_append_right _ (List.mem_of_getElem? (i := 327) (by decide +kernel)), by decide +kernel⟩
theorem q_328 : (Jvm.Cond.methodLink "ZlibBox$Unpacker" (83 : Nat) ({ cls := "java/lang/UnsupportedOperationException", name := "<init>", desc := "(Ljava/lang/String;)V" } : Jvm.MethodName)) ∈ zT := List.mem_filter.mpr ⟨List.mem_append_right _ (List.mem_of_getElem? (i := 328) (by decide +kernel)), by decide +kernel⟩
theorem q_329 : (Jvm.Cond.methodLink "ZlibBox$Unpacker" (59 : Nat) ({ cls := "ZlibBox$Unpacker", name := "readBlocks", desc := "()V" } : Jvm.MethodName)) ∈ zT := List.mem_filter.mpr ⟨List.mem_append_right _ (List.mem_of_getElem? (i := 329) (by decide +kernel)), by decide +kernel⟩
theorem q_331 : (Jvm.Cond.instanceMethod ({ cls := "ZlibBox$Unpacker", name := "readBlocks", desc := "()V" } : Jvm.MethodName)) ∈ zT := List.mem_filter.mpr ⟨List.mem_append_right _ (List.mem_of_getElem? (i := 331) (by decide +kernel)), by decide +kernel⟩
theorem q_332 : (Jvm.Cond.code ({ cls := "ZlibBox$Unpacker", name := "readBlocks", desc := "()V" } : Jvm.MethodName) prog_5_method_6_code (4 : Nat) (Option.none : Option Jvm.ClassFile.FieldType)) ∈ zT := List.mem_filter.mpr ⟨List.mem_append_right _ (List.mem_of_getElem? (i := 332) (by decide +kernel)), by decide +kernel⟩
theorem q_333 : (Jvm.Cond.constant "ZlibBox$Unpacker" (99 : Nat) (131072 : Int32)) ∈ zT := List.mem_filter.mpr ⟨List.mem_append_right _ (List.mem_of_getElem? (i := 333) (by decide +kernel)), by decide +kernel⟩
theorem q_334 : (Jvm.Cond.methodLink "ZlibBox$Unpacker" (100 : Nat) ({ cls := "ZlibBox$BitReader", name := "bit", desc := "()I" } : Jvm.MethodName)) ∈ zT := List.mem_filter.mpr ⟨List.mem_append_right _ (List.mem_of_getElem? (i := 334) (by decide +kernel)), by decide +kernel⟩
theorem q_335 : (Jvm.Cond.instanceMethod ({ cls := "ZlibBox$BitReader", name := "bit", desc := "()I" } : Jvm.MethodName)) ∈ zT := List.mem_filter.mpr ⟨List.mem_append_right _ (List.mem_of_getElem? (i := 335) (by decide +kernel)), by decide +kernel⟩
theorem q_336 : (Jvm.Cond.selects "ZlibBox$BitReader" ({ cls := "ZlibBox$BitReader", name := "bit", desc := "()I" } : Jvm.MethodName) ({ cls := "ZlibBox$BitReader", name := "bit", desc := "()I" } : Jvm.MethodName)) ∈ zT := List.mem_filter.mpr ⟨List.mem_append_right _ (List.mem_of_getElem? (i := 336) (by decide +kernel)), by decide +kernel⟩
theorem q_337 : (Jvm.Cond.code ({ cls := "ZlibBox$BitReader", name := "bit", desc := "()I" } : Jvm.MethodName) prog_2_method_3_code (2 : Nat) (Option.some Jvm.ClassFile.FieldType.int)) ∈ zT := List.mem_filter.mpr ⟨List.mem_append_right _ (List.mem_of_getElem? (i := 337) (by decide +kernel)), by decide +kernel⟩
theorem q_338 : (Jvm.Cond.methodLink "ZlibBox$Unpacker" (104 : Nat) ({ cls := "ZlibBox$Unpacker", name := "readStored", desc := "()V" } : Jvm.MethodName)) ∈ zT := List.mem_filter.mpr ⟨List.mem_append_right _ (List.mem_of_getElem? (i := 338) (by decide +kernel)), by decide +kernel⟩
theorem q_340 : (Jvm.Cond.instanceMethod ({ cls := "ZlibBox$Unpacker", name := "readStored", desc := "()V" } : Jvm.MethodName)) ∈ zT := List.mem_filter.mpr ⟨List.mem_append_right _ (List.mem_of_getElem? (i := 340) (by decide +kernel)), by decide +kernel⟩
theorem q_341 : (Jvm.Cond.code ({ cls := "ZlibBox$Unpacker", name := "readStored", desc := "()V" } : Jvm.MethodName) prog_5_method_7_code (3 : Nat) (Option.none : Option Jvm.ClassFile.FieldType)) ∈ zT := List.mem_filter.mpr ⟨List.mem_append_right _ (List.mem_of_getElem? (i := 341) (by decide +kernel)), by decide +kernel⟩
theorem q_342 : (Jvm.Cond.methodLink "ZlibBox$Unpacker" (86 : Nat) ({ cls := "ZlibBox$BitReader", name := "skipToByte", desc := "()V" } : Jvm.MethodName)) ∈ zT := List.mem_filter.mpr ⟨List.mem_append_right _ (List.mem_of_getElem? (i := 342) (by decide +kernel)), by decide +kernel⟩
theorem q_343 : (Jvm.Cond.instanceMethod ({ cls := "ZlibBox$BitReader", name := "skipToByte", desc := "()V" } : Jvm.MethodName)) ∈ zT := List.mem_filter.mpr ⟨List.mem_append_right _ (List.mem_of_getElem? (i := 343) (by decide +kernel)), by decide +kernel⟩
theorem q_344 : (Jvm.Cond.selects "ZlibBox$BitReader" ({ cls := "ZlibBox$BitReader", name := "skipToByte", desc := "()V" } : Jvm.MethodName) ({ cls := "ZlibBox$BitReader", name := "skipToByte", desc := "()V" } : Jvm.MethodName)) ∈ zT := List.mem_filter.mpr ⟨List.mem_append_right _ (List.mem_of_getElem? (i := 344) (by decide +kernel)), by decide +kernel⟩
theorem q_345 : (Jvm.Cond.code ({ cls := "ZlibBox$BitReader", name := "skipToByte", desc := "()V" } : Jvm.MethodName) prog_2_method_5_code (1 : Nat) (Option.none : Option Jvm.ClassFile.FieldType)) ∈ zT := List.mem_filter.mpr ⟨List.mem_append_right _ (List.mem_of_getElem? (i := 345) (by decide +kernel)), by decide +kernel⟩
theorem q_346 : (Jvm.Cond.constant "ZlibBox$Unpacker" (116 : Nat) (65535 : Int32)) ∈ zT := List.mem_filter.mpr ⟨List.mem_append_right _ (List.mem_of_getElem? (i := 346) (by decide +kernel)), by decide +kernel⟩
theorem q_347 : (Jvm.Cond.stringRef "ZlibBox$Unpacker" (117 : Nat) "the two numbers do not fit") ∈ zxW := List.mem_filter.mpr ⟨List.mem_append_right _ (List.mem_of_getElem? (i := 347) (by decide +kernel)), by decide +kernel⟩
theorem q_348 : (Jvm.Cond.methodLink "ZlibBox$Unpacker" (119 : Nat) ({ cls := "ZlibBox$Unpacker", name := "put", desc := "(I)V" } : Jvm.MethodName)) ∈ zT := List.mem_filter.mpr ⟨List.mem_append_right _ (List.mem_of_getElem? (i := 348) (by decide +kernel)), by decide +kernel⟩
theorem q_350 : (Jvm.Cond.instanceMethod ({ cls := "ZlibBox$Unpacker", name := "put", desc := "(I)V" } : Jvm.MethodName)) ∈ zT := List.mem_filter.mpr ⟨List.mem_append_right _ (List.mem_of_getElem? (i := 350) (by decide +kernel)), by decide +kernel⟩
theorem q_351 : (Jvm.Cond.code ({ cls := "ZlibBox$Unpacker", name := "put", desc := "(I)V" } : Jvm.MethodName) prog_5_method_14_code (2 : Nat) (Option.none : Option Jvm.ClassFile.FieldType)) ∈ zT := List.mem_filter.mpr ⟨List.mem_append_right _ (List.mem_of_getElem? (i := 351) (by decide +kernel)), by decide +kernel⟩
theorem q_352 : (Jvm.Cond.classLink "ZlibBox$Unpacker" (180 : Nat) "java/lang/IndexOutOfBoundsException") ∈ zT := List.mem_filter.mpr ⟨List.mem_append_right _ (List.mem_of_getElem? (i := 352) (by decide +kernel)), by decide +kernel⟩
theorem q_353 : (Jvm.Cond.stringRef "ZlibBox$Unpacker" (182 : Nat) "the result would be too long") ∈ zxW := List.mem_filter.mpr ⟨List.mem_append_right _ (List.mem_of_getElem? (i := 353) (by decide +kernel)), by decide +kernel⟩
theorem q_354 : (Jvm.Cond.methodLink "ZlibBox$Unpacker" (184 : Nat) ({ cls := "java/lang/IndexOutOfBoundsException", name := "<init>", desc := "(Ljava/lang/String;)V" } : Jvm.MethodName)) ∈ zT := List.mem_filter.mpr ⟨List.mem_append_right _ (List.mem_of_getElem? (i := 354) (by decide +kernel)), by decide +kernel⟩
theorem q_355 : (Jvm.Cond.methodLink "ZlibBox$Unpacker" (107 : Nat) ({ cls := "ZlibBox$Unpacker", name := "readCoded", desc := "(LZlibBox$Codes;LZlibBox$Codes;)V" } : Jvm.MethodName)) ∈ zT := List.mem_filter.mpr ⟨List.mem_append_right _ (List.mem_of_getElem? (i := 355) (by decide +kernel)), by decide +kernel⟩
theorem q_357 : (Jvm.Cond.instanceMethod ({ cls := "ZlibBox$Unpacker", name := "readCoded", desc := "(LZlibBox$Codes;LZlibBox$Codes;)V" } : Jvm.MethodName)) ∈ zT := List.mem_filter.mpr ⟨List.mem_append_right _ (List.mem_of_getElem? (i := 357) (by decide +kernel)), by decide +kernel⟩
theorem q_358 : (Jvm.Cond.code ({ cls := "ZlibBox$Unpacker", name := "readCoded", desc := "(LZlibBox$Codes;LZlibBox$Codes;)V" } : Jvm.MethodName) prog_5_method_12_code (5 : Nat) (Option.none : Option Jvm.ClassFile.FieldType)) ∈ zT := List.mem_filter.mpr ⟨List.mem_append_right _ (List.mem_of_getElem? (i := 358) (by decide +kernel)), by decide +kernel⟩
theorem q_359 : (Jvm.Cond.methodLink "ZlibBox$Unpacker" (146 : Nat) ({ cls := "ZlibBox$Codes", name := "read", desc := "(LZlibBox$BitReader;)I" } : Jvm.MethodName)) ∈ zT := List.mem_filter.mpr ⟨List.mem_append_right _ (List.mem_of_getElem? (i := 359) (by decide +kernel)), by decide +kernel⟩
theorem q_360 : (Jvm.Cond.instanceMethod ({ cls := "ZlibBox$Codes", name := "read", desc := "(LZlibBox$BitReader;)I" } : Jvm.MethodName)) ∈ zT := List.mem_filter.mpr ⟨List.mem_append_right _ (List.mem_of_getElem? (i := 360) (by decide +kernel)), by decide +kernel⟩
theorem q_361 : (Jvm.Cond.selects "ZlibBox$Codes" ({ cls := "ZlibBox$Codes", name := "read", desc := "(LZlibBox$BitReader;)I" } : Jvm.MethodName) ({ cls := "ZlibBox$Codes", name := "read", desc := "(LZlibBox$BitReader;)I" } : Jvm.MethodName)) ∈ zT := List.mem_filter.mpr ⟨List.mem_append_right _ (List.mem_of_getElem? (i := 361) (by decide +kernel)), by decide +kernel⟩
theorem q_362 : (Jvm.Cond.code ({ cls := "ZlibBox$Codes", name := "read", desc := "(LZlibBox$BitReader;)I" } : Jvm.MethodName) prog_3_method_5_code (7 : Nat) (Option.some Jvm.ClassFile.FieldType.int)) ∈ zT := List.mem_filter.mpr ⟨List.mem_append_right _ (List.mem_of_getElem? (i := 362) (by decide +kernel)), by decide +kernel⟩
theorem q_363 : (Jvm.Cond.methodLink "ZlibBox$Codes" (30 : Nat) ({ cls := "ZlibBox$BitReader", name := "bit", desc := "()I" } : Jvm.MethodName)) ∈ zT := List.mem_filter.mpr ⟨List.mem_append_right _ (List.mem_of_getElem? (i := 363) (by decide +kernel)), by decide +kernel⟩
theorem q_364 : (Jvm.Cond.classLink "ZlibBox$Codes" (36 : Nat) "java/lang/UnsupportedOperationException") ∈ zT := List.mem_filter.mpr ⟨List.mem_append_right _ (List.mem_of_getElem? (i := 364) (by decide +kernel)), by decide +kernel⟩
theorem q_365 : (Jvm.Cond.stringRef "ZlibBox$Codes" (38 : Nat) "no such code") ∈ zxW := List.mem_filter.mpr ⟨List.mem_append_right _ (List.mem_of_getElem? (i := 365) (by decide +kernel)), by decide +kernel⟩
theorem q_366 : (Jvm.Cond.methodLink "ZlibBox$Codes" (40 : Nat) ({ cls := "java/lang/UnsupportedOperationException", name := "<init>", desc := "(Ljava/lang/String;)V" } : Jvm.MethodName)) ∈ zT := List.mem_filter.mpr ⟨List.mem_append_right _ (List.mem_of_getElem? (i := 366) (by decide +kernel)), by decide +kernel⟩
theorem q_367 : (Jvm.Cond.methodLink "ZlibBox$Unpacker" (158 : Nat) ({ cls := "ZlibBox$Unpacker", name := "readCopy", desc := "(ILZlibBox$Codes;)V" } : Jvm.MethodName)) ∈ zT := List.mem_filter.mpr ⟨List.mem_append_right _ (List.mem_of_getElem? (i := 367) (by decide +kernel)), by decide +kernel⟩
theorem q_369 : (Jvm.Cond.instanceMethod ({ cls := "ZlibBox$Unpacker", name := "readCopy", desc := "(ILZlibBox$Codes;)V" } : Jvm.MethodName)) ∈ zT := List.mem_filter.mpr ⟨List.mem_append_right _ (List.mem_of_getElem? (i := 369) (by decide +kernel)), by decide +kernel⟩
theorem q_370 : (Jvm.Cond.code ({ cls := "ZlibBox$Unpacker", name := "readCopy", desc := "(ILZlibBox$Codes;)V" } : Jvm.MethodName) prog_5_method_13_code (7 : Nat) (Option.none : Option Jvm.ClassFile.FieldType)) ∈ zT := List.mem_filter.mpr ⟨List.mem_append_right _ (List.mem_of_getElem? (i := 370) (by decide +kernel)), by decide +kernel⟩
theorem q_371 : (Jvm.Cond.fieldLinkNest "ZlibBox$Unpacker" (162 : Nat) "ZlibBox" "LENGTH_BASES" "[I" "ZlibBox") ∈ zxW := List.mem_filter.mpr ⟨List.mem_append_right _ (List.mem_of_getElem? (i := 371) (by decide +kernel)), by decide +kernel⟩
theorem q_373 : (Jvm.Cond.stringRef "ZlibBox$Unpacker" (165 : Nat) "no such length") ∈ zxW := List.mem_filter.mpr ⟨List.mem_append_right _ (List.mem_of_getElem? (i := 373) (by decide +kernel)), by decide +kernel⟩
theorem q_374 : (Jvm.Cond.fieldLinkNest "ZlibBox$Unpacker" (167 : Nat) "ZlibBox" "LENGTH_BITS" "[I" "ZlibBox") ∈ zxW := List.mem_filter.mpr ⟨List.mem_append_right _ (List.mem_of_getElem? (i := 374) (by decide +kernel)), by decide +kernel⟩
theorem q_376 : (Jvm.Cond.fieldLinkNest "ZlibBox$Unpacker" (170 : Nat) "ZlibBox" "DISTANCE_BASES" "[I" "ZlibBox") ∈ zxW := List.mem_filter.mpr ⟨List.mem_append_right _ (List.mem_of_getElem? (i := 376) (by decide +kernel)), by decide +kernel⟩
theorem q_378 : (Jvm.Cond.stringRef "ZlibBox$Unpacker" (173 : Nat) "no such distance") ∈ zxW := List.mem_filter.mpr ⟨List.mem_append_right _ (List.mem_of_getElem? (i := 378) (by decide +kernel)), by decide +kernel⟩
theorem q_379 : (Jvm.Cond.fieldLinkNest "ZlibBox$Unpacker" (175 : Nat) "ZlibBox" "DISTANCE_BITS" "[I" "ZlibBox") ∈ zxW := List.mem_filter.mpr ⟨List.mem_append_right _ (List.mem_of_getElem? (i := 379) (by decide +kernel)), by decide +kernel⟩
theorem q_381 : (Jvm.Cond.stringRef "ZlibBox$Unpacker" (178 : Nat) "before the first byte") ∈ zxW := List.mem_filter.mpr ⟨List.mem_append_right _ (List.mem_of_getElem? (i := 381) (by decide +kernel)), by decide +kernel⟩
theorem q_382 : (Jvm.Cond.methodLink "ZlibBox$Unpacker" (111 : Nat) ({ cls := "ZlibBox$Unpacker", name := "readToldCodes", desc := "()V" } : Jvm.MethodName)) ∈ zT := List.mem_filter.mpr ⟨List.mem_append_right _ (List.mem_of_getElem? (i := 382) (by decide +kernel)), by decide +kernel⟩
theorem q_384 : (Jvm.Cond.instanceMethod ({ cls := "ZlibBox$Unpacker", name := "readToldCodes", desc := "()V" } : Jvm.MethodName)) ∈ zT := List.mem_filter.mpr ⟨List.mem_append_right _ (List.mem_of_getElem? (i := 384) (by decide +kernel)), by decide +kernel⟩
theorem q_385 : (Jvm.Cond.code ({ cls := "ZlibBox$Unpacker", name := "readToldCodes", desc := "()V" } : Jvm.MethodName) prog_5_method_8_code (4 : Nat) (Option.none : Option Jvm.ClassFile.FieldType)) ∈ zT := List.mem_filter.mpr ⟨List.mem_append_right _ (List.mem_of_getElem? (i := 385) (by decide +kernel)), by decide +kernel⟩
theorem q_386 : (Jvm.Cond.stringRef "ZlibBox$Unpacker" (123 : Nat) "too many codes") ∈ zxW := List.mem_filter.mpr ⟨List.mem_append_right _ (List.mem_of_getElem? (i := 386) (by decide +kernel)), by decide +kernel⟩
theorem q_387 : (Jvm.Cond.methodLink "ZlibBox$Unpacker" (125 : Nat) ({ cls := "ZlibBox$Unpacker", name := "readLengthCodes", desc := "(I)V" } : Jvm.MethodName)) ∈ zT := List.mem_filter.mpr ⟨List.mem_append_right _ (List.mem_of_getElem? (i := 387) (by decide +kernel)), by decide +kernel⟩
theorem q_389 : (Jvm.Cond.instanceMethod ({ cls := "ZlibBox$Unpacker", name := "readLengthCodes", desc := "(I)V" } : Jvm.MethodName)) ∈ zT := List.mem_filter.mpr ⟨List.mem_append_right _ (List.mem_of_getElem? (i := 389) (by decide +kernel)), by decide +kernel⟩
theorem q_390 : (Jvm.Cond.code ({ cls := "ZlibBox$Unpacker", name := "readLengthCodes", desc := "(I)V" } : Jvm.MethodName) prog_5_method_9_code (3 : Nat) (Option.none : Option Jvm.ClassFile.FieldType)) ∈ zT := List.mem_filter.mpr ⟨List.mem_append_right _ (List.mem_of_getElem? (i := 390) (by decide +kernel)), by decide +kernel⟩
theorem q_391 : (Jvm.Cond.fieldLink "ZlibBox$Unpacker" (141 : Nat) "ZlibBox$Unpacker" "LENGTH_ORDER" "[I") ∈ zT := List.mem_filter.mpr ⟨List.mem_append_right _ (List.mem_of_getElem? (i := 391) (by decide +kernel)), by decide +kernel⟩
theorem q_393 : (Jvm.Cond.methodLink "ZlibBox$Unpacker" (131 : Nat) ({ cls := "ZlibBox$Codes", name := "useAllWords", desc := "()Z" } : Jvm.MethodName)) ∈ zT := List.mem_filter.mpr ⟨List.mem_append_right _ (List.mem_of_getElem? (i := 393) (by decide +kernel)), by decide +kernel⟩
theorem q_394 : (Jvm.Cond.instanceMethod ({ cls := "ZlibBox$Codes", name := "useAllWords", desc := "()Z" } : Jvm.MethodName)) ∈ zT := List.mem_filter.mpr ⟨List.mem_append_right _ (List.mem_of_getElem? (i := 394) (by decide +kernel)), by decide +kernel⟩
theorem q_395 : (Jvm.Cond.selects "ZlibBox$Codes" ({ cls := "ZlibBox$Codes", name := "useAllWords", desc := "()Z" } : Jvm.MethodName) ({ cls := "ZlibBox$Codes", name := "useAllWords", desc := "()Z" } : Jvm.MethodName)) ∈ zT := List.mem_filter.mpr ⟨List.mem_append_right _ (List.mem_of_getElem? (i := 395) (by decide +kernel)), by decide +kernel⟩
theorem q_396 : (Jvm.Cond.code ({ cls := "ZlibBox$Codes", name := "useAllWords", desc := "()Z" } : Jvm.MethodName) prog_3_method_3_code (1 : Nat) (Option.some Jvm.ClassFile.FieldType.boolean)) ∈ zT := List.mem_filter.mpr ⟨List.mem_append_right _ (List.mem_of_getElem? (i := 396) (by decide +kernel)), by decide +kernel⟩
theorem q_397 : (Jvm.Cond.stringRef "ZlibBox$Unpacker" (144 : Nat) "wrong codes for lengths") ∈ zxW := List.mem_filter.mpr ⟨List.mem_append_right _ (List.mem_of_getElem? (i := 397) (by decide +kernel)), by decide +kernel⟩
theorem q_398 : (Jvm.Cond.methodLink "ZlibBox$Unpacker" (128 : Nat) ({ cls := "ZlibBox$Unpacker", name := "readLengths", desc := "(I)V" } : Jvm.MethodName)) ∈ zT := List.mem_filter.mpr ⟨List.mem_append_right _ (List.mem_of_getElem? (i := 398) (by decide +kernel)), by decide +kernel⟩
theorem q_400 : (Jvm.Cond.instanceMethod ({ cls := "ZlibBox$Unpacker", name := "readLengths", desc := "(I)V" } : Jvm.MethodName)) ∈ zT := List.mem_filter.mpr ⟨List.mem_append_right _ (List.mem_of_getElem? (i := 400) (by decide +kernel)), by decide +kernel⟩
theorem q_401 : (Jvm.Cond.code ({ cls := "ZlibBox$Unpacker", name := "readLengths", desc := "(I)V" } : Jvm.MethodName) prog_5_method_10_code (5 : Nat) (Option.none : Option Jvm.ClassFile.FieldType)) ∈ zT := List.mem_filter.mpr ⟨List.mem_append_right _ (List.mem_of_getElem? (i := 401) (by decide +kernel)), by decide +kernel⟩
theorem q_402 : (Jvm.Cond.methodLink "ZlibBox$Unpacker" (150 : Nat) ({ cls := "ZlibBox$Unpacker", name := "readRun", desc := "(III)I" } : Jvm.MethodName)) ∈ zT := List.mem_filter.mpr ⟨List.mem_append_right _ (List.mem_of_getElem? (i := 402) (by decide +kernel)), by decide +kernel⟩
theorem q_404 : (Jvm.Cond.instanceMethod ({ cls := "ZlibBox$Unpacker", name := "readRun", desc := "(III)I" } : Jvm.MethodName)) ∈ zT := List.mem_filter.mpr ⟨List.mem_append_right _ (List.mem_of_getElem? (i := 404) (by decide +kernel)), by decide +kernel⟩
theorem q_405 : (Jvm.Cond.code ({ cls := "ZlibBox$Unpacker", name := "readRun", desc := "(III)I" } : Jvm.MethodName) prog_5_method_11_code (7 : Nat) (Option.some Jvm.ClassFile.FieldType.int)) ∈ zT := List.mem_filter.mpr ⟨List.mem_append_right _ (List.mem_of_getElem? (i := 405) (by decide +kernel)), by decide +kernel⟩
theorem q_406 : (Jvm.Cond.stringRef "ZlibBox$Unpacker" (154 : Nat) "no length before") ∈ zxW := List.mem_filter.mpr ⟨List.mem_append_right _ (List.mem_of_getElem? (i := 406) (by decide +kernel)), by decide +kernel⟩
theorem q_407 : (Jvm.Cond.stringRef "ZlibBox$Unpacker" (156 : Nat) "too many lengths") ∈ zxW := List.mem_filter.mpr ⟨List.mem_append_right _ (List.mem_of_getElem? (i := 407) (by decide +kernel)), by decide +kernel⟩
theorem q_408 : (Jvm.Cond.stringRef "ZlibBox$Unpacker" (134 : Nat) "wrong codes for literals") ∈ zxW := List.mem_filter.mpr ⟨List.mem_append_right _ (List.mem_of_getElem? (i := 408) (by decide +kernel)), by decide +kernel⟩
theorem q_409 : (Jvm.Cond.methodLink "ZlibBox$Unpacker" (136 : Nat) ({ cls := "ZlibBox$Codes", name := "areOneOfOneBitOrNone", desc := "()Z" } : Jvm.MethodName)) ∈ zT := List.mem_filter.mpr ⟨List.mem_append_right _ (List.mem_of_getElem? (i := 409) (by decide +kernel)), by decide +kernel⟩
theorem q_410 : (Jvm.Cond.instanceMethod ({ cls := "ZlibBox$Codes", name := "areOneOfOneBitOrNone", desc := "()Z" } : Jvm.MethodName)) ∈ zT := List.mem_filter.mpr ⟨List.mem_append_right _ (List.mem_of_getElem? (i := 410) (by decide +kernel)), by decide +kernel⟩
theorem q_411 : (Jvm.Cond.selects "ZlibBox$Codes" ({ cls := "ZlibBox$Codes", name := "areOneOfOneBitOrNone", desc := "()Z" } : Jvm.MethodName) ({ cls := "ZlibBox$Codes", name := "areOneOfOneBitOrNone", desc := "()Z" } : Jvm.MethodName)) ∈ zT := List.mem_filter.mpr ⟨List.mem_append_right _ (List.mem_of_getElem? (i := 411) (by decide +kernel)), by decide +kernel⟩
theorem q_412 : (Jvm.Cond.code ({ cls := "ZlibBox$Codes", name := "areOneOfOneBitOrNone", desc := "()Z" } : Jvm.MethodName) prog_3_method_4_code (1 : Nat) (Option.some Jvm.ClassFile.FieldType.boolean)) ∈ zT := List.mem_filter.mpr ⟨List.mem_append_right _ (List.mem_of_getElem? (i := 412) (by decide +kernel)), by decide +kernel⟩
theorem q_413 : (Jvm.Cond.stringRef "ZlibBox$Unpacker" (139 : Nat) "wrong codes for distances") ∈ zxW := List.mem_filter.mpr ⟨List.mem_append_right _ (List.mem_of_getElem? (i := 413) (by decide +kernel)), by decide +kernel⟩
theorem q_414 : (Jvm.Cond.stringRef "ZlibBox$Unpacker" (114 : Nat) "no such block") ∈ zxW := List.mem_filter.mpr ⟨List.mem_append_right _ (List.mem_of_getElem? (i := 414) (by decide +kernel)), by decide +kernel⟩
theorem q_415 : (Jvm.Cond.methodLink "ZlibBox$Unpacker" (62 : Nat) ({ cls := "ZlibBox$Unpacker", name := "readTail", desc := "()V" } : Jvm.MethodName)) ∈ zT := List.mem_filter.mpr ⟨List.mem_append_right _ (List.mem_of_getElem? (i := 415) (by decide +kernel)), by decide +kernel⟩
theorem q_417 : (Jvm.Cond.instanceMethod ({ cls := "ZlibBox$Unpacker", name := "readTail", desc := "()V" } : Jvm.MethodName)) ∈ zT := List.mem_filter.mpr ⟨List.mem_append_right _ (List.mem_of_getElem? (i := 417) (by decide +kernel)), by decide +kernel⟩
theorem q_418 : (Jvm.Cond.code ({ cls := "ZlibBox$Unpacker", name := "readTail", desc := "()V" } : Jvm.MethodName) prog_5_method_5_code (3 : Nat) (Option.none : Option Jvm.ClassFile.FieldType)) ∈ zT := List.mem_filter.mpr ⟨List.mem_append_right _ (List.mem_of_getElem? (i := 418) (by decide +kernel)), by decide +kernel⟩
theorem q_419 : (Jvm.Cond.methodLinkNest "ZlibBox$Unpacker" (89 : Nat) ({ cls := "ZlibBox", name := "adlerOf", desc := "([BI)I" } : Jvm.MethodName) "ZlibBox") ∈ zxW := List.mem_filter.mpr ⟨List.mem_append_right _ (List.mem_of_getElem? (i := 419) (by decide +kernel)), by decide +kernel⟩
theorem q_420 : (Jvm.Cond.methodLink "ZlibBox$Unpacker" (93 : Nat) ({ cls := "ZlibBox$BitReader", name := "atEnd", desc := "()Z" } : Jvm.MethodName)) ∈ zT := List.mem_filter.mpr ⟨List.mem_append_right _ (List.mem_of_getElem? (i := 420) (by decide +kernel)), by decide +kernel⟩
theorem q_421 : (Jvm.Cond.instanceMethod ({ cls := "ZlibBox$BitReader", name := "atEnd", desc := "()Z" } : Jvm.MethodName)) ∈ zT := List.mem_filter.mpr ⟨List.mem_append_right _ (List.mem_of_getElem? (i := 421) (by decide +kernel)), by decide +kernel⟩
theorem q_422 : (Jvm.Cond.selects "ZlibBox$BitReader" ({ cls := "ZlibBox$BitReader", name := "atEnd", desc := "()Z" } : Jvm.MethodName) ({ cls := "ZlibBox$BitReader", name := "atEnd", desc := "()Z" } : Jvm.MethodName)) ∈ zT := List.mem_filter.mpr ⟨List.mem_append_right _ (List.mem_of_getElem? (i := 422) (by decide +kernel)), by decide +kernel⟩
theorem q_423 : (Jvm.Cond.code ({ cls := "ZlibBox$BitReader", name := "atEnd", desc := "()Z" } : Jvm.MethodName) prog_2_method_6_code (1 : Nat) (Option.some Jvm.ClassFile.FieldType.boolean)) ∈ zT := List.mem_filter.mpr ⟨List.mem_append_right _ (List.mem_of_getElem? (i := 423) (by decide +kernel)), by decide +kernel⟩
theorem q_424 : (Jvm.Cond.stringRef "ZlibBox$Unpacker" (97 : Nat) "no end of ZLIB") ∈ zxW := List.mem_filter.mpr ⟨List.mem_append_right _ (List.mem_of_getElem? (i := 424) (by decide +kernel)), by decide +kernel⟩
theorem q_425 : (Jvm.Cond.methodLink "ZlibBox" (66 : Nat) ({ cls := "ZlibBox", name := "keepDraft", desc := "(I)I" } : Jvm.MethodName)) ∈ zT := List.mem_filter.mpr ⟨List.mem_append_right _ (List.mem_of_getElem? (i := 425) (by decide +kernel)), by decide +kernel⟩
theorem q_427 : (Jvm.Cond.instanceMethod ({ cls := "ZlibBox", name := "keepDraft", desc := "(I)I" } : Jvm.MethodName)) ∈ zT := List.mem_filter.mpr ⟨List.mem_append_right _ (List.mem_of_getElem? (i := 427) (by decide +kernel)), by decide +kernel⟩
theorem q_428 : (Jvm.Cond.code ({ cls := "ZlibBox", name := "keepDraft", desc := "(I)I" } : Jvm.MethodName) prog_1_method_11_code (3 : Nat) (Option.some Jvm.ClassFile.FieldType.int)) ∈ zT := List.mem_filter.mpr ⟨List.mem_append_right _ (List.mem_of_getElem? (i := 428) (by decide +kernel)), by decide +kernel⟩
theorem q_429 : (Jvm.Cond.methodLink "ZlibBoxLaw" (62 : Nat) ({ cls := "ZlibBoxLaw", name := "pack", desc := "(LZlibBox;[J)I" } : Jvm.MethodName)) ∈ zT := List.mem_filter.mpr ⟨List.mem_append_right _ (List.mem_of_getElem? (i := 429) (by decide +kernel)), by decide +kernel⟩
theorem q_430 : (Jvm.Cond.static ({ cls := "ZlibBoxLaw", name := "pack", desc := "(LZlibBox;[J)I" } : Jvm.MethodName)) ∈ zT := List.mem_filter.mpr ⟨List.mem_append_right _ (List.mem_of_getElem? (i := 430) (by decide +kernel)), by decide +kernel⟩
theorem q_431 : (Jvm.Cond.codeWith ({ cls := "ZlibBoxLaw", name := "pack", desc := "(LZlibBox;[J)I" } : Jvm.MethodName) method_6_code (3 : Nat) (Option.some Jvm.ClassFile.FieldType.int) [((0 : Nat), (8 : Nat), (11 : Nat), (13 : Nat))]) ∈ zT := List.mem_filter.mpr ⟨List.mem_append_right _ (List.mem_of_getElem? (i := 431) (by decide +kernel)), by decide +kernel⟩
theorem q_432 : (Jvm.Cond.methodLink "ZlibBoxLaw" (27 : Nat) ({ cls := "ZlibBox", name := "pack", desc := "()I" } : Jvm.MethodName)) ∈ zT := List.mem_filter.mpr ⟨List.mem_append_right _ (List.mem_of_getElem? (i := 432) (by decide +kernel)), by decide +kernel⟩
theorem q_433 : (Jvm.Cond.instanceMethod ({ cls := "ZlibBox", name := "pack", desc := "()I" } : Jvm.MethodName)) ∈ zT := List.mem_filter.mpr ⟨List.mem_append_right _ (List.mem_of_getElem? (i := 433) (by decide +kernel)), by decide +kernel⟩
theorem q_434 : (Jvm.Cond.selects "ZlibBox" ({ cls := "ZlibBox", name := "pack", desc := "()I" } : Jvm.MethodName) ({ cls := "ZlibBox", name := "pack", desc := "()I" } : Jvm.MethodName)) ∈ zT := List.mem_filter.mpr ⟨List.mem_append_right _ (List.mem_of_getElem? (i := 434) (by decide +kernel)), by decide +kernel⟩
theorem q_435 : (Jvm.Cond.code ({ cls := "ZlibBox", name := "pack", desc := "()I" } : Jvm.MethodName) prog_1_method_6_code (1 : Nat) (Option.some Jvm.ClassFile.FieldType.int)) ∈ zT := List.mem_filter.mpr ⟨List.mem_append_right _ (List.mem_of_getElem? (i := 435) (by decide +kernel)), by decide +kernel⟩
theorem q_436 : (Jvm.Cond.methodLink "ZlibBox" (70 : Nat) ({ cls := "ZlibBox$Packer", name := "write", desc := "([BI[B)I" } : Jvm.MethodName)) ∈ zT := List.mem_filter.mpr ⟨List.mem_append_right _ (List.mem_of_getElem? (i := 436) (by decide +kernel)), by decide +kernel⟩
theorem q_437 : (Jvm.Cond.instanceMethod ({ cls := "ZlibBox$Packer", name := "write", desc := "([BI[B)I" } : Jvm.MethodName)) ∈ zT := List.mem_filter.mpr ⟨List.mem_append_right _ (List.mem_of_getElem? (i := 437) (by decide +kernel)), by decide +kernel⟩
theorem q_438 : (Jvm.Cond.selects "ZlibBox$Packer" ({ cls := "ZlibBox$Packer", name := "write", desc := "([BI[B)I" } : Jvm.MethodName) ({ cls := "ZlibBox$Packer", name := "write", desc := "([BI[B)I" } : Jvm.MethodName)) ∈ zT := List.mem_filter.mpr ⟨List.mem_append_right _ (List.mem_of_getElem? (i := 438) (by decide +kernel)), by decide +kernel⟩
theorem q_439 : (Jvm.Cond.code ({ cls := "ZlibBox$Packer", name := "write", desc := "([BI[B)I" } : Jvm.MethodName) prog_4_method_2_code (4 : Nat) (Option.some Jvm.ClassFile.FieldType.int)) ∈ zT := List.mem_filter.mpr ⟨List.mem_append_right _ (List.mem_of_getElem? (i := 439) (by decide +kernel)), by decide +kernel⟩
theorem q_440 : (Jvm.Cond.methodLink "ZlibBox$Packer" (25 : Nat) ({ cls := "ZlibBox$Packer", name := "open", desc := "([BI[B)V" } : Jvm.MethodName)) ∈ zT := List.mem_filter.mpr ⟨List.mem_append_right _ (List.mem_of_getElem? (i := 440) (by decide +kernel)), by decide +kernel⟩
theorem q_442 : (Jvm.Cond.instanceMethod ({ cls := "ZlibBox$Packer", name := "open", desc := "([BI[B)V" } : Jvm.MethodName)) ∈ zT := List.mem_filter.mpr ⟨List.mem_append_right _ (List.mem_of_getElem? (i := 442) (by decide +kernel)), by decide +kernel⟩
theorem q_443 : (Jvm.Cond.code ({ cls := "ZlibBox$Packer", name := "open", desc := "([BI[B)V" } : Jvm.MethodName) prog_4_method_3_code (4 : Nat) (Option.none : Option Jvm.ClassFile.FieldType)) ∈ zT := List.mem_filter.mpr ⟨List.mem_append_right _ (List.mem_of_getElem? (i := 443) (by decide +kernel)), by decide +kernel⟩
theorem q_444 : (Jvm.Cond.methodLink "ZlibBox$Packer" (57 : Nat) ({ cls := "java/util/Arrays", name := "fill", desc := "([II)V" } : Jvm.MethodName)) ∈ zT := List.mem_filter.mpr ⟨List.mem_append_right _ (List.mem_of_getElem? (i := 444) (by decide +kernel)), by decide +kernel⟩
theorem q_445 : (Jvm.Cond.methodLink "ZlibBox$Packer" (29 : Nat) ({ cls := "ZlibBox$Packer", name := "putByte", desc := "(I)V" } : Jvm.MethodName)) ∈ zT := List.mem_filter.mpr ⟨List.mem_append_right _ (List.mem_of_getElem? (i := 445) (by decide +kernel)), by decide +kernel⟩
theorem q_447 : (Jvm.Cond.instanceMethod ({ cls := "ZlibBox$Packer", name := "putByte", desc := "(I)V" } : Jvm.MethodName)) ∈ zT := List.mem_filter.mpr ⟨List.mem_append_right _ (List.mem_of_getElem? (i := 447) (by decide +kernel)), by decide +kernel⟩
theorem q_448 : (Jvm.Cond.code ({ cls := "ZlibBox$Packer", name := "putByte", desc := "(I)V" } : Jvm.MethodName) prog_4_method_16_code (2 : Nat) (Option.none : Option Jvm.ClassFile.FieldType)) ∈ zT := List.mem_filter.mpr ⟨List.mem_append_right _ (List.mem_of_getElem? (i := 448) (by decide +kernel)), by decide +kernel⟩
theorem q_449 : (Jvm.Cond.classLink "ZlibBox$Packer" (123 : Nat) "java/lang/IndexOutOfBoundsException") ∈ zT := List.mem_filter.mpr ⟨List.mem_append_right _ (List.mem_of_getElem? (i := 449) (by decide +kernel)), by decide +kernel⟩
theorem q_450 : (Jvm.Cond.stringRef "ZlibBox$Packer" (125 : Nat) "the result would be too long") ∈ zxW := List.mem_filter.mpr ⟨List.mem_append_right _ (List.mem_of_getElem? (i := 450) (by decide +kernel)), by decide +kernel⟩
theorem q_451 : (Jvm.Cond.methodLink "ZlibBox$Packer" (127 : Nat) ({ cls := "java/lang/IndexOutOfBoundsException", name := "<init>", desc := "(Ljava/lang/String;)V" } : Jvm.MethodName)) ∈ zT := List.mem_filter.mpr ⟨List.mem_append_right _ (List.mem_of_getElem? (i := 451) (by decide +kernel)), by decide +kernel⟩
theorem q_452 : (Jvm.Cond.methodLink "ZlibBox$Packer" (33 : Nat) ({ cls := "ZlibBox$Packer", name := "putNumber", desc := "(II)V" } : Jvm.MethodName)) ∈ zT := List.mem_filter.mpr ⟨List.mem_append_right _ (List.mem_of_getElem? (i := 452) (by decide +kernel)), by decide +kernel⟩
theorem q_454 : (Jvm.Cond.instanceMethod ({ cls := "ZlibBox$Packer", name := "putNumber", desc := "(II)V" } : Jvm.MethodName)) ∈ zT := List.mem_filter.mpr ⟨List.mem_append_right _ (List.mem_of_getElem? (i := 454) (by decide +kernel)), by decide +kernel⟩
theorem q_455 : (Jvm.Cond.code ({ cls := "ZlibBox$Packer", name := "putNumber", desc := "(II)V" } : Jvm.MethodName) prog_4_method_13_code (3 : Nat) (Option.none : Option Jvm.ClassFile.FieldType)) ∈ zT := List.mem_filter.mpr ⟨List.mem_append_right _ (List.mem_of_getElem? (i := 455) (by decide +kernel)), by decide +kernel⟩
theorem q_456 : (Jvm.Cond.methodLink "ZlibBox$Packer" (37 : Nat) ({ cls := "ZlibBox$Packer", name := "writeTape", desc := "()V" } : Jvm.MethodName)) ∈ zT := List.mem_filter.mpr ⟨List.mem_append_right _ (List.mem_of_getElem? (i := 456) (by decide +kernel)), by decide +kernel⟩
theorem q_458 : (Jvm.Cond.instanceMethod ({ cls := "ZlibBox$Packer", name := "writeTape", desc := "()V" } : Jvm.MethodName)) ∈ zT := List.mem_filter.mpr ⟨List.mem_append_right _ (List.mem_of_getElem? (i := 458) (by decide +kernel)), by decide +kernel⟩
theorem q_459 : (Jvm.Cond.code ({ cls := "ZlibBox$Packer", name := "writeTape", desc := "()V" } : Jvm.MethodName) prog_4_method_4_code (4 : Nat) (Option.none : Option Jvm.ClassFile.FieldType)) ∈ zT := List.mem_filter.mpr ⟨List.mem_append_right _ (List.mem_of_getElem? (i := 459) (by decide +kernel)), by decide +kernel⟩
theorem q_460 : (Jvm.Cond.methodLink "ZlibBox$Packer" (72 : Nat) ({ cls := "ZlibBox$Packer", name := "findCopy", desc := "(I)V" } : Jvm.MethodName)) ∈ zT := List.mem_filter.mpr ⟨List.mem_append_right _ (List.mem_of_getElem? (i := 460) (by decide +kernel)), by decide +kernel⟩
theorem q_462 : (Jvm.Cond.instanceMethod ({ cls := "ZlibBox$Packer", name := "findCopy", desc := "(I)V" } : Jvm.MethodName)) ∈ zT := List.mem_filter.mpr ⟨List.mem_append_right _ (List.mem_of_getElem? (i := 462) (by decide +kernel)), by decide +kernel⟩
theorem q_463 : (Jvm.Cond.code ({ cls := "ZlibBox$Packer", name := "findCopy", desc := "(I)V" } : Jvm.MethodName) prog_4_method_5_code (8 : Nat) (Option.none : Option Jvm.ClassFile.FieldType)) ∈ zT := List.mem_filter.mpr ⟨List.mem_append_right _ (List.mem_of_getElem? (i := 463) (by decide +kernel)), by decide +kernel⟩
theorem q_464 : (Jvm.Cond.methodLink "ZlibBox$Packer" (90 : Nat) ({ cls := "java/lang/Math", name := "min", desc := "(II)I" } : Jvm.MethodName)) ∈ zT := List.mem_filter.mpr ⟨List.mem_append_right _ (List.mem_of_getElem? (i := 464) (by decide +kernel)), by decide +kernel⟩
theorem q_465 : (Jvm.Cond.static ({ cls := "java/lang/Math", name := "min", desc := "(II)I" } : Jvm.MethodName)) ∈ zT := List.mem_filter.mpr ⟨List.mem_append_right _ (List.mem_of_getElem? (i := 465) (by decide +kernel)), by decide +kernel⟩
theorem q_466 : (Jvm.Cond.code ({ cls := "java/lang/Math", name := "min", desc := "(II)I" } : Jvm.MethodName) prog_12_method_69_code (2 : Nat) (Option.some Jvm.ClassFile.FieldType.int)) ∈ zT := List.mem_filter.mpr ⟨List.mem_append_right _ (List.mem_of_getElem? (i := 466) (by decide +kernel)), by decide +kernel⟩
theorem q_467 : (Jvm.Cond.methodLink "ZlibBox$Packer" (78 : Nat) ({ cls := "java/lang/Math", name := "max", desc := "(II)I" } : Jvm.MethodName)) ∈ zT := List.mem_filter.mpr ⟨List.mem_append_right _ (List.mem_of_getElem? (i := 467) (by decide +kernel)), by decide +kernel⟩
theorem q_468 : (Jvm.Cond.static ({ cls := "java/lang/Math", name := "max", desc := "(II)I" } : Jvm.MethodName)) ∈ zT := List.mem_filter.mpr ⟨List.mem_append_right _ (List.mem_of_getElem? (i := 468) (by decide +kernel)), by decide +kernel⟩
theorem q_469 : (Jvm.Cond.code ({ cls := "java/lang/Math", name := "max", desc := "(II)I" } : Jvm.MethodName) prog_12_method_65_code (2 : Nat) (Option.some Jvm.ClassFile.FieldType.int)) ∈ zT := List.mem_filter.mpr ⟨List.mem_append_right _ (List.mem_of_getElem? (i := 469) (by decide +kernel)), by decide +kernel⟩
theorem q_470 : (Jvm.Cond.methodLink "ZlibBox$Packer" (93 : Nat) ({ cls := "ZlibBox$Packer", name := "chainOf", desc := "(I)I" } : Jvm.MethodName)) ∈ zT := List.mem_filter.mpr ⟨List.mem_append_right _ (List.mem_of_getElem? (i := 470) (by decide +kernel)), by decide +kernel⟩
theorem q_472 : (Jvm.Cond.instanceMethod ({ cls := "ZlibBox$Packer", name := "chainOf", desc := "(I)I" } : Jvm.MethodName)) ∈ zT := List.mem_filter.mpr ⟨List.mem_append_right _ (List.mem_of_getElem? (i := 472) (by decide +kernel)), by decide +kernel⟩
theorem q_473 : (Jvm.Cond.code ({ cls := "ZlibBox$Packer", name := "chainOf", desc := "(I)I" } : Jvm.MethodName) prog_4_method_8_code (5 : Nat) (Option.some Jvm.ClassFile.FieldType.int)) ∈ zT := List.mem_filter.mpr ⟨List.mem_append_right _ (List.mem_of_getElem? (i := 473) (by decide +kernel)), by decide +kernel⟩
theorem q_474 : (Jvm.Cond.methodLink "ZlibBox$Packer" (97 : Nat) ({ cls := "ZlibBox$Packer", name := "agreement", desc := "(III)I" } : Jvm.MethodName)) ∈ zT := List.mem_filter.mpr ⟨List.mem_append_right _ (List.mem_of_getElem? (i := 474) (by decide +kernel)), by decide +kernel⟩
theorem q_476 : (Jvm.Cond.instanceMethod ({ cls := "ZlibBox$Packer", name := "agreement", desc := "(III)I" } : Jvm.MethodName)) ∈ zT := List.mem_filter.mpr ⟨List.mem_append_right _ (List.mem_of_getElem? (i := 476) (by decide +kernel)), by decide +kernel⟩
theorem q_477 : (Jvm.Cond.code ({ cls := "ZlibBox$Packer", name := "agreement", desc := "(III)I" } : Jvm.MethodName) prog_4_method_6_code (5 : Nat) (Option.some Jvm.ClassFile.FieldType.int)) ∈ zT := List.mem_filter.mpr ⟨List.mem_append_right _ (List.mem_of_getElem? (i := 477) (by decide +kernel)), by decide +kernel⟩
theorem q_478 : (Jvm.Cond.methodLink "ZlibBox$Packer" (40 : Nat) ({ cls := "ZlibBox$Packer", name := "putLiteral", desc := "(I)V" } : Jvm.MethodName)) ∈ zT := List.mem_filter.mpr ⟨List.mem_append_right _ (List.mem_of_getElem? (i := 478) (by decide +kernel)), by decide +kernel⟩
theorem q_480 : (Jvm.Cond.instanceMethod ({ cls := "ZlibBox$Packer", name := "putLiteral", desc := "(I)V" } : Jvm.MethodName)) ∈ zT := List.mem_filter.mpr ⟨List.mem_append_right _ (List.mem_of_getElem? (i := 480) (by decide +kernel)), by decide +kernel⟩
theorem q_481 : (Jvm.Cond.code ({ cls := "ZlibBox$Packer", name := "putLiteral", desc := "(I)V" } : Jvm.MethodName) prog_4_method_11_code (2 : Nat) (Option.none : Option Jvm.ClassFile.FieldType)) ∈ zT := List.mem_filter.mpr ⟨List.mem_append_right _ (List.mem_of_getElem? (i := 481) (by decide +kernel)), by decide +kernel⟩
theorem q_482 : (Jvm.Cond.methodLink "ZlibBox$Packer" (117 : Nat) ({ cls := "ZlibBox$Packer", name := "turned", desc := "(II)I" } : Jvm.MethodName)) ∈ zT := List.mem_filter.mpr ⟨List.mem_append_right _ (List.mem_of_getElem? (i := 482) (by decide +kernel)), by decide +kernel⟩
theorem q_483 : (Jvm.Cond.static ({ cls := "ZlibBox$Packer", name := "turned", desc := "(II)I" } : Jvm.MethodName)) ∈ zT := List.mem_filter.mpr ⟨List.mem_append_right _ (List.mem_of_getElem? (i := 483) (by decide +kernel)), by decide +kernel⟩
theorem q_484 : (Jvm.Cond.code ({ cls := "ZlibBox$Packer", name := "turned", desc := "(II)I" } : Jvm.MethodName) prog_4_method_12_code (4 : Nat) (Option.some Jvm.ClassFile.FieldType.int)) ∈ zT := List.mem_filter.mpr ⟨List.mem_append_right _ (List.mem_of_getElem? (i := 484) (by decide +kernel)), by decide +kernel⟩
theorem q_485 : (Jvm.Cond.methodLink "ZlibBox$Packer" (84 : Nat) ({ cls := "ZlibBox$Packer", name := "putCopy", desc := "()V" } : Jvm.MethodName)) ∈ zT := List.mem_filter.mpr ⟨List.mem_append_right _ (List.mem_of_getElem? (i := 485) (by decide +kernel)), by decide +kernel⟩
theorem q_487 : (Jvm.Cond.instanceMethod ({ cls := "ZlibBox$Packer", name := "putCopy", desc := "()V" } : Jvm.MethodName)) ∈ zT := List.mem_filter.mpr ⟨List.mem_append_right _ (List.mem_of_getElem? (i := 487) (by decide +kernel)), by decide +kernel⟩
theorem q_488 : (Jvm.Cond.code ({ cls := "ZlibBox$Packer", name := "putCopy", desc := "()V" } : Jvm.MethodName) prog_4_method_9_code (3 : Nat) (Option.none : Option Jvm.ClassFile.FieldType)) ∈ zT := List.mem_filter.mpr ⟨List.mem_append_right _ (List.mem_of_getElem? (i := 488) (by decide +kernel)), by decide +kernel⟩
theorem q_489 : (Jvm.Cond.fieldLinkNest "ZlibBox$Packer" (104 : Nat) "ZlibBox" "LENGTH_BASES" "[I" "ZlibBox") ∈ zxW := List.mem_filter.mpr ⟨List.mem_append_right _ (List.mem_of_getElem? (i := 489) (by decide +kernel)), by decide +kernel⟩
theorem q_490 : (Jvm.Cond.methodLink "ZlibBox$Packer" (107 : Nat) ({ cls := "ZlibBox$Packer", name := "lastNotAbove", desc := "([II)I" } : Jvm.MethodName)) ∈ zT := List.mem_filter.mpr ⟨List.mem_append_right _ (List.mem_of_getElem? (i := 490) (by decide +kernel)), by decide +kernel⟩
theorem q_491 : (Jvm.Cond.static ({ cls := "ZlibBox$Packer", name := "lastNotAbove", desc := "([II)I" } : Jvm.MethodName)) ∈ zT := List.mem_filter.mpr ⟨List.mem_append_right _ (List.mem_of_getElem? (i := 491) (by decide +kernel)), by decide +kernel⟩
theorem q_492 : (Jvm.Cond.code ({ cls := "ZlibBox$Packer", name := "lastNotAbove", desc := "([II)I" } : Jvm.MethodName) prog_4_method_10_code (4 : Nat) (Option.some Jvm.ClassFile.FieldType.int)) ∈ zT := List.mem_filter.mpr ⟨List.mem_append_right _ (List.mem_of_getElem? (i := 492) (by decide +kernel)), by decide +kernel⟩
theorem q_493 : (Jvm.Cond.fieldLinkNest "ZlibBox$Packer" (111 : Nat) "ZlibBox" "LENGTH_BITS" "[I" "ZlibBox") ∈ zxW := List.mem_filter.mpr ⟨List.mem_append_right _ (List.mem_of_getElem? (i := 493) (by decide +kernel)), by decide +kernel⟩
theorem q_494 : (Jvm.Cond.fieldLinkNest "ZlibBox$Packer" (114 : Nat) "ZlibBox" "DISTANCE_BASES" "[I" "ZlibBox") ∈ zxW := List.mem_filter.mpr ⟨List.mem_append_right _ (List.mem_of_getElem? (i := 494) (by decide +kernel)), by decide +kernel⟩
theorem q_495 : (Jvm.Cond.fieldLinkNest "ZlibBox$Packer" (120 : Nat) "ZlibBox" "DISTANCE_BITS" "[I" "ZlibBox") ∈ zxW := List.mem_filter.mpr ⟨List.mem_append_right _ (List.mem_of_getElem? (i := 495) (by decide +kernel)), by decide +kernel⟩
theorem q_496 : (Jvm.Cond.methodLink "ZlibBox$Packer" (87 : Nat) ({ cls := "ZlibBox$Packer", name := "remember", desc := "(I)V" } : Jvm.MethodName)) ∈ zT := List.mem_filter.mpr ⟨List.mem_append_right _ (List.mem_of_getElem? (i := 496) (by decide +kernel)), by decide +kernel⟩
theorem q_498 : (Jvm.Cond.instanceMethod ({ cls := "ZlibBox$Packer", name := "remember", desc := "(I)V" } : Jvm.MethodName)) ∈ zT := List.mem_filter.mpr ⟨List.mem_append_right _ (List.mem_of_getElem? (i := 498) (by decide +kernel)), by decide +kernel⟩
theorem q_499 : (Jvm.Cond.code ({ cls := "ZlibBox$Packer", name := "remember", desc := "(I)V" } : Jvm.MethodName) prog_4_method_7_code (3 : Nat) (Option.none : Option Jvm.ClassFile.FieldType)) ∈ zT := List.mem_filter.mpr ⟨List.mem_append_right _ (List.mem_of_getElem? (i := 499) (by decide +kernel)), by decide +kernel⟩
theorem q_500 : (Jvm.Cond.methodLink "ZlibBox$Packer" (43 : Nat) ({ cls := "ZlibBox$Packer", name := "putLastBits", desc := "()V" } : Jvm.MethodName)) ∈ zT := List.mem_filter.mpr ⟨List.mem_append_right _ (List.mem_of_getElem? (i := 500) (by decide +kernel)), by decide +kernel⟩
theorem q_502 : (Jvm.Cond.instanceMethod ({ cls := "ZlibBox$Packer", name := "putLastBits", desc := "()V" } : Jvm.MethodName)) ∈ zT := List.mem_filter.mpr ⟨List.mem_append_right _ (List.mem_of_getElem? (i := 502) (by decide +kernel)), by decide +kernel⟩
theorem q_503 : (Jvm.Cond.code ({ cls := "ZlibBox$Packer", name := "putLastBits", desc := "()V" } : Jvm.MethodName) prog_4_method_14_code (1 : Nat) (Option.none : Option Jvm.ClassFile.FieldType)) ∈ zT := List.mem_filter.mpr ⟨List.mem_append_right _ (List.mem_of_getElem? (i := 503) (by decide +kernel)), by decide +kernel⟩
theorem q_504 : (Jvm.Cond.methodLinkNest "ZlibBox$Packer" (46 : Nat) ({ cls := "ZlibBox", name := "adlerOf", desc := "([BI)I" } : Jvm.MethodName) "ZlibBox") ∈ zxW := List.mem_filter.mpr ⟨List.mem_append_right _ (List.mem_of_getElem? (i := 504) (by decide +kernel)), by decide +kernel⟩
theorem q_505 : (Jvm.Cond.methodLink "ZlibBox$Packer" (50 : Nat) ({ cls := "ZlibBox$Packer", name := "putAdler", desc := "(I)V" } : Jvm.MethodName)) ∈ zT := List.mem_filter.mpr ⟨List.mem_append_right _ (List.mem_of_getElem? (i := 505) (by decide +kernel)), by decide +kernel⟩
theorem q_507 : (Jvm.Cond.instanceMethod ({ cls := "ZlibBox$Packer", name := "putAdler", desc := "(I)V" } : Jvm.MethodName)) ∈ zT := List.mem_filter.mpr ⟨List.mem_append_right _ (List.mem_of_getElem? (i := 507) (by decide +kernel)), by decide +kernel⟩
theorem q_508 : (Jvm.Cond.code ({ cls := "ZlibBox$Packer", name := "putAdler", desc := "(I)V" } : Jvm.MethodName) prog_4_method_15_code (3 : Nat) (Option.none : Option Jvm.ClassFile.FieldType)) ∈ zT := List.mem_filter.mpr ⟨List.mem_append_right _ (List.mem_of_getElem? (i := 508) (by decide +kernel)), by decide +kernel⟩
theorem q_509 : (Jvm.Cond.methodLink "ZlibBoxLaw" (69 : Nat) ({ cls := "ZlibBoxLaw", name := "word", desc := "(LZlibBox;I[J)I" } : Jvm.MethodName)) ∈ zT := List.mem_filter.mpr ⟨List.mem_append_right _ (List.mem_of_getElem? (i := 509) (by decide +kernel)), by decide +kernel⟩
theorem q_510 : (Jvm.Cond.static ({ cls := "ZlibBoxLaw", name := "word", desc := "(LZlibBox;I[J)I" } : Jvm.MethodName)) ∈ zT := List.mem_filter.mpr ⟨List.mem_append_right _ (List.mem_of_getElem? (i := 510) (by decide +kernel)), by decide +kernel⟩
theorem q_511 : (Jvm.Cond.codeWith ({ cls := "ZlibBoxLaw", name := "word", desc := "(LZlibBox;I[J)I" } : Jvm.MethodName) method_7_code (4 : Nat) (Option.some Jvm.ClassFile.FieldType.int) [((0 : Nat), (8 : Nat), (11 : Nat), (13 : Nat))]) ∈ zT := List.mem_filter.mpr ⟨List.mem_append_right _ (List.mem_of_getElem? (i := 511) (by decide +kernel)), by decide +kernel⟩
theorem q_512 : (Jvm.Cond.methodLink "ZlibBoxLaw" (30 : Nat) ({ cls := "ZlibBox", name := "word", desc := "(I)J" } : Jvm.MethodName)) ∈ zT := List.mem_filter.mpr ⟨List.mem_append_right _ (List.mem_of_getElem? (i := 512) (by decide +kernel)), by decide +kernel⟩
theorem q_513 : (Jvm.Cond.instanceMethod ({ cls := "ZlibBox", name := "word", desc := "(I)J" } : Jvm.MethodName)) ∈ zT := List.mem_filter.mpr ⟨List.mem_append_right _ (List.mem_of_getElem? (i := 513) (by decide +kernel)), by decide +kernel⟩
theorem q_514 : (Jvm.Cond.selects "ZlibBox" ({ cls := "ZlibBox", name := "word", desc := "(I)J" } : Jvm.MethodName) ({ cls := "ZlibBox", name := "word", desc := "(I)J" } : Jvm.MethodName)) ∈ zT := List.mem_filter.mpr ⟨List.mem_append_right _ (List.mem_of_getElem? (i := 514) (by decide +kernel)), by decide +kernel⟩
theorem q_515 : (Jvm.Cond.code ({ cls := "ZlibBox", name := "word", desc := "(I)J" } : Jvm.MethodName) prog_1_method_8_code (6 : Nat) (Option.some Jvm.ClassFile.FieldType.long)) ∈ zT := List.mem_filter.mpr ⟨List.mem_append_right _ (List.mem_of_getElem? (i := 515) (by decide +kernel)), by decide +kernel⟩
theorem q_516 : (Jvm.Cond.stringRef "ZlibBox" (77 : Nat) "no byte of the result") ∈ zxW := List.mem_filter.mpr ⟨List.mem_append_right _ (List.mem_of_getElem? (i := 516) (by decide +kernel)), by decide +kernel⟩
theorem q_517 : (Jvm.Cond.methodLink "ZlibBoxLaw" (72 : Nat) ({ cls := "ZlibBoxLaw", name := "count", desc := "(LZlibBox;I[J)I" } : Jvm.MethodName)) ∈ zT := List.mem_filter.mpr ⟨List.mem_append_right _ (List.mem_of_getElem? (i := 517) (by decide +kernel)), by decide +kernel⟩
theorem q_518 : (Jvm.Cond.static ({ cls := "ZlibBoxLaw", name := "count", desc := "(LZlibBox;I[J)I" } : Jvm.MethodName)) ∈ zT := List.mem_filter.mpr ⟨List.mem_append_right _ (List.mem_of_getElem? (i := 518) (by decide +kernel)), by decide +kernel⟩
theorem q_519 : (Jvm.Cond.codeWith ({ cls := "ZlibBoxLaw", name := "count", desc := "(LZlibBox;I[J)I" } : Jvm.MethodName) method_8_code (4 : Nat) (Option.some Jvm.ClassFile.FieldType.int) [((0 : Nat), (9 : Nat), (12 : Nat), (19 : Nat))]) ∈ zT := List.mem_filter.mpr ⟨List.mem_append_right _ (List.mem_of_getElem? (i := 519) (by decide +kernel)), by decide +kernel⟩
theorem q_520 : (Jvm.Cond.methodLink "ZlibBoxLaw" (34 : Nat) ({ cls := "ZlibBox", name := "count", desc := "(I)I" } : Jvm.MethodName)) ∈ zT := List.mem_filter.mpr ⟨List.mem_append_right _ (List.mem_of_getElem? (i := 520) (by decide +kernel)), by decide +kernel⟩
theorem q_521 : (Jvm.Cond.instanceMethod ({ cls := "ZlibBox", name := "count", desc := "(I)I" } : Jvm.MethodName)) ∈ zT := List.mem_filter.mpr ⟨List.mem_append_right _ (List.mem_of_getElem? (i := 521) (by decide +kernel)), by decide +kernel⟩
theorem q_522 : (Jvm.Cond.selects "ZlibBox" ({ cls := "ZlibBox", name := "count", desc := "(I)I" } : Jvm.MethodName) ({ cls := "ZlibBox", name := "count", desc := "(I)I" } : Jvm.MethodName)) ∈ zT := List.mem_filter.mpr ⟨List.mem_append_right _ (List.mem_of_getElem? (i := 522) (by decide +kernel)), by decide +kernel⟩
theorem q_523 : (Jvm.Cond.code ({ cls := "ZlibBox", name := "count", desc := "(I)I" } : Jvm.MethodName) prog_1_method_9_code (2 : Nat) (Option.some Jvm.ClassFile.FieldType.int)) ∈ zT := List.mem_filter.mpr ⟨List.mem_append_right _ (List.mem_of_getElem? (i := 523) (by decide +kernel)), by decide +kernel⟩
theorem q_524 : (Jvm.Cond.stringRef "ZlibBox" (79 : Nat) "only 0 and 1 are counted") ∈ zxW := List.mem_filter.mpr ⟨List.mem_append_right _ (List.mem_of_getElem? (i := 524) (by decide +kernel)), by decide +kernel⟩
theorem q_525 : (Jvm.Cond.classLink "ZlibBoxLaw" (38 : Nat) "ZlibBoxModel") ∈ zT := List.mem_filter.mpr ⟨List.mem_append_right _ (List.mem_of_getElem? (i := 525) (by decide +kernel)), by decide +kernel⟩
theorem q_526 : (Jvm.Cond.instantiable "ZlibBoxModel" (20 : Nat)) ∈ zT := List.mem_filter.mpr ⟨List.mem_append_right _ (List.mem_of_getElem? (i := 526) (by decide +kernel)), by decide +kernel⟩
theorem q_527 : (Jvm.Cond.methodLink "ZlibBoxLaw" (40 : Nat) ({ cls := "ZlibBoxModel", name := "<init>", desc := "()V" } : Jvm.MethodName)) ∈ zT := List.mem_filter.mpr ⟨List.mem_append_right _ (List.mem_of_getElem? (i := 527) (by decide +kernel)), by decide +kernel⟩
theorem q_528 : (Jvm.Cond.instanceMethod ({ cls := "ZlibBoxModel", name := "<init>", desc := "()V" } : Jvm.MethodName)) ∈ zT := List.mem_filter.mpr ⟨List.mem_append_right _ (List.mem_of_getElem? (i := 528) (by decide +kernel)), by decide +kernel⟩
theorem q_529 : (Jvm.Cond.code ({ cls := "ZlibBoxModel", name := "<init>", desc := "()V" } : Jvm.MethodName) prog_7_method_1_code (1 : Nat) (Option.none : Option Jvm.ClassFile.FieldType)) ∈ zT := List.mem_filter.mpr ⟨List.mem_append_right _ (List.mem_of_getElem? (i := 529) (by decide +kernel)), by decide +kernel⟩
theorem q_530 : (Jvm.Cond.methodLink "ZlibBoxModel" (1 : Nat) ({ cls := "java/lang/Object", name := "<init>", desc := "()V" } : Jvm.MethodName)) ∈ zT := List.mem_filter.mpr ⟨List.mem_append_right _ (List.mem_of_getElem? (i := 530) (by decide +kernel)), by decide +kernel⟩
theorem q_531 : (Jvm.Cond.classLink "ZlibBoxModel" (22 : Nat) "ZlibBoxModel$Codes") ∈ zT := List.mem_filter.mpr ⟨List.mem_append_right _ (List.mem_of_getElem? (i := 531) (by decide +kernel)), by decide +kernel⟩
theorem q_532 : (Jvm.Cond.instantiable "ZlibBoxModel$Codes" (3 : Nat)) ∈ zT := List.mem_filter.mpr ⟨List.mem_append_right _ (List.mem_of_getElem? (i := 532) (by decide +kernel)), by decide +kernel⟩
theorem q_533 : (Jvm.Cond.methodLinkNest "ZlibBoxModel" (24 : Nat) ({ cls := "ZlibBoxModel$Codes", name := "<init>", desc := "()V" } : Jvm.MethodName) "ZlibBoxModel") ∈ zxW := List.mem_filter.mpr ⟨List.mem_append_right _ (List.mem_of_getElem? (i := 533) (by decide +kernel)), by decide +kernel⟩
theorem q_534 : (Jvm.Cond.instanceMethod ({ cls := "ZlibBoxModel$Codes", name := "<init>", desc := "()V" } : Jvm.MethodName)) ∈ zT := List.mem_filter.mpr ⟨List.mem_append_right _ (List.mem_of_getElem? (i := 534) (by decide +kernel)), by decide +kernel⟩
theorem q_535 : (Jvm.Cond.code ({ cls := "ZlibBoxModel$Codes", name := "<init>", desc := "()V" } : Jvm.MethodName) prog_8_method_1_code (1 : Nat) (Option.none : Option Jvm.ClassFile.FieldType)) ∈ zT := List.mem_filter.mpr ⟨List.mem_append_right _ (List.mem_of_getElem? (i := 535) (by decide +kernel)), by decide +kernel⟩
theorem q_536 : (Jvm.Cond.methodLink "ZlibBoxModel$Codes" (1 : Nat) ({ cls := "java/lang/Object", name := "<init>", desc := "()V" } : Jvm.MethodName)) ∈ zT := List.mem_filter.mpr ⟨List.mem_append_right _ (List.mem_of_getElem? (i := 536) (by decide +kernel)), by decide +kernel⟩
theorem q_537 : (Jvm.Cond.fieldLink "ZlibBoxModel$Codes" (7 : Nat) "ZlibBoxModel$Codes" "counts" "[I") ∈ zT := List.mem_filter.mpr ⟨List.mem_append_right _ (List.mem_of_getElem? (i := 537) (by decide +kernel)), by decide +kernel⟩
theorem q_538 : (Jvm.Cond.fieldLinkNest "ZlibBoxModel" (70 : Nat) "ZlibBoxModel$Codes" "counts" "[I" "ZlibBoxModel") ∈ zxW := List.mem_filter.mpr ⟨List.mem_append_right _ (List.mem_of_getElem? (i := 538) (by decide +kernel)), by decide +kernel⟩
theorem q_539 : (Jvm.Cond.fieldLink "ZlibBoxModel$Codes" (13 : Nat) "ZlibBoxModel$Codes" "meanings" "[I") ∈ zT := List.mem_filter.mpr ⟨List.mem_append_right _ (List.mem_of_getElem? (i := 539) (by decide +kernel)), by decide +kernel⟩
theorem q_540 : (Jvm.Cond.fieldLinkNest "ZlibBoxModel" (73 : Nat) "ZlibBoxModel$Codes" "meanings" "[I" "ZlibBoxModel") ∈ zxW := List.mem_filter.mpr ⟨List.mem_append_right _ (List.mem_of_getElem? (i := 540) (by decide +kernel)), by decide +kernel⟩
theorem q_541 : (Jvm.Cond.fieldLink "ZlibBoxModel$Codes" (16 : Nat) "ZlibBoxModel$Codes" "all" "I") ∈ zT := List.mem_filter.mpr ⟨List.mem_append_right _ (List.mem_of_getElem? (i := 541) (by decide +kernel)), by decide +kernel⟩
theorem q_542 : (Jvm.Cond.fieldLinkNest "ZlibBoxModel" (87 : Nat) "ZlibBoxModel$Codes" "all" "I" "ZlibBoxModel") ∈ zxW := List.mem_filter.mpr ⟨List.mem_append_right _ (List.mem_of_getElem? (i := 542) (by decide +kernel)), by decide +kernel⟩
theorem q_543 : (Jvm.Cond.laysFinal "ZlibBoxModel$Codes" "ZlibBoxModel$Codes" "counts" "[I") ∈ zT := List.mem_filter.mpr ⟨List.mem_append_right _ (List.mem_of_getElem? (i := 543) (by decide +kernel)), by decide +kernel⟩
theorem q_544 : (Jvm.Cond.soleField "ZlibBoxModel$Codes" "counts") ∈ zT := List.mem_filter.mpr ⟨List.mem_append_right _ (List.mem_of_getElem? (i := 544) (by decide +kernel)), by decide +kernel⟩
theorem q_545 : (Jvm.Cond.laysFinal "ZlibBoxModel$Codes" "ZlibBoxModel$Codes" "meanings" "[I") ∈ zT := List.mem_filter.mpr ⟨List.mem_append_right _ (List.mem_of_getElem? (i := 545) (by decide +kernel)), by decide +kernel⟩
theorem q_546 : (Jvm.Cond.soleField "ZlibBoxModel$Codes" "meanings") ∈ zT := List.mem_filter.mpr ⟨List.mem_append_right _ (List.mem_of_getElem? (i := 546) (by decide +kernel)), by decide +kernel⟩
theorem q_547 : (Jvm.Cond.lays "ZlibBoxModel$Codes" "ZlibBoxModel$Codes" "all" "I") ∈ zT := List.mem_filter.mpr ⟨List.mem_append_right _ (List.mem_of_getElem? (i := 547) (by decide +kernel)), by decide +kernel⟩
theorem q_548 : (Jvm.Cond.soleField "ZlibBoxModel$Codes" "all") ∈ zT := List.mem_filter.mpr ⟨List.mem_append_right _ (List.mem_of_getElem? (i := 548) (by decide +kernel)), by decide +kernel⟩
theorem q_549 : (Jvm.Cond.superclass "ZlibBoxModel$Codes" "java/lang/Object") ∈ zT := List.mem_filter.mpr ⟨List.mem_append_right _ (List.mem_of_getElem? (i := 549) (by decide +kernel)), by decide +kernel⟩
theorem q_550 : (Jvm.Cond.constant "ZlibBoxModel" (39 : Nat) (65536 : Int32)) ∈ zT := List.mem_filter.mpr ⟨List.mem_append_right _ (List.mem_of_getElem? (i := 550) (by decide +kernel)), by decide +kernel⟩
theorem q_551 : (Jvm.Cond.fieldLink "ZlibBoxModel" (49 : Nat) "ZlibBoxModel" "failed" "I") ∈ zT := List.mem_filter.mpr ⟨List.mem_append_right _ (List.mem_of_getElem? (i := 551) (by decide +kernel)), by decide +kernel⟩
theorem q_552 : (Jvm.Cond.fieldLink "ZlibBoxModel" (7 : Nat) "ZlibBoxModel" "tape" "[B") ∈ zT := List.mem_filter.mpr ⟨List.mem_append_right _ (List.mem_of_getElem? (i := 552) (by decide +kernel)), by decide +kernel⟩
theorem q_553 : (Jvm.Cond.fieldLink "ZlibBoxModel" (165 : Nat) "ZlibBoxModel" "taped" "I") ∈ zT := List.mem_filter.mpr ⟨List.mem_append_right _ (List.mem_of_getElem? (i := 553) (by decide +kernel)), by decide +kernel⟩
theorem q_554 : (Jvm.Cond.fieldLink "ZlibBoxModel" (13 : Nat) "ZlibBoxModel" "result" "[B") ∈ zT := List.mem_filter.mpr ⟨List.mem_append_right _ (List.mem_of_getElem? (i := 554) (by decide +kernel)), by decide +kernel⟩
theorem q_555 : (Jvm.Cond.fieldLink "ZlibBoxModel" (174 : Nat) "ZlibBoxModel" "size" "I") ∈ zT := List.mem_filter.mpr ⟨List.mem_append_right _ (List.mem_of_getElem? (i := 555) (by decide +kernel)), by decide +kernel⟩
theorem q_556 : (Jvm.Cond.fieldLink "ZlibBoxModel" (16 : Nat) "ZlibBoxModel" "data" "[B") ∈ zT := List.mem_filter.mpr ⟨List.mem_append_right _ (List.mem_of_getElem? (i := 556) (by decide +kernel)), by decide +kernel⟩
theorem q_557 : (Jvm.Cond.fieldLink "ZlibBoxModel" (59 : Nat) "ZlibBoxModel" "dataSize" "I") ∈ zT := List.mem_filter.mpr ⟨List.mem_append_right _ (List.mem_of_getElem? (i := 557) (by decide +kernel)), by decide +kernel⟩
theorem q_558 : (Jvm.Cond.fieldLink "ZlibBoxModel" (19 : Nat) "ZlibBoxModel" "rows" "[B") ∈ zT := List.mem_filter.mpr ⟨List.mem_append_right _ (List.mem_of_getElem? (i := 558) (by decide +kernel)), by decide +kernel⟩
theorem q_559 : (Jvm.Cond.fieldLink "ZlibBoxModel" (90 : Nat) "ZlibBoxModel" "rowBytes" "I") ∈ zT := List.mem_filter.mpr ⟨List.mem_append_right _ (List.mem_of_getElem? (i := 559) (by decide +kernel)), by decide +kernel⟩
theorem q_560 : (Jvm.Cond.fieldLink "ZlibBoxModel" (56 : Nat) "ZlibBoxModel" "bitAt" "I") ∈ zT := List.mem_filter.mpr ⟨List.mem_append_right _ (List.mem_of_getElem? (i := 560) (by decide +kernel)), by decide +kernel⟩
theorem q_561 : (Jvm.Cond.fieldLink "ZlibBoxModel" (25 : Nat) "ZlibBoxModel" "literals" "LZlibBoxModel$Codes;") ∈ zT := List.mem_filter.mpr ⟨List.mem_append_right _ (List.mem_of_getElem? (i := 561) (by decide +kernel)), by decide +kernel⟩
theorem q_562 : (Jvm.Cond.fieldLink "ZlibBoxModel" (29 : Nat) "ZlibBoxModel" "distances" "LZlibBoxModel$Codes;") ∈ zT := List.mem_filter.mpr ⟨List.mem_append_right _ (List.mem_of_getElem? (i := 562) (by decide +kernel)), by decide +kernel⟩
theorem q_563 : (Jvm.Cond.fieldLink "ZlibBoxModel" (32 : Nat) "ZlibBoxModel" "lengthCodes" "LZlibBoxModel$Codes;") ∈ zT := List.mem_filter.mpr ⟨List.mem_append_right _ (List.mem_of_getElem? (i := 563) (by decide +kernel)), by decide +kernel⟩
theorem q_564 : (Jvm.Cond.fieldLink "ZlibBoxModel" (35 : Nat) "ZlibBoxModel" "lengths" "[I") ∈ zT := List.mem_filter.mpr ⟨List.mem_append_right _ (List.mem_of_getElem? (i := 564) (by decide +kernel)), by decide +kernel⟩
theorem q_565 : (Jvm.Cond.fieldLink "ZlibBoxModel" (40 : Nat) "ZlibBoxModel" "out" "[B") ∈ zT := List.mem_filter.mpr ⟨List.mem_append_right _ (List.mem_of_getElem? (i := 565) (by decide +kernel)), by decide +kernel⟩
theorem q_566 : (Jvm.Cond.fieldLink "ZlibBoxModel" (126 : Nat) "ZlibBoxModel" "outSize" "I") ∈ zT := List.mem_filter.mpr ⟨List.mem_append_right _ (List.mem_of_getElem? (i := 566) (by decide +kernel)), by decide +kernel⟩
theorem q_567 : (Jvm.Cond.fieldLink "ZlibBoxModel" (132 : Nat) "ZlibBoxModel" "bitBuffer" "I") ∈ zT := List.mem_filter.mpr ⟨List.mem_append_right _ (List.mem_of_getElem? (i := 567) (by decide +kernel)), by decide +kernel⟩
theorem q_568 : (Jvm.Cond.fieldLink "ZlibBoxModel" (135 : Nat) "ZlibBoxModel" "bitCount" "I") ∈ zT := List.mem_filter.mpr ⟨List.mem_append_right _ (List.mem_of_getElem? (i := 568) (by decide +kernel)), by decide +kernel⟩
theorem q_569 : (Jvm.Cond.fieldLink "ZlibBoxModel" (43 : Nat) "ZlibBoxModel" "heads" "[I") ∈ zT := List.mem_filter.mpr ⟨List.mem_append_right _ (List.mem_of_getElem? (i := 569) (by decide +kernel)), by decide +kernel⟩
theorem q_570 : (Jvm.Cond.fieldLink "ZlibBoxModel" (46 : Nat) "ZlibBoxModel" "chain" "[I") ∈ zT := List.mem_filter.mpr ⟨List.mem_append_right _ (List.mem_of_getElem? (i := 570) (by decide +kernel)), by decide +kernel⟩
theorem q_571 : (Jvm.Cond.lays "ZlibBoxModel" "ZlibBoxModel" "failed" "I") ∈ zT := List.mem_filter.mpr ⟨List.mem_append_right _ (List.mem_of_getElem? (i := 571) (by decide +kernel)), by decide +kernel⟩
theorem q_572 : (Jvm.Cond.soleField "ZlibBoxModel" "failed") ∈ zT := List.mem_filter.mpr ⟨List.mem_append_right _ (List.mem_of_getElem? (i := 572) (by decide +kernel)), by decide +kernel⟩
theorem q_573 : (Jvm.Cond.laysFinal "ZlibBoxModel" "ZlibBoxModel" "tape" "[B") ∈ zT := List.mem_filter.mpr ⟨List.mem_append_right _ (List.mem_of_getElem? (i := 573) (by decide +kernel)), by decide +kernel⟩
theorem q_574 : (Jvm.Cond.soleField "ZlibBoxModel" "tape") ∈ zT := List.mem_filter.mpr ⟨List.mem_append_right _ (List.mem_of_getElem? (i := 574) (by decide +kernel)), by decide +kernel⟩
theorem q_575 : (Jvm.Cond.lays "ZlibBoxModel" "ZlibBoxModel" "taped" "I") ∈ zT := List.mem_filter.mpr ⟨List.mem_append_right _ (List.mem_of_getElem? (i := 575) (by decide +kernel)), by decide +kernel⟩
theorem q_576 : (Jvm.Cond.soleField "ZlibBoxModel" "taped") ∈ zT := List.mem_filter.mpr ⟨List.mem_append_right _ (List.mem_of_getElem? (i := 576) (by decide +kernel)), by decide +kernel⟩
theorem q_577 : (Jvm.Cond.laysFinal "ZlibBoxModel" "ZlibBoxModel" "result" "[B") ∈ zT := List.mem_filter.mpr ⟨List.mem_append_right _ (List.mem_of_getElem? (i := 577) (by decide +kernel)), by decide +kernel⟩
theorem q_578 : (Jvm.Cond.soleField "ZlibBoxModel" "result") ∈ zT := List.mem_filter.mpr ⟨List.mem_append_right _ (List.mem_of_getElem? (i := 578) (by decide +kernel)), by decide +kernel⟩
theorem q_579 : (Jvm.Cond.lays "ZlibBoxModel" "ZlibBoxModel" "size" "I") ∈ zT := List.mem_filter.mpr ⟨List.mem_append_right _ (List.mem_of_getElem? (i := 579) (by decide +kernel)), by decide +kernel⟩
theorem q_580 : (Jvm.Cond.soleField "ZlibBoxModel" "size") ∈ zT := List.mem_filter.mpr ⟨List.mem_append_right _ (List.mem_of_getElem? (i := 580) (by decide +kernel)), by decide +kernel⟩
theorem q_581 : (Jvm.Cond.lays "ZlibBoxModel" "ZlibBoxModel" "data" "[B") ∈ zT := List.mem_filter.mpr ⟨List.mem_append_right _ (List.mem_of_getElem? (i := 581) (by decide +kernel)), by decide +kernel⟩
theorem q_582 : (Jvm.Cond.soleField "ZlibBoxModel" "data") ∈ zT := List.mem_filter.mpr ⟨List.mem_append_right _ (List.mem_of_getElem? (i := 582) (by decide +kernel)), by decide +kernel⟩
theorem q_583 : (Jvm.Cond.lays "ZlibBoxModel" "ZlibBoxModel" "dataSize" "I") ∈ zT := List.mem_filter.mpr ⟨List.mem_append_right _ (List.mem_of_getElem? (i := 583) (by decide +kernel)), by decide +kernel⟩
theorem q_584 : (Jvm.Cond.soleField "ZlibBoxModel" "dataSize") ∈ zT := List.mem_filter.mpr ⟨List.mem_append_right _ (List.mem_of_getElem? (i := 584) (by decide +kernel)), by decide +kernel⟩
theorem q_585 : (Jvm.Cond.laysFinal "ZlibBoxModel" "ZlibBoxModel" "rows" "[B") ∈ zT := List.mem_filter.mpr ⟨List.mem_append_right _ (List.mem_of_getElem? (i := 585) (by decide +kernel)), by decide +kernel⟩
theorem q_586 : (Jvm.Cond.soleField "ZlibBoxModel" "rows") ∈ zT := List.mem_filter.mpr ⟨List.mem_append_right _ (List.mem_of_getElem? (i := 586) (by decide +kernel)), by decide +kernel⟩
theorem q_587 : (Jvm.Cond.lays "ZlibBoxModel" "ZlibBoxModel" "rowBytes" "I") ∈ zT := List.mem_filter.mpr ⟨List.mem_append_right _ (List.mem_of_getElem? (i := 587) (by decide +kernel)), by decide +kernel⟩
theorem q_588 : (Jvm.Cond.soleField "ZlibBoxModel" "rowBytes") ∈ zT := List.mem_filter.mpr ⟨List.mem_append_right _ (List.mem_of_getElem? (i := 588) (by decide +kernel)), by decide +kernel⟩
theorem q_589 : (Jvm.Cond.lays "ZlibBoxModel" "ZlibBoxModel" "bitAt" "I") ∈ zT := List.mem_filter.mpr ⟨List.mem_append_right _ (List.mem_of_getElem? (i := 589) (by decide +kernel)), by decide +kernel⟩
theorem q_590 : (Jvm.Cond.soleField "ZlibBoxModel" "bitAt") ∈ zT := List.mem_filter.mpr ⟨List.mem_append_right _ (List.mem_of_getElem? (i := 590) (by decide +kernel)), by decide +kernel⟩
theorem q_591 : (Jvm.Cond.laysFinal "ZlibBoxModel" "ZlibBoxModel" "literals" "LZlibBoxModel$Codes;") ∈ zT := List.mem_filter.mpr ⟨List.mem_append_right _ (List.mem_of_getElem? (i := 591) (by decide +kernel)), by decide +kernel⟩
theorem q_592 : (Jvm.Cond.soleField "ZlibBoxModel" "literals") ∈ zT := List.mem_filter.mpr ⟨List.mem_append_right _ (List.mem_of_getElem? (i := 592) (by decide +kernel)), by decide +kernel⟩
theorem q_593 : (Jvm.Cond.laysFinal "ZlibBoxModel" "ZlibBoxModel" "distances" "LZlibBoxModel$Codes;") ∈ zT := List.mem_filter.mpr ⟨List.mem_append_right _ (List.mem_of_getElem? (i := 593) (by decide +kernel)), by decide +kernel⟩
theorem q_594 : (Jvm.Cond.soleField "ZlibBoxModel" "distances") ∈ zT := List.mem_filter.mpr ⟨List.mem_append_right _ (List.mem_of_getElem? (i := 594) (by decide +kernel)), by decide +kernel⟩
theorem q_595 : (Jvm.Cond.laysFinal "ZlibBoxModel" "ZlibBoxModel" "lengthCodes" "LZlibBoxModel$Codes;") ∈ zT := List.mem_filter.mpr ⟨List.mem_append_right _ (List.mem_of_getElem? (i := 595) (by decide +kernel)), by decide +kernel⟩
theorem q_596 : (Jvm.Cond.soleField "ZlibBoxModel" "lengthCodes") ∈ zT := List.mem_filter.mpr ⟨List.mem_append_right _ (List.mem_of_getElem? (i := 596) (by decide +kernel)), by decide +kernel⟩
theorem q_597 : (Jvm.Cond.laysFinal "ZlibBoxModel" "ZlibBoxModel" "lengths" "[I") ∈ zT := List.mem_filter.mpr ⟨List.mem_append_right _ (List.mem_of_getElem? (i := 597) (by decide +kernel)), by decide +kernel⟩
theorem q_598 : (Jvm.Cond.soleField "ZlibBoxModel" "lengths") ∈ zT := List.mem_filter.mpr ⟨List.mem_append_right _ (List.mem_of_getElem? (i := 598) (by decide +kernel)), by decide +kernel⟩
theorem q_599 : (Jvm.Cond.laysFinal "ZlibBoxModel" "ZlibBoxModel" "out" "[B") ∈ zT := List.mem_filter.mpr ⟨List.mem_append_right _ (List.mem_of_getElem? (i := 599) (by decide +kernel)), by decide +kernel⟩
theorem q_600 : (Jvm.Cond.soleField "ZlibBoxModel" "out") ∈ zT := List.mem_filter.mpr ⟨List.mem_append_right _ (List.mem_of_getElem? (i := 600) (by decide +kernel)), by decide +kernel⟩
theorem q_601 : (Jvm.Cond.lays "ZlibBoxModel" "ZlibBoxModel" "outSize" "I") ∈ zT := List.mem_filter.mpr ⟨List.mem_append_right _ (List.mem_of_getElem? (i := 601) (by decide +kernel)), by decide +kernel⟩
theorem q_602 : (Jvm.Cond.soleField "ZlibBoxModel" "outSize") ∈ zT := List.mem_filter.mpr ⟨List.mem_append_right _ (List.mem_of_getElem? (i := 602) (by decide +kernel)), by decide +kernel⟩
theorem q_603 : (Jvm.Cond.lays "ZlibBoxModel" "ZlibBoxModel" "bitBuffer" "I") ∈ zT := List.mem_filter.mpr ⟨List.mem_append_right _ (List.mem_of_getElem? (i := 603) (by decide +kernel)), by decide +kernel⟩
theorem q_604 : (Jvm.Cond.soleField "ZlibBoxModel" "bitBuffer") ∈ zT := List.mem_filter.mpr ⟨List.mem_append_right _ (List.mem_of_getElem? (i := 604) (by decide +kernel)), by decide +kernel⟩
theorem q_605 : (Jvm.Cond.lays "ZlibBoxModel" "ZlibBoxModel" "bitCount" "I") ∈ zT := List.mem_filter.mpr ⟨List.mem_append_right _ (List.mem_of_getElem? (i := 605) (by decide +kernel)), by decide +kernel⟩
theorem q_606 : (Jvm.Cond.soleField "ZlibBoxModel" "bitCount") ∈ zT := List.mem_filter.mpr ⟨List.mem_append_right _ (List.mem_of_getElem? (i := 606) (by decide +kernel)), by decide +kernel⟩
theorem q_607 : (Jvm.Cond.laysFinal "ZlibBoxModel" "ZlibBoxModel" "heads" "[I") ∈ zT := List.mem_filter.mpr ⟨List.mem_append_right _ (List.mem_of_getElem? (i := 607) (by decide +kernel)), by decide +kernel⟩
theorem q_608 : (Jvm.Cond.soleField "ZlibBoxModel" "heads") ∈ zT := List.mem_filter.mpr ⟨List.mem_append_right _ (List.mem_of_getElem? (i := 608) (by decide +kernel)), by decide +kernel⟩
theorem q_609 : (Jvm.Cond.laysFinal "ZlibBoxModel" "ZlibBoxModel" "chain" "[I") ∈ zT := List.mem_filter.mpr ⟨List.mem_append_right _ (List.mem_of_getElem? (i := 609) (by decide +kernel)), by decide +kernel⟩
theorem q_610 : (Jvm.Cond.soleField "ZlibBoxModel" "chain") ∈ zT := List.mem_filter.mpr ⟨List.mem_append_right _ (List.mem_of_getElem? (i := 610) (by decide +kernel)), by decide +kernel⟩
theorem q_611 : (Jvm.Cond.superclass "ZlibBoxModel" "java/lang/Object") ∈ zT := List.mem_filter.mpr ⟨List.mem_append_right _ (List.mem_of_getElem? (i := 611) (by decide +kernel)), by decide +kernel⟩
theorem q_612 : (Jvm.Cond.methodLink "ZlibBoxLaw" (47 : Nat) ({ cls := "ZlibBoxModel", name := "thrown", desc := "()I" } : Jvm.MethodName)) ∈ zT := List.mem_filter.mpr ⟨List.mem_append_right _ (List.mem_of_getElem? (i := 612) (by decide +kernel)), by decide +kernel⟩
theorem q_613 : (Jvm.Cond.instanceMethod ({ cls := "ZlibBoxModel", name := "thrown", desc := "()I" } : Jvm.MethodName)) ∈ zT := List.mem_filter.mpr ⟨List.mem_append_right _ (List.mem_of_getElem? (i := 613) (by decide +kernel)), by decide +kernel⟩
theorem q_614 : (Jvm.Cond.selects "ZlibBoxModel" ({ cls := "ZlibBoxModel", name := "thrown", desc := "()I" } : Jvm.MethodName) ({ cls := "ZlibBoxModel", name := "thrown", desc := "()I" } : Jvm.MethodName)) ∈ zT := List.mem_filter.mpr ⟨List.mem_append_right _ (List.mem_of_getElem? (i := 614) (by decide +kernel)), by decide +kernel⟩
theorem q_615 : (Jvm.Cond.code ({ cls := "ZlibBoxModel", name := "thrown", desc := "()I" } : Jvm.MethodName) prog_7_method_2_code (1 : Nat) (Option.some Jvm.ClassFile.FieldType.int)) ∈ zT := List.mem_filter.mpr ⟨List.mem_append_right _ (List.mem_of_getElem? (i := 615) (by decide +kernel)), by decide +kernel⟩
theorem q_616 : (Jvm.Cond.methodLink "ZlibBoxLaw" (61 : Nat) ({ cls := "ZlibBoxModel", name := "unpack", desc := "()I" } : Jvm.MethodName)) ∈ zT := List.mem_filter.mpr ⟨List.mem_append_right _ (List.mem_of_getElem? (i := 616) (by decide +kernel)), by decide +kernel⟩
theorem q_617 : (Jvm.Cond.instanceMethod ({ cls := "ZlibBoxModel", name := "unpack", desc := "()I" } : Jvm.MethodName)) ∈ zT := List.mem_filter.mpr ⟨List.mem_append_right _ (List.mem_of_getElem? (i := 617) (by decide +kernel)), by decide +kernel⟩
theorem q_618 : (Jvm.Cond.selects "ZlibBoxModel" ({ cls := "ZlibBoxModel", name := "unpack", desc := "()I" } : Jvm.MethodName) ({ cls := "ZlibBoxModel", name := "unpack", desc := "()I" } : Jvm.MethodName)) ∈ zT := List.mem_filter.mpr ⟨List.mem_append_right _ (List.mem_of_getElem? (i := 618) (by decide +kernel)), by decide +kernel⟩
theorem q_619 : (Jvm.Cond.codeWith ({ cls := "ZlibBoxModel", name := "unpack", desc := "()I" } : Jvm.MethodName) prog_7_method_24_code (2 : Nat) (Option.some Jvm.ClassFile.FieldType.int) [((46 : Nat), (50 : Nat), (53 : Nat), (53 : Nat)), ((46 : Nat), (50 : Nat), (60 : Nat), (93 : Nat))]) ∈ zT := List.mem_filter.mpr ⟨List.mem_append_right _ (List.mem_of_getElem? (i := 619) (by decide +kernel)), by decide +kernel⟩
theorem q_620 : (Jvm.Cond.classLink "ZlibBoxModel" (53 : Nat) "java/lang/UnsupportedOperationException") ∈ zT := List.mem_filter.mpr ⟨List.mem_append_right _ (List.mem_of_getElem? (i := 620) (by decide +kernel)), by decide +kernel⟩
theorem q_621 : (Jvm.Cond.classLink "ZlibBoxModel" (93 : Nat) "java/lang/IndexOutOfBoundsException") ∈ zT := List.mem_filter.mpr ⟨List.mem_append_right _ (List.mem_of_getElem? (i := 621) (by decide +kernel)), by decide +kernel⟩
theorem q_622 : (Jvm.Cond.methodLink "ZlibBoxModel" (168 : Nat) ({ cls := "ZlibBoxModel", name := "inflate", desc := "()V" } : Jvm.MethodName)) ∈ zT := List.mem_filter.mpr ⟨List.mem_append_right _ (List.mem_of_getElem? (i := 622) (by decide +kernel)), by decide +kernel⟩
theorem q_624 : (Jvm.Cond.instanceMethod ({ cls := "ZlibBoxModel", name := "inflate", desc := "()V" } : Jvm.MethodName)) ∈ zT := List.mem_filter.mpr ⟨List.mem_append_right _ (List.mem_of_getElem? (i := 624) (by decide +kernel)), by decide +kernel⟩
theorem q_625 : (Jvm.Cond.code ({ cls := "ZlibBoxModel", name := "inflate", desc := "()V" } : Jvm.MethodName) prog_7_method_13_code (7 : Nat) (Option.none : Option Jvm.ClassFile.FieldType)) ∈ zT := List.mem_filter.mpr ⟨List.mem_append_right _ (List.mem_of_getElem? (i := 625) (by decide +kernel)), by decide +kernel⟩
theorem q_626 : (Jvm.Cond.methodLink "ZlibBoxModel" (62 : Nat) ({ cls := "ZlibBoxModel", name := "can", desc := "(Z)V" } : Jvm.MethodName)) ∈ zT := List.mem_filter.mpr ⟨List.mem_append_right _ (List.mem_of_getElem? (i := 626) (by decide +kernel)), by decide +kernel⟩
theorem q_628 : (Jvm.Cond.instanceMethod ({ cls := "ZlibBoxModel", name := "can", desc := "(Z)V" } : Jvm.MethodName)) ∈ zT := List.mem_filter.mpr ⟨List.mem_append_right _ (List.mem_of_getElem? (i := 628) (by decide +kernel)), by decide +kernel⟩
theorem q_629 : (Jvm.Cond.code ({ cls := "ZlibBoxModel", name := "can", desc := "(Z)V" } : Jvm.MethodName) prog_7_method_4_code (2 : Nat) (Option.none : Option Jvm.ClassFile.FieldType)) ∈ zT := List.mem_filter.mpr ⟨List.mem_append_right _ (List.mem_of_getElem? (i := 629) (by decide +kernel)), by decide +kernel⟩
theorem q_630 : (Jvm.Cond.methodLink "ZlibBoxModel" (55 : Nat) ({ cls := "java/lang/UnsupportedOperationException", name := "<init>", desc := "()V" } : Jvm.MethodName)) ∈ zT := List.mem_filter.mpr ⟨List.mem_append_right _ (List.mem_of_getElem? (i := 630) (by decide +kernel)), by decide +kernel⟩
theorem q_631 : (Jvm.Cond.instanceMethod ({ cls := "java/lang/UnsupportedOperationException", name := "<init>", desc := "()V" } : Jvm.MethodName)) ∈ zT := List.mem_filter.mpr ⟨List.mem_append_right _ (List.mem_of_getElem? (i := 631) (by decide +kernel)), by decide +kernel⟩
theorem q_632 : (Jvm.Cond.code ({ cls := "java/lang/UnsupportedOperationException", name := "<init>", desc := "()V" } : Jvm.MethodName) prog_17_method_1_code (1 : Nat) (Option.none : Option Jvm.ClassFile.FieldType)) ∈ zT := List.mem_filter.mpr ⟨List.mem_append_right _ (List.mem_of_getElem? (i := 632) (by decide +kernel)), by decide +kernel⟩
theorem q_633 : (Jvm.Cond.methodLink "java/lang/UnsupportedOperationException" (1 : Nat) ({ cls := "java/lang/RuntimeException", name := "<init>", desc := "()V" } : Jvm.MethodName)) ∈ zT := List.mem_filter.mpr ⟨List.mem_append_right _ (List.mem_of_getElem? (i := 633) (by decide +kernel)), by decide +kernel⟩
theorem q_634 : (Jvm.Cond.instanceMethod ({ cls := "java/lang/RuntimeException", name := "<init>", desc := "()V" } : Jvm.MethodName)) ∈ zT := List.mem_filter.mpr ⟨List.mem_append_right _ (List.mem_of_getElem? (i := 634) (by decide +kernel)), by decide +kernel⟩
theorem q_635 : (Jvm.Cond.code ({ cls := "java/lang/RuntimeException", name := "<init>", desc := "()V" } : Jvm.MethodName) prog_13_method_1_code (1 : Nat) (Option.none : Option Jvm.ClassFile.FieldType)) ∈ zT := List.mem_filter.mpr ⟨List.mem_append_right _ (List.mem_of_getElem? (i := 635) (by decide +kernel)), by decide +kernel⟩
theorem q_636 : (Jvm.Cond.methodLink "java/lang/RuntimeException" (1 : Nat) ({ cls := "java/lang/Exception", name := "<init>", desc := "()V" } : Jvm.MethodName)) ∈ zT := List.mem_filter.mpr ⟨List.mem_append_right _ (List.mem_of_getElem? (i := 636) (by decide +kernel)), by decide +kernel⟩
theorem q_637 : (Jvm.Cond.instanceMethod ({ cls := "java/lang/Exception", name := "<init>", desc := "()V" } : Jvm.MethodName)) ∈ zT := List.mem_filter.mpr ⟨List.mem_append_right _ (List.mem_of_getElem? (i := 637) (by decide +kernel)), by decide +kernel⟩
theorem q_638 : (Jvm.Cond.code ({ cls := "java/lang/Exception", name := "<init>", desc := "()V" } : Jvm.MethodName) prog_9_method_1_code (1 : Nat) (Option.none : Option Jvm.ClassFile.FieldType)) ∈ zT := List.mem_filter.mpr ⟨List.mem_append_right _ (List.mem_of_getElem? (i := 638) (by decide +kernel)), by decide +kernel⟩
theorem q_639 : (Jvm.Cond.methodLink "java/lang/Exception" (1 : Nat) ({ cls := "java/lang/Throwable", name := "<init>", desc := "()V" } : Jvm.MethodName)) ∈ zT := List.mem_filter.mpr ⟨List.mem_append_right _ (List.mem_of_getElem? (i := 639) (by decide +kernel)), by decide +kernel⟩
theorem q_640 : (Jvm.Cond.methodLink "ZlibBoxModel" (66 : Nat) ({ cls := "ZlibBoxModel", name := "bits", desc := "(I)I" } : Jvm.MethodName)) ∈ zT := List.mem_filter.mpr ⟨List.mem_append_right _ (List.mem_of_getElem? (i := 640) (by decide +kernel)), by decide +kernel⟩
theorem q_642 : (Jvm.Cond.instanceMethod ({ cls := "ZlibBoxModel", name := "bits", desc := "(I)I" } : Jvm.MethodName)) ∈ zT := List.mem_filter.mpr ⟨List.mem_append_right _ (List.mem_of_getElem? (i := 642) (by decide +kernel)), by decide +kernel⟩
theorem q_643 : (Jvm.Cond.code ({ cls := "ZlibBoxModel", name := "bits", desc := "(I)I" } : Jvm.MethodName) prog_7_method_5_code (4 : Nat) (Option.some Jvm.ClassFile.FieldType.int)) ∈ zT := List.mem_filter.mpr ⟨List.mem_append_right _ (List.mem_of_getElem? (i := 643) (by decide +kernel)), by decide +kernel⟩
theorem q_644 : (Jvm.Cond.constant "ZlibBoxModel" (107 : Nat) (65535 : Int32)) ∈ zT := List.mem_filter.mpr ⟨List.mem_append_right _ (List.mem_of_getElem? (i := 644) (by decide +kernel)), by decide +kernel⟩
theorem q_645 : (Jvm.Cond.methodLink "ZlibBoxModel" (96 : Nat) ({ cls := "ZlibBoxModel", name := "give", desc := "(I)V" } : Jvm.MethodName)) ∈ zT := List.mem_filter.mpr ⟨List.mem_append_right _ (List.mem_of_getElem? (i := 645) (by decide +kernel)), by decide +kernel⟩
theorem q_647 : (Jvm.Cond.instanceMethod ({ cls := "ZlibBoxModel", name := "give", desc := "(I)V" } : Jvm.MethodName)) ∈ zT := List.mem_filter.mpr ⟨List.mem_append_right _ (List.mem_of_getElem? (i := 647) (by decide +kernel)), by decide +kernel⟩
theorem q_648 : (Jvm.Cond.code ({ cls := "ZlibBoxModel", name := "give", desc := "(I)V" } : Jvm.MethodName) prog_7_method_9_code (2 : Nat) (Option.none : Option Jvm.ClassFile.FieldType)) ∈ zT := List.mem_filter.mpr ⟨List.mem_append_right _ (List.mem_of_getElem? (i := 648) (by decide +kernel)), by decide +kernel⟩
theorem q_649 : (Jvm.Cond.methodLink "ZlibBoxModel" (95 : Nat) ({ cls := "java/lang/IndexOutOfBoundsException", name := "<init>", desc := "()V" } : Jvm.MethodName)) ∈ zT := List.mem_filter.mpr ⟨List.mem_append_right _ (List.mem_of_getElem? (i := 649) (by decide +kernel)), by decide +kernel⟩
theorem q_650 : (Jvm.Cond.instanceMethod ({ cls := "java/lang/IndexOutOfBoundsException", name := "<init>", desc := "()V" } : Jvm.MethodName)) ∈ zT := List.mem_filter.mpr ⟨List.mem_append_right _ (List.mem_of_getElem? (i := 650) (by decide +kernel)), by decide +kernel⟩
theorem q_651 : (Jvm.Cond.code ({ cls := "java/lang/IndexOutOfBoundsException", name := "<init>", desc := "()V" } : Jvm.MethodName) prog_11_method_1_code (1 : Nat) (Option.none : Option Jvm.ClassFile.FieldType)) ∈ zT := List.mem_filter.mpr ⟨List.mem_append_right _ (List.mem_of_getElem? (i := 651) (by decide +kernel)), by decide +kernel⟩
theorem q_652 : (Jvm.Cond.methodLink "java/lang/IndexOutOfBoundsException" (1 : Nat) ({ cls := "java/lang/RuntimeException", name := "<init>", desc := "()V" } : Jvm.MethodName)) ∈ zT := List.mem_filter.mpr ⟨List.mem_append_right _ (List.mem_of_getElem? (i := 652) (by decide +kernel)), by decide +kernel⟩
theorem q_653 : (Jvm.Cond.methodLink "ZlibBoxModel" (108 : Nat) ({ cls := "ZlibBoxModel", name := "fixedCodes", desc := "()V" } : Jvm.MethodName)) ∈ zT := List.mem_filter.mpr ⟨List.mem_append_right _ (List.mem_of_getElem? (i := 653) (by decide +kernel)), by decide +kernel⟩
theorem q_655 : (Jvm.Cond.instanceMethod ({ cls := "ZlibBoxModel", name := "fixedCodes", desc := "()V" } : Jvm.MethodName)) ∈ zT := List.mem_filter.mpr ⟨List.mem_append_right _ (List.mem_of_getElem? (i := 655) (by decide +kernel)), by decide +kernel⟩
theorem q_656 : (Jvm.Cond.code ({ cls := "ZlibBoxModel", name := "fixedCodes", desc := "()V" } : Jvm.MethodName) prog_7_method_7_code (3 : Nat) (Option.none : Option Jvm.ClassFile.FieldType)) ∈ zT := List.mem_filter.mpr ⟨List.mem_append_right _ (List.mem_of_getElem? (i := 656) (by decide +kernel)), by decide +kernel⟩
theorem q_657 : (Jvm.Cond.methodLink "ZlibBoxModel" (76 : Nat) ({ cls := "ZlibBoxModel$Codes", name := "make", desc := "([III)I" } : Jvm.MethodName)) ∈ zT := List.mem_filter.mpr ⟨List.mem_append_right _ (List.mem_of_getElem? (i := 657) (by decide +kernel)), by decide +kernel⟩
theorem q_658 : (Jvm.Cond.instanceMethod ({ cls := "ZlibBoxModel$Codes", name := "make", desc := "([III)I" } : Jvm.MethodName)) ∈ zT := List.mem_filter.mpr ⟨List.mem_append_right _ (List.mem_of_getElem? (i := 658) (by decide +kernel)), by decide +kernel⟩
theorem q_659 : (Jvm.Cond.selects "ZlibBoxModel$Codes" ({ cls := "ZlibBoxModel$Codes", name := "make", desc := "([III)I" } : Jvm.MethodName) ({ cls := "ZlibBoxModel$Codes", name := "make", desc := "([III)I" } : Jvm.MethodName)) ∈ zT := List.mem_filter.mpr ⟨List.mem_append_right _ (List.mem_of_getElem? (i := 659) (by decide +kernel)), by decide +kernel⟩
theorem q_660 : (Jvm.Cond.code ({ cls := "ZlibBoxModel$Codes", name := "make", desc := "([III)I" } : Jvm.MethodName) prog_8_method_2_code (6 : Nat) (Option.some Jvm.ClassFile.FieldType.int)) ∈ zT := List.mem_filter.mpr ⟨List.mem_append_right _ (List.mem_of_getElem? (i := 660) (by decide +kernel)), by decide +kernel⟩
theorem q_661 : (Jvm.Cond.constant "ZlibBoxModel$Codes" (20 : Nat) (32768 : Int32)) ∈ zT := List.mem_filter.mpr ⟨List.mem_append_right _ (List.mem_of_getElem? (i := 661) (by decide +kernel)), by decide +kernel⟩
theorem q_662 : (Jvm.Cond.methodLink "ZlibBoxModel" (111 : Nat) ({ cls := "ZlibBoxModel", name := "toldCodes", desc := "()V" } : Jvm.MethodName)) ∈ zT := List.mem_filter.mpr ⟨List.mem_append_right _ (List.mem_of_getElem? (i := 662) (by decide +kernel)), by decide +kernel⟩
theorem q_664 : (Jvm.Cond.instanceMethod ({ cls := "ZlibBoxModel", name := "toldCodes", desc := "()V" } : Jvm.MethodName)) ∈ zT := List.mem_filter.mpr ⟨List.mem_append_right _ (List.mem_of_getElem? (i := 664) (by decide +kernel)), by decide +kernel⟩
theorem q_665 : (Jvm.Cond.code ({ cls := "ZlibBoxModel", name := "toldCodes", desc := "()V" } : Jvm.MethodName) prog_7_method_8_code (9 : Nat) (Option.none : Option Jvm.ClassFile.FieldType)) ∈ zT := List.mem_filter.mpr ⟨List.mem_append_right _ (List.mem_of_getElem? (i := 665) (by decide +kernel)), by decide +kernel⟩
theorem q_666 : (Jvm.Cond.fieldLink "ZlibBoxModel" (80 : Nat) "ZlibBoxModel" "ORDER" "[I") ∈ zT := List.mem_filter.mpr ⟨List.mem_append_right _ (List.mem_of_getElem? (i := 666) (by decide +kernel)), by decide +kernel⟩
theorem q_668 : (Jvm.Cond.methodLink "ZlibBoxModel" (83 : Nat) ({ cls := "ZlibBoxModel", name := "meaning", desc := "(LZlibBoxModel$Codes;)I" } : Jvm.MethodName)) ∈ zT := List.mem_filter.mpr ⟨List.mem_append_right _ (List.mem_of_getElem? (i := 668) (by decide +kernel)), by decide +kernel⟩
theorem q_670 : (Jvm.Cond.instanceMethod ({ cls := "ZlibBoxModel", name := "meaning", desc := "(LZlibBoxModel$Codes;)I" } : Jvm.MethodName)) ∈ zT := List.mem_filter.mpr ⟨List.mem_append_right _ (List.mem_of_getElem? (i := 670) (by decide +kernel)), by decide +kernel⟩
theorem q_671 : (Jvm.Cond.code ({ cls := "ZlibBoxModel", name := "meaning", desc := "(LZlibBoxModel$Codes;)I" } : Jvm.MethodName) prog_7_method_6_code (6 : Nat) (Option.some Jvm.ClassFile.FieldType.int)) ∈ zT := List.mem_filter.mpr ⟨List.mem_append_right _ (List.mem_of_getElem? (i := 671) (by decide +kernel)), by decide +kernel⟩
theorem q_672 : (Jvm.Cond.methodLink "ZlibBoxModel" (114 : Nat) ({ cls := "ZlibBoxModel", name := "block", desc := "()V" } : Jvm.MethodName)) ∈ zT := List.mem_filter.mpr ⟨List.mem_append_right _ (List.mem_of_getElem? (i := 672) (by decide +kernel)), by decide +kernel⟩
theorem q_674 : (Jvm.Cond.instanceMethod ({ cls := "ZlibBoxModel", name := "block", desc := "()V" } : Jvm.MethodName)) ∈ zT := List.mem_filter.mpr ⟨List.mem_append_right _ (List.mem_of_getElem? (i := 674) (by decide +kernel)), by decide +kernel⟩
theorem q_675 : (Jvm.Cond.code ({ cls := "ZlibBoxModel", name := "block", desc := "()V" } : Jvm.MethodName) prog_7_method_10_code (6 : Nat) (Option.none : Option Jvm.ClassFile.FieldType)) ∈ zT := List.mem_filter.mpr ⟨List.mem_append_right _ (List.mem_of_getElem? (i := 675) (by decide +kernel)), by decide +kernel⟩
theorem q_676 : (Jvm.Cond.methodLink "ZlibBoxModel" (100 : Nat) ({ cls := "ZlibBoxModel", name := "lengthBits", desc := "(I)I" } : Jvm.MethodName)) ∈ zT := List.mem_filter.mpr ⟨List.mem_append_right _ (List.mem_of_getElem? (i := 676) (by decide +kernel)), by decide +kernel⟩
theorem q_677 : (Jvm.Cond.static ({ cls := "ZlibBoxModel", name := "lengthBits", desc := "(I)I" } : Jvm.MethodName)) ∈ zT := List.mem_filter.mpr ⟨List.mem_append_right _ (List.mem_of_getElem? (i := 677) (by decide +kernel)), by decide +kernel⟩
theorem q_678 : (Jvm.Cond.code ({ cls := "ZlibBoxModel", name := "lengthBits", desc := "(I)I" } : Jvm.MethodName) prog_7_method_11_code (1 : Nat) (Option.some Jvm.ClassFile.FieldType.int)) ∈ zT := List.mem_filter.mpr ⟨List.mem_append_right _ (List.mem_of_getElem? (i := 678) (by decide +kernel)), by decide +kernel⟩
theorem q_679 : (Jvm.Cond.methodLink "ZlibBoxModel" (103 : Nat) ({ cls := "ZlibBoxModel", name := "distanceBits", desc := "(I)I" } : Jvm.MethodName)) ∈ zT := List.mem_filter.mpr ⟨List.mem_append_right _ (List.mem_of_getElem? (i := 679) (by decide +kernel)), by decide +kernel⟩
theorem q_680 : (Jvm.Cond.static ({ cls := "ZlibBoxModel", name := "distanceBits", desc := "(I)I" } : Jvm.MethodName)) ∈ zT := List.mem_filter.mpr ⟨List.mem_append_right _ (List.mem_of_getElem? (i := 680) (by decide +kernel)), by decide +kernel⟩
theorem q_681 : (Jvm.Cond.code ({ cls := "ZlibBoxModel", name := "distanceBits", desc := "(I)I" } : Jvm.MethodName) prog_7_method_12_code (1 : Nat) (Option.some Jvm.ClassFile.FieldType.int)) ∈ zT := List.mem_filter.mpr ⟨List.mem_append_right _ (List.mem_of_getElem? (i := 681) (by decide +kernel)), by decide +kernel⟩
theorem q_682 : (Jvm.Cond.constant "ZlibBoxModel" (106 : Nat) (32768 : Int32)) ∈ zT := List.mem_filter.mpr ⟨List.mem_append_right _ (List.mem_of_getElem? (i := 682) (by decide +kernel)), by decide +kernel⟩
theorem q_683 : (Jvm.Cond.constantLong "ZlibBoxModel" (117 : Nat) (256 : Int64)) ∈ zT := List.mem_filter.mpr ⟨List.mem_append_right _ (List.mem_of_getElem? (i := 683) (by decide +kernel)), by decide +kernel⟩
theorem q_684 : (Jvm.Cond.methodLink "ZlibBoxModel" (119 : Nat) ({ cls := "ZlibBoxModel", name := "adler", desc := "([BI)J" } : Jvm.MethodName)) ∈ zT := List.mem_filter.mpr ⟨List.mem_append_right _ (List.mem_of_getElem? (i := 684) (by decide +kernel)), by decide +kernel⟩
theorem q_685 : (Jvm.Cond.static ({ cls := "ZlibBoxModel", name := "adler", desc := "([BI)J" } : Jvm.MethodName)) ∈ zT := List.mem_filter.mpr ⟨List.mem_append_right _ (List.mem_of_getElem? (i := 685) (by decide +kernel)), by decide +kernel⟩
theorem q_686 : (Jvm.Cond.code ({ cls := "ZlibBoxModel", name := "adler", desc := "([BI)J" } : Jvm.MethodName) prog_7_method_14_code (5 : Nat) (Option.some Jvm.ClassFile.FieldType.long)) ∈ zT := List.mem_filter.mpr ⟨List.mem_append_right _ (List.mem_of_getElem? (i := 686) (by decide +kernel)), by decide +kernel⟩
theorem q_687 : (Jvm.Cond.constant "ZlibBoxModel" (123 : Nat) (65521 : Int32)) ∈ zT := List.mem_filter.mpr ⟨List.mem_append_right _ (List.mem_of_getElem? (i := 687) (by decide +kernel)), by decide +kernel⟩
theorem q_688 : (Jvm.Cond.constantLong "ZlibBoxModel" (124 : Nat) (65536 : Int64)) ∈ zT := List.mem_filter.mpr ⟨List.mem_append_right _ (List.mem_of_getElem? (i := 688) (by decide +kernel)), by decide +kernel⟩
theorem q_689 : (Jvm.Cond.methodLink "ZlibBoxModel" (171 : Nat) ({ cls := "ZlibBoxModel", name := "fail", desc := "(I)I" } : Jvm.MethodName)) ∈ zT := List.mem_filter.mpr ⟨List.mem_append_right _ (List.mem_of_getElem? (i := 689) (by decide +kernel)), by decide +kernel⟩
theorem q_691 : (Jvm.Cond.instanceMethod ({ cls := "ZlibBoxModel", name := "fail", desc := "(I)I" } : Jvm.MethodName)) ∈ zT := List.mem_filter.mpr ⟨List.mem_append_right _ (List.mem_of_getElem? (i := 691) (by decide +kernel)), by decide +kernel⟩
theorem q_692 : (Jvm.Cond.code ({ cls := "ZlibBoxModel", name := "fail", desc := "(I)I" } : Jvm.MethodName) prog_7_method_3_code (2 : Nat) (Option.some Jvm.ClassFile.FieldType.int)) ∈ zT := List.mem_filter.mpr ⟨List.mem_append_right _ (List.mem_of_getElem? (i := 692) (by decide +kernel)), by decide +kernel⟩
theorem q_693 : (Jvm.Cond.methodLink "ZlibBoxLaw" (64 : Nat) ({ cls := "ZlibBoxModel", name := "pack", desc := "()I" } : Jvm.MethodName)) ∈ zT := List.mem_filter.mpr ⟨List.mem_append_right _ (List.mem_of_getElem? (i := 693) (by decide +kernel)), by decide +kernel⟩
theorem q_694 : (Jvm.Cond.instanceMethod ({ cls := "ZlibBoxModel", name := "pack", desc := "()I" } : Jvm.MethodName)) ∈ zT := List.mem_filter.mpr ⟨List.mem_append_right _ (List.mem_of_getElem? (i := 694) (by decide +kernel)), by decide +kernel⟩
theorem q_695 : (Jvm.Cond.selects "ZlibBoxModel" ({ cls := "ZlibBoxModel", name := "pack", desc := "()I" } : Jvm.MethodName) ({ cls := "ZlibBoxModel", name := "pack", desc := "()I" } : Jvm.MethodName)) ∈ zT := List.mem_filter.mpr ⟨List.mem_append_right _ (List.mem_of_getElem? (i := 695) (by decide +kernel)), by decide +kernel⟩
theorem q_696 : (Jvm.Cond.code ({ cls := "ZlibBoxModel", name := "pack", desc := "()I" } : Jvm.MethodName) prog_7_method_25_code (2 : Nat) (Option.some Jvm.ClassFile.FieldType.int)) ∈ zT := List.mem_filter.mpr ⟨List.mem_append_right _ (List.mem_of_getElem? (i := 696) (by decide +kernel)), by decide +kernel⟩
theorem q_697 : (Jvm.Cond.methodLink "ZlibBoxModel" (129 : Nat) ({ cls := "ZlibBoxModel", name := "put", desc := "(I)V" } : Jvm.MethodName)) ∈ zT := List.mem_filter.mpr ⟨List.mem_append_right _ (List.mem_of_getElem? (i := 697) (by decide +kernel)), by decide +kernel⟩
theorem q_699 : (Jvm.Cond.instanceMethod ({ cls := "ZlibBoxModel", name := "put", desc := "(I)V" } : Jvm.MethodName)) ∈ zT := List.mem_filter.mpr ⟨List.mem_append_right _ (List.mem_of_getElem? (i := 699) (by decide +kernel)), by decide +kernel⟩
theorem q_700 : (Jvm.Cond.code ({ cls := "ZlibBoxModel", name := "put", desc := "(I)V" } : Jvm.MethodName) prog_7_method_15_code (2 : Nat) (Option.none : Option Jvm.ClassFile.FieldType)) ∈ zT := List.mem_filter.mpr ⟨List.mem_append_right _ (List.mem_of_getElem? (i := 700) (by decide +kernel)), by decide +kernel⟩
theorem q_701 : (Jvm.Cond.methodLink "ZlibBoxModel" (177 : Nat) ({ cls := "ZlibBoxModel", name := "deflate", desc := "()V" } : Jvm.MethodName)) ∈ zT := List.mem_filter.mpr ⟨List.mem_append_right _ (List.mem_of_getElem? (i := 701) (by decide +kernel)), by decide +kernel⟩
theorem q_703 : (Jvm.Cond.instanceMethod ({ cls := "ZlibBoxModel", name := "deflate", desc := "()V" } : Jvm.MethodName)) ∈ zT := List.mem_filter.mpr ⟨List.mem_append_right _ (List.mem_of_getElem? (i := 703) (by decide +kernel)), by decide +kernel⟩
theorem q_704 : (Jvm.Cond.code ({ cls := "ZlibBoxModel", name := "deflate", desc := "()V" } : Jvm.MethodName) prog_7_method_23_code (8 : Nat) (Option.none : Option Jvm.ClassFile.FieldType)) ∈ zT := List.mem_filter.mpr ⟨List.mem_append_right _ (List.mem_of_getElem? (i := 704) (by decide +kernel)), by decide +kernel⟩
theorem q_705 : (Jvm.Cond.methodLink "ZlibBoxModel" (141 : Nat) ({ cls := "ZlibBoxModel", name := "putBits", desc := "(II)V" } : Jvm.MethodName)) ∈ zT := List.mem_filter.mpr ⟨List.mem_append_right _ (List.mem_of_getElem? (i := 705) (by decide +kernel)), by decide +kernel⟩
theorem q_707 : (Jvm.Cond.instanceMethod ({ cls := "ZlibBoxModel", name := "putBits", desc := "(II)V" } : Jvm.MethodName)) ∈ zT := List.mem_filter.mpr ⟨List.mem_append_right _ (List.mem_of_getElem? (i := 707) (by decide +kernel)), by decide +kernel⟩
theorem q_708 : (Jvm.Cond.code ({ cls := "ZlibBoxModel", name := "putBits", desc := "(II)V" } : Jvm.MethodName) prog_7_method_17_code (4 : Nat) (Option.none : Option Jvm.ClassFile.FieldType)) ∈ zT := List.mem_filter.mpr ⟨List.mem_append_right _ (List.mem_of_getElem? (i := 708) (by decide +kernel)), by decide +kernel⟩
theorem q_709 : (Jvm.Cond.methodLink "ZlibBoxModel" (138 : Nat) ({ cls := "ZlibBoxModel", name := "flush", desc := "()V" } : Jvm.MethodName)) ∈ zT := List.mem_filter.mpr ⟨List.mem_append_right _ (List.mem_of_getElem? (i := 709) (by decide +kernel)), by decide +kernel⟩
theorem q_711 : (Jvm.Cond.instanceMethod ({ cls := "ZlibBoxModel", name := "flush", desc := "()V" } : Jvm.MethodName)) ∈ zT := List.mem_filter.mpr ⟨List.mem_append_right _ (List.mem_of_getElem? (i := 711) (by decide +kernel)), by decide +kernel⟩
theorem q_712 : (Jvm.Cond.code ({ cls := "ZlibBoxModel", name := "flush", desc := "()V" } : Jvm.MethodName) prog_7_method_18_code (1 : Nat) (Option.none : Option Jvm.ClassFile.FieldType)) ∈ zT := List.mem_filter.mpr ⟨List.mem_append_right _ (List.mem_of_getElem? (i := 712) (by decide +kernel)), by decide +kernel⟩
theorem q_713 : (Jvm.Cond.methodLink "ZlibBoxModel" (153 : Nat) ({ cls := "ZlibBoxModel", name := "mark", desc := "(I)I" } : Jvm.MethodName)) ∈ zT := List.mem_filter.mpr ⟨List.mem_append_right _ (List.mem_of_getElem? (i := 713) (by decide +kernel)), by decide +kernel⟩
theorem q_715 : (Jvm.Cond.instanceMethod ({ cls := "ZlibBoxModel", name := "mark", desc := "(I)I" } : Jvm.MethodName)) ∈ zT := List.mem_filter.mpr ⟨List.mem_append_right _ (List.mem_of_getElem? (i := 715) (by decide +kernel)), by decide +kernel⟩
theorem q_716 : (Jvm.Cond.code ({ cls := "ZlibBoxModel", name := "mark", desc := "(I)I" } : Jvm.MethodName) prog_7_method_22_code (2 : Nat) (Option.some Jvm.ClassFile.FieldType.int)) ∈ zT := List.mem_filter.mpr ⟨List.mem_append_right _ (List.mem_of_getElem? (i := 716) (by decide +kernel)), by decide +kernel⟩
theorem q_717 : (Jvm.Cond.constant "ZlibBoxModel" (151 : Nat) (65793 : Int32)) ∈ zT := List.mem_filter.mpr ⟨List.mem_append_right _ (List.mem_of_getElem? (i := 717) (by decide +kernel)), by decide +kernel⟩
theorem q_718 : (Jvm.Cond.constant "ZlibBoxModel" (152 : Nat) (40503 : Int32)) ∈ zT := List.mem_filter.mpr ⟨List.mem_append_right _ (List.mem_of_getElem? (i := 718) (by decide +kernel)), by decide +kernel⟩
theorem q_719 : (Jvm.Cond.methodLink "ZlibBoxModel" (156 : Nat) ({ cls := "java/lang/Math", name := "min", desc := "(II)I" } : Jvm.MethodName)) ∈ zT := List.mem_filter.mpr ⟨List.mem_append_right _ (List.mem_of_getElem? (i := 719) (by decide +kernel)), by decide +kernel⟩
theorem q_720 : (Jvm.Cond.methodLink "ZlibBoxModel" (162 : Nat) ({ cls := "ZlibBoxModel", name := "putCopy", desc := "(II)V" } : Jvm.MethodName)) ∈ zT := List.mem_filter.mpr ⟨List.mem_append_right _ (List.mem_of_getElem? (i := 720) (by decide +kernel)), by decide +kernel⟩
theorem q_722 : (Jvm.Cond.instanceMethod ({ cls := "ZlibBoxModel", name := "putCopy", desc := "(II)V" } : Jvm.MethodName)) ∈ zT := List.mem_filter.mpr ⟨List.mem_append_right _ (List.mem_of_getElem? (i := 722) (by decide +kernel)), by decide +kernel⟩
theorem q_723 : (Jvm.Cond.code ({ cls := "ZlibBoxModel", name := "putCopy", desc := "(II)V" } : Jvm.MethodName) prog_7_method_21_code (7 : Nat) (Option.none : Option Jvm.ClassFile.FieldType)) ∈ zT := List.mem_filter.mpr ⟨List.mem_append_right _ (List.mem_of_getElem? (i := 723) (by decide +kernel)), by decide +kernel⟩
theorem q_724 : (Jvm.Cond.methodLink "ZlibBoxModel" (148 : Nat) ({ cls := "ZlibBoxModel", name := "putLiteral", desc := "(I)V" } : Jvm.MethodName)) ∈ zT := List.mem_filter.mpr ⟨List.mem_append_right _ (List.mem_of_getElem? (i := 724) (by decide +kernel)), by decide +kernel⟩
theorem q_726 : (Jvm.Cond.instanceMethod ({ cls := "ZlibBoxModel", name := "putLiteral", desc := "(I)V" } : Jvm.MethodName)) ∈ zT := List.mem_filter.mpr ⟨List.mem_append_right _ (List.mem_of_getElem? (i := 726) (by decide +kernel)), by decide +kernel⟩
theorem q_727 : (Jvm.Cond.code ({ cls := "ZlibBoxModel", name := "putLiteral", desc := "(I)V" } : Jvm.MethodName) prog_7_method_20_code (2 : Nat) (Option.none : Option Jvm.ClassFile.FieldType)) ∈ zT := List.mem_filter.mpr ⟨List.mem_append_right _ (List.mem_of_getElem? (i := 727) (by decide +kernel)), by decide +kernel⟩
theorem q_728 : (Jvm.Cond.methodLink "ZlibBoxModel" (145 : Nat) ({ cls := "ZlibBoxModel", name := "putCode", desc := "(II)V" } : Jvm.MethodName)) ∈ zT := List.mem_filter.mpr ⟨List.mem_append_right _ (List.mem_of_getElem? (i := 728) (by decide +kernel)), by decide +kernel⟩
theorem q_730 : (Jvm.Cond.instanceMethod ({ cls := "ZlibBoxModel", name := "putCode", desc := "(II)V" } : Jvm.MethodName)) ∈ zT := List.mem_filter.mpr ⟨List.mem_append_right _ (List.mem_of_getElem? (i := 730) (by decide +kernel)), by decide +kernel⟩
theorem q_731 : (Jvm.Cond.code ({ cls := "ZlibBoxModel", name := "putCode", desc := "(II)V" } : Jvm.MethodName) prog_7_method_19_code (4 : Nat) (Option.none : Option Jvm.ClassFile.FieldType)) ∈ zT := List.mem_filter.mpr ⟨List.mem_append_right _ (List.mem_of_getElem? (i := 731) (by decide +kernel)), by decide +kernel⟩
theorem q_732 : (Jvm.Cond.methodLink "ZlibBoxModel" (180 : Nat) ({ cls := "ZlibBoxModel", name := "putBig", desc := "(J)V" } : Jvm.MethodName)) ∈ zT := List.mem_filter.mpr ⟨List.mem_append_right _ (List.mem_of_getElem? (i := 732) (by decide +kernel)), by decide +kernel⟩
theorem q_734 : (Jvm.Cond.instanceMethod ({ cls := "ZlibBoxModel", name := "putBig", desc := "(J)V" } : Jvm.MethodName)) ∈ zT := List.mem_filter.mpr ⟨List.mem_append_right _ (List.mem_of_getElem? (i := 734) (by decide +kernel)), by decide +kernel⟩
theorem q_735 : (Jvm.Cond.code ({ cls := "ZlibBoxModel", name := "putBig", desc := "(J)V" } : Jvm.MethodName) prog_7_method_16_code (4 : Nat) (Option.none : Option Jvm.ClassFile.FieldType)) ∈ zT := List.mem_filter.mpr ⟨List.mem_append_right _ (List.mem_of_getElem? (i := 735) (by decide +kernel)), by decide +kernel⟩
theorem q_736 : (Jvm.Cond.methodLink "ZlibBoxLaw" (68 : Nat) ({ cls := "ZlibBoxModel", name := "adler", desc := "()I" } : Jvm.MethodName)) ∈ zT := List.mem_filter.mpr ⟨List.mem_append_right _ (List.mem_of_getElem? (i := 736) (by decide +kernel)), by decide +kernel⟩
theorem q_737 : (Jvm.Cond.instanceMethod ({ cls := "ZlibBoxModel", name := "adler", desc := "()I" } : Jvm.MethodName)) ∈ zT := List.mem_filter.mpr ⟨List.mem_append_right _ (List.mem_of_getElem? (i := 737) (by decide +kernel)), by decide +kernel⟩
theorem q_738 : (Jvm.Cond.selects "ZlibBoxModel" ({ cls := "ZlibBoxModel", name := "adler", desc := "()I" } : Jvm.MethodName) ({ cls := "ZlibBoxModel", name := "adler", desc := "()I" } : Jvm.MethodName)) ∈ zT := List.mem_filter.mpr ⟨List.mem_append_right _ (List.mem_of_getElem? (i := 738) (by decide +kernel)), by decide +kernel⟩
theorem q_739 : (Jvm.Cond.code ({ cls := "ZlibBoxModel", name := "adler", desc := "()I" } : Jvm.MethodName) prog_7_method_26_code (1 : Nat) (Option.some Jvm.ClassFile.FieldType.int)) ∈ zT := List.mem_filter.mpr ⟨List.mem_append_right _ (List.mem_of_getElem? (i := 739) (by decide +kernel)), by decide +kernel⟩
theorem q_740 : (Jvm.Cond.methodLink "ZlibBoxLaw" (46 : Nat) ({ cls := "ZlibBoxModel", name := "feed", desc := "(IIIII)I" } : Jvm.MethodName)) ∈ zT := List.mem_filter.mpr ⟨List.mem_append_right _ (List.mem_of_getElem? (i := 740) (by decide +kernel)), by decide +kernel⟩
theorem q_741 : (Jvm.Cond.instanceMethod ({ cls := "ZlibBoxModel", name := "feed", desc := "(IIIII)I" } : Jvm.MethodName)) ∈ zT := List.mem_filter.mpr ⟨List.mem_append_right _ (List.mem_of_getElem? (i := 741) (by decide +kernel)), by decide +kernel⟩
theorem q_742 : (Jvm.Cond.selects "ZlibBoxModel" ({ cls := "ZlibBoxModel", name := "feed", desc := "(IIIII)I" } : Jvm.MethodName) ({ cls := "ZlibBoxModel", name := "feed", desc := "(IIIII)I" } : Jvm.MethodName)) ∈ zT := List.mem_filter.mpr ⟨List.mem_append_right _ (List.mem_of_getElem? (i := 742) (by decide +kernel)), by decide +kernel⟩
theorem q_743 : (Jvm.Cond.code ({ cls := "ZlibBoxModel", name := "feed", desc := "(IIIII)I" } : Jvm.MethodName) prog_7_method_27_code (8 : Nat) (Option.some Jvm.ClassFile.FieldType.int)) ∈ zT := List.mem_filter.mpr ⟨List.mem_append_right _ (List.mem_of_getElem? (i := 743) (by decide +kernel)), by decide +kernel⟩
theorem q_744 : (Jvm.Cond.methodLink "ZlibBoxLaw" (53 : Nat) ({ cls := "ZlibBoxModel", name := "end", desc := "(I)I" } : Jvm.MethodName)) ∈ zT := List.mem_filter.mpr ⟨List.mem_append_right _ (List.mem_of_getElem? (i := 744) (by decide +kernel)), by decide +kernel⟩
theorem q_745 : (Jvm.Cond.instanceMethod ({ cls := "ZlibBoxModel", name := "end", desc := "(I)I" } : Jvm.MethodName)) ∈ zT := List.mem_filter.mpr ⟨List.mem_append_right _ (List.mem_of_getElem? (i := 745) (by decide +kernel)), by decide +kernel⟩
theorem q_746 : (Jvm.Cond.selects "ZlibBoxModel" ({ cls := "ZlibBoxModel", name := "end", desc := "(I)I" } : Jvm.MethodName) ({ cls := "ZlibBoxModel", name := "end", desc := "(I)I" } : Jvm.MethodName)) ∈ zT := List.mem_filter.mpr ⟨List.mem_append_right _ (List.mem_of_getElem? (i := 746) (by decide +kernel)), by decide +kernel⟩
theorem q_747 : (Jvm.Cond.code ({ cls := "ZlibBoxModel", name := "end", desc := "(I)I" } : Jvm.MethodName) prog_7_method_28_code (2 : Nat) (Option.some Jvm.ClassFile.FieldType.int)) ∈ zT := List.mem_filter.mpr ⟨List.mem_append_right _ (List.mem_of_getElem? (i := 747) (by decide +kernel)), by decide +kernel⟩
theorem q_748 : (Jvm.Cond.methodLink "ZlibBoxLaw" (57 : Nat) ({ cls := "ZlibBoxModel", name := "again", desc := "()I" } : Jvm.MethodName)) ∈ zT := List.mem_filter.mpr ⟨List.mem_append_right _ (List.mem_of_getElem? (i := 748) (by decide +kernel)), by decide +kernel⟩
theorem q_749 : (Jvm.Cond.instanceMethod ({ cls := "ZlibBoxModel", name := "again", desc := "()I" } : Jvm.MethodName)) ∈ zT := List.mem_filter.mpr ⟨List.mem_append_right _ (List.mem_of_getElem? (i := 749) (by decide +kernel)), by decide +kernel⟩
theorem q_750 : (Jvm.Cond.selects "ZlibBoxModel" ({ cls := "ZlibBoxModel", name := "again", desc := "()I" } : Jvm.MethodName) ({ cls := "ZlibBoxModel", name := "again", desc := "()I" } : Jvm.MethodName)) ∈ zT := List.mem_filter.mpr ⟨List.mem_append_right _ (List.mem_of_getElem? (i := 750) (by decide +kernel)), by decide +kernel⟩
theorem q_751 : (Jvm.Cond.code ({ cls := "ZlibBoxModel", name := "again", desc := "()I" } : Jvm.MethodName) prog_7_method_29_code (2 : Nat) (Option.some Jvm.ClassFile.FieldType.int)) ∈ zT := List.mem_filter.mpr ⟨List.mem_append_right _ (List.mem_of_getElem? (i := 751) (by decide +kernel)), by decide +kernel⟩
theorem q_752 : (Jvm.Cond.methodLink "ZlibBoxLaw" (71 : Nat) ({ cls := "ZlibBoxModel", name := "word", desc := "(I)J" } : Jvm.MethodName)) ∈ zT := List.mem_filter.mpr ⟨List.mem_append_right _ (List.mem_of_getElem? (i := 752) (by decide +kernel)), by decide +kernel⟩
theorem q_753 : (Jvm.Cond.instanceMethod ({ cls := "ZlibBoxModel", name := "word", desc := "(I)J" } : Jvm.MethodName)) ∈ zT := List.mem_filter.mpr ⟨List.mem_append_right _ (List.mem_of_getElem? (i := 753) (by decide +kernel)), by decide +kernel⟩
theorem q_754 : (Jvm.Cond.selects "ZlibBoxModel" ({ cls := "ZlibBoxModel", name := "word", desc := "(I)J" } : Jvm.MethodName) ({ cls := "ZlibBoxModel", name := "word", desc := "(I)J" } : Jvm.MethodName)) ∈ zT := List.mem_filter.mpr ⟨List.mem_append_right _ (List.mem_of_getElem? (i := 754) (by decide +kernel)), by decide +kernel⟩
theorem q_755 : (Jvm.Cond.code ({ cls := "ZlibBoxModel", name := "word", desc := "(I)J" } : Jvm.MethodName) prog_7_method_30_code (5 : Nat) (Option.some Jvm.ClassFile.FieldType.long)) ∈ zT := List.mem_filter.mpr ⟨List.mem_append_right _ (List.mem_of_getElem? (i := 755) (by decide +kernel)), by decide +kernel⟩
theorem q_756 : (Jvm.Cond.methodLink "ZlibBoxLaw" (74 : Nat) ({ cls := "ZlibBoxModel", name := "count", desc := "(I)I" } : Jvm.MethodName)) ∈ zT := List.mem_filter.mpr ⟨List.mem_append_right _ (List.mem_of_getElem? (i := 756) (by decide +kernel)), by decide +kernel⟩
theorem q_757 : (Jvm.Cond.instanceMethod ({ cls := "ZlibBoxModel", name := "count", desc := "(I)I" } : Jvm.MethodName)) ∈ zT := List.mem_filter.mpr ⟨List.mem_append_right _ (List.mem_of_getElem? (i := 757) (by decide +kernel)), by decide +kernel⟩
theorem q_758 : (Jvm.Cond.selects "ZlibBoxModel" ({ cls := "ZlibBoxModel", name := "count", desc := "(I)I" } : Jvm.MethodName) ({ cls := "ZlibBoxModel", name := "count", desc := "(I)I" } : Jvm.MethodName)) ∈ zT := List.mem_filter.mpr ⟨List.mem_append_right _ (List.mem_of_getElem? (i := 758) (by decide +kernel)), by decide +kernel⟩
theorem q_759 : (Jvm.Cond.code ({ cls := "ZlibBoxModel", name := "count", desc := "(I)I" } : Jvm.MethodName) prog_7_method_31_code (2 : Nat) (Option.some Jvm.ClassFile.FieldType.int)) ∈ zT := List.mem_filter.mpr ⟨List.mem_append_right _ (List.mem_of_getElem? (i := 759) (by decide +kernel)), by decide +kernel⟩
theorem q_760 : (Jvm.Cond.arrayClass Jvm.ClassFile.FieldType.long) ∈ zT := List.mem_filter.mpr ⟨List.mem_append_right _ (List.mem_of_getElem? (i := 760) (by decide +kernel)), by decide +kernel⟩
theorem q_761 : (Jvm.Cond.sameMethod "java/lang/Throwable" "java/lang/Throwable" "fillInStackTrace" "(I)Ljava/lang/Throwable;") ∈ zT := List.mem_filter.mpr ⟨List.mem_append_right _ (List.mem_of_getElem? (i := 761) (by decide +kernel)), by decide +kernel⟩
theorem sel_UN_makeFixedCodes : Cond.selects y_UN_makeFixedCodes.cls y_UN_makeFixedCodes y_UN_makeFixedCodes ∈ zT := by decide +kernel
theorem sel_ZB_putInt : Cond.selects y_ZB_putInt.cls y_ZB_putInt y_ZB_putInt ∈ zT := by decide +kernel
theorem sel_UN_readHead : Cond.selects y_UN_readHead.cls y_UN_readHead y_UN_readHead ∈ zT := by decide +kernel
theorem sel_UN_readBlocks : Cond.selects y_UN_readBlocks.cls y_UN_readBlocks y_UN_readBlocks ∈ zT := by decide +kernel
theorem sel_UN_readStored : Cond.selects y_UN_readStored.cls y_UN_readStored y_UN_readStored ∈ zT := by decide +kernel
theorem sel_UN_put : Cond.selects y_UN_put.cls y_UN_put y_UN_put ∈ zT := by decide +kernel
theorem sel_UN_readCoded : Cond.selects y_UN_readCoded.cls y_UN_readCoded y_UN_readCoded ∈ zT := by decide +kernel
theorem sel_UN_readCopy : Cond.selects y_UN_readCopy.cls y_UN_readCopy y_UN_readCopy ∈ zT := by decide +kernel
theorem sel_UN_readToldCodes : Cond.selects y_UN_readToldCodes.cls y_UN_readToldCodes y_UN_readToldCodes ∈ zT := by decide +kernel
theorem sel_UN_readLengthCodes : Cond.selects y_UN_readLengthCodes.cls y_UN_readLengthCodes y_UN_readLengthCodes ∈ zT := by decide +kernel
theorem sel_UN_readLengths : Cond.selects y_UN_readLengths.cls y_UN_readLengths y_UN_readLengths ∈ zT := by decide +kernel
theorem sel_UN_readRun : Cond.selects y_UN_readRun.cls y_UN_readRun y_UN_readRun ∈ zT := by decide +kernel
theorem sel_UN_readTail : Cond.selects y_UN_readTail.cls y_UN_readTail y_UN_readTail ∈ zT := by decide +kernel
theorem sel_ZB_keepDraft : Cond.selects y_ZB_keepDraft.cls y_ZB_keepDraft y_ZB_keepDraft ∈ zT := by decide +kernel
theorem sel_PA_open : Cond.selects y_PA_open.cls y_PA_open y_PA_open ∈ zT := by decide +kernel
theorem sel_PA_putByte : Cond.selects y_PA_putByte.cls y_PA_putByte y_PA_putByte ∈ zT := by decide +kernel
theorem sel_PA_putNumber : Cond.selects y_PA_putNumber.cls y_PA_putNumber y_PA_putNumber ∈ zT := by decide +kernel
theorem sel_PA_writeTape : Cond.selects y_PA_writeTape.cls y_PA_writeTape y_PA_writeTape ∈ zT := by decide +kernel
theorem sel_PA_findCopy : Cond.selects y_PA_findCopy.cls y_PA_findCopy y_PA_findCopy ∈ zT := by decide +kernel
theorem sel_PA_chainOf : Cond.selects y_PA_chainOf.cls y_PA_chainOf y_PA_chainOf ∈ zT := by decide +kernel
theorem sel_PA_agreement : Cond.selects y_PA_agreement.cls y_PA_agreement y_PA_agreement ∈ zT := by decide +kernel
theorem sel_PA_putLiteral : Cond.selects y_PA_putLiteral.cls y_PA_putLiteral y_PA_putLiteral ∈ zT := by decide +kernel
theorem sel_PA_putCopy : Cond.selects y_PA_putCopy.cls y_PA_putCopy y_PA_putCopy ∈ zT := by decide +kernel
theorem sel_PA_remember : Cond.selects y_PA_remember.cls y_PA_remember y_PA_remember ∈ zT := by decide +kernel
theorem sel_PA_putLastBits : Cond.selects y_PA_putLastBits.cls y_PA_putLastBits y_PA_putLastBits ∈ zT := by decide +kernel
theorem sel_PA_putAdler : Cond.selects y_PA_putAdler.cls y_PA_putAdler y_PA_putAdler ∈ zT := by decide +kernel
theorem sel_MO_inflate : Cond.selects y_MO_inflate.cls y_MO_inflate y_MO_inflate ∈ zT := by decide +kernel
theorem sel_MO_can : Cond.selects y_MO_can.cls y_MO_can y_MO_can ∈ zT := by decide +kernel
theorem sel_MO_bits : Cond.selects y_MO_bits.cls y_MO_bits y_MO_bits ∈ zT := by decide +kernel
theorem sel_MO_give : Cond.selects y_MO_give.cls y_MO_give y_MO_give ∈ zT := by decide +kernel
theorem sel_MO_fixedCodes : Cond.selects y_MO_fixedCodes.cls y_MO_fixedCodes y_MO_fixedCodes ∈ zT := by decide +kernel
theorem sel_MO_toldCodes : Cond.selects y_MO_toldCodes.cls y_MO_toldCodes y_MO_toldCodes ∈ zT := by decide +kernel
theorem sel_MO_meaning : Cond.selects y_MO_meaning.cls y_MO_meaning y_MO_meaning ∈ zT := by decide +kernel
theorem sel_MO_block : Cond.selects y_MO_block.cls y_MO_block y_MO_block ∈ zT := by decide +kernel
theorem sel_MO_fail : Cond.selects y_MO_fail.cls y_MO_fail y_MO_fail ∈ zT := by decide +kernel
theorem sel_MO_put : Cond.selects y_MO_put.cls y_MO_put y_MO_put ∈ zT := by decide +kernel
theorem sel_MO_deflate : Cond.selects y_MO_deflate.cls y_MO_deflate y_MO_deflate ∈ zT := by decide +kernel
theorem sel_MO_putBits : Cond.selects y_MO_putBits.cls y_MO_putBits y_MO_putBits ∈ zT := by decide +kernel
theorem sel_MO_flush : Cond.selects y_MO_flush.cls y_MO_flush y_MO_flush ∈ zT := by decide +kernel
theorem sel_MO_mark : Cond.selects y_MO_mark.cls y_MO_mark y_MO_mark ∈ zT := by decide +kernel
theorem sel_MO_putCopy : Cond.selects y_MO_putCopy.cls y_MO_putCopy y_MO_putCopy ∈ zT := by decide +kernel
theorem sel_MO_putLiteral : Cond.selects y_MO_putLiteral.cls y_MO_putLiteral y_MO_putLiteral ∈ zT := by decide +kernel
theorem sel_MO_putCode : Cond.selects y_MO_putCode.cls y_MO_putCode y_MO_putCode ∈ zT := by decide +kernel
theorem sel_MO_putBig : Cond.selects y_MO_putBig.cls y_MO_putBig y_MO_putBig ∈ zT := by decide +kernel
def zt_up : List String := ["java/lang/RuntimeException", "java/lang/Exception"]
end
section
/-! rows that decode: printed by wip/whole/znames.py -/
theorem d_ZB_init_0 : decode c_ZB_init 0 = .ok (.aload_n 0, 1) := by decide +kernel
theorem d_ZB_init_1 : decode c_ZB_init 1 = .ok (.invokespecial 3, 3) := by decide +kernel
theorem d_ZB_init_4 : decode c_ZB_init 4 = .ok (.aload_n 0, 1) := by decide +kernel
theorem d_ZB_init_5 : decode c_ZB_init 5 = .ok (.sipush 16384, 3) := by decide +kernel
theorem d_ZB_init_8 : decode c_ZB_init 8 = .ok (.newarray .byte, 2) := by decide +kernel
theorem d_ZB_init_10 : decode c_ZB_init 10 = .ok (.putfield 9, 3) := by decide +kernel
theorem d_ZB_init_13 : decode c_ZB_init 13 = .ok (.aload_n 0, 1) := by decide +kernel
theorem d_ZB_init_14 : decode c_ZB_init 14 = .ok (.sipush 16384, 3) := by decide +kernel
theorem d_ZB_init_17 : decode c_ZB_init 17 = .ok (.newarray .byte, 2) := by decide +kernel
theorem d_ZB_init_19 : decode c_ZB_init 19 = .ok (.putfield 13, 3) := by decide +kernel
theorem d_ZB_init_22 : decode c_ZB_init 22 = .ok (.aload_n 0, 1) := by decide +kernel
theorem d_ZB_init_23 : decode c_ZB_init 23 = .ok (.sipush 16384, 3) := by decide +kernel
theorem d_ZB_init_26 : decode c_ZB_init 26 = .ok (.newarray .byte, 2) := by decide +kernel
theorem d_ZB_init_28 : decode c_ZB_init 28 = .ok (.putfield 16, 3) := by decide +kernel
theorem d_ZB_init_31 : decode c_ZB_init 31 = .ok (.aload_n 0, 1) := by decide +kernel
theorem d_ZB_init_32 : decode c_ZB_init 32 = .ok (.new 19, 3) := by decide +kernel
theorem d_ZB_init_35 : decode c_ZB_init 35 = .ok (.dup, 1) := by decide +kernel
theorem d_ZB_init_36 : decode c_ZB_init 36 = .ok (.invokespecial 21, 3) := by decide +kernel
theorem d_ZB_init_39 : decode c_ZB_init 39 = .ok (.putfield 22, 3) := by decide +kernel
theorem d_ZB_init_42 : decode c_ZB_init 42 = .ok (.aload_n 0, 1) := by decide +kernel
theorem d_ZB_init_43 : decode c_ZB_init 43 = .ok (.new 26, 3) := by decide +kernel
theorem d_ZB_init_46 : decode c_ZB_init 46 = .ok (.dup, 1) := by decide +kernel
theorem d_ZB_init_47 : decode c_ZB_init 47 = .ok (.invokespecial 28, 3) := by decide +kernel
theorem d_ZB_init_50 : decode c_ZB_init 50 = .ok (.putfield 29, 3) := by decide +kernel
theorem d_ZB_init_53 : decode c_ZB_init 53 = .ok (.return_, 1) := by decide +kernel
theorem d_UN_init_0 : decode c_UN_init 0 = .ok (.aload_n 0, 1) := by decide +kernel
theorem d_UN_init_1 : decode c_UN_init 1 = .ok (.invokespecial 3, 3) := by decide +kernel
theorem d_UN_init_4 : decode c_UN_init 4 = .ok (.aload_n 0, 1) := by decide +kernel
theorem d_UN_init_5 : decode c_UN_init 5 = .ok (.new 9, 3) := by decide +kernel
theorem d_UN_init_8 : decode c_UN_init 8 = .ok (.dup, 1) := by decide +kernel
theorem d_UN_init_9 : decode c_UN_init 9 = .ok (.invokespecial 11, 3) := by decide +kernel
theorem d_UN_init_12 : decode c_UN_init 12 = .ok (.putfield 12, 3) := by decide +kernel
theorem d_UN_init_15 : decode c_UN_init 15 = .ok (.aload_n 0, 1) := by decide +kernel
theorem d_UN_init_16 : decode c_UN_init 16 = .ok (.new 18, 3) := by decide +kernel
theorem d_UN_init_19 : decode c_UN_init 19 = .ok (.dup, 1) := by decide +kernel
theorem d_UN_init_20 : decode c_UN_init 20 = .ok (.invokespecial 20, 3) := by decide +kernel
theorem d_UN_init_23 : decode c_UN_init 23 = .ok (.putfield 21, 3) := by decide +kernel
theorem d_UN_init_26 : decode c_UN_init 26 = .ok (.aload_n 0, 1) := by decide +kernel
theorem d_UN_init_27 : decode c_UN_init 27 = .ok (.new 18, 3) := by decide +kernel
theorem d_UN_init_30 : decode c_UN_init 30 = .ok (.dup, 1) := by decide +kernel
theorem d_UN_init_31 : decode c_UN_init 31 = .ok (.invokespecial 20, 3) := by decide +kernel
theorem d_UN_init_34 : decode c_UN_init 34 = .ok (.putfield 25, 3) := by decide +kernel
theorem d_UN_init_37 : decode c_UN_init 37 = .ok (.aload_n 0, 1) := by decide +kernel
theorem d_UN_init_38 : decode c_UN_init 38 = .ok (.new 18, 3) := by decide +kernel
theorem d_UN_init_41 : decode c_UN_init 41 = .ok (.dup, 1) := by decide +kernel
theorem d_UN_init_42 : decode c_UN_init 42 = .ok (.invokespecial 20, 3) := by decide +kernel
theorem d_UN_init_45 : decode c_UN_init 45 = .ok (.putfield 28, 3) := by decide +kernel
theorem d_UN_init_48 : decode c_UN_init 48 = .ok (.aload_n 0, 1) := by decide +kernel
theorem d_UN_init_49 : decode c_UN_init 49 = .ok (.new 18, 3) := by decide +kernel
theorem d_UN_init_52 : decode c_UN_init 52 = .ok (.dup, 1) := by decide +kernel
theorem d_UN_init_53 : decode c_UN_init 53 = .ok (.invokespecial 20, 3) := by decide +kernel
theorem d_UN_init_56 : decode c_UN_init 56 = .ok (.putfield 31, 3) := by decide +kernel
theorem d_UN_init_59 : decode c_UN_init 59 = .ok (.aload_n 0, 1) := by decide +kernel
theorem d_UN_init_60 : decode c_UN_init 60 = .ok (.new 18, 3) := by decide +kernel
theorem d_UN_init_63 : decode c_UN_init 63 = .ok (.dup, 1) := by decide +kernel
theorem d_UN_init_64 : decode c_UN_init 64 = .ok (.invokespecial 20, 3) := by decide +kernel
theorem d_UN_init_67 : decode c_UN_init 67 = .ok (.putfield 34, 3) := by decide +kernel
theorem d_UN_init_70 : decode c_UN_init 70 = .ok (.aload_n 0, 1) := by decide +kernel
theorem d_UN_init_71 : decode c_UN_init 71 = .ok (.sipush 316, 3) := by decide +kernel
theorem d_UN_init_74 : decode c_UN_init 74 = .ok (.newarray .int, 2) := by decide +kernel
theorem d_UN_init_76 : decode c_UN_init 76 = .ok (.putfield 37, 3) := by decide +kernel
theorem d_UN_init_79 : decode c_UN_init 79 = .ok (.aload_n 0, 1) := by decide +kernel
theorem d_UN_init_80 : decode c_UN_init 80 = .ok (.iconst 0, 1) := by decide +kernel
theorem d_UN_init_81 : decode c_UN_init 81 = .ok (.newarray .byte, 2) := by decide +kernel
theorem d_UN_init_83 : decode c_UN_init 83 = .ok (.putfield 41, 3) := by decide +kernel
theorem d_UN_init_86 : decode c_UN_init 86 = .ok (.aload_n 0, 1) := by decide +kernel
theorem d_UN_init_87 : decode c_UN_init 87 = .ok (.invokevirtual 45, 3) := by decide +kernel
theorem d_UN_init_90 : decode c_UN_init 90 = .ok (.return_, 1) := by decide +kernel
theorem d_BR_init_0 : decode c_BR_init 0 = .ok (.aload_n 0, 1) := by decide +kernel
theorem d_BR_init_1 : decode c_BR_init 1 = .ok (.invokespecial 1, 3) := by decide +kernel
theorem d_BR_init_4 : decode c_BR_init 4 = .ok (.aload_n 0, 1) := by decide +kernel
theorem d_BR_init_5 : decode c_BR_init 5 = .ok (.iconst 0, 1) := by decide +kernel
theorem d_BR_init_6 : decode c_BR_init 6 = .ok (.newarray .byte, 2) := by decide +kernel
theorem d_BR_init_8 : decode c_BR_init 8 = .ok (.putfield 7, 3) := by decide +kernel
theorem d_BR_init_11 : decode c_BR_init 11 = .ok (.return_, 1) := by decide +kernel
theorem d_CO_init_0 : decode c_CO_init 0 = .ok (.aload_n 0, 1) := by decide +kernel
theorem d_CO_init_1 : decode c_CO_init 1 = .ok (.invokespecial 3, 3) := by decide +kernel
theorem d_CO_init_4 : decode c_CO_init 4 = .ok (.aload_n 0, 1) := by decide +kernel
theorem d_CO_init_5 : decode c_CO_init 5 = .ok (.bipush 16, 2) := by decide +kernel
theorem d_CO_init_7 : decode c_CO_init 7 = .ok (.newarray .int, 2) := by decide +kernel
theorem d_CO_init_9 : decode c_CO_init 9 = .ok (.putfield 9, 3) := by decide +kernel
theorem d_CO_init_12 : decode c_CO_init 12 = .ok (.aload_n 0, 1) := by decide +kernel
theorem d_CO_init_13 : decode c_CO_init 13 = .ok (.sipush 288, 3) := by decide +kernel
theorem d_CO_init_16 : decode c_CO_init 16 = .ok (.newarray .int, 2) := by decide +kernel
theorem d_CO_init_18 : decode c_CO_init 18 = .ok (.putfield 13, 3) := by decide +kernel
theorem d_CO_init_21 : decode c_CO_init 21 = .ok (.aload_n 0, 1) := by decide +kernel
theorem d_CO_init_22 : decode c_CO_init 22 = .ok (.bipush 16, 2) := by decide +kernel
theorem d_CO_init_24 : decode c_CO_init 24 = .ok (.newarray .int, 2) := by decide +kernel
theorem d_CO_init_26 : decode c_CO_init 26 = .ok (.putfield 16, 3) := by decide +kernel
theorem d_CO_init_29 : decode c_CO_init 29 = .ok (.return_, 1) := by decide +kernel
theorem d_UN_makeFixedCodes_0 : decode c_UN_makeFixedCodes 0 = .ok (.sipush 288, 3) := by decide +kernel
theorem d_UN_makeFixedCodes_3 : decode c_UN_makeFixedCodes 3 = .ok (.newarray .int, 2) := by decide +kernel
theorem d_UN_makeFixedCodes_5 : decode c_UN_makeFixedCodes 5 = .ok (.astore_n 1, 1) := by decide +kernel
theorem d_UN_makeFixedCodes_6 : decode c_UN_makeFixedCodes 6 = .ok (.iconst 0, 1) := by decide +kernel
theorem d_UN_makeFixedCodes_7 : decode c_UN_makeFixedCodes 7 = .ok (.istore_n 2, 1) := by decide +kernel
theorem d_UN_makeFixedCodes_8 : decode c_UN_makeFixedCodes 8 = .ok (.iload_n 2, 1) := by decide +kernel
theorem d_UN_makeFixedCodes_9 : decode c_UN_makeFixedCodes 9 = .ok (.sipush 288, 3) := by decide +kernel
theorem d_UN_makeFixedCodes_12 : decode c_UN_makeFixedCodes 12 = .ok (.if_icmp .ge 50, 3) := by decide +kernel
theorem d_UN_makeFixedCodes_15 : decode c_UN_makeFixedCodes 15 = .ok (.aload_n 1, 1) := by decide +kernel
theorem d_UN_makeFixedCodes_16 : decode c_UN_makeFixedCodes 16 = .ok (.iload_n 2, 1) := by decide +kernel
theorem d_UN_makeFixedCodes_17 : decode c_UN_makeFixedCodes 17 = .ok (.iload_n 2, 1) := by decide +kernel
theorem d_UN_makeFixedCodes_18 : decode c_UN_makeFixedCodes 18 = .ok (.sipush 144, 3) := by decide +kernel
theorem d_UN_makeFixedCodes_21 : decode c_UN_makeFixedCodes 21 = .ok (.if_icmp .ge 8, 3) := by decide +kernel
theorem d_UN_makeFixedCodes_24 : decode c_UN_makeFixedCodes 24 = .ok (.bipush 8, 2) := by decide +kernel
theorem d_UN_makeFixedCodes_26 : decode c_UN_makeFixedCodes 26 = .ok (.goto 29, 3) := by decide +kernel
theorem d_UN_makeFixedCodes_29 : decode c_UN_makeFixedCodes 29 = .ok (.iload_n 2, 1) := by decide +kernel
theorem d_UN_makeFixedCodes_30 : decode c_UN_makeFixedCodes 30 = .ok (.sipush 256, 3) := by decide +kernel
theorem d_UN_makeFixedCodes_33 : decode c_UN_makeFixedCodes 33 = .ok (.if_icmp .ge 8, 3) := by decide +kernel
theorem d_UN_makeFixedCodes_36 : decode c_UN_makeFixedCodes 36 = .ok (.bipush 9, 2) := by decide +kernel
theorem d_UN_makeFixedCodes_38 : decode c_UN_makeFixedCodes 38 = .ok (.goto 17, 3) := by decide +kernel
theorem d_UN_makeFixedCodes_41 : decode c_UN_makeFixedCodes 41 = .ok (.iload_n 2, 1) := by decide +kernel
theorem d_UN_makeFixedCodes_42 : decode c_UN_makeFixedCodes 42 = .ok (.sipush 280, 3) := by decide +kernel
theorem d_UN_makeFixedCodes_45 : decode c_UN_makeFixedCodes 45 = .ok (.if_icmp .ge 8, 3) := by decide +kernel
theorem d_UN_makeFixedCodes_48 : decode c_UN_makeFixedCodes 48 = .ok (.bipush 7, 2) := by decide +kernel
theorem d_UN_makeFixedCodes_50 : decode c_UN_makeFixedCodes 50 = .ok (.goto 5, 3) := by decide +kernel
theorem d_UN_makeFixedCodes_53 : decode c_UN_makeFixedCodes 53 = .ok (.bipush 8, 2) := by decide +kernel
theorem d_UN_makeFixedCodes_55 : decode c_UN_makeFixedCodes 55 = .ok (.iastore, 1) := by decide +kernel
theorem d_UN_makeFixedCodes_56 : decode c_UN_makeFixedCodes 56 = .ok (.iinc 2 1, 3) := by decide +kernel
theorem d_UN_makeFixedCodes_59 : decode c_UN_makeFixedCodes 59 = .ok (.goto (-51), 3) := by decide +kernel
theorem d_UN_makeFixedCodes_62 : decode c_UN_makeFixedCodes 62 = .ok (.aload_n 0, 1) := by decide +kernel
theorem d_UN_makeFixedCodes_63 : decode c_UN_makeFixedCodes 63 = .ok (.getfield 21, 3) := by decide +kernel
theorem d_UN_makeFixedCodes_66 : decode c_UN_makeFixedCodes 66 = .ok (.aload_n 1, 1) := by decide +kernel
theorem d_UN_makeFixedCodes_67 : decode c_UN_makeFixedCodes 67 = .ok (.iconst 0, 1) := by decide +kernel
theorem d_UN_makeFixedCodes_68 : decode c_UN_makeFixedCodes 68 = .ok (.sipush 288, 3) := by decide +kernel
theorem d_UN_makeFixedCodes_71 : decode c_UN_makeFixedCodes 71 = .ok (.invokevirtual 65, 3) := by decide +kernel
theorem d_UN_makeFixedCodes_74 : decode c_UN_makeFixedCodes 74 = .ok (.aload_n 1, 1) := by decide +kernel
theorem d_UN_makeFixedCodes_75 : decode c_UN_makeFixedCodes 75 = .ok (.iconst 5, 1) := by decide +kernel
theorem d_UN_makeFixedCodes_76 : decode c_UN_makeFixedCodes 76 = .ok (.invokestatic 69, 3) := by decide +kernel
theorem d_UN_makeFixedCodes_79 : decode c_UN_makeFixedCodes 79 = .ok (.aload_n 0, 1) := by decide +kernel
theorem d_UN_makeFixedCodes_80 : decode c_UN_makeFixedCodes 80 = .ok (.getfield 25, 3) := by decide +kernel
theorem d_UN_makeFixedCodes_83 : decode c_UN_makeFixedCodes 83 = .ok (.aload_n 1, 1) := by decide +kernel
theorem d_UN_makeFixedCodes_84 : decode c_UN_makeFixedCodes 84 = .ok (.iconst 0, 1) := by decide +kernel
theorem d_UN_makeFixedCodes_85 : decode c_UN_makeFixedCodes 85 = .ok (.bipush 32, 2) := by decide +kernel
theorem d_UN_makeFixedCodes_87 : decode c_UN_makeFixedCodes 87 = .ok (.invokevirtual 65, 3) := by decide +kernel
theorem d_UN_makeFixedCodes_90 : decode c_UN_makeFixedCodes 90 = .ok (.return_, 1) := by decide +kernel
theorem d_CO_make_0 : decode c_CO_make 0 = .ok (.aload_n 0, 1) := by decide +kernel
theorem d_CO_make_1 : decode c_CO_make 1 = .ok (.getfield 9, 3) := by decide +kernel
theorem d_CO_make_4 : decode c_CO_make 4 = .ok (.iconst 0, 1) := by decide +kernel
theorem d_CO_make_5 : decode c_CO_make 5 = .ok (.invokestatic 19, 3) := by decide +kernel
theorem d_CO_make_8 : decode c_CO_make 8 = .ok (.aload_n 0, 1) := by decide +kernel
theorem d_CO_make_9 : decode c_CO_make 9 = .ok (.iconst 0, 1) := by decide +kernel
theorem d_CO_make_10 : decode c_CO_make 10 = .ok (.putfield 25, 3) := by decide +kernel
theorem d_CO_make_13 : decode c_CO_make 13 = .ok (.iconst 0, 1) := by decide +kernel
theorem d_CO_make_14 : decode c_CO_make 14 = .ok (.istore 4, 2) := by decide +kernel
theorem d_CO_make_16 : decode c_CO_make 16 = .ok (.iload 4, 2) := by decide +kernel
theorem d_CO_make_18 : decode c_CO_make 18 = .ok (.iload_n 3, 1) := by decide +kernel
theorem d_CO_make_19 : decode c_CO_make 19 = .ok (.if_icmp .ge 51, 3) := by decide +kernel
theorem d_CO_make_22 : decode c_CO_make 22 = .ok (.aload_n 1, 1) := by decide +kernel
theorem d_CO_make_23 : decode c_CO_make 23 = .ok (.iload_n 2, 1) := by decide +kernel
theorem d_CO_make_24 : decode c_CO_make 24 = .ok (.iload 4, 2) := by decide +kernel
theorem d_CO_make_26 : decode c_CO_make 26 = .ok (.iadd, 1) := by decide +kernel
theorem d_CO_make_27 : decode c_CO_make 27 = .ok (.iaload, 1) := by decide +kernel
theorem d_CO_make_28 : decode c_CO_make 28 = .ok (.istore 5, 2) := by decide +kernel
theorem d_CO_make_30 : decode c_CO_make 30 = .ok (.aload_n 0, 1) := by decide +kernel
theorem d_CO_make_31 : decode c_CO_make 31 = .ok (.getfield 9, 3) := by decide +kernel
theorem d_CO_make_34 : decode c_CO_make 34 = .ok (.iload 5, 2) := by decide +kernel
theorem d_CO_make_36 : decode c_CO_make 36 = .ok (.dup2, 1) := by decide +kernel
theorem d_CO_make_37 : decode c_CO_make 37 = .ok (.iaload, 1) := by decide +kernel
theorem d_CO_make_38 : decode c_CO_make 38 = .ok (.iconst 1, 1) := by decide +kernel
theorem d_CO_make_39 : decode c_CO_make 39 = .ok (.iadd, 1) := by decide +kernel
theorem d_CO_make_40 : decode c_CO_make 40 = .ok (.iastore, 1) := by decide +kernel
theorem d_CO_make_41 : decode c_CO_make 41 = .ok (.aload_n 0, 1) := by decide +kernel
theorem d_CO_make_42 : decode c_CO_make 42 = .ok (.dup, 1) := by decide +kernel
theorem d_CO_make_43 : decode c_CO_make 43 = .ok (.getfield 25, 3) := by decide +kernel
theorem d_CO_make_46 : decode c_CO_make 46 = .ok (.iload 5, 2) := by decide +kernel
theorem d_CO_make_48 : decode c_CO_make 48 = .ok (.ifCond .ne 7, 3) := by decide +kernel
theorem d_CO_make_51 : decode c_CO_make 51 = .ok (.iconst 0, 1) := by decide +kernel
theorem d_CO_make_52 : decode c_CO_make 52 = .ok (.goto 8, 3) := by decide +kernel
theorem d_CO_make_55 : decode c_CO_make 55 = .ok (.ldc 29, 2) := by decide +kernel
theorem d_CO_make_57 : decode c_CO_make 57 = .ok (.iload 5, 2) := by decide +kernel
theorem d_CO_make_59 : decode c_CO_make 59 = .ok (.ishr, 1) := by decide +kernel
theorem d_CO_make_60 : decode c_CO_make 60 = .ok (.iadd, 1) := by decide +kernel
theorem d_CO_make_61 : decode c_CO_make 61 = .ok (.putfield 25, 3) := by decide +kernel
theorem d_CO_make_64 : decode c_CO_make 64 = .ok (.iinc 4 1, 3) := by decide +kernel
theorem d_CO_make_67 : decode c_CO_make 67 = .ok (.goto (-51), 3) := by decide +kernel
theorem d_CO_make_70 : decode c_CO_make 70 = .ok (.aload_n 0, 1) := by decide +kernel
theorem d_CO_make_71 : decode c_CO_make 71 = .ok (.getfield 16, 3) := by decide +kernel
theorem d_CO_make_74 : decode c_CO_make 74 = .ok (.iconst 1, 1) := by decide +kernel
theorem d_CO_make_75 : decode c_CO_make 75 = .ok (.iconst 0, 1) := by decide +kernel
theorem d_CO_make_76 : decode c_CO_make 76 = .ok (.iastore, 1) := by decide +kernel
theorem d_CO_make_77 : decode c_CO_make 77 = .ok (.iconst 2, 1) := by decide +kernel
theorem d_CO_make_78 : decode c_CO_make 78 = .ok (.istore 4, 2) := by decide +kernel
theorem d_CO_make_80 : decode c_CO_make 80 = .ok (.iload 4, 2) := by decide +kernel
theorem d_CO_make_82 : decode c_CO_make 82 = .ok (.bipush 15, 2) := by decide +kernel
theorem d_CO_make_84 : decode c_CO_make 84 = .ok (.if_icmp .gt 35, 3) := by decide +kernel
theorem d_CO_make_87 : decode c_CO_make 87 = .ok (.aload_n 0, 1) := by decide +kernel
theorem d_CO_make_88 : decode c_CO_make 88 = .ok (.getfield 16, 3) := by decide +kernel
theorem d_CO_make_91 : decode c_CO_make 91 = .ok (.iload 4, 2) := by decide +kernel
theorem d_CO_make_93 : decode c_CO_make 93 = .ok (.aload_n 0, 1) := by decide +kernel
theorem d_CO_make_94 : decode c_CO_make 94 = .ok (.getfield 16, 3) := by decide +kernel
theorem d_CO_make_97 : decode c_CO_make 97 = .ok (.iload 4, 2) := by decide +kernel
theorem d_CO_make_99 : decode c_CO_make 99 = .ok (.iconst 1, 1) := by decide +kernel
theorem d_CO_make_100 : decode c_CO_make 100 = .ok (.isub, 1) := by decide +kernel
theorem d_CO_make_101 : decode c_CO_make 101 = .ok (.iaload, 1) := by decide +kernel
theorem d_CO_make_102 : decode c_CO_make 102 = .ok (.aload_n 0, 1) := by decide +kernel
theorem d_CO_make_103 : decode c_CO_make 103 = .ok (.getfield 9, 3) := by decide +kernel
theorem d_CO_make_106 : decode c_CO_make 106 = .ok (.iload 4, 2) := by decide +kernel
theorem d_CO_make_108 : decode c_CO_make 108 = .ok (.iconst 1, 1) := by decide +kernel
theorem d_CO_make_109 : decode c_CO_make 109 = .ok (.isub, 1) := by decide +kernel
theorem d_CO_make_110 : decode c_CO_make 110 = .ok (.iaload, 1) := by decide +kernel
theorem d_CO_make_111 : decode c_CO_make 111 = .ok (.iadd, 1) := by decide +kernel
theorem d_CO_make_112 : decode c_CO_make 112 = .ok (.iastore, 1) := by decide +kernel
theorem d_CO_make_113 : decode c_CO_make 113 = .ok (.iinc 4 1, 3) := by decide +kernel
theorem d_CO_make_116 : decode c_CO_make 116 = .ok (.goto (-36), 3) := by decide +kernel
theorem d_CO_make_119 : decode c_CO_make 119 = .ok (.iconst 0, 1) := by decide +kernel
theorem d_CO_make_120 : decode c_CO_make 120 = .ok (.istore 4, 2) := by decide +kernel
theorem d_CO_make_122 : decode c_CO_make 122 = .ok (.iload 4, 2) := by decide +kernel
theorem d_CO_make_124 : decode c_CO_make 124 = .ok (.iload_n 3, 1) := by decide +kernel
theorem d_CO_make_125 : decode c_CO_make 125 = .ok (.if_icmp .ge 47, 3) := by decide +kernel
theorem d_CO_make_128 : decode c_CO_make 128 = .ok (.aload_n 1, 1) := by decide +kernel
theorem d_CO_make_129 : decode c_CO_make 129 = .ok (.iload_n 2, 1) := by decide +kernel
theorem d_CO_make_130 : decode c_CO_make 130 = .ok (.iload 4, 2) := by decide +kernel
theorem d_CO_make_132 : decode c_CO_make 132 = .ok (.iadd, 1) := by decide +kernel
theorem d_CO_make_133 : decode c_CO_make 133 = .ok (.iaload, 1) := by decide +kernel
theorem d_CO_make_134 : decode c_CO_make 134 = .ok (.istore 5, 2) := by decide +kernel
theorem d_CO_make_136 : decode c_CO_make 136 = .ok (.iload 5, 2) := by decide +kernel
theorem d_CO_make_138 : decode c_CO_make 138 = .ok (.ifCond .eq 28, 3) := by decide +kernel
theorem d_CO_make_141 : decode c_CO_make 141 = .ok (.aload_n 0, 1) := by decide +kernel
theorem d_CO_make_142 : decode c_CO_make 142 = .ok (.getfield 13, 3) := by decide +kernel
theorem d_CO_make_145 : decode c_CO_make 145 = .ok (.aload_n 0, 1) := by decide +kernel
theorem d_CO_make_146 : decode c_CO_make 146 = .ok (.getfield 16, 3) := by decide +kernel
theorem d_CO_make_149 : decode c_CO_make 149 = .ok (.iload 5, 2) := by decide +kernel
theorem d_CO_make_151 : decode c_CO_make 151 = .ok (.iaload, 1) := by decide +kernel
theorem d_CO_make_152 : decode c_CO_make 152 = .ok (.iload 4, 2) := by decide +kernel
theorem d_CO_make_154 : decode c_CO_make 154 = .ok (.iastore, 1) := by decide +kernel
theorem d_CO_make_155 : decode c_CO_make 155 = .ok (.aload_n 0, 1) := by decide +kernel
theorem d_CO_make_156 : decode c_CO_make 156 = .ok (.getfield 16, 3) := by decide +kernel
theorem d_CO_make_159 : decode c_CO_make 159 = .ok (.iload 5, 2) := by decide +kernel
theorem d_CO_make_161 : decode c_CO_make 161 = .ok (.dup2, 1) := by decide +kernel
theorem d_CO_make_162 : decode c_CO_make 162 = .ok (.iaload, 1) := by decide +kernel
theorem d_CO_make_163 : decode c_CO_make 163 = .ok (.iconst 1, 1) := by decide +kernel
theorem d_CO_make_164 : decode c_CO_make 164 = .ok (.iadd, 1) := by decide +kernel
theorem d_CO_make_165 : decode c_CO_make 165 = .ok (.iastore, 1) := by decide +kernel
theorem d_CO_make_166 : decode c_CO_make 166 = .ok (.iinc 4 1, 3) := by decide +kernel
theorem d_CO_make_169 : decode c_CO_make 169 = .ok (.goto (-47), 3) := by decide +kernel
theorem d_CO_make_172 : decode c_CO_make 172 = .ok (.return_, 1) := by decide +kernel
theorem d_AR_fill_0 : decode c_AR_fill 0 = .ok (.iconst 0, 1) := by decide +kernel
theorem d_AR_fill_1 : decode c_AR_fill 1 = .ok (.istore_n 2, 1) := by decide +kernel
theorem d_AR_fill_2 : decode c_AR_fill 2 = .ok (.aload_n 0, 1) := by decide +kernel
theorem d_AR_fill_3 : decode c_AR_fill 3 = .ok (.arraylength, 1) := by decide +kernel
theorem d_AR_fill_4 : decode c_AR_fill 4 = .ok (.istore_n 3, 1) := by decide +kernel
theorem d_AR_fill_5 : decode c_AR_fill 5 = .ok (.iload_n 2, 1) := by decide +kernel
theorem d_AR_fill_6 : decode c_AR_fill 6 = .ok (.iload_n 3, 1) := by decide +kernel
theorem d_AR_fill_7 : decode c_AR_fill 7 = .ok (.if_icmp .ge 13, 3) := by decide +kernel
theorem d_AR_fill_10 : decode c_AR_fill 10 = .ok (.aload_n 0, 1) := by decide +kernel
theorem d_AR_fill_11 : decode c_AR_fill 11 = .ok (.iload_n 2, 1) := by decide +kernel
theorem d_AR_fill_12 : decode c_AR_fill 12 = .ok (.iload_n 1, 1) := by decide +kernel
theorem d_AR_fill_13 : decode c_AR_fill 13 = .ok (.iastore, 1) := by decide +kernel
theorem d_AR_fill_14 : decode c_AR_fill 14 = .ok (.iinc 2 1, 3) := by decide +kernel
theorem d_AR_fill_17 : decode c_AR_fill 17 = .ok (.goto (-12), 3) := by decide +kernel
theorem d_AR_fill_20 : decode c_AR_fill 20 = .ok (.return_, 1) := by decide +kernel
theorem d_PA_init_0 : decode c_PA_init 0 = .ok (.aload_n 0, 1) := by decide +kernel
theorem d_PA_init_1 : decode c_PA_init 1 = .ok (.invokespecial 3, 3) := by decide +kernel
theorem d_PA_init_4 : decode c_PA_init 4 = .ok (.aload_n 0, 1) := by decide +kernel
theorem d_PA_init_5 : decode c_PA_init 5 = .ok (.sipush 4096, 3) := by decide +kernel
theorem d_PA_init_8 : decode c_PA_init 8 = .ok (.newarray .int, 2) := by decide +kernel
theorem d_PA_init_10 : decode c_PA_init 10 = .ok (.putfield 11, 3) := by decide +kernel
theorem d_PA_init_13 : decode c_PA_init 13 = .ok (.aload_n 0, 1) := by decide +kernel
theorem d_PA_init_14 : decode c_PA_init 14 = .ok (.sipush 4096, 3) := by decide +kernel
theorem d_PA_init_17 : decode c_PA_init 17 = .ok (.newarray .int, 2) := by decide +kernel
theorem d_PA_init_19 : decode c_PA_init 19 = .ok (.putfield 15, 3) := by decide +kernel
theorem d_PA_init_22 : decode c_PA_init 22 = .ok (.aload_n 0, 1) := by decide +kernel
theorem d_PA_init_23 : decode c_PA_init 23 = .ok (.iconst 0, 1) := by decide +kernel
theorem d_PA_init_24 : decode c_PA_init 24 = .ok (.newarray .byte, 2) := by decide +kernel
theorem d_PA_init_26 : decode c_PA_init 26 = .ok (.putfield 18, 3) := by decide +kernel
theorem d_PA_init_29 : decode c_PA_init 29 = .ok (.aload_n 0, 1) := by decide +kernel
theorem d_PA_init_30 : decode c_PA_init 30 = .ok (.iconst 0, 1) := by decide +kernel
theorem d_PA_init_31 : decode c_PA_init 31 = .ok (.newarray .byte, 2) := by decide +kernel
theorem d_PA_init_33 : decode c_PA_init 33 = .ok (.putfield 22, 3) := by decide +kernel
theorem d_PA_init_36 : decode c_PA_init 36 = .ok (.return_, 1) := by decide +kernel
theorem d_ZB_again_0 : decode c_ZB_again 0 = .ok (.aload_n 0, 1) := by decide +kernel
theorem d_ZB_again_1 : decode c_ZB_again 1 = .ok (.getfield 13, 3) := by decide +kernel
theorem d_ZB_again_4 : decode c_ZB_again 4 = .ok (.iconst 0, 1) := by decide +kernel
theorem d_ZB_again_5 : decode c_ZB_again 5 = .ok (.aload_n 0, 1) := by decide +kernel
theorem d_ZB_again_6 : decode c_ZB_again 6 = .ok (.getfield 9, 3) := by decide +kernel
theorem d_ZB_again_9 : decode c_ZB_again 9 = .ok (.iconst 0, 1) := by decide +kernel
theorem d_ZB_again_10 : decode c_ZB_again 10 = .ok (.aload_n 0, 1) := by decide +kernel
theorem d_ZB_again_11 : decode c_ZB_again 11 = .ok (.getfield 53, 3) := by decide +kernel
theorem d_ZB_again_14 : decode c_ZB_again 14 = .ok (.invokestatic 56, 3) := by decide +kernel
theorem d_ZB_again_17 : decode c_ZB_again 17 = .ok (.aload_n 0, 1) := by decide +kernel
theorem d_ZB_again_18 : decode c_ZB_again 18 = .ok (.aload_n 0, 1) := by decide +kernel
theorem d_ZB_again_19 : decode c_ZB_again 19 = .ok (.getfield 53, 3) := by decide +kernel
theorem d_ZB_again_22 : decode c_ZB_again 22 = .ok (.putfield 33, 3) := by decide +kernel
theorem d_ZB_again_25 : decode c_ZB_again 25 = .ok (.aload_n 0, 1) := by decide +kernel
theorem d_ZB_again_26 : decode c_ZB_again 26 = .ok (.getfield 33, 3) := by decide +kernel
theorem d_ZB_again_29 : decode c_ZB_again 29 = .ok (.ireturn, 1) := by decide +kernel
theorem d_ZB_adler_0 : decode c_ZB_adler 0 = .ok (.aload_n 0, 1) := by decide +kernel
theorem d_ZB_adler_1 : decode c_ZB_adler 1 = .ok (.getfield 9, 3) := by decide +kernel
theorem d_ZB_adler_4 : decode c_ZB_adler 4 = .ok (.aload_n 0, 1) := by decide +kernel
theorem d_ZB_adler_5 : decode c_ZB_adler 5 = .ok (.getfield 33, 3) := by decide +kernel
theorem d_ZB_adler_8 : decode c_ZB_adler 8 = .ok (.invokestatic 73, 3) := by decide +kernel
theorem d_ZB_adler_11 : decode c_ZB_adler 11 = .ok (.ireturn, 1) := by decide +kernel
theorem d_ZB_adlerOf_0 : decode c_ZB_adlerOf 0 = .ok (.iconst 1, 1) := by decide +kernel
theorem d_ZB_adlerOf_1 : decode c_ZB_adlerOf 1 = .ok (.istore_n 2, 1) := by decide +kernel
theorem d_ZB_adlerOf_2 : decode c_ZB_adlerOf 2 = .ok (.iconst 0, 1) := by decide +kernel
theorem d_ZB_adlerOf_3 : decode c_ZB_adlerOf 3 = .ok (.istore_n 3, 1) := by decide +kernel
theorem d_ZB_adlerOf_4 : decode c_ZB_adlerOf 4 = .ok (.iconst 0, 1) := by decide +kernel
theorem d_ZB_adlerOf_5 : decode c_ZB_adlerOf 5 = .ok (.istore 4, 2) := by decide +kernel
theorem d_ZB_adlerOf_7 : decode c_ZB_adlerOf 7 = .ok (.iload 4, 2) := by decide +kernel
theorem d_ZB_adlerOf_9 : decode c_ZB_adlerOf 9 = .ok (.iload_n 1, 1) := by decide +kernel
theorem d_ZB_adlerOf_10 : decode c_ZB_adlerOf 10 = .ok (.if_icmp .ge 30, 3) := by decide +kernel
theorem d_ZB_adlerOf_13 : decode c_ZB_adlerOf 13 = .ok (.iload_n 2, 1) := by decide +kernel
theorem d_ZB_adlerOf_14 : decode c_ZB_adlerOf 14 = .ok (.aload_n 0, 1) := by decide +kernel
theorem d_ZB_adlerOf_15 : decode c_ZB_adlerOf 15 = .ok (.iload 4, 2) := by decide +kernel
theorem d_ZB_adlerOf_17 : decode c_ZB_adlerOf 17 = .ok (.baload, 1) := by decide +kernel
theorem d_ZB_adlerOf_18 : decode c_ZB_adlerOf 18 = .ok (.sipush 255, 3) := by decide +kernel
theorem d_ZB_adlerOf_21 : decode c_ZB_adlerOf 21 = .ok (.iand, 1) := by decide +kernel
theorem d_ZB_adlerOf_22 : decode c_ZB_adlerOf 22 = .ok (.iadd, 1) := by decide +kernel
theorem d_ZB_adlerOf_23 : decode c_ZB_adlerOf 23 = .ok (.ldc 81, 2) := by decide +kernel
theorem d_ZB_adlerOf_25 : decode c_ZB_adlerOf 25 = .ok (.irem, 1) := by decide +kernel
theorem d_ZB_adlerOf_26 : decode c_ZB_adlerOf 26 = .ok (.istore_n 2, 1) := by decide +kernel
theorem d_ZB_adlerOf_27 : decode c_ZB_adlerOf 27 = .ok (.iload_n 3, 1) := by decide +kernel
theorem d_ZB_adlerOf_28 : decode c_ZB_adlerOf 28 = .ok (.iload_n 2, 1) := by decide +kernel
theorem d_ZB_adlerOf_29 : decode c_ZB_adlerOf 29 = .ok (.iadd, 1) := by decide +kernel
theorem d_ZB_adlerOf_30 : decode c_ZB_adlerOf 30 = .ok (.ldc 81, 2) := by decide +kernel
theorem d_ZB_adlerOf_32 : decode c_ZB_adlerOf 32 = .ok (.irem, 1) := by decide +kernel
theorem d_ZB_adlerOf_33 : decode c_ZB_adlerOf 33 = .ok (.istore_n 3, 1) := by decide +kernel
theorem d_ZB_adlerOf_34 : decode c_ZB_adlerOf 34 = .ok (.iinc 4 1, 3) := by decide +kernel
theorem d_ZB_adlerOf_37 : decode c_ZB_adlerOf 37 = .ok (.goto (-30), 3) := by decide +kernel
theorem d_ZB_adlerOf_40 : decode c_ZB_adlerOf 40 = .ok (.iload_n 3, 1) := by decide +kernel
theorem d_ZB_adlerOf_41 : decode c_ZB_adlerOf 41 = .ok (.bipush 16, 2) := by decide +kernel
theorem d_ZB_adlerOf_43 : decode c_ZB_adlerOf 43 = .ok (.ishl, 1) := by decide +kernel
theorem d_ZB_adlerOf_44 : decode c_ZB_adlerOf 44 = .ok (.iload_n 2, 1) := by decide +kernel
theorem d_ZB_adlerOf_45 : decode c_ZB_adlerOf 45 = .ok (.ior, 1) := by decide +kernel
theorem d_ZB_adlerOf_46 : decode c_ZB_adlerOf 46 = .ok (.ireturn, 1) := by decide +kernel
theorem d_LW_feed_0 : decode c_LW_feed 0 = .ok (.aload 6, 2) := by decide +kernel
theorem d_LW_feed_2 : decode c_LW_feed 2 = .ok (.iconst 0, 1) := by decide +kernel
theorem d_LW_feed_3 : decode c_LW_feed 3 = .ok (.aload_n 0, 1) := by decide +kernel
theorem d_LW_feed_4 : decode c_LW_feed 4 = .ok (.iload_n 1, 1) := by decide +kernel
theorem d_LW_feed_5 : decode c_LW_feed 5 = .ok (.iload_n 2, 1) := by decide +kernel
theorem d_LW_feed_6 : decode c_LW_feed 6 = .ok (.iload_n 3, 1) := by decide +kernel
theorem d_LW_feed_7 : decode c_LW_feed 7 = .ok (.iload 4, 2) := by decide +kernel
theorem d_LW_feed_9 : decode c_LW_feed 9 = .ok (.iload 5, 2) := by decide +kernel
theorem d_LW_feed_11 : decode c_LW_feed 11 = .ok (.invokevirtual 7, 3) := by decide +kernel
theorem d_LW_feed_14 : decode c_LW_feed 14 = .ok (.i2l, 1) := by decide +kernel
theorem d_LW_feed_15 : decode c_LW_feed 15 = .ok (.lastore, 1) := by decide +kernel
theorem d_LW_feed_16 : decode c_LW_feed 16 = .ok (.goto 7, 3) := by decide +kernel
theorem d_LW_feed_19 : decode c_LW_feed 19 = .ok (.astore 7, 2) := by decide +kernel
theorem d_LW_feed_21 : decode c_LW_feed 21 = .ok (.iconst 1, 1) := by decide +kernel
theorem d_LW_feed_22 : decode c_LW_feed 22 = .ok (.ireturn, 1) := by decide +kernel
theorem d_LW_feed_23 : decode c_LW_feed 23 = .ok (.iconst 0, 1) := by decide +kernel
theorem d_LW_feed_24 : decode c_LW_feed 24 = .ok (.ireturn, 1) := by decide +kernel
theorem d_ZB_feed_0 : decode c_ZB_feed 0 = .ok (.aload_n 0, 1) := by decide +kernel
theorem d_ZB_feed_1 : decode c_ZB_feed 1 = .ok (.getfield 33, 3) := by decide +kernel
theorem d_ZB_feed_4 : decode c_ZB_feed 4 = .ok (.bipush 20, 2) := by decide +kernel
theorem d_ZB_feed_6 : decode c_ZB_feed 6 = .ok (.iadd, 1) := by decide +kernel
theorem d_ZB_feed_7 : decode c_ZB_feed 7 = .ok (.sipush 16384, 3) := by decide +kernel
theorem d_ZB_feed_10 : decode c_ZB_feed 10 = .ok (.if_icmp .le 13, 3) := by decide +kernel
theorem d_ZB_feed_13 : decode c_ZB_feed 13 = .ok (.new 37, 3) := by decide +kernel
theorem d_ZB_feed_16 : decode c_ZB_feed 16 = .ok (.dup, 1) := by decide +kernel
theorem d_ZB_feed_17 : decode c_ZB_feed 17 = .ok (.ldc 39, 2) := by decide +kernel
theorem d_ZB_feed_19 : decode c_ZB_feed 19 = .ok (.invokespecial 41, 3) := by decide +kernel
theorem d_ZB_feed_22 : decode c_ZB_feed 22 = .ok (.athrow, 1) := by decide +kernel
theorem d_ZB_feed_23 : decode c_ZB_feed 23 = .ok (.aload_n 0, 1) := by decide +kernel
theorem d_ZB_feed_24 : decode c_ZB_feed 24 = .ok (.aload_n 0, 1) := by decide +kernel
theorem d_ZB_feed_25 : decode c_ZB_feed 25 = .ok (.getfield 33, 3) := by decide +kernel
theorem d_ZB_feed_28 : decode c_ZB_feed 28 = .ok (.iload_n 1, 1) := by decide +kernel
theorem d_ZB_feed_29 : decode c_ZB_feed 29 = .ok (.invokevirtual 44, 3) := by decide +kernel
theorem d_ZB_feed_32 : decode c_ZB_feed 32 = .ok (.aload_n 0, 1) := by decide +kernel
theorem d_ZB_feed_33 : decode c_ZB_feed 33 = .ok (.aload_n 0, 1) := by decide +kernel
theorem d_ZB_feed_34 : decode c_ZB_feed 34 = .ok (.getfield 33, 3) := by decide +kernel
theorem d_ZB_feed_37 : decode c_ZB_feed 37 = .ok (.iconst 4, 1) := by decide +kernel
theorem d_ZB_feed_38 : decode c_ZB_feed 38 = .ok (.iadd, 1) := by decide +kernel
theorem d_ZB_feed_39 : decode c_ZB_feed 39 = .ok (.iload_n 2, 1) := by decide +kernel
theorem d_ZB_feed_40 : decode c_ZB_feed 40 = .ok (.invokevirtual 44, 3) := by decide +kernel
theorem d_ZB_feed_43 : decode c_ZB_feed 43 = .ok (.aload_n 0, 1) := by decide +kernel
theorem d_ZB_feed_44 : decode c_ZB_feed 44 = .ok (.aload_n 0, 1) := by decide +kernel
theorem d_ZB_feed_45 : decode c_ZB_feed 45 = .ok (.getfield 33, 3) := by decide +kernel
theorem d_ZB_feed_48 : decode c_ZB_feed 48 = .ok (.bipush 8, 2) := by decide +kernel
theorem d_ZB_feed_50 : decode c_ZB_feed 50 = .ok (.iadd, 1) := by decide +kernel
theorem d_ZB_feed_51 : decode c_ZB_feed 51 = .ok (.iload_n 3, 1) := by decide +kernel
theorem d_ZB_feed_52 : decode c_ZB_feed 52 = .ok (.invokevirtual 44, 3) := by decide +kernel
theorem d_ZB_feed_55 : decode c_ZB_feed 55 = .ok (.aload_n 0, 1) := by decide +kernel
theorem d_ZB_feed_56 : decode c_ZB_feed 56 = .ok (.aload_n 0, 1) := by decide +kernel
theorem d_ZB_feed_57 : decode c_ZB_feed 57 = .ok (.getfield 33, 3) := by decide +kernel
theorem d_ZB_feed_60 : decode c_ZB_feed 60 = .ok (.bipush 12, 2) := by decide +kernel
theorem d_ZB_feed_62 : decode c_ZB_feed 62 = .ok (.iadd, 1) := by decide +kernel
theorem d_ZB_feed_63 : decode c_ZB_feed 63 = .ok (.iload 4, 2) := by decide +kernel
theorem d_ZB_feed_65 : decode c_ZB_feed 65 = .ok (.invokevirtual 44, 3) := by decide +kernel
theorem d_ZB_feed_68 : decode c_ZB_feed 68 = .ok (.aload_n 0, 1) := by decide +kernel
theorem d_ZB_feed_69 : decode c_ZB_feed 69 = .ok (.aload_n 0, 1) := by decide +kernel
theorem d_ZB_feed_70 : decode c_ZB_feed 70 = .ok (.getfield 33, 3) := by decide +kernel
theorem d_ZB_feed_73 : decode c_ZB_feed 73 = .ok (.bipush 16, 2) := by decide +kernel
theorem d_ZB_feed_75 : decode c_ZB_feed 75 = .ok (.iadd, 1) := by decide +kernel
theorem d_ZB_feed_76 : decode c_ZB_feed 76 = .ok (.iload 5, 2) := by decide +kernel
theorem d_ZB_feed_78 : decode c_ZB_feed 78 = .ok (.invokevirtual 44, 3) := by decide +kernel
theorem d_ZB_feed_81 : decode c_ZB_feed 81 = .ok (.aload_n 0, 1) := by decide +kernel
theorem d_ZB_feed_82 : decode c_ZB_feed 82 = .ok (.dup, 1) := by decide +kernel
theorem d_ZB_feed_83 : decode c_ZB_feed 83 = .ok (.getfield 33, 3) := by decide +kernel
theorem d_ZB_feed_86 : decode c_ZB_feed 86 = .ok (.bipush 20, 2) := by decide +kernel
theorem d_ZB_feed_88 : decode c_ZB_feed 88 = .ok (.iadd, 1) := by decide +kernel
theorem d_ZB_feed_89 : decode c_ZB_feed 89 = .ok (.putfield 33, 3) := by decide +kernel
theorem d_ZB_feed_92 : decode c_ZB_feed 92 = .ok (.aload_n 0, 1) := by decide +kernel
theorem d_ZB_feed_93 : decode c_ZB_feed 93 = .ok (.getfield 33, 3) := by decide +kernel
theorem d_ZB_feed_96 : decode c_ZB_feed 96 = .ok (.ireturn, 1) := by decide +kernel
theorem d_ZB_putInt_0 : decode c_ZB_putInt 0 = .ok (.aload_n 0, 1) := by decide +kernel
theorem d_ZB_putInt_1 : decode c_ZB_putInt 1 = .ok (.getfield 9, 3) := by decide +kernel
theorem d_ZB_putInt_4 : decode c_ZB_putInt 4 = .ok (.iload_n 1, 1) := by decide +kernel
theorem d_ZB_putInt_5 : decode c_ZB_putInt 5 = .ok (.iload_n 2, 1) := by decide +kernel
theorem d_ZB_putInt_6 : decode c_ZB_putInt 6 = .ok (.bipush 24, 2) := by decide +kernel
theorem d_ZB_putInt_8 : decode c_ZB_putInt 8 = .ok (.ishr, 1) := by decide +kernel
theorem d_ZB_putInt_9 : decode c_ZB_putInt 9 = .ok (.i2b, 1) := by decide +kernel
theorem d_ZB_putInt_10 : decode c_ZB_putInt 10 = .ok (.bastore, 1) := by decide +kernel
theorem d_ZB_putInt_11 : decode c_ZB_putInt 11 = .ok (.aload_n 0, 1) := by decide +kernel
theorem d_ZB_putInt_12 : decode c_ZB_putInt 12 = .ok (.getfield 9, 3) := by decide +kernel
theorem d_ZB_putInt_15 : decode c_ZB_putInt 15 = .ok (.iload_n 1, 1) := by decide +kernel
theorem d_ZB_putInt_16 : decode c_ZB_putInt 16 = .ok (.iconst 1, 1) := by decide +kernel
theorem d_ZB_putInt_17 : decode c_ZB_putInt 17 = .ok (.iadd, 1) := by decide +kernel
theorem d_ZB_putInt_18 : decode c_ZB_putInt 18 = .ok (.iload_n 2, 1) := by decide +kernel
theorem d_ZB_putInt_19 : decode c_ZB_putInt 19 = .ok (.bipush 16, 2) := by decide +kernel
theorem d_ZB_putInt_21 : decode c_ZB_putInt 21 = .ok (.ishr, 1) := by decide +kernel
theorem d_ZB_putInt_22 : decode c_ZB_putInt 22 = .ok (.i2b, 1) := by decide +kernel
theorem d_ZB_putInt_23 : decode c_ZB_putInt 23 = .ok (.bastore, 1) := by decide +kernel
theorem d_ZB_putInt_24 : decode c_ZB_putInt 24 = .ok (.aload_n 0, 1) := by decide +kernel
theorem d_ZB_putInt_25 : decode c_ZB_putInt 25 = .ok (.getfield 9, 3) := by decide +kernel
theorem d_ZB_putInt_28 : decode c_ZB_putInt 28 = .ok (.iload_n 1, 1) := by decide +kernel
theorem d_ZB_putInt_29 : decode c_ZB_putInt 29 = .ok (.iconst 2, 1) := by decide +kernel
theorem d_ZB_putInt_30 : decode c_ZB_putInt 30 = .ok (.iadd, 1) := by decide +kernel
theorem d_ZB_putInt_31 : decode c_ZB_putInt 31 = .ok (.iload_n 2, 1) := by decide +kernel
theorem d_ZB_putInt_32 : decode c_ZB_putInt 32 = .ok (.bipush 8, 2) := by decide +kernel
theorem d_ZB_putInt_34 : decode c_ZB_putInt 34 = .ok (.ishr, 1) := by decide +kernel
theorem d_ZB_putInt_35 : decode c_ZB_putInt 35 = .ok (.i2b, 1) := by decide +kernel
theorem d_ZB_putInt_36 : decode c_ZB_putInt 36 = .ok (.bastore, 1) := by decide +kernel
theorem d_ZB_putInt_37 : decode c_ZB_putInt 37 = .ok (.aload_n 0, 1) := by decide +kernel
theorem d_ZB_putInt_38 : decode c_ZB_putInt 38 = .ok (.getfield 9, 3) := by decide +kernel
theorem d_ZB_putInt_41 : decode c_ZB_putInt 41 = .ok (.iload_n 1, 1) := by decide +kernel
theorem d_ZB_putInt_42 : decode c_ZB_putInt 42 = .ok (.iconst 3, 1) := by decide +kernel
theorem d_ZB_putInt_43 : decode c_ZB_putInt 43 = .ok (.iadd, 1) := by decide +kernel
theorem d_ZB_putInt_44 : decode c_ZB_putInt 44 = .ok (.iload_n 2, 1) := by decide +kernel
theorem d_ZB_putInt_45 : decode c_ZB_putInt 45 = .ok (.i2b, 1) := by decide +kernel
theorem d_ZB_putInt_46 : decode c_ZB_putInt 46 = .ok (.bastore, 1) := by decide +kernel
theorem d_ZB_putInt_47 : decode c_ZB_putInt 47 = .ok (.return_, 1) := by decide +kernel
theorem d_LW_end_0 : decode c_LW_end 0 = .ok (.aload_n 2, 1) := by decide +kernel
theorem d_LW_end_1 : decode c_LW_end 1 = .ok (.iconst 0, 1) := by decide +kernel
theorem d_LW_end_2 : decode c_LW_end 2 = .ok (.aload_n 0, 1) := by decide +kernel
theorem d_LW_end_3 : decode c_LW_end 3 = .ok (.iload_n 1, 1) := by decide +kernel
theorem d_LW_end_4 : decode c_LW_end 4 = .ok (.invokevirtual 15, 3) := by decide +kernel
theorem d_LW_end_7 : decode c_LW_end 7 = .ok (.i2l, 1) := by decide +kernel
theorem d_LW_end_8 : decode c_LW_end 8 = .ok (.lastore, 1) := by decide +kernel
theorem d_LW_end_9 : decode c_LW_end 9 = .ok (.goto 6, 3) := by decide +kernel
theorem d_LW_end_12 : decode c_LW_end 12 = .ok (.astore_n 3, 1) := by decide +kernel
theorem d_LW_end_13 : decode c_LW_end 13 = .ok (.iconst 1, 1) := by decide +kernel
theorem d_LW_end_14 : decode c_LW_end 14 = .ok (.ireturn, 1) := by decide +kernel
theorem d_LW_end_15 : decode c_LW_end 15 = .ok (.iconst 0, 1) := by decide +kernel
theorem d_LW_end_16 : decode c_LW_end 16 = .ok (.ireturn, 1) := by decide +kernel
theorem d_ZB_end_0 : decode c_ZB_end 0 = .ok (.iload_n 1, 1) := by decide +kernel
theorem d_ZB_end_1 : decode c_ZB_end 1 = .ok (.ifCond .lt 11, 3) := by decide +kernel
theorem d_ZB_end_4 : decode c_ZB_end 4 = .ok (.iload_n 1, 1) := by decide +kernel
theorem d_ZB_end_5 : decode c_ZB_end 5 = .ok (.aload_n 0, 1) := by decide +kernel
theorem d_ZB_end_6 : decode c_ZB_end 6 = .ok (.getfield 33, 3) := by decide +kernel
theorem d_ZB_end_9 : decode c_ZB_end 9 = .ok (.if_icmp .le 13, 3) := by decide +kernel
theorem d_ZB_end_12 : decode c_ZB_end 12 = .ok (.new 48, 3) := by decide +kernel
theorem d_ZB_end_15 : decode c_ZB_end 15 = .ok (.dup, 1) := by decide +kernel
theorem d_ZB_end_16 : decode c_ZB_end 16 = .ok (.ldc 50, 2) := by decide +kernel
theorem d_ZB_end_18 : decode c_ZB_end 18 = .ok (.invokespecial 52, 3) := by decide +kernel
theorem d_ZB_end_21 : decode c_ZB_end 21 = .ok (.athrow, 1) := by decide +kernel
theorem d_ZB_end_22 : decode c_ZB_end 22 = .ok (.aload_n 0, 1) := by decide +kernel
theorem d_ZB_end_23 : decode c_ZB_end 23 = .ok (.iload_n 1, 1) := by decide +kernel
theorem d_ZB_end_24 : decode c_ZB_end 24 = .ok (.putfield 33, 3) := by decide +kernel
theorem d_ZB_end_27 : decode c_ZB_end 27 = .ok (.iload_n 1, 1) := by decide +kernel
theorem d_ZB_end_28 : decode c_ZB_end 28 = .ok (.ireturn, 1) := by decide +kernel
theorem d_LW_unpack_0 : decode c_LW_unpack 0 = .ok (.aload_n 1, 1) := by decide +kernel
theorem d_LW_unpack_1 : decode c_LW_unpack 1 = .ok (.iconst 0, 1) := by decide +kernel
theorem d_LW_unpack_2 : decode c_LW_unpack 2 = .ok (.aload_n 0, 1) := by decide +kernel
theorem d_LW_unpack_3 : decode c_LW_unpack 3 = .ok (.invokevirtual 21, 3) := by decide +kernel
theorem d_LW_unpack_6 : decode c_LW_unpack 6 = .ok (.i2l, 1) := by decide +kernel
theorem d_LW_unpack_7 : decode c_LW_unpack 7 = .ok (.lastore, 1) := by decide +kernel
theorem d_LW_unpack_8 : decode c_LW_unpack 8 = .ok (.goto 9, 3) := by decide +kernel
theorem d_LW_unpack_11 : decode c_LW_unpack 11 = .ok (.astore_n 2, 1) := by decide +kernel
theorem d_LW_unpack_12 : decode c_LW_unpack 12 = .ok (.iconst 1, 1) := by decide +kernel
theorem d_LW_unpack_13 : decode c_LW_unpack 13 = .ok (.ireturn, 1) := by decide +kernel
theorem d_LW_unpack_14 : decode c_LW_unpack 14 = .ok (.astore_n 2, 1) := by decide +kernel
theorem d_LW_unpack_15 : decode c_LW_unpack 15 = .ok (.iconst 2, 1) := by decide +kernel
theorem d_LW_unpack_16 : decode c_LW_unpack 16 = .ok (.ireturn, 1) := by decide +kernel
theorem d_LW_unpack_17 : decode c_LW_unpack 17 = .ok (.iconst 0, 1) := by decide +kernel
theorem d_LW_unpack_18 : decode c_LW_unpack 18 = .ok (.ireturn, 1) := by decide +kernel
theorem d_ZB_unpack_0 : decode c_ZB_unpack 0 = .ok (.aload_n 0, 1) := by decide +kernel
theorem d_ZB_unpack_1 : decode c_ZB_unpack 1 = .ok (.getfield 33, 3) := by decide +kernel
theorem d_ZB_unpack_4 : decode c_ZB_unpack 4 = .ok (.istore_n 1, 1) := by decide +kernel
theorem d_ZB_unpack_5 : decode c_ZB_unpack 5 = .ok (.aload_n 0, 1) := by decide +kernel
theorem d_ZB_unpack_6 : decode c_ZB_unpack 6 = .ok (.iconst 0, 1) := by decide +kernel
theorem d_ZB_unpack_7 : decode c_ZB_unpack 7 = .ok (.putfield 33, 3) := by decide +kernel
theorem d_ZB_unpack_10 : decode c_ZB_unpack 10 = .ok (.aload_n 0, 1) := by decide +kernel
theorem d_ZB_unpack_11 : decode c_ZB_unpack 11 = .ok (.aload_n 0, 1) := by decide +kernel
theorem d_ZB_unpack_12 : decode c_ZB_unpack 12 = .ok (.getfield 22, 3) := by decide +kernel
theorem d_ZB_unpack_15 : decode c_ZB_unpack 15 = .ok (.aload_n 0, 1) := by decide +kernel
theorem d_ZB_unpack_16 : decode c_ZB_unpack 16 = .ok (.getfield 9, 3) := by decide +kernel
theorem d_ZB_unpack_19 : decode c_ZB_unpack 19 = .ok (.iload_n 1, 1) := by decide +kernel
theorem d_ZB_unpack_20 : decode c_ZB_unpack 20 = .ok (.aload_n 0, 1) := by decide +kernel
theorem d_ZB_unpack_21 : decode c_ZB_unpack 21 = .ok (.getfield 16, 3) := by decide +kernel
theorem d_ZB_unpack_24 : decode c_ZB_unpack 24 = .ok (.invokevirtual 62, 3) := by decide +kernel
theorem d_ZB_unpack_27 : decode c_ZB_unpack 27 = .ok (.invokevirtual 66, 3) := by decide +kernel
theorem d_ZB_unpack_30 : decode c_ZB_unpack 30 = .ok (.ireturn, 1) := by decide +kernel
theorem d_UN_read_0 : decode c_UN_read 0 = .ok (.aload_n 0, 1) := by decide +kernel
theorem d_UN_read_1 : decode c_UN_read 1 = .ok (.getfield 12, 3) := by decide +kernel
theorem d_UN_read_4 : decode c_UN_read 4 = .ok (.aload_n 1, 1) := by decide +kernel
theorem d_UN_read_5 : decode c_UN_read 5 = .ok (.iload_n 2, 1) := by decide +kernel
theorem d_UN_read_6 : decode c_UN_read 6 = .ok (.invokevirtual 48, 3) := by decide +kernel
theorem d_UN_read_9 : decode c_UN_read 9 = .ok (.aload_n 0, 1) := by decide +kernel
theorem d_UN_read_10 : decode c_UN_read 10 = .ok (.aload_n 3, 1) := by decide +kernel
theorem d_UN_read_11 : decode c_UN_read 11 = .ok (.putfield 41, 3) := by decide +kernel
theorem d_UN_read_14 : decode c_UN_read 14 = .ok (.aload_n 0, 1) := by decide +kernel
theorem d_UN_read_15 : decode c_UN_read 15 = .ok (.iconst 0, 1) := by decide +kernel
theorem d_UN_read_16 : decode c_UN_read 16 = .ok (.putfield 52, 3) := by decide +kernel
theorem d_UN_read_19 : decode c_UN_read 19 = .ok (.aload_n 0, 1) := by decide +kernel
theorem d_UN_read_20 : decode c_UN_read 20 = .ok (.invokevirtual 56, 3) := by decide +kernel
theorem d_UN_read_23 : decode c_UN_read 23 = .ok (.aload_n 0, 1) := by decide +kernel
theorem d_UN_read_24 : decode c_UN_read 24 = .ok (.invokevirtual 59, 3) := by decide +kernel
theorem d_UN_read_27 : decode c_UN_read 27 = .ok (.aload_n 0, 1) := by decide +kernel
theorem d_UN_read_28 : decode c_UN_read 28 = .ok (.invokevirtual 62, 3) := by decide +kernel
theorem d_UN_read_31 : decode c_UN_read 31 = .ok (.aload_n 0, 1) := by decide +kernel
theorem d_UN_read_32 : decode c_UN_read 32 = .ok (.getfield 52, 3) := by decide +kernel
theorem d_UN_read_35 : decode c_UN_read 35 = .ok (.ireturn, 1) := by decide +kernel
theorem d_BR_open_0 : decode c_BR_open 0 = .ok (.aload_n 0, 1) := by decide +kernel
theorem d_BR_open_1 : decode c_BR_open 1 = .ok (.aload_n 1, 1) := by decide +kernel
theorem d_BR_open_2 : decode c_BR_open 2 = .ok (.putfield 7, 3) := by decide +kernel
theorem d_BR_open_5 : decode c_BR_open 5 = .ok (.aload_n 0, 1) := by decide +kernel
theorem d_BR_open_6 : decode c_BR_open 6 = .ok (.bipush 8, 2) := by decide +kernel
theorem d_BR_open_8 : decode c_BR_open 8 = .ok (.iload_n 2, 1) := by decide +kernel
theorem d_BR_open_9 : decode c_BR_open 9 = .ok (.imul, 1) := by decide +kernel
theorem d_BR_open_10 : decode c_BR_open 10 = .ok (.putfield 13, 3) := by decide +kernel
theorem d_BR_open_13 : decode c_BR_open 13 = .ok (.aload_n 0, 1) := by decide +kernel
theorem d_BR_open_14 : decode c_BR_open 14 = .ok (.iconst 0, 1) := by decide +kernel
theorem d_BR_open_15 : decode c_BR_open 15 = .ok (.putfield 17, 3) := by decide +kernel
theorem d_BR_open_18 : decode c_BR_open 18 = .ok (.return_, 1) := by decide +kernel
theorem d_UN_readHead_0 : decode c_UN_readHead 0 = .ok (.aload_n 0, 1) := by decide +kernel
theorem d_UN_readHead_1 : decode c_UN_readHead 1 = .ok (.getfield 12, 3) := by decide +kernel
theorem d_UN_readHead_4 : decode c_UN_readHead 4 = .ok (.bipush 8, 2) := by decide +kernel
theorem d_UN_readHead_6 : decode c_UN_readHead 6 = .ok (.invokevirtual 75, 3) := by decide +kernel
theorem d_UN_readHead_9 : decode c_UN_readHead 9 = .ok (.istore_n 1, 1) := by decide +kernel
theorem d_UN_readHead_10 : decode c_UN_readHead 10 = .ok (.aload_n 0, 1) := by decide +kernel
theorem d_UN_readHead_11 : decode c_UN_readHead 11 = .ok (.getfield 12, 3) := by decide +kernel
theorem d_UN_readHead_14 : decode c_UN_readHead 14 = .ok (.bipush 8, 2) := by decide +kernel
theorem d_UN_readHead_16 : decode c_UN_readHead 16 = .ok (.invokevirtual 75, 3) := by decide +kernel
theorem d_UN_readHead_19 : decode c_UN_readHead 19 = .ok (.istore_n 2, 1) := by decide +kernel
theorem d_UN_readHead_20 : decode c_UN_readHead 20 = .ok (.iload_n 1, 1) := by decide +kernel
theorem d_UN_readHead_21 : decode c_UN_readHead 21 = .ok (.bipush 16, 2) := by decide +kernel
theorem d_UN_readHead_23 : decode c_UN_readHead 23 = .ok (.irem, 1) := by decide +kernel
theorem d_UN_readHead_24 : decode c_UN_readHead 24 = .ok (.bipush 8, 2) := by decide +kernel
theorem d_UN_readHead_26 : decode c_UN_readHead 26 = .ok (.if_icmp .ne 16, 3) := by decide +kernel
theorem d_UN_readHead_29 : decode c_UN_readHead 29 = .ok (.iload_n 1, 1) := by decide +kernel
theorem d_UN_readHead_30 : decode c_UN_readHead 30 = .ok (.bipush 16, 2) := by decide +kernel
theorem d_UN_readHead_32 : decode c_UN_readHead 32 = .ok (.idiv, 1) := by decide +kernel
theorem d_UN_readHead_33 : decode c_UN_readHead 33 = .ok (.bipush 7, 2) := by decide +kernel
theorem d_UN_readHead_35 : decode c_UN_readHead 35 = .ok (.if_icmp .gt 7, 3) := by decide +kernel
theorem d_UN_readHead_38 : decode c_UN_readHead 38 = .ok (.iconst 1, 1) := by decide +kernel
theorem d_UN_readHead_39 : decode c_UN_readHead 39 = .ok (.goto 4, 3) := by decide +kernel
theorem d_UN_readHead_42 : decode c_UN_readHead 42 = .ok (.iconst 0, 1) := by decide +kernel
theorem d_UN_readHead_43 : decode c_UN_readHead 43 = .ok (.istore_n 3, 1) := by decide +kernel
theorem d_UN_readHead_44 : decode c_UN_readHead 44 = .ok (.sipush 256, 3) := by decide +kernel
theorem d_UN_readHead_47 : decode c_UN_readHead 47 = .ok (.iload_n 1, 1) := by decide +kernel
theorem d_UN_readHead_48 : decode c_UN_readHead 48 = .ok (.imul, 1) := by decide +kernel
theorem d_UN_readHead_49 : decode c_UN_readHead 49 = .ok (.iload_n 2, 1) := by decide +kernel
theorem d_UN_readHead_50 : decode c_UN_readHead 50 = .ok (.iadd, 1) := by decide +kernel
theorem d_UN_readHead_51 : decode c_UN_readHead 51 = .ok (.bipush 31, 2) := by decide +kernel
theorem d_UN_readHead_53 : decode c_UN_readHead 53 = .ok (.irem, 1) := by decide +kernel
theorem d_UN_readHead_54 : decode c_UN_readHead 54 = .ok (.ifCond .ne 16, 3) := by decide +kernel
theorem d_UN_readHead_57 : decode c_UN_readHead 57 = .ok (.iload_n 2, 1) := by decide +kernel
theorem d_UN_readHead_58 : decode c_UN_readHead 58 = .ok (.bipush 32, 2) := by decide +kernel
theorem d_UN_readHead_60 : decode c_UN_readHead 60 = .ok (.idiv, 1) := by decide +kernel
theorem d_UN_readHead_61 : decode c_UN_readHead 61 = .ok (.iconst 2, 1) := by decide +kernel
theorem d_UN_readHead_62 : decode c_UN_readHead 62 = .ok (.irem, 1) := by decide +kernel
theorem d_UN_readHead_63 : decode c_UN_readHead 63 = .ok (.ifCond .ne 7, 3) := by decide +kernel
theorem d_UN_readHead_66 : decode c_UN_readHead 66 = .ok (.iconst 1, 1) := by decide +kernel
theorem d_UN_readHead_67 : decode c_UN_readHead 67 = .ok (.goto 4, 3) := by decide +kernel
theorem d_UN_readHead_70 : decode c_UN_readHead 70 = .ok (.iconst 0, 1) := by decide +kernel
theorem d_UN_readHead_71 : decode c_UN_readHead 71 = .ok (.istore 4, 2) := by decide +kernel
theorem d_UN_readHead_73 : decode c_UN_readHead 73 = .ok (.iload_n 3, 1) := by decide +kernel
theorem d_UN_readHead_74 : decode c_UN_readHead 74 = .ok (.ifCond .eq 8, 3) := by decide +kernel
theorem d_UN_readHead_77 : decode c_UN_readHead 77 = .ok (.iload 4, 2) := by decide +kernel
theorem d_UN_readHead_79 : decode c_UN_readHead 79 = .ok (.ifCond .ne 13, 3) := by decide +kernel
theorem d_UN_readHead_82 : decode c_UN_readHead 82 = .ok (.new 79, 3) := by decide +kernel
theorem d_UN_readHead_85 : decode c_UN_readHead 85 = .ok (.dup, 1) := by decide +kernel
theorem d_UN_readHead_86 : decode c_UN_readHead 86 = .ok (.ldc 81, 2) := by decide +kernel
theorem d_UN_readHead_88 : decode c_UN_readHead 88 = .ok (.invokespecial 83, 3) := by decide +kernel
theorem d_UN_readHead_91 : decode c_UN_readHead 91 = .ok (.athrow, 1) := by decide +kernel
theorem d_UN_readHead_92 : decode c_UN_readHead 92 = .ok (.return_, 1) := by decide +kernel
theorem d_BR_number_0 : decode c_BR_number 0 = .ok (.iload_n 1, 1) := by decide +kernel
theorem d_BR_number_1 : decode c_BR_number 1 = .ok (.aload_n 0, 1) := by decide +kernel
theorem d_BR_number_2 : decode c_BR_number 2 = .ok (.getfield 13, 3) := by decide +kernel
theorem d_BR_number_5 : decode c_BR_number 5 = .ok (.aload_n 0, 1) := by decide +kernel
theorem d_BR_number_6 : decode c_BR_number 6 = .ok (.getfield 17, 3) := by decide +kernel
theorem d_BR_number_9 : decode c_BR_number 9 = .ok (.isub, 1) := by decide +kernel
theorem d_BR_number_10 : decode c_BR_number 10 = .ok (.if_icmp .le 13, 3) := by decide +kernel
theorem d_BR_number_13 : decode c_BR_number 13 = .ok (.new 20, 3) := by decide +kernel
theorem d_BR_number_16 : decode c_BR_number 16 = .ok (.dup, 1) := by decide +kernel
theorem d_BR_number_17 : decode c_BR_number 17 = .ok (.ldc 22, 2) := by decide +kernel
theorem d_BR_number_19 : decode c_BR_number 19 = .ok (.invokespecial 24, 3) := by decide +kernel
theorem d_BR_number_22 : decode c_BR_number 22 = .ok (.athrow, 1) := by decide +kernel
theorem d_BR_number_23 : decode c_BR_number 23 = .ok (.iconst 0, 1) := by decide +kernel
theorem d_BR_number_24 : decode c_BR_number 24 = .ok (.istore_n 2, 1) := by decide +kernel
theorem d_BR_number_25 : decode c_BR_number 25 = .ok (.iconst 0, 1) := by decide +kernel
theorem d_BR_number_26 : decode c_BR_number 26 = .ok (.istore_n 3, 1) := by decide +kernel
theorem d_BR_number_27 : decode c_BR_number 27 = .ok (.iload_n 3, 1) := by decide +kernel
theorem d_BR_number_28 : decode c_BR_number 28 = .ok (.iload_n 1, 1) := by decide +kernel
theorem d_BR_number_29 : decode c_BR_number 29 = .ok (.if_icmp .ge 45, 3) := by decide +kernel
theorem d_BR_number_32 : decode c_BR_number 32 = .ok (.iload_n 2, 1) := by decide +kernel
theorem d_BR_number_33 : decode c_BR_number 33 = .ok (.aload_n 0, 1) := by decide +kernel
theorem d_BR_number_34 : decode c_BR_number 34 = .ok (.getfield 7, 3) := by decide +kernel
theorem d_BR_number_37 : decode c_BR_number 37 = .ok (.aload_n 0, 1) := by decide +kernel
theorem d_BR_number_38 : decode c_BR_number 38 = .ok (.getfield 17, 3) := by decide +kernel
theorem d_BR_number_41 : decode c_BR_number 41 = .ok (.iconst 3, 1) := by decide +kernel
theorem d_BR_number_42 : decode c_BR_number 42 = .ok (.ishr, 1) := by decide +kernel
theorem d_BR_number_43 : decode c_BR_number 43 = .ok (.baload, 1) := by decide +kernel
theorem d_BR_number_44 : decode c_BR_number 44 = .ok (.aload_n 0, 1) := by decide +kernel
theorem d_BR_number_45 : decode c_BR_number 45 = .ok (.getfield 17, 3) := by decide +kernel
theorem d_BR_number_48 : decode c_BR_number 48 = .ok (.bipush 7, 2) := by decide +kernel
theorem d_BR_number_50 : decode c_BR_number 50 = .ok (.iand, 1) := by decide +kernel
theorem d_BR_number_51 : decode c_BR_number 51 = .ok (.ishr, 1) := by decide +kernel
theorem d_BR_number_52 : decode c_BR_number 52 = .ok (.iconst 1, 1) := by decide +kernel
theorem d_BR_number_53 : decode c_BR_number 53 = .ok (.iand, 1) := by decide +kernel
theorem d_BR_number_54 : decode c_BR_number 54 = .ok (.iload_n 3, 1) := by decide +kernel
theorem d_BR_number_55 : decode c_BR_number 55 = .ok (.ishl, 1) := by decide +kernel
theorem d_BR_number_56 : decode c_BR_number 56 = .ok (.ior, 1) := by decide +kernel
theorem d_BR_number_57 : decode c_BR_number 57 = .ok (.istore_n 2, 1) := by decide +kernel
theorem d_BR_number_58 : decode c_BR_number 58 = .ok (.aload_n 0, 1) := by decide +kernel
theorem d_BR_number_59 : decode c_BR_number 59 = .ok (.dup, 1) := by decide +kernel
theorem d_BR_number_60 : decode c_BR_number 60 = .ok (.getfield 17, 3) := by decide +kernel
theorem d_BR_number_63 : decode c_BR_number 63 = .ok (.iconst 1, 1) := by decide +kernel
theorem d_BR_number_64 : decode c_BR_number 64 = .ok (.iadd, 1) := by decide +kernel
theorem d_BR_number_65 : decode c_BR_number 65 = .ok (.putfield 17, 3) := by decide +kernel
theorem d_BR_number_68 : decode c_BR_number 68 = .ok (.iinc 3 1, 3) := by decide +kernel
theorem d_BR_number_71 : decode c_BR_number 71 = .ok (.goto (-44), 3) := by decide +kernel
theorem d_BR_number_74 : decode c_BR_number 74 = .ok (.iload_n 2, 1) := by decide +kernel
theorem d_BR_number_75 : decode c_BR_number 75 = .ok (.ireturn, 1) := by decide +kernel
theorem d_UN_readBlocks_0 : decode c_UN_readBlocks 0 = .ok (.iconst 0, 1) := by decide +kernel
theorem d_UN_readBlocks_1 : decode c_UN_readBlocks 1 = .ok (.istore_n 1, 1) := by decide +kernel
theorem d_UN_readBlocks_2 : decode c_UN_readBlocks 2 = .ok (.iload_n 1, 1) := by decide +kernel
theorem d_UN_readBlocks_3 : decode c_UN_readBlocks 3 = .ok (.ldc 99, 2) := by decide +kernel
theorem d_UN_readBlocks_5 : decode c_UN_readBlocks 5 = .ok (.if_icmp .ge 105, 3) := by decide +kernel
theorem d_UN_readBlocks_8 : decode c_UN_readBlocks 8 = .ok (.aload_n 0, 1) := by decide +kernel
theorem d_UN_readBlocks_9 : decode c_UN_readBlocks 9 = .ok (.getfield 12, 3) := by decide +kernel
theorem d_UN_readBlocks_12 : decode c_UN_readBlocks 12 = .ok (.invokevirtual 100, 3) := by decide +kernel
theorem d_UN_readBlocks_15 : decode c_UN_readBlocks 15 = .ok (.iconst 1, 1) := by decide +kernel
theorem d_UN_readBlocks_16 : decode c_UN_readBlocks 16 = .ok (.if_icmp .ne 7, 3) := by decide +kernel
theorem d_UN_readBlocks_19 : decode c_UN_readBlocks 19 = .ok (.iconst 1, 1) := by decide +kernel
theorem d_UN_readBlocks_20 : decode c_UN_readBlocks 20 = .ok (.goto 4, 3) := by decide +kernel
theorem d_UN_readBlocks_23 : decode c_UN_readBlocks 23 = .ok (.iconst 0, 1) := by decide +kernel
theorem d_UN_readBlocks_24 : decode c_UN_readBlocks 24 = .ok (.istore_n 2, 1) := by decide +kernel
theorem d_UN_readBlocks_25 : decode c_UN_readBlocks 25 = .ok (.aload_n 0, 1) := by decide +kernel
theorem d_UN_readBlocks_26 : decode c_UN_readBlocks 26 = .ok (.getfield 12, 3) := by decide +kernel
theorem d_UN_readBlocks_29 : decode c_UN_readBlocks 29 = .ok (.iconst 2, 1) := by decide +kernel
theorem d_UN_readBlocks_30 : decode c_UN_readBlocks 30 = .ok (.invokevirtual 75, 3) := by decide +kernel
theorem d_UN_readBlocks_33 : decode c_UN_readBlocks 33 = .ok (.istore_n 3, 1) := by decide +kernel
theorem d_UN_readBlocks_34 : decode c_UN_readBlocks 34 = .ok (.iload_n 3, 1) := by decide +kernel
theorem d_UN_readBlocks_35 : decode c_UN_readBlocks 35 = .ok (.ifCond .ne 10, 3) := by decide +kernel
theorem d_UN_readBlocks_38 : decode c_UN_readBlocks 38 = .ok (.aload_n 0, 1) := by decide +kernel
theorem d_UN_readBlocks_39 : decode c_UN_readBlocks 39 = .ok (.invokevirtual 104, 3) := by decide +kernel
theorem d_UN_readBlocks_42 : decode c_UN_readBlocks 42 = .ok (.goto 57, 3) := by decide +kernel
theorem d_UN_readBlocks_45 : decode c_UN_readBlocks 45 = .ok (.iload_n 3, 1) := by decide +kernel
theorem d_UN_readBlocks_46 : decode c_UN_readBlocks 46 = .ok (.iconst 1, 1) := by decide +kernel
theorem d_UN_readBlocks_47 : decode c_UN_readBlocks 47 = .ok (.if_icmp .ne 18, 3) := by decide +kernel
theorem d_UN_readBlocks_50 : decode c_UN_readBlocks 50 = .ok (.aload_n 0, 1) := by decide +kernel
theorem d_UN_readBlocks_51 : decode c_UN_readBlocks 51 = .ok (.aload_n 0, 1) := by decide +kernel
theorem d_UN_readBlocks_52 : decode c_UN_readBlocks 52 = .ok (.getfield 21, 3) := by decide +kernel
theorem d_UN_readBlocks_55 : decode c_UN_readBlocks 55 = .ok (.aload_n 0, 1) := by decide +kernel
theorem d_UN_readBlocks_56 : decode c_UN_readBlocks 56 = .ok (.getfield 25, 3) := by decide +kernel
theorem d_UN_readBlocks_59 : decode c_UN_readBlocks 59 = .ok (.invokevirtual 107, 3) := by decide +kernel
theorem d_UN_readBlocks_62 : decode c_UN_readBlocks 62 = .ok (.goto 37, 3) := by decide +kernel
theorem d_UN_readBlocks_65 : decode c_UN_readBlocks 65 = .ok (.iload_n 3, 1) := by decide +kernel
theorem d_UN_readBlocks_66 : decode c_UN_readBlocks 66 = .ok (.iconst 2, 1) := by decide +kernel
theorem d_UN_readBlocks_67 : decode c_UN_readBlocks 67 = .ok (.if_icmp .ne 22, 3) := by decide +kernel
theorem d_UN_readBlocks_70 : decode c_UN_readBlocks 70 = .ok (.aload_n 0, 1) := by decide +kernel
theorem d_UN_readBlocks_71 : decode c_UN_readBlocks 71 = .ok (.invokevirtual 111, 3) := by decide +kernel
theorem d_UN_readBlocks_74 : decode c_UN_readBlocks 74 = .ok (.aload_n 0, 1) := by decide +kernel
theorem d_UN_readBlocks_75 : decode c_UN_readBlocks 75 = .ok (.aload_n 0, 1) := by decide +kernel
theorem d_UN_readBlocks_76 : decode c_UN_readBlocks 76 = .ok (.getfield 28, 3) := by decide +kernel
theorem d_UN_readBlocks_79 : decode c_UN_readBlocks 79 = .ok (.aload_n 0, 1) := by decide +kernel
theorem d_UN_readBlocks_80 : decode c_UN_readBlocks 80 = .ok (.getfield 31, 3) := by decide +kernel
theorem d_UN_readBlocks_83 : decode c_UN_readBlocks 83 = .ok (.invokevirtual 107, 3) := by decide +kernel
theorem d_UN_readBlocks_86 : decode c_UN_readBlocks 86 = .ok (.goto 13, 3) := by decide +kernel
theorem d_UN_readBlocks_89 : decode c_UN_readBlocks 89 = .ok (.new 79, 3) := by decide +kernel
theorem d_UN_readBlocks_92 : decode c_UN_readBlocks 92 = .ok (.dup, 1) := by decide +kernel
theorem d_UN_readBlocks_93 : decode c_UN_readBlocks 93 = .ok (.ldc 114, 2) := by decide +kernel
theorem d_UN_readBlocks_95 : decode c_UN_readBlocks 95 = .ok (.invokespecial 83, 3) := by decide +kernel
theorem d_UN_readBlocks_98 : decode c_UN_readBlocks 98 = .ok (.athrow, 1) := by decide +kernel
theorem d_UN_readBlocks_99 : decode c_UN_readBlocks 99 = .ok (.iload_n 2, 1) := by decide +kernel
theorem d_UN_readBlocks_100 : decode c_UN_readBlocks 100 = .ok (.ifCond .eq 4, 3) := by decide +kernel
theorem d_UN_readBlocks_103 : decode c_UN_readBlocks 103 = .ok (.return_, 1) := by decide +kernel
theorem d_UN_readBlocks_104 : decode c_UN_readBlocks 104 = .ok (.iinc 1 1, 3) := by decide +kernel
theorem d_UN_readBlocks_107 : decode c_UN_readBlocks 107 = .ok (.goto (-105), 3) := by decide +kernel
theorem d_UN_readBlocks_110 : decode c_UN_readBlocks 110 = .ok (.return_, 1) := by decide +kernel
theorem d_BR_bit_0 : decode c_BR_bit 0 = .ok (.aload_n 0, 1) := by decide +kernel
theorem d_BR_bit_1 : decode c_BR_bit 1 = .ok (.getfield 17, 3) := by decide +kernel
theorem d_BR_bit_4 : decode c_BR_bit 4 = .ok (.aload_n 0, 1) := by decide +kernel
theorem d_BR_bit_5 : decode c_BR_bit 5 = .ok (.getfield 13, 3) := by decide +kernel
theorem d_BR_bit_8 : decode c_BR_bit 8 = .ok (.if_icmp .lt 13, 3) := by decide +kernel
theorem d_BR_bit_11 : decode c_BR_bit 11 = .ok (.new 20, 3) := by decide +kernel
theorem d_BR_bit_14 : decode c_BR_bit 14 = .ok (.dup, 1) := by decide +kernel
theorem d_BR_bit_15 : decode c_BR_bit 15 = .ok (.ldc 22, 2) := by decide +kernel
theorem d_BR_bit_17 : decode c_BR_bit 17 = .ok (.invokespecial 24, 3) := by decide +kernel
theorem d_BR_bit_20 : decode c_BR_bit 20 = .ok (.athrow, 1) := by decide +kernel
theorem d_BR_bit_21 : decode c_BR_bit 21 = .ok (.aload_n 0, 1) := by decide +kernel
theorem d_BR_bit_22 : decode c_BR_bit 22 = .ok (.getfield 7, 3) := by decide +kernel
theorem d_BR_bit_25 : decode c_BR_bit 25 = .ok (.aload_n 0, 1) := by decide +kernel
theorem d_BR_bit_26 : decode c_BR_bit 26 = .ok (.getfield 17, 3) := by decide +kernel
theorem d_BR_bit_29 : decode c_BR_bit 29 = .ok (.iconst 3, 1) := by decide +kernel
theorem d_BR_bit_30 : decode c_BR_bit 30 = .ok (.ishr, 1) := by decide +kernel
theorem d_BR_bit_31 : decode c_BR_bit 31 = .ok (.baload, 1) := by decide +kernel
theorem d_BR_bit_32 : decode c_BR_bit 32 = .ok (.aload_n 0, 1) := by decide +kernel
theorem d_BR_bit_33 : decode c_BR_bit 33 = .ok (.getfield 17, 3) := by decide +kernel
theorem d_BR_bit_36 : decode c_BR_bit 36 = .ok (.bipush 7, 2) := by decide +kernel
theorem d_BR_bit_38 : decode c_BR_bit 38 = .ok (.iand, 1) := by decide +kernel
theorem d_BR_bit_39 : decode c_BR_bit 39 = .ok (.ishr, 1) := by decide +kernel
theorem d_BR_bit_40 : decode c_BR_bit 40 = .ok (.iconst 1, 1) := by decide +kernel
theorem d_BR_bit_41 : decode c_BR_bit 41 = .ok (.iand, 1) := by decide +kernel
theorem d_BR_bit_42 : decode c_BR_bit 42 = .ok (.istore_n 1, 1) := by decide +kernel
theorem d_BR_bit_43 : decode c_BR_bit 43 = .ok (.aload_n 0, 1) := by decide +kernel
theorem d_BR_bit_44 : decode c_BR_bit 44 = .ok (.dup, 1) := by decide +kernel
theorem d_BR_bit_45 : decode c_BR_bit 45 = .ok (.getfield 17, 3) := by decide +kernel
theorem d_BR_bit_48 : decode c_BR_bit 48 = .ok (.iconst 1, 1) := by decide +kernel
theorem d_BR_bit_49 : decode c_BR_bit 49 = .ok (.iadd, 1) := by decide +kernel
theorem d_BR_bit_50 : decode c_BR_bit 50 = .ok (.putfield 17, 3) := by decide +kernel
theorem d_BR_bit_53 : decode c_BR_bit 53 = .ok (.iload_n 1, 1) := by decide +kernel
theorem d_BR_bit_54 : decode c_BR_bit 54 = .ok (.ireturn, 1) := by decide +kernel
theorem d_UN_readStored_0 : decode c_UN_readStored 0 = .ok (.aload_n 0, 1) := by decide +kernel
theorem d_UN_readStored_1 : decode c_UN_readStored 1 = .ok (.getfield 12, 3) := by decide +kernel
theorem d_UN_readStored_4 : decode c_UN_readStored 4 = .ok (.invokevirtual 86, 3) := by decide +kernel
theorem d_UN_readStored_7 : decode c_UN_readStored 7 = .ok (.aload_n 0, 1) := by decide +kernel
theorem d_UN_readStored_8 : decode c_UN_readStored 8 = .ok (.getfield 12, 3) := by decide +kernel
theorem d_UN_readStored_11 : decode c_UN_readStored 11 = .ok (.bipush 16, 2) := by decide +kernel
theorem d_UN_readStored_13 : decode c_UN_readStored 13 = .ok (.invokevirtual 75, 3) := by decide +kernel
theorem d_UN_readStored_16 : decode c_UN_readStored 16 = .ok (.istore_n 1, 1) := by decide +kernel
theorem d_UN_readStored_17 : decode c_UN_readStored 17 = .ok (.aload_n 0, 1) := by decide +kernel
theorem d_UN_readStored_18 : decode c_UN_readStored 18 = .ok (.getfield 12, 3) := by decide +kernel
theorem d_UN_readStored_21 : decode c_UN_readStored 21 = .ok (.bipush 16, 2) := by decide +kernel
theorem d_UN_readStored_23 : decode c_UN_readStored 23 = .ok (.invokevirtual 75, 3) := by decide +kernel
theorem d_UN_readStored_26 : decode c_UN_readStored 26 = .ok (.ldc 116, 2) := by decide +kernel
theorem d_UN_readStored_28 : decode c_UN_readStored 28 = .ok (.iload_n 1, 1) := by decide +kernel
theorem d_UN_readStored_29 : decode c_UN_readStored 29 = .ok (.isub, 1) := by decide +kernel
theorem d_UN_readStored_30 : decode c_UN_readStored 30 = .ok (.if_icmp .eq 13, 3) := by decide +kernel
theorem d_UN_readStored_33 : decode c_UN_readStored 33 = .ok (.new 79, 3) := by decide +kernel
theorem d_UN_readStored_36 : decode c_UN_readStored 36 = .ok (.dup, 1) := by decide +kernel
theorem d_UN_readStored_37 : decode c_UN_readStored 37 = .ok (.ldc 117, 2) := by decide +kernel
theorem d_UN_readStored_39 : decode c_UN_readStored 39 = .ok (.invokespecial 83, 3) := by decide +kernel
theorem d_UN_readStored_42 : decode c_UN_readStored 42 = .ok (.athrow, 1) := by decide +kernel
theorem d_UN_readStored_43 : decode c_UN_readStored 43 = .ok (.iconst 0, 1) := by decide +kernel
theorem d_UN_readStored_44 : decode c_UN_readStored 44 = .ok (.istore_n 2, 1) := by decide +kernel
theorem d_UN_readStored_45 : decode c_UN_readStored 45 = .ok (.iload_n 2, 1) := by decide +kernel
theorem d_UN_readStored_46 : decode c_UN_readStored 46 = .ok (.iload_n 1, 1) := by decide +kernel
theorem d_UN_readStored_47 : decode c_UN_readStored 47 = .ok (.if_icmp .ge 22, 3) := by decide +kernel
theorem d_UN_readStored_50 : decode c_UN_readStored 50 = .ok (.aload_n 0, 1) := by decide +kernel
theorem d_UN_readStored_51 : decode c_UN_readStored 51 = .ok (.aload_n 0, 1) := by decide +kernel
theorem d_UN_readStored_52 : decode c_UN_readStored 52 = .ok (.getfield 12, 3) := by decide +kernel
theorem d_UN_readStored_55 : decode c_UN_readStored 55 = .ok (.bipush 8, 2) := by decide +kernel
theorem d_UN_readStored_57 : decode c_UN_readStored 57 = .ok (.invokevirtual 75, 3) := by decide +kernel
theorem d_UN_readStored_60 : decode c_UN_readStored 60 = .ok (.invokevirtual 119, 3) := by decide +kernel
theorem d_UN_readStored_63 : decode c_UN_readStored 63 = .ok (.iinc 2 1, 3) := by decide +kernel
theorem d_UN_readStored_66 : decode c_UN_readStored 66 = .ok (.goto (-21), 3) := by decide +kernel
theorem d_UN_readStored_69 : decode c_UN_readStored 69 = .ok (.return_, 1) := by decide +kernel
theorem d_BR_skipToByte_0 : decode c_BR_skipToByte 0 = .ok (.aload_n 0, 1) := by decide +kernel
theorem d_BR_skipToByte_1 : decode c_BR_skipToByte 1 = .ok (.aload_n 0, 1) := by decide +kernel
theorem d_BR_skipToByte_2 : decode c_BR_skipToByte 2 = .ok (.getfield 17, 3) := by decide +kernel
theorem d_BR_skipToByte_5 : decode c_BR_skipToByte 5 = .ok (.bipush 7, 2) := by decide +kernel
theorem d_BR_skipToByte_7 : decode c_BR_skipToByte 7 = .ok (.iadd, 1) := by decide +kernel
theorem d_BR_skipToByte_8 : decode c_BR_skipToByte 8 = .ok (.bipush (-8), 2) := by decide +kernel
theorem d_BR_skipToByte_10 : decode c_BR_skipToByte 10 = .ok (.iand, 1) := by decide +kernel
theorem d_BR_skipToByte_11 : decode c_BR_skipToByte 11 = .ok (.putfield 17, 3) := by decide +kernel
theorem d_BR_skipToByte_14 : decode c_BR_skipToByte 14 = .ok (.return_, 1) := by decide +kernel
theorem d_UN_put_0 : decode c_UN_put 0 = .ok (.aload_n 0, 1) := by decide +kernel
theorem d_UN_put_1 : decode c_UN_put 1 = .ok (.getfield 52, 3) := by decide +kernel
theorem d_UN_put_4 : decode c_UN_put 4 = .ok (.sipush 16384, 3) := by decide +kernel
theorem d_UN_put_7 : decode c_UN_put 7 = .ok (.if_icmp .lt 13, 3) := by decide +kernel
theorem d_UN_put_10 : decode c_UN_put 10 = .ok (.new 180, 3) := by decide +kernel
theorem d_UN_put_13 : decode c_UN_put 13 = .ok (.dup, 1) := by decide +kernel
theorem d_UN_put_14 : decode c_UN_put 14 = .ok (.ldc 182, 2) := by decide +kernel
theorem d_UN_put_16 : decode c_UN_put 16 = .ok (.invokespecial 184, 3) := by decide +kernel
theorem d_UN_put_19 : decode c_UN_put 19 = .ok (.athrow, 1) := by decide +kernel
theorem d_UN_put_20 : decode c_UN_put 20 = .ok (.aload_n 0, 1) := by decide +kernel
theorem d_UN_put_21 : decode c_UN_put 21 = .ok (.getfield 41, 3) := by decide +kernel
theorem d_UN_put_24 : decode c_UN_put 24 = .ok (.aload_n 0, 1) := by decide +kernel
theorem d_UN_put_25 : decode c_UN_put 25 = .ok (.getfield 52, 3) := by decide +kernel
theorem d_UN_put_28 : decode c_UN_put 28 = .ok (.iload_n 1, 1) := by decide +kernel
theorem d_UN_put_29 : decode c_UN_put 29 = .ok (.i2b, 1) := by decide +kernel
theorem d_UN_put_30 : decode c_UN_put 30 = .ok (.bastore, 1) := by decide +kernel
theorem d_UN_put_31 : decode c_UN_put 31 = .ok (.aload_n 0, 1) := by decide +kernel
theorem d_UN_put_32 : decode c_UN_put 32 = .ok (.dup, 1) := by decide +kernel
theorem d_UN_put_33 : decode c_UN_put 33 = .ok (.getfield 52, 3) := by decide +kernel
theorem d_UN_put_36 : decode c_UN_put 36 = .ok (.iconst 1, 1) := by decide +kernel
theorem d_UN_put_37 : decode c_UN_put 37 = .ok (.iadd, 1) := by decide +kernel
theorem d_UN_put_38 : decode c_UN_put 38 = .ok (.putfield 52, 3) := by decide +kernel
theorem d_UN_put_41 : decode c_UN_put 41 = .ok (.return_, 1) := by decide +kernel
theorem d_UN_readCoded_0 : decode c_UN_readCoded 0 = .ok (.iconst 0, 1) := by decide +kernel
theorem d_UN_readCoded_1 : decode c_UN_readCoded 1 = .ok (.istore_n 3, 1) := by decide +kernel
theorem d_UN_readCoded_2 : decode c_UN_readCoded 2 = .ok (.iload_n 3, 1) := by decide +kernel
theorem d_UN_readCoded_3 : decode c_UN_readCoded 3 = .ok (.ldc 99, 2) := by decide +kernel
theorem d_UN_readCoded_5 : decode c_UN_readCoded 5 = .ok (.if_icmp .ge 56, 3) := by decide +kernel
theorem d_UN_readCoded_8 : decode c_UN_readCoded 8 = .ok (.aload_n 1, 1) := by decide +kernel
theorem d_UN_readCoded_9 : decode c_UN_readCoded 9 = .ok (.aload_n 0, 1) := by decide +kernel
theorem d_UN_readCoded_10 : decode c_UN_readCoded 10 = .ok (.getfield 12, 3) := by decide +kernel
theorem d_UN_readCoded_13 : decode c_UN_readCoded 13 = .ok (.invokevirtual 146, 3) := by decide +kernel
theorem d_UN_readCoded_16 : decode c_UN_readCoded 16 = .ok (.istore 4, 2) := by decide +kernel
theorem d_UN_readCoded_18 : decode c_UN_readCoded 18 = .ok (.iload 4, 2) := by decide +kernel
theorem d_UN_readCoded_20 : decode c_UN_readCoded 20 = .ok (.sipush 256, 3) := by decide +kernel
theorem d_UN_readCoded_23 : decode c_UN_readCoded 23 = .ok (.if_icmp .ne 4, 3) := by decide +kernel
theorem d_UN_readCoded_26 : decode c_UN_readCoded 26 = .ok (.return_, 1) := by decide +kernel
theorem d_UN_readCoded_27 : decode c_UN_readCoded 27 = .ok (.iload 4, 2) := by decide +kernel
theorem d_UN_readCoded_29 : decode c_UN_readCoded 29 = .ok (.sipush 256, 3) := by decide +kernel
theorem d_UN_readCoded_32 : decode c_UN_readCoded 32 = .ok (.if_icmp .ge 12, 3) := by decide +kernel
theorem d_UN_readCoded_35 : decode c_UN_readCoded 35 = .ok (.aload_n 0, 1) := by decide +kernel
theorem d_UN_readCoded_36 : decode c_UN_readCoded 36 = .ok (.iload 4, 2) := by decide +kernel
theorem d_UN_readCoded_38 : decode c_UN_readCoded 38 = .ok (.invokevirtual 119, 3) := by decide +kernel
theorem d_UN_readCoded_41 : decode c_UN_readCoded 41 = .ok (.goto 14, 3) := by decide +kernel
theorem d_UN_readCoded_44 : decode c_UN_readCoded 44 = .ok (.aload_n 0, 1) := by decide +kernel
theorem d_UN_readCoded_45 : decode c_UN_readCoded 45 = .ok (.iload 4, 2) := by decide +kernel
theorem d_UN_readCoded_47 : decode c_UN_readCoded 47 = .ok (.sipush 257, 3) := by decide +kernel
theorem d_UN_readCoded_50 : decode c_UN_readCoded 50 = .ok (.isub, 1) := by decide +kernel
theorem d_UN_readCoded_51 : decode c_UN_readCoded 51 = .ok (.aload_n 2, 1) := by decide +kernel
theorem d_UN_readCoded_52 : decode c_UN_readCoded 52 = .ok (.invokevirtual 158, 3) := by decide +kernel
theorem d_UN_readCoded_55 : decode c_UN_readCoded 55 = .ok (.iinc 3 1, 3) := by decide +kernel
theorem d_UN_readCoded_58 : decode c_UN_readCoded 58 = .ok (.goto (-56), 3) := by decide +kernel
theorem d_UN_readCoded_61 : decode c_UN_readCoded 61 = .ok (.return_, 1) := by decide +kernel
theorem d_CO_read_0 : decode c_CO_read 0 = .ok (.iconst 0, 1) := by decide +kernel
theorem d_CO_read_1 : decode c_CO_read 1 = .ok (.istore_n 2, 1) := by decide +kernel
theorem d_CO_read_2 : decode c_CO_read 2 = .ok (.iconst 0, 1) := by decide +kernel
theorem d_CO_read_3 : decode c_CO_read 3 = .ok (.istore_n 3, 1) := by decide +kernel
theorem d_CO_read_4 : decode c_CO_read 4 = .ok (.iconst 0, 1) := by decide +kernel
theorem d_CO_read_5 : decode c_CO_read 5 = .ok (.istore 4, 2) := by decide +kernel
theorem d_CO_read_7 : decode c_CO_read 7 = .ok (.iconst 1, 1) := by decide +kernel
theorem d_CO_read_8 : decode c_CO_read 8 = .ok (.istore 5, 2) := by decide +kernel
theorem d_CO_read_10 : decode c_CO_read 10 = .ok (.iload 5, 2) := by decide +kernel
theorem d_CO_read_12 : decode c_CO_read 12 = .ok (.bipush 15, 2) := by decide +kernel
theorem d_CO_read_14 : decode c_CO_read 14 = .ok (.if_icmp .gt 61, 3) := by decide +kernel
theorem d_CO_read_17 : decode c_CO_read 17 = .ok (.iconst 2, 1) := by decide +kernel
theorem d_CO_read_18 : decode c_CO_read 18 = .ok (.iload_n 2, 1) := by decide +kernel
theorem d_CO_read_19 : decode c_CO_read 19 = .ok (.imul, 1) := by decide +kernel
theorem d_CO_read_20 : decode c_CO_read 20 = .ok (.aload_n 1, 1) := by decide +kernel
theorem d_CO_read_21 : decode c_CO_read 21 = .ok (.invokevirtual 30, 3) := by decide +kernel
theorem d_CO_read_24 : decode c_CO_read 24 = .ok (.iadd, 1) := by decide +kernel
theorem d_CO_read_25 : decode c_CO_read 25 = .ok (.istore_n 2, 1) := by decide +kernel
theorem d_CO_read_26 : decode c_CO_read 26 = .ok (.aload_n 0, 1) := by decide +kernel
theorem d_CO_read_27 : decode c_CO_read 27 = .ok (.getfield 9, 3) := by decide +kernel
theorem d_CO_read_30 : decode c_CO_read 30 = .ok (.iload 5, 2) := by decide +kernel
theorem d_CO_read_32 : decode c_CO_read 32 = .ok (.iaload, 1) := by decide +kernel
theorem d_CO_read_33 : decode c_CO_read 33 = .ok (.istore 6, 2) := by decide +kernel
theorem d_CO_read_35 : decode c_CO_read 35 = .ok (.iload_n 2, 1) := by decide +kernel
theorem d_CO_read_36 : decode c_CO_read 36 = .ok (.iload_n 3, 1) := by decide +kernel
theorem d_CO_read_37 : decode c_CO_read 37 = .ok (.isub, 1) := by decide +kernel
theorem d_CO_read_38 : decode c_CO_read 38 = .ok (.iload 6, 2) := by decide +kernel
theorem d_CO_read_40 : decode c_CO_read 40 = .ok (.if_icmp .ge 15, 3) := by decide +kernel
theorem d_CO_read_43 : decode c_CO_read 43 = .ok (.aload_n 0, 1) := by decide +kernel
theorem d_CO_read_44 : decode c_CO_read 44 = .ok (.getfield 13, 3) := by decide +kernel
theorem d_CO_read_47 : decode c_CO_read 47 = .ok (.iload 4, 2) := by decide +kernel
theorem d_CO_read_49 : decode c_CO_read 49 = .ok (.iload_n 2, 1) := by decide +kernel
theorem d_CO_read_50 : decode c_CO_read 50 = .ok (.iadd, 1) := by decide +kernel
theorem d_CO_read_51 : decode c_CO_read 51 = .ok (.iload_n 3, 1) := by decide +kernel
theorem d_CO_read_52 : decode c_CO_read 52 = .ok (.isub, 1) := by decide +kernel
theorem d_CO_read_53 : decode c_CO_read 53 = .ok (.iaload, 1) := by decide +kernel
theorem d_CO_read_54 : decode c_CO_read 54 = .ok (.ireturn, 1) := by decide +kernel
theorem d_CO_read_55 : decode c_CO_read 55 = .ok (.iload 4, 2) := by decide +kernel
theorem d_CO_read_57 : decode c_CO_read 57 = .ok (.iload 6, 2) := by decide +kernel
theorem d_CO_read_59 : decode c_CO_read 59 = .ok (.iadd, 1) := by decide +kernel
theorem d_CO_read_60 : decode c_CO_read 60 = .ok (.istore 4, 2) := by decide +kernel
theorem d_CO_read_62 : decode c_CO_read 62 = .ok (.iconst 2, 1) := by decide +kernel
theorem d_CO_read_63 : decode c_CO_read 63 = .ok (.iload_n 3, 1) := by decide +kernel
theorem d_CO_read_64 : decode c_CO_read 64 = .ok (.iload 6, 2) := by decide +kernel
theorem d_CO_read_66 : decode c_CO_read 66 = .ok (.iadd, 1) := by decide +kernel
theorem d_CO_read_67 : decode c_CO_read 67 = .ok (.imul, 1) := by decide +kernel
theorem d_CO_read_68 : decode c_CO_read 68 = .ok (.istore_n 3, 1) := by decide +kernel
theorem d_CO_read_69 : decode c_CO_read 69 = .ok (.iinc 5 1, 3) := by decide +kernel
theorem d_CO_read_72 : decode c_CO_read 72 = .ok (.goto (-62), 3) := by decide +kernel
theorem d_CO_read_75 : decode c_CO_read 75 = .ok (.new 36, 3) := by decide +kernel
theorem d_CO_read_78 : decode c_CO_read 78 = .ok (.dup, 1) := by decide +kernel
theorem d_CO_read_79 : decode c_CO_read 79 = .ok (.ldc 38, 2) := by decide +kernel
theorem d_CO_read_81 : decode c_CO_read 81 = .ok (.invokespecial 40, 3) := by decide +kernel
theorem d_CO_read_84 : decode c_CO_read 84 = .ok (.athrow, 1) := by decide +kernel
theorem d_UN_readCopy_0 : decode c_UN_readCopy 0 = .ok (.iload_n 1, 1) := by decide +kernel
theorem d_UN_readCopy_1 : decode c_UN_readCopy 1 = .ok (.getstatic 162, 3) := by decide +kernel
theorem d_UN_readCopy_4 : decode c_UN_readCopy 4 = .ok (.arraylength, 1) := by decide +kernel
theorem d_UN_readCopy_5 : decode c_UN_readCopy 5 = .ok (.if_icmp .lt 13, 3) := by decide +kernel
theorem d_UN_readCopy_8 : decode c_UN_readCopy 8 = .ok (.new 79, 3) := by decide +kernel
theorem d_UN_readCopy_11 : decode c_UN_readCopy 11 = .ok (.dup, 1) := by decide +kernel
theorem d_UN_readCopy_12 : decode c_UN_readCopy 12 = .ok (.ldc 165, 2) := by decide +kernel
theorem d_UN_readCopy_14 : decode c_UN_readCopy 14 = .ok (.invokespecial 83, 3) := by decide +kernel
theorem d_UN_readCopy_17 : decode c_UN_readCopy 17 = .ok (.athrow, 1) := by decide +kernel
theorem d_UN_readCopy_18 : decode c_UN_readCopy 18 = .ok (.getstatic 162, 3) := by decide +kernel
theorem d_UN_readCopy_21 : decode c_UN_readCopy 21 = .ok (.iload_n 1, 1) := by decide +kernel
theorem d_UN_readCopy_22 : decode c_UN_readCopy 22 = .ok (.iaload, 1) := by decide +kernel
theorem d_UN_readCopy_23 : decode c_UN_readCopy 23 = .ok (.aload_n 0, 1) := by decide +kernel
theorem d_UN_readCopy_24 : decode c_UN_readCopy 24 = .ok (.getfield 12, 3) := by decide +kernel
theorem d_UN_readCopy_27 : decode c_UN_readCopy 27 = .ok (.getstatic 167, 3) := by decide +kernel
theorem d_UN_readCopy_30 : decode c_UN_readCopy 30 = .ok (.iload_n 1, 1) := by decide +kernel
theorem d_UN_readCopy_31 : decode c_UN_readCopy 31 = .ok (.iaload, 1) := by decide +kernel
theorem d_UN_readCopy_32 : decode c_UN_readCopy 32 = .ok (.invokevirtual 75, 3) := by decide +kernel
theorem d_UN_readCopy_35 : decode c_UN_readCopy 35 = .ok (.iadd, 1) := by decide +kernel
theorem d_UN_readCopy_36 : decode c_UN_readCopy 36 = .ok (.istore_n 3, 1) := by decide +kernel
theorem d_UN_readCopy_37 : decode c_UN_readCopy 37 = .ok (.aload_n 2, 1) := by decide +kernel
theorem d_UN_readCopy_38 : decode c_UN_readCopy 38 = .ok (.aload_n 0, 1) := by decide +kernel
theorem d_UN_readCopy_39 : decode c_UN_readCopy 39 = .ok (.getfield 12, 3) := by decide +kernel
theorem d_UN_readCopy_42 : decode c_UN_readCopy 42 = .ok (.invokevirtual 146, 3) := by decide +kernel
theorem d_UN_readCopy_45 : decode c_UN_readCopy 45 = .ok (.istore 4, 2) := by decide +kernel
theorem d_UN_readCopy_47 : decode c_UN_readCopy 47 = .ok (.iload 4, 2) := by decide +kernel
theorem d_UN_readCopy_49 : decode c_UN_readCopy 49 = .ok (.getstatic 170, 3) := by decide +kernel
theorem d_UN_readCopy_52 : decode c_UN_readCopy 52 = .ok (.arraylength, 1) := by decide +kernel
theorem d_UN_readCopy_53 : decode c_UN_readCopy 53 = .ok (.if_icmp .lt 13, 3) := by decide +kernel
theorem d_UN_readCopy_56 : decode c_UN_readCopy 56 = .ok (.new 79, 3) := by decide +kernel
theorem d_UN_readCopy_59 : decode c_UN_readCopy 59 = .ok (.dup, 1) := by decide +kernel
theorem d_UN_readCopy_60 : decode c_UN_readCopy 60 = .ok (.ldc 173, 2) := by decide +kernel
theorem d_UN_readCopy_62 : decode c_UN_readCopy 62 = .ok (.invokespecial 83, 3) := by decide +kernel
theorem d_UN_readCopy_65 : decode c_UN_readCopy 65 = .ok (.athrow, 1) := by decide +kernel
theorem d_UN_readCopy_66 : decode c_UN_readCopy 66 = .ok (.getstatic 170, 3) := by decide +kernel
theorem d_UN_readCopy_69 : decode c_UN_readCopy 69 = .ok (.iload 4, 2) := by decide +kernel
theorem d_UN_readCopy_71 : decode c_UN_readCopy 71 = .ok (.iaload, 1) := by decide +kernel
theorem d_UN_readCopy_72 : decode c_UN_readCopy 72 = .ok (.aload_n 0, 1) := by decide +kernel
theorem d_UN_readCopy_73 : decode c_UN_readCopy 73 = .ok (.getfield 12, 3) := by decide +kernel
theorem d_UN_readCopy_76 : decode c_UN_readCopy 76 = .ok (.getstatic 175, 3) := by decide +kernel
theorem d_UN_readCopy_79 : decode c_UN_readCopy 79 = .ok (.iload 4, 2) := by decide +kernel
theorem d_UN_readCopy_81 : decode c_UN_readCopy 81 = .ok (.iaload, 1) := by decide +kernel
theorem d_UN_readCopy_82 : decode c_UN_readCopy 82 = .ok (.invokevirtual 75, 3) := by decide +kernel
theorem d_UN_readCopy_85 : decode c_UN_readCopy 85 = .ok (.iadd, 1) := by decide +kernel
theorem d_UN_readCopy_86 : decode c_UN_readCopy 86 = .ok (.istore 5, 2) := by decide +kernel
theorem d_UN_readCopy_88 : decode c_UN_readCopy 88 = .ok (.iload 5, 2) := by decide +kernel
theorem d_UN_readCopy_90 : decode c_UN_readCopy 90 = .ok (.aload_n 0, 1) := by decide +kernel
theorem d_UN_readCopy_91 : decode c_UN_readCopy 91 = .ok (.getfield 52, 3) := by decide +kernel
theorem d_UN_readCopy_94 : decode c_UN_readCopy 94 = .ok (.if_icmp .le 13, 3) := by decide +kernel
theorem d_UN_readCopy_97 : decode c_UN_readCopy 97 = .ok (.new 79, 3) := by decide +kernel
theorem d_UN_readCopy_100 : decode c_UN_readCopy 100 = .ok (.dup, 1) := by decide +kernel
theorem d_UN_readCopy_101 : decode c_UN_readCopy 101 = .ok (.ldc 178, 2) := by decide +kernel
theorem d_UN_readCopy_103 : decode c_UN_readCopy 103 = .ok (.invokespecial 83, 3) := by decide +kernel
theorem d_UN_readCopy_106 : decode c_UN_readCopy 106 = .ok (.athrow, 1) := by decide +kernel
theorem d_UN_readCopy_107 : decode c_UN_readCopy 107 = .ok (.iconst 0, 1) := by decide +kernel
theorem d_UN_readCopy_108 : decode c_UN_readCopy 108 = .ok (.istore 6, 2) := by decide +kernel
theorem d_UN_readCopy_110 : decode c_UN_readCopy 110 = .ok (.iload 6, 2) := by decide +kernel
theorem d_UN_readCopy_112 : decode c_UN_readCopy 112 = .ok (.iload_n 3, 1) := by decide +kernel
theorem d_UN_readCopy_113 : decode c_UN_readCopy 113 = .ok (.if_icmp .ge 25, 3) := by decide +kernel
theorem d_UN_readCopy_116 : decode c_UN_readCopy 116 = .ok (.aload_n 0, 1) := by decide +kernel
theorem d_UN_readCopy_117 : decode c_UN_readCopy 117 = .ok (.aload_n 0, 1) := by decide +kernel
theorem d_UN_readCopy_118 : decode c_UN_readCopy 118 = .ok (.getfield 41, 3) := by decide +kernel
theorem d_UN_readCopy_121 : decode c_UN_readCopy 121 = .ok (.aload_n 0, 1) := by decide +kernel
theorem d_UN_readCopy_122 : decode c_UN_readCopy 122 = .ok (.getfield 52, 3) := by decide +kernel
theorem d_UN_readCopy_125 : decode c_UN_readCopy 125 = .ok (.iload 5, 2) := by decide +kernel
theorem d_UN_readCopy_127 : decode c_UN_readCopy 127 = .ok (.isub, 1) := by decide +kernel
theorem d_UN_readCopy_128 : decode c_UN_readCopy 128 = .ok (.baload, 1) := by decide +kernel
theorem d_UN_readCopy_129 : decode c_UN_readCopy 129 = .ok (.invokevirtual 119, 3) := by decide +kernel
theorem d_UN_readCopy_132 : decode c_UN_readCopy 132 = .ok (.iinc 6 1, 3) := by decide +kernel
theorem d_UN_readCopy_135 : decode c_UN_readCopy 135 = .ok (.goto (-25), 3) := by decide +kernel
theorem d_UN_readCopy_138 : decode c_UN_readCopy 138 = .ok (.return_, 1) := by decide +kernel
theorem d_UN_readToldCodes_0 : decode c_UN_readToldCodes 0 = .ok (.aload_n 0, 1) := by decide +kernel
theorem d_UN_readToldCodes_1 : decode c_UN_readToldCodes 1 = .ok (.getfield 12, 3) := by decide +kernel
theorem d_UN_readToldCodes_4 : decode c_UN_readToldCodes 4 = .ok (.iconst 5, 1) := by decide +kernel
theorem d_UN_readToldCodes_5 : decode c_UN_readToldCodes 5 = .ok (.invokevirtual 75, 3) := by decide +kernel
theorem d_UN_readToldCodes_8 : decode c_UN_readToldCodes 8 = .ok (.sipush 257, 3) := by decide +kernel
theorem d_UN_readToldCodes_11 : decode c_UN_readToldCodes 11 = .ok (.iadd, 1) := by decide +kernel
theorem d_UN_readToldCodes_12 : decode c_UN_readToldCodes 12 = .ok (.istore_n 1, 1) := by decide +kernel
theorem d_UN_readToldCodes_13 : decode c_UN_readToldCodes 13 = .ok (.aload_n 0, 1) := by decide +kernel
theorem d_UN_readToldCodes_14 : decode c_UN_readToldCodes 14 = .ok (.getfield 12, 3) := by decide +kernel
theorem d_UN_readToldCodes_17 : decode c_UN_readToldCodes 17 = .ok (.iconst 5, 1) := by decide +kernel
theorem d_UN_readToldCodes_18 : decode c_UN_readToldCodes 18 = .ok (.invokevirtual 75, 3) := by decide +kernel
theorem d_UN_readToldCodes_21 : decode c_UN_readToldCodes 21 = .ok (.iconst 1, 1) := by decide +kernel
theorem d_UN_readToldCodes_22 : decode c_UN_readToldCodes 22 = .ok (.iadd, 1) := by decide +kernel
theorem d_UN_readToldCodes_23 : decode c_UN_readToldCodes 23 = .ok (.istore_n 2, 1) := by decide +kernel
theorem d_UN_readToldCodes_24 : decode c_UN_readToldCodes 24 = .ok (.aload_n 0, 1) := by decide +kernel
theorem d_UN_readToldCodes_25 : decode c_UN_readToldCodes 25 = .ok (.getfield 12, 3) := by decide +kernel
theorem d_UN_readToldCodes_28 : decode c_UN_readToldCodes 28 = .ok (.iconst 4, 1) := by decide +kernel
theorem d_UN_readToldCodes_29 : decode c_UN_readToldCodes 29 = .ok (.invokevirtual 75, 3) := by decide +kernel
theorem d_UN_readToldCodes_32 : decode c_UN_readToldCodes 32 = .ok (.iconst 4, 1) := by decide +kernel
theorem d_UN_readToldCodes_33 : decode c_UN_readToldCodes 33 = .ok (.iadd, 1) := by decide +kernel
theorem d_UN_readToldCodes_34 : decode c_UN_readToldCodes 34 = .ok (.istore_n 3, 1) := by decide +kernel
theorem d_UN_readToldCodes_35 : decode c_UN_readToldCodes 35 = .ok (.iload_n 1, 1) := by decide +kernel
theorem d_UN_readToldCodes_36 : decode c_UN_readToldCodes 36 = .ok (.sipush 286, 3) := by decide +kernel
theorem d_UN_readToldCodes_39 : decode c_UN_readToldCodes 39 = .ok (.if_icmp .gt 9, 3) := by decide +kernel
theorem d_UN_readToldCodes_42 : decode c_UN_readToldCodes 42 = .ok (.iload_n 2, 1) := by decide +kernel
theorem d_UN_readToldCodes_43 : decode c_UN_readToldCodes 43 = .ok (.bipush 30, 2) := by decide +kernel
theorem d_UN_readToldCodes_45 : decode c_UN_readToldCodes 45 = .ok (.if_icmp .le 13, 3) := by decide +kernel
theorem d_UN_readToldCodes_48 : decode c_UN_readToldCodes 48 = .ok (.new 79, 3) := by decide +kernel
theorem d_UN_readToldCodes_51 : decode c_UN_readToldCodes 51 = .ok (.dup, 1) := by decide +kernel
theorem d_UN_readToldCodes_52 : decode c_UN_readToldCodes 52 = .ok (.ldc 123, 2) := by decide +kernel
theorem d_UN_readToldCodes_54 : decode c_UN_readToldCodes 54 = .ok (.invokespecial 83, 3) := by decide +kernel
theorem d_UN_readToldCodes_57 : decode c_UN_readToldCodes 57 = .ok (.athrow, 1) := by decide +kernel
theorem d_UN_readToldCodes_58 : decode c_UN_readToldCodes 58 = .ok (.aload_n 0, 1) := by decide +kernel
theorem d_UN_readToldCodes_59 : decode c_UN_readToldCodes 59 = .ok (.iload_n 3, 1) := by decide +kernel
theorem d_UN_readToldCodes_60 : decode c_UN_readToldCodes 60 = .ok (.invokevirtual 125, 3) := by decide +kernel
theorem d_UN_readToldCodes_63 : decode c_UN_readToldCodes 63 = .ok (.aload_n 0, 1) := by decide +kernel
theorem d_UN_readToldCodes_64 : decode c_UN_readToldCodes 64 = .ok (.iload_n 1, 1) := by decide +kernel
theorem d_UN_readToldCodes_65 : decode c_UN_readToldCodes 65 = .ok (.iload_n 2, 1) := by decide +kernel
theorem d_UN_readToldCodes_66 : decode c_UN_readToldCodes 66 = .ok (.iadd, 1) := by decide +kernel
theorem d_UN_readToldCodes_67 : decode c_UN_readToldCodes 67 = .ok (.invokevirtual 128, 3) := by decide +kernel
theorem d_UN_readToldCodes_70 : decode c_UN_readToldCodes 70 = .ok (.aload_n 0, 1) := by decide +kernel
theorem d_UN_readToldCodes_71 : decode c_UN_readToldCodes 71 = .ok (.getfield 28, 3) := by decide +kernel
theorem d_UN_readToldCodes_74 : decode c_UN_readToldCodes 74 = .ok (.aload_n 0, 1) := by decide +kernel
theorem d_UN_readToldCodes_75 : decode c_UN_readToldCodes 75 = .ok (.getfield 37, 3) := by decide +kernel
theorem d_UN_readToldCodes_78 : decode c_UN_readToldCodes 78 = .ok (.iconst 0, 1) := by decide +kernel
theorem d_UN_readToldCodes_79 : decode c_UN_readToldCodes 79 = .ok (.iload_n 1, 1) := by decide +kernel
theorem d_UN_readToldCodes_80 : decode c_UN_readToldCodes 80 = .ok (.invokevirtual 65, 3) := by decide +kernel
theorem d_UN_readToldCodes_83 : decode c_UN_readToldCodes 83 = .ok (.aload_n 0, 1) := by decide +kernel
theorem d_UN_readToldCodes_84 : decode c_UN_readToldCodes 84 = .ok (.getfield 31, 3) := by decide +kernel
theorem d_UN_readToldCodes_87 : decode c_UN_readToldCodes 87 = .ok (.aload_n 0, 1) := by decide +kernel
theorem d_UN_readToldCodes_88 : decode c_UN_readToldCodes 88 = .ok (.getfield 37, 3) := by decide +kernel
theorem d_UN_readToldCodes_91 : decode c_UN_readToldCodes 91 = .ok (.iload_n 1, 1) := by decide +kernel
theorem d_UN_readToldCodes_92 : decode c_UN_readToldCodes 92 = .ok (.iload_n 2, 1) := by decide +kernel
theorem d_UN_readToldCodes_93 : decode c_UN_readToldCodes 93 = .ok (.invokevirtual 65, 3) := by decide +kernel
theorem d_UN_readToldCodes_96 : decode c_UN_readToldCodes 96 = .ok (.aload_n 0, 1) := by decide +kernel
theorem d_UN_readToldCodes_97 : decode c_UN_readToldCodes 97 = .ok (.getfield 37, 3) := by decide +kernel
theorem d_UN_readToldCodes_100 : decode c_UN_readToldCodes 100 = .ok (.sipush 256, 3) := by decide +kernel
theorem d_UN_readToldCodes_103 : decode c_UN_readToldCodes 103 = .ok (.iaload, 1) := by decide +kernel
theorem d_UN_readToldCodes_104 : decode c_UN_readToldCodes 104 = .ok (.ifCond .eq 13, 3) := by decide +kernel
theorem d_UN_readToldCodes_107 : decode c_UN_readToldCodes 107 = .ok (.aload_n 0, 1) := by decide +kernel
theorem d_UN_readToldCodes_108 : decode c_UN_readToldCodes 108 = .ok (.getfield 28, 3) := by decide +kernel
theorem d_UN_readToldCodes_111 : decode c_UN_readToldCodes 111 = .ok (.invokevirtual 131, 3) := by decide +kernel
theorem d_UN_readToldCodes_114 : decode c_UN_readToldCodes 114 = .ok (.ifCond .ne 13, 3) := by decide +kernel
theorem d_UN_readToldCodes_117 : decode c_UN_readToldCodes 117 = .ok (.new 79, 3) := by decide +kernel
theorem d_UN_readToldCodes_120 : decode c_UN_readToldCodes 120 = .ok (.dup, 1) := by decide +kernel
theorem d_UN_readToldCodes_121 : decode c_UN_readToldCodes 121 = .ok (.ldc 134, 2) := by decide +kernel
theorem d_UN_readToldCodes_123 : decode c_UN_readToldCodes 123 = .ok (.invokespecial 83, 3) := by decide +kernel
theorem d_UN_readToldCodes_126 : decode c_UN_readToldCodes 126 = .ok (.athrow, 1) := by decide +kernel
theorem d_UN_readToldCodes_127 : decode c_UN_readToldCodes 127 = .ok (.aload_n 0, 1) := by decide +kernel
theorem d_UN_readToldCodes_128 : decode c_UN_readToldCodes 128 = .ok (.getfield 31, 3) := by decide +kernel
theorem d_UN_readToldCodes_131 : decode c_UN_readToldCodes 131 = .ok (.invokevirtual 131, 3) := by decide +kernel
theorem d_UN_readToldCodes_134 : decode c_UN_readToldCodes 134 = .ok (.ifCond .ne 23, 3) := by decide +kernel
theorem d_UN_readToldCodes_137 : decode c_UN_readToldCodes 137 = .ok (.aload_n 0, 1) := by decide +kernel
theorem d_UN_readToldCodes_138 : decode c_UN_readToldCodes 138 = .ok (.getfield 31, 3) := by decide +kernel
theorem d_UN_readToldCodes_141 : decode c_UN_readToldCodes 141 = .ok (.invokevirtual 136, 3) := by decide +kernel
theorem d_UN_readToldCodes_144 : decode c_UN_readToldCodes 144 = .ok (.ifCond .ne 13, 3) := by decide +kernel
theorem d_UN_readToldCodes_147 : decode c_UN_readToldCodes 147 = .ok (.new 79, 3) := by decide +kernel
theorem d_UN_readToldCodes_150 : decode c_UN_readToldCodes 150 = .ok (.dup, 1) := by decide +kernel
theorem d_UN_readToldCodes_151 : decode c_UN_readToldCodes 151 = .ok (.ldc 139, 2) := by decide +kernel
theorem d_UN_readToldCodes_153 : decode c_UN_readToldCodes 153 = .ok (.invokespecial 83, 3) := by decide +kernel
theorem d_UN_readToldCodes_156 : decode c_UN_readToldCodes 156 = .ok (.athrow, 1) := by decide +kernel
theorem d_UN_readToldCodes_157 : decode c_UN_readToldCodes 157 = .ok (.return_, 1) := by decide +kernel
theorem d_UN_readLengthCodes_0 : decode c_UN_readLengthCodes 0 = .ok (.aload_n 0, 1) := by decide +kernel
theorem d_UN_readLengthCodes_1 : decode c_UN_readLengthCodes 1 = .ok (.getfield 37, 3) := by decide +kernel
theorem d_UN_readLengthCodes_4 : decode c_UN_readLengthCodes 4 = .ok (.iconst 0, 1) := by decide +kernel
theorem d_UN_readLengthCodes_5 : decode c_UN_readLengthCodes 5 = .ok (.invokestatic 69, 3) := by decide +kernel
theorem d_UN_readLengthCodes_8 : decode c_UN_readLengthCodes 8 = .ok (.iconst 0, 1) := by decide +kernel
theorem d_UN_readLengthCodes_9 : decode c_UN_readLengthCodes 9 = .ok (.istore_n 2, 1) := by decide +kernel
theorem d_UN_readLengthCodes_10 : decode c_UN_readLengthCodes 10 = .ok (.iload_n 2, 1) := by decide +kernel
theorem d_UN_readLengthCodes_11 : decode c_UN_readLengthCodes 11 = .ok (.iload_n 1, 1) := by decide +kernel
theorem d_UN_readLengthCodes_12 : decode c_UN_readLengthCodes 12 = .ok (.if_icmp .ge 27, 3) := by decide +kernel
theorem d_UN_readLengthCodes_15 : decode c_UN_readLengthCodes 15 = .ok (.aload_n 0, 1) := by decide +kernel
theorem d_UN_readLengthCodes_16 : decode c_UN_readLengthCodes 16 = .ok (.getfield 37, 3) := by decide +kernel
theorem d_UN_readLengthCodes_19 : decode c_UN_readLengthCodes 19 = .ok (.getstatic 141, 3) := by decide +kernel
theorem d_UN_readLengthCodes_22 : decode c_UN_readLengthCodes 22 = .ok (.iload_n 2, 1) := by decide +kernel
theorem d_UN_readLengthCodes_23 : decode c_UN_readLengthCodes 23 = .ok (.iaload, 1) := by decide +kernel
theorem d_UN_readLengthCodes_24 : decode c_UN_readLengthCodes 24 = .ok (.aload_n 0, 1) := by decide +kernel
theorem d_UN_readLengthCodes_25 : decode c_UN_readLengthCodes 25 = .ok (.getfield 12, 3) := by decide +kernel
theorem d_UN_readLengthCodes_28 : decode c_UN_readLengthCodes 28 = .ok (.iconst 3, 1) := by decide +kernel
theorem d_UN_readLengthCodes_29 : decode c_UN_readLengthCodes 29 = .ok (.invokevirtual 75, 3) := by decide +kernel
theorem d_UN_readLengthCodes_32 : decode c_UN_readLengthCodes 32 = .ok (.iastore, 1) := by decide +kernel
theorem d_UN_readLengthCodes_33 : decode c_UN_readLengthCodes 33 = .ok (.iinc 2 1, 3) := by decide +kernel
theorem d_UN_readLengthCodes_36 : decode c_UN_readLengthCodes 36 = .ok (.goto (-26), 3) := by decide +kernel
theorem d_UN_readLengthCodes_39 : decode c_UN_readLengthCodes 39 = .ok (.aload_n 0, 1) := by decide +kernel
theorem d_UN_readLengthCodes_40 : decode c_UN_readLengthCodes 40 = .ok (.getfield 34, 3) := by decide +kernel
theorem d_UN_readLengthCodes_43 : decode c_UN_readLengthCodes 43 = .ok (.aload_n 0, 1) := by decide +kernel
theorem d_UN_readLengthCodes_44 : decode c_UN_readLengthCodes 44 = .ok (.getfield 37, 3) := by decide +kernel
theorem d_UN_readLengthCodes_47 : decode c_UN_readLengthCodes 47 = .ok (.iconst 0, 1) := by decide +kernel
theorem d_UN_readLengthCodes_48 : decode c_UN_readLengthCodes 48 = .ok (.bipush 19, 2) := by decide +kernel
theorem d_UN_readLengthCodes_50 : decode c_UN_readLengthCodes 50 = .ok (.invokevirtual 65, 3) := by decide +kernel
theorem d_UN_readLengthCodes_53 : decode c_UN_readLengthCodes 53 = .ok (.aload_n 0, 1) := by decide +kernel
theorem d_UN_readLengthCodes_54 : decode c_UN_readLengthCodes 54 = .ok (.getfield 34, 3) := by decide +kernel
theorem d_UN_readLengthCodes_57 : decode c_UN_readLengthCodes 57 = .ok (.invokevirtual 131, 3) := by decide +kernel
theorem d_UN_readLengthCodes_60 : decode c_UN_readLengthCodes 60 = .ok (.ifCond .ne 13, 3) := by decide +kernel
theorem d_UN_readLengthCodes_63 : decode c_UN_readLengthCodes 63 = .ok (.new 79, 3) := by decide +kernel
theorem d_UN_readLengthCodes_66 : decode c_UN_readLengthCodes 66 = .ok (.dup, 1) := by decide +kernel
theorem d_UN_readLengthCodes_67 : decode c_UN_readLengthCodes 67 = .ok (.ldc 144, 2) := by decide +kernel
theorem d_UN_readLengthCodes_69 : decode c_UN_readLengthCodes 69 = .ok (.invokespecial 83, 3) := by decide +kernel
theorem d_UN_readLengthCodes_72 : decode c_UN_readLengthCodes 72 = .ok (.athrow, 1) := by decide +kernel
theorem d_UN_readLengthCodes_73 : decode c_UN_readLengthCodes 73 = .ok (.return_, 1) := by decide +kernel
theorem d_CO_useAllWords_0 : decode c_CO_useAllWords 0 = .ok (.aload_n 0, 1) := by decide +kernel
theorem d_CO_useAllWords_1 : decode c_CO_useAllWords 1 = .ok (.getfield 25, 3) := by decide +kernel
theorem d_CO_useAllWords_4 : decode c_CO_useAllWords 4 = .ok (.ldc 29, 2) := by decide +kernel
theorem d_CO_useAllWords_6 : decode c_CO_useAllWords 6 = .ok (.if_icmp .ne 7, 3) := by decide +kernel
theorem d_CO_useAllWords_9 : decode c_CO_useAllWords 9 = .ok (.iconst 1, 1) := by decide +kernel
theorem d_CO_useAllWords_10 : decode c_CO_useAllWords 10 = .ok (.goto 4, 3) := by decide +kernel
theorem d_CO_useAllWords_13 : decode c_CO_useAllWords 13 = .ok (.iconst 0, 1) := by decide +kernel
theorem d_CO_useAllWords_14 : decode c_CO_useAllWords 14 = .ok (.ireturn, 1) := by decide +kernel
theorem d_UN_readLengths_0 : decode c_UN_readLengths 0 = .ok (.iconst 0, 1) := by decide +kernel
theorem d_UN_readLengths_1 : decode c_UN_readLengths 1 = .ok (.istore_n 2, 1) := by decide +kernel
theorem d_UN_readLengths_2 : decode c_UN_readLengths 2 = .ok (.iconst 0, 1) := by decide +kernel
theorem d_UN_readLengths_3 : decode c_UN_readLengths 3 = .ok (.istore_n 3, 1) := by decide +kernel
theorem d_UN_readLengths_4 : decode c_UN_readLengths 4 = .ok (.iload_n 3, 1) := by decide +kernel
theorem d_UN_readLengths_5 : decode c_UN_readLengths 5 = .ok (.iload_n 1, 1) := by decide +kernel
theorem d_UN_readLengths_6 : decode c_UN_readLengths 6 = .ok (.if_icmp .ge 57, 3) := by decide +kernel
theorem d_UN_readLengths_9 : decode c_UN_readLengths 9 = .ok (.iload_n 2, 1) := by decide +kernel
theorem d_UN_readLengths_10 : decode c_UN_readLengths 10 = .ok (.iload_n 1, 1) := by decide +kernel
theorem d_UN_readLengths_11 : decode c_UN_readLengths 11 = .ok (.if_icmp .ge 52, 3) := by decide +kernel
theorem d_UN_readLengths_14 : decode c_UN_readLengths 14 = .ok (.aload_n 0, 1) := by decide +kernel
theorem d_UN_readLengths_15 : decode c_UN_readLengths 15 = .ok (.getfield 34, 3) := by decide +kernel
theorem d_UN_readLengths_18 : decode c_UN_readLengths 18 = .ok (.aload_n 0, 1) := by decide +kernel
theorem d_UN_readLengths_19 : decode c_UN_readLengths 19 = .ok (.getfield 12, 3) := by decide +kernel
theorem d_UN_readLengths_22 : decode c_UN_readLengths 22 = .ok (.invokevirtual 146, 3) := by decide +kernel
theorem d_UN_readLengths_25 : decode c_UN_readLengths 25 = .ok (.istore 4, 2) := by decide +kernel
theorem d_UN_readLengths_27 : decode c_UN_readLengths 27 = .ok (.iload 4, 2) := by decide +kernel
theorem d_UN_readLengths_29 : decode c_UN_readLengths 29 = .ok (.bipush 16, 2) := by decide +kernel
theorem d_UN_readLengths_31 : decode c_UN_readLengths 31 = .ok (.if_icmp .ge 17, 3) := by decide +kernel
theorem d_UN_readLengths_34 : decode c_UN_readLengths 34 = .ok (.aload_n 0, 1) := by decide +kernel
theorem d_UN_readLengths_35 : decode c_UN_readLengths 35 = .ok (.getfield 37, 3) := by decide +kernel
theorem d_UN_readLengths_38 : decode c_UN_readLengths 38 = .ok (.iload_n 2, 1) := by decide +kernel
theorem d_UN_readLengths_39 : decode c_UN_readLengths 39 = .ok (.iload 4, 2) := by decide +kernel
theorem d_UN_readLengths_41 : decode c_UN_readLengths 41 = .ok (.iastore, 1) := by decide +kernel
theorem d_UN_readLengths_42 : decode c_UN_readLengths 42 = .ok (.iinc 2 1, 3) := by decide +kernel
theorem d_UN_readLengths_45 : decode c_UN_readLengths 45 = .ok (.goto 12, 3) := by decide +kernel
theorem d_UN_readLengths_48 : decode c_UN_readLengths 48 = .ok (.aload_n 0, 1) := by decide +kernel
theorem d_UN_readLengths_49 : decode c_UN_readLengths 49 = .ok (.iload 4, 2) := by decide +kernel
theorem d_UN_readLengths_51 : decode c_UN_readLengths 51 = .ok (.iload_n 2, 1) := by decide +kernel
theorem d_UN_readLengths_52 : decode c_UN_readLengths 52 = .ok (.iload_n 1, 1) := by decide +kernel
theorem d_UN_readLengths_53 : decode c_UN_readLengths 53 = .ok (.invokevirtual 150, 3) := by decide +kernel
theorem d_UN_readLengths_56 : decode c_UN_readLengths 56 = .ok (.istore_n 2, 1) := by decide +kernel
theorem d_UN_readLengths_57 : decode c_UN_readLengths 57 = .ok (.iinc 3 1, 3) := by decide +kernel
theorem d_UN_readLengths_60 : decode c_UN_readLengths 60 = .ok (.goto (-56), 3) := by decide +kernel
theorem d_UN_readLengths_63 : decode c_UN_readLengths 63 = .ok (.return_, 1) := by decide +kernel
theorem d_UN_readRun_0 : decode c_UN_readRun 0 = .ok (.iload_n 1, 1) := by decide +kernel
theorem d_UN_readRun_1 : decode c_UN_readRun 1 = .ok (.bipush 16, 2) := by decide +kernel
theorem d_UN_readRun_3 : decode c_UN_readRun 3 = .ok (.if_icmp .ne 17, 3) := by decide +kernel
theorem d_UN_readRun_6 : decode c_UN_readRun 6 = .ok (.iload_n 2, 1) := by decide +kernel
theorem d_UN_readRun_7 : decode c_UN_readRun 7 = .ok (.ifCond .ne 13, 3) := by decide +kernel
theorem d_UN_readRun_10 : decode c_UN_readRun 10 = .ok (.new 79, 3) := by decide +kernel
theorem d_UN_readRun_13 : decode c_UN_readRun 13 = .ok (.dup, 1) := by decide +kernel
theorem d_UN_readRun_14 : decode c_UN_readRun 14 = .ok (.ldc 154, 2) := by decide +kernel
theorem d_UN_readRun_16 : decode c_UN_readRun 16 = .ok (.invokespecial 83, 3) := by decide +kernel
theorem d_UN_readRun_19 : decode c_UN_readRun 19 = .ok (.athrow, 1) := by decide +kernel
theorem d_UN_readRun_20 : decode c_UN_readRun 20 = .ok (.iconst 0, 1) := by decide +kernel
theorem d_UN_readRun_21 : decode c_UN_readRun 21 = .ok (.istore 4, 2) := by decide +kernel
theorem d_UN_readRun_23 : decode c_UN_readRun 23 = .ok (.iload_n 1, 1) := by decide +kernel
theorem d_UN_readRun_24 : decode c_UN_readRun 24 = .ok (.bipush 16, 2) := by decide +kernel
theorem d_UN_readRun_26 : decode c_UN_readRun 26 = .ok (.if_icmp .ne 28, 3) := by decide +kernel
theorem d_UN_readRun_29 : decode c_UN_readRun 29 = .ok (.aload_n 0, 1) := by decide +kernel
theorem d_UN_readRun_30 : decode c_UN_readRun 30 = .ok (.getfield 37, 3) := by decide +kernel
theorem d_UN_readRun_33 : decode c_UN_readRun 33 = .ok (.iload_n 2, 1) := by decide +kernel
theorem d_UN_readRun_34 : decode c_UN_readRun 34 = .ok (.iconst 1, 1) := by decide +kernel
theorem d_UN_readRun_35 : decode c_UN_readRun 35 = .ok (.isub, 1) := by decide +kernel
theorem d_UN_readRun_36 : decode c_UN_readRun 36 = .ok (.iaload, 1) := by decide +kernel
theorem d_UN_readRun_37 : decode c_UN_readRun 37 = .ok (.istore 4, 2) := by decide +kernel
theorem d_UN_readRun_39 : decode c_UN_readRun 39 = .ok (.iconst 3, 1) := by decide +kernel
theorem d_UN_readRun_40 : decode c_UN_readRun 40 = .ok (.aload_n 0, 1) := by decide +kernel
theorem d_UN_readRun_41 : decode c_UN_readRun 41 = .ok (.getfield 12, 3) := by decide +kernel
theorem d_UN_readRun_44 : decode c_UN_readRun 44 = .ok (.iconst 2, 1) := by decide +kernel
theorem d_UN_readRun_45 : decode c_UN_readRun 45 = .ok (.invokevirtual 75, 3) := by decide +kernel
theorem d_UN_readRun_48 : decode c_UN_readRun 48 = .ok (.iadd, 1) := by decide +kernel
theorem d_UN_readRun_49 : decode c_UN_readRun 49 = .ok (.istore 5, 2) := by decide +kernel
theorem d_UN_readRun_51 : decode c_UN_readRun 51 = .ok (.goto 38, 3) := by decide +kernel
theorem d_UN_readRun_54 : decode c_UN_readRun 54 = .ok (.iload_n 1, 1) := by decide +kernel
theorem d_UN_readRun_55 : decode c_UN_readRun 55 = .ok (.bipush 17, 2) := by decide +kernel
theorem d_UN_readRun_57 : decode c_UN_readRun 57 = .ok (.if_icmp .ne 18, 3) := by decide +kernel
theorem d_UN_readRun_60 : decode c_UN_readRun 60 = .ok (.iconst 3, 1) := by decide +kernel
theorem d_UN_readRun_61 : decode c_UN_readRun 61 = .ok (.aload_n 0, 1) := by decide +kernel
theorem d_UN_readRun_62 : decode c_UN_readRun 62 = .ok (.getfield 12, 3) := by decide +kernel
theorem d_UN_readRun_65 : decode c_UN_readRun 65 = .ok (.iconst 3, 1) := by decide +kernel
theorem d_UN_readRun_66 : decode c_UN_readRun 66 = .ok (.invokevirtual 75, 3) := by decide +kernel
theorem d_UN_readRun_69 : decode c_UN_readRun 69 = .ok (.iadd, 1) := by decide +kernel
theorem d_UN_readRun_70 : decode c_UN_readRun 70 = .ok (.istore 5, 2) := by decide +kernel
theorem d_UN_readRun_72 : decode c_UN_readRun 72 = .ok (.goto 17, 3) := by decide +kernel
theorem d_UN_readRun_75 : decode c_UN_readRun 75 = .ok (.bipush 11, 2) := by decide +kernel
theorem d_UN_readRun_77 : decode c_UN_readRun 77 = .ok (.aload_n 0, 1) := by decide +kernel
theorem d_UN_readRun_78 : decode c_UN_readRun 78 = .ok (.getfield 12, 3) := by decide +kernel
theorem d_UN_readRun_81 : decode c_UN_readRun 81 = .ok (.bipush 7, 2) := by decide +kernel
theorem d_UN_readRun_83 : decode c_UN_readRun 83 = .ok (.invokevirtual 75, 3) := by decide +kernel
theorem d_UN_readRun_86 : decode c_UN_readRun 86 = .ok (.iadd, 1) := by decide +kernel
theorem d_UN_readRun_87 : decode c_UN_readRun 87 = .ok (.istore 5, 2) := by decide +kernel
theorem d_UN_readRun_89 : decode c_UN_readRun 89 = .ok (.iload 5, 2) := by decide +kernel
theorem d_UN_readRun_91 : decode c_UN_readRun 91 = .ok (.iload_n 3, 1) := by decide +kernel
theorem d_UN_readRun_92 : decode c_UN_readRun 92 = .ok (.iload_n 2, 1) := by decide +kernel
theorem d_UN_readRun_93 : decode c_UN_readRun 93 = .ok (.isub, 1) := by decide +kernel
theorem d_UN_readRun_94 : decode c_UN_readRun 94 = .ok (.if_icmp .le 13, 3) := by decide +kernel
theorem d_UN_readRun_97 : decode c_UN_readRun 97 = .ok (.new 79, 3) := by decide +kernel
theorem d_UN_readRun_100 : decode c_UN_readRun 100 = .ok (.dup, 1) := by decide +kernel
theorem d_UN_readRun_101 : decode c_UN_readRun 101 = .ok (.ldc 156, 2) := by decide +kernel
theorem d_UN_readRun_103 : decode c_UN_readRun 103 = .ok (.invokespecial 83, 3) := by decide +kernel
theorem d_UN_readRun_106 : decode c_UN_readRun 106 = .ok (.athrow, 1) := by decide +kernel
theorem d_UN_readRun_107 : decode c_UN_readRun 107 = .ok (.iconst 0, 1) := by decide +kernel
theorem d_UN_readRun_108 : decode c_UN_readRun 108 = .ok (.istore 6, 2) := by decide +kernel
theorem d_UN_readRun_110 : decode c_UN_readRun 110 = .ok (.iload 6, 2) := by decide +kernel
theorem d_UN_readRun_112 : decode c_UN_readRun 112 = .ok (.iload 5, 2) := by decide +kernel
theorem d_UN_readRun_114 : decode c_UN_readRun 114 = .ok (.if_icmp .ge 20, 3) := by decide +kernel
theorem d_UN_readRun_117 : decode c_UN_readRun 117 = .ok (.aload_n 0, 1) := by decide +kernel
theorem d_UN_readRun_118 : decode c_UN_readRun 118 = .ok (.getfield 37, 3) := by decide +kernel
theorem d_UN_readRun_121 : decode c_UN_readRun 121 = .ok (.iload_n 2, 1) := by decide +kernel
theorem d_UN_readRun_122 : decode c_UN_readRun 122 = .ok (.iload 6, 2) := by decide +kernel
theorem d_UN_readRun_124 : decode c_UN_readRun 124 = .ok (.iadd, 1) := by decide +kernel
theorem d_UN_readRun_125 : decode c_UN_readRun 125 = .ok (.iload 4, 2) := by decide +kernel
theorem d_UN_readRun_127 : decode c_UN_readRun 127 = .ok (.iastore, 1) := by decide +kernel
theorem d_UN_readRun_128 : decode c_UN_readRun 128 = .ok (.iinc 6 1, 3) := by decide +kernel
theorem d_UN_readRun_131 : decode c_UN_readRun 131 = .ok (.goto (-21), 3) := by decide +kernel
theorem d_UN_readRun_134 : decode c_UN_readRun 134 = .ok (.iload_n 2, 1) := by decide +kernel
theorem d_UN_readRun_135 : decode c_UN_readRun 135 = .ok (.iload 5, 2) := by decide +kernel
theorem d_UN_readRun_137 : decode c_UN_readRun 137 = .ok (.iadd, 1) := by decide +kernel
theorem d_UN_readRun_138 : decode c_UN_readRun 138 = .ok (.ireturn, 1) := by decide +kernel
end
section
/-! rows that decode: printed by wip/whole/znames.py -/
theorem d_CO_areOneOfOneBitOrNone_0 : decode c_CO_areOneOfOneBitOrNone 0 = .ok (.aload_n 0, 1) := by decide +kernel
theorem d_CO_areOneOfOneBitOrNone_1 : decode c_CO_areOneOfOneBitOrNone 1 = .ok (.getfield 25, 3) := by decide +kernel
theorem d_CO_areOneOfOneBitOrNone_4 : decode c_CO_areOneOfOneBitOrNone 4 = .ok (.ifCond .eq 23, 3) := by decide +kernel
theorem d_CO_areOneOfOneBitOrNone_7 : decode c_CO_areOneOfOneBitOrNone 7 = .ok (.aload_n 0, 1) := by decide +kernel
theorem d_CO_areOneOfOneBitOrNone_8 : decode c_CO_areOneOfOneBitOrNone 8 = .ok (.getfield 25, 3) := by decide +kernel
theorem d_CO_areOneOfOneBitOrNone_11 : decode c_CO_areOneOfOneBitOrNone 11 = .ok (.sipush 16384, 3) := by decide +kernel
theorem d_CO_areOneOfOneBitOrNone_14 : decode c_CO_areOneOfOneBitOrNone 14 = .ok (.if_icmp .ne 17, 3) := by decide +kernel
theorem d_CO_areOneOfOneBitOrNone_17 : decode c_CO_areOneOfOneBitOrNone 17 = .ok (.aload_n 0, 1) := by decide +kernel
theorem d_CO_areOneOfOneBitOrNone_18 : decode c_CO_areOneOfOneBitOrNone 18 = .ok (.getfield 9, 3) := by decide +kernel
theorem d_CO_areOneOfOneBitOrNone_21 : decode c_CO_areOneOfOneBitOrNone 21 = .ok (.iconst 1, 1) := by decide +kernel
theorem d_CO_areOneOfOneBitOrNone_22 : decode c_CO_areOneOfOneBitOrNone 22 = .ok (.iaload, 1) := by decide +kernel
theorem d_CO_areOneOfOneBitOrNone_23 : decode c_CO_areOneOfOneBitOrNone 23 = .ok (.iconst 1, 1) := by decide +kernel
theorem d_CO_areOneOfOneBitOrNone_24 : decode c_CO_areOneOfOneBitOrNone 24 = .ok (.if_icmp .ne 7, 3) := by decide +kernel
theorem d_CO_areOneOfOneBitOrNone_27 : decode c_CO_areOneOfOneBitOrNone 27 = .ok (.iconst 1, 1) := by decide +kernel
theorem d_CO_areOneOfOneBitOrNone_28 : decode c_CO_areOneOfOneBitOrNone 28 = .ok (.goto 4, 3) := by decide +kernel
theorem d_CO_areOneOfOneBitOrNone_31 : decode c_CO_areOneOfOneBitOrNone 31 = .ok (.iconst 0, 1) := by decide +kernel
theorem d_CO_areOneOfOneBitOrNone_32 : decode c_CO_areOneOfOneBitOrNone 32 = .ok (.ireturn, 1) := by decide +kernel
theorem d_UN_readTail_0 : decode c_UN_readTail 0 = .ok (.aload_n 0, 1) := by decide +kernel
theorem d_UN_readTail_1 : decode c_UN_readTail 1 = .ok (.getfield 12, 3) := by decide +kernel
theorem d_UN_readTail_4 : decode c_UN_readTail 4 = .ok (.invokevirtual 86, 3) := by decide +kernel
theorem d_UN_readTail_7 : decode c_UN_readTail 7 = .ok (.iconst 0, 1) := by decide +kernel
theorem d_UN_readTail_8 : decode c_UN_readTail 8 = .ok (.istore_n 1, 1) := by decide +kernel
theorem d_UN_readTail_9 : decode c_UN_readTail 9 = .ok (.iconst 0, 1) := by decide +kernel
theorem d_UN_readTail_10 : decode c_UN_readTail 10 = .ok (.istore_n 2, 1) := by decide +kernel
theorem d_UN_readTail_11 : decode c_UN_readTail 11 = .ok (.iload_n 2, 1) := by decide +kernel
theorem d_UN_readTail_12 : decode c_UN_readTail 12 = .ok (.iconst 4, 1) := by decide +kernel
theorem d_UN_readTail_13 : decode c_UN_readTail 13 = .ok (.if_icmp .ge 24, 3) := by decide +kernel
theorem d_UN_readTail_16 : decode c_UN_readTail 16 = .ok (.iload_n 1, 1) := by decide +kernel
theorem d_UN_readTail_17 : decode c_UN_readTail 17 = .ok (.bipush 8, 2) := by decide +kernel
theorem d_UN_readTail_19 : decode c_UN_readTail 19 = .ok (.ishl, 1) := by decide +kernel
theorem d_UN_readTail_20 : decode c_UN_readTail 20 = .ok (.aload_n 0, 1) := by decide +kernel
theorem d_UN_readTail_21 : decode c_UN_readTail 21 = .ok (.getfield 12, 3) := by decide +kernel
theorem d_UN_readTail_24 : decode c_UN_readTail 24 = .ok (.bipush 8, 2) := by decide +kernel
theorem d_UN_readTail_26 : decode c_UN_readTail 26 = .ok (.invokevirtual 75, 3) := by decide +kernel
theorem d_UN_readTail_29 : decode c_UN_readTail 29 = .ok (.ior, 1) := by decide +kernel
theorem d_UN_readTail_30 : decode c_UN_readTail 30 = .ok (.istore_n 1, 1) := by decide +kernel
theorem d_UN_readTail_31 : decode c_UN_readTail 31 = .ok (.iinc 2 1, 3) := by decide +kernel
theorem d_UN_readTail_34 : decode c_UN_readTail 34 = .ok (.goto (-23), 3) := by decide +kernel
theorem d_UN_readTail_37 : decode c_UN_readTail 37 = .ok (.iload_n 1, 1) := by decide +kernel
theorem d_UN_readTail_38 : decode c_UN_readTail 38 = .ok (.aload_n 0, 1) := by decide +kernel
theorem d_UN_readTail_39 : decode c_UN_readTail 39 = .ok (.getfield 41, 3) := by decide +kernel
theorem d_UN_readTail_42 : decode c_UN_readTail 42 = .ok (.aload_n 0, 1) := by decide +kernel
theorem d_UN_readTail_43 : decode c_UN_readTail 43 = .ok (.getfield 52, 3) := by decide +kernel
theorem d_UN_readTail_46 : decode c_UN_readTail 46 = .ok (.invokestatic 89, 3) := by decide +kernel
theorem d_UN_readTail_49 : decode c_UN_readTail 49 = .ok (.if_icmp .ne 13, 3) := by decide +kernel
theorem d_UN_readTail_52 : decode c_UN_readTail 52 = .ok (.aload_n 0, 1) := by decide +kernel
theorem d_UN_readTail_53 : decode c_UN_readTail 53 = .ok (.getfield 12, 3) := by decide +kernel
theorem d_UN_readTail_56 : decode c_UN_readTail 56 = .ok (.invokevirtual 93, 3) := by decide +kernel
theorem d_UN_readTail_59 : decode c_UN_readTail 59 = .ok (.ifCond .ne 13, 3) := by decide +kernel
theorem d_UN_readTail_62 : decode c_UN_readTail 62 = .ok (.new 79, 3) := by decide +kernel
theorem d_UN_readTail_65 : decode c_UN_readTail 65 = .ok (.dup, 1) := by decide +kernel
theorem d_UN_readTail_66 : decode c_UN_readTail 66 = .ok (.ldc 97, 2) := by decide +kernel
theorem d_UN_readTail_68 : decode c_UN_readTail 68 = .ok (.invokespecial 83, 3) := by decide +kernel
theorem d_UN_readTail_71 : decode c_UN_readTail 71 = .ok (.athrow, 1) := by decide +kernel
theorem d_UN_readTail_72 : decode c_UN_readTail 72 = .ok (.return_, 1) := by decide +kernel
theorem d_BR_atEnd_0 : decode c_BR_atEnd 0 = .ok (.aload_n 0, 1) := by decide +kernel
theorem d_BR_atEnd_1 : decode c_BR_atEnd 1 = .ok (.getfield 17, 3) := by decide +kernel
theorem d_BR_atEnd_4 : decode c_BR_atEnd 4 = .ok (.aload_n 0, 1) := by decide +kernel
theorem d_BR_atEnd_5 : decode c_BR_atEnd 5 = .ok (.getfield 13, 3) := by decide +kernel
theorem d_BR_atEnd_8 : decode c_BR_atEnd 8 = .ok (.if_icmp .lt 7, 3) := by decide +kernel
theorem d_BR_atEnd_11 : decode c_BR_atEnd 11 = .ok (.iconst 1, 1) := by decide +kernel
theorem d_BR_atEnd_12 : decode c_BR_atEnd 12 = .ok (.goto 4, 3) := by decide +kernel
theorem d_BR_atEnd_15 : decode c_BR_atEnd 15 = .ok (.iconst 0, 1) := by decide +kernel
theorem d_BR_atEnd_16 : decode c_BR_atEnd 16 = .ok (.ireturn, 1) := by decide +kernel
theorem d_ZB_keepDraft_0 : decode c_ZB_keepDraft 0 = .ok (.aload_n 0, 1) := by decide +kernel
theorem d_ZB_keepDraft_1 : decode c_ZB_keepDraft 1 = .ok (.getfield 13, 3) := by decide +kernel
theorem d_ZB_keepDraft_4 : decode c_ZB_keepDraft 4 = .ok (.astore_n 2, 1) := by decide +kernel
theorem d_ZB_keepDraft_5 : decode c_ZB_keepDraft 5 = .ok (.aload_n 0, 1) := by decide +kernel
theorem d_ZB_keepDraft_6 : decode c_ZB_keepDraft 6 = .ok (.aload_n 0, 1) := by decide +kernel
theorem d_ZB_keepDraft_7 : decode c_ZB_keepDraft 7 = .ok (.getfield 16, 3) := by decide +kernel
theorem d_ZB_keepDraft_10 : decode c_ZB_keepDraft 10 = .ok (.putfield 13, 3) := by decide +kernel
theorem d_ZB_keepDraft_13 : decode c_ZB_keepDraft 13 = .ok (.aload_n 0, 1) := by decide +kernel
theorem d_ZB_keepDraft_14 : decode c_ZB_keepDraft 14 = .ok (.aload_n 2, 1) := by decide +kernel
theorem d_ZB_keepDraft_15 : decode c_ZB_keepDraft 15 = .ok (.putfield 16, 3) := by decide +kernel
theorem d_ZB_keepDraft_18 : decode c_ZB_keepDraft 18 = .ok (.aload_n 0, 1) := by decide +kernel
theorem d_ZB_keepDraft_19 : decode c_ZB_keepDraft 19 = .ok (.iload_n 1, 1) := by decide +kernel
theorem d_ZB_keepDraft_20 : decode c_ZB_keepDraft 20 = .ok (.putfield 53, 3) := by decide +kernel
theorem d_ZB_keepDraft_23 : decode c_ZB_keepDraft 23 = .ok (.iload_n 1, 1) := by decide +kernel
theorem d_ZB_keepDraft_24 : decode c_ZB_keepDraft 24 = .ok (.ireturn, 1) := by decide +kernel
theorem d_LW_pack_0 : decode c_LW_pack 0 = .ok (.aload_n 1, 1) := by decide +kernel
theorem d_LW_pack_1 : decode c_LW_pack 1 = .ok (.iconst 0, 1) := by decide +kernel
theorem d_LW_pack_2 : decode c_LW_pack 2 = .ok (.aload_n 0, 1) := by decide +kernel
theorem d_LW_pack_3 : decode c_LW_pack 3 = .ok (.invokevirtual 27, 3) := by decide +kernel
theorem d_LW_pack_6 : decode c_LW_pack 6 = .ok (.i2l, 1) := by decide +kernel
theorem d_LW_pack_7 : decode c_LW_pack 7 = .ok (.lastore, 1) := by decide +kernel
theorem d_LW_pack_8 : decode c_LW_pack 8 = .ok (.goto 6, 3) := by decide +kernel
theorem d_LW_pack_11 : decode c_LW_pack 11 = .ok (.astore_n 2, 1) := by decide +kernel
theorem d_LW_pack_12 : decode c_LW_pack 12 = .ok (.iconst 1, 1) := by decide +kernel
theorem d_LW_pack_13 : decode c_LW_pack 13 = .ok (.ireturn, 1) := by decide +kernel
theorem d_LW_pack_14 : decode c_LW_pack 14 = .ok (.iconst 0, 1) := by decide +kernel
theorem d_LW_pack_15 : decode c_LW_pack 15 = .ok (.ireturn, 1) := by decide +kernel
theorem d_ZB_pack_0 : decode c_ZB_pack 0 = .ok (.aload_n 0, 1) := by decide +kernel
theorem d_ZB_pack_1 : decode c_ZB_pack 1 = .ok (.aload_n 0, 1) := by decide +kernel
theorem d_ZB_pack_2 : decode c_ZB_pack 2 = .ok (.getfield 29, 3) := by decide +kernel
theorem d_ZB_pack_5 : decode c_ZB_pack 5 = .ok (.aload_n 0, 1) := by decide +kernel
theorem d_ZB_pack_6 : decode c_ZB_pack 6 = .ok (.getfield 9, 3) := by decide +kernel
theorem d_ZB_pack_9 : decode c_ZB_pack 9 = .ok (.aload_n 0, 1) := by decide +kernel
theorem d_ZB_pack_10 : decode c_ZB_pack 10 = .ok (.getfield 33, 3) := by decide +kernel
theorem d_ZB_pack_13 : decode c_ZB_pack 13 = .ok (.aload_n 0, 1) := by decide +kernel
theorem d_ZB_pack_14 : decode c_ZB_pack 14 = .ok (.getfield 16, 3) := by decide +kernel
theorem d_ZB_pack_17 : decode c_ZB_pack 17 = .ok (.invokevirtual 70, 3) := by decide +kernel
theorem d_ZB_pack_20 : decode c_ZB_pack 20 = .ok (.invokevirtual 66, 3) := by decide +kernel
theorem d_ZB_pack_23 : decode c_ZB_pack 23 = .ok (.ireturn, 1) := by decide +kernel
theorem d_PA_write_0 : decode c_PA_write 0 = .ok (.aload_n 0, 1) := by decide +kernel
theorem d_PA_write_1 : decode c_PA_write 1 = .ok (.aload_n 1, 1) := by decide +kernel
theorem d_PA_write_2 : decode c_PA_write 2 = .ok (.iload_n 2, 1) := by decide +kernel
theorem d_PA_write_3 : decode c_PA_write 3 = .ok (.aload_n 3, 1) := by decide +kernel
theorem d_PA_write_4 : decode c_PA_write 4 = .ok (.invokevirtual 25, 3) := by decide +kernel
theorem d_PA_write_7 : decode c_PA_write 7 = .ok (.aload_n 0, 1) := by decide +kernel
theorem d_PA_write_8 : decode c_PA_write 8 = .ok (.bipush 120, 2) := by decide +kernel
theorem d_PA_write_10 : decode c_PA_write 10 = .ok (.invokevirtual 29, 3) := by decide +kernel
theorem d_PA_write_13 : decode c_PA_write 13 = .ok (.aload_n 0, 1) := by decide +kernel
theorem d_PA_write_14 : decode c_PA_write 14 = .ok (.iconst 1, 1) := by decide +kernel
theorem d_PA_write_15 : decode c_PA_write 15 = .ok (.invokevirtual 29, 3) := by decide +kernel
theorem d_PA_write_18 : decode c_PA_write 18 = .ok (.aload_n 0, 1) := by decide +kernel
theorem d_PA_write_19 : decode c_PA_write 19 = .ok (.iconst 1, 1) := by decide +kernel
theorem d_PA_write_20 : decode c_PA_write 20 = .ok (.iconst 1, 1) := by decide +kernel
theorem d_PA_write_21 : decode c_PA_write 21 = .ok (.invokevirtual 33, 3) := by decide +kernel
theorem d_PA_write_24 : decode c_PA_write 24 = .ok (.aload_n 0, 1) := by decide +kernel
theorem d_PA_write_25 : decode c_PA_write 25 = .ok (.iconst 1, 1) := by decide +kernel
theorem d_PA_write_26 : decode c_PA_write 26 = .ok (.iconst 2, 1) := by decide +kernel
theorem d_PA_write_27 : decode c_PA_write 27 = .ok (.invokevirtual 33, 3) := by decide +kernel
theorem d_PA_write_30 : decode c_PA_write 30 = .ok (.aload_n 0, 1) := by decide +kernel
theorem d_PA_write_31 : decode c_PA_write 31 = .ok (.invokevirtual 37, 3) := by decide +kernel
theorem d_PA_write_34 : decode c_PA_write 34 = .ok (.aload_n 0, 1) := by decide +kernel
theorem d_PA_write_35 : decode c_PA_write 35 = .ok (.sipush 256, 3) := by decide +kernel
theorem d_PA_write_38 : decode c_PA_write 38 = .ok (.invokevirtual 40, 3) := by decide +kernel
theorem d_PA_write_41 : decode c_PA_write 41 = .ok (.aload_n 0, 1) := by decide +kernel
theorem d_PA_write_42 : decode c_PA_write 42 = .ok (.invokevirtual 43, 3) := by decide +kernel
theorem d_PA_write_45 : decode c_PA_write 45 = .ok (.aload_n 0, 1) := by decide +kernel
theorem d_PA_write_46 : decode c_PA_write 46 = .ok (.aload_n 1, 1) := by decide +kernel
theorem d_PA_write_47 : decode c_PA_write 47 = .ok (.iload_n 2, 1) := by decide +kernel
theorem d_PA_write_48 : decode c_PA_write 48 = .ok (.invokestatic 46, 3) := by decide +kernel
theorem d_PA_write_51 : decode c_PA_write 51 = .ok (.invokevirtual 50, 3) := by decide +kernel
theorem d_PA_write_54 : decode c_PA_write 54 = .ok (.aload_n 0, 1) := by decide +kernel
theorem d_PA_write_55 : decode c_PA_write 55 = .ok (.getfield 53, 3) := by decide +kernel
theorem d_PA_write_58 : decode c_PA_write 58 = .ok (.ireturn, 1) := by decide +kernel
theorem d_PA_open_0 : decode c_PA_open 0 = .ok (.aload_n 0, 1) := by decide +kernel
theorem d_PA_open_1 : decode c_PA_open 1 = .ok (.getfield 11, 3) := by decide +kernel
theorem d_PA_open_4 : decode c_PA_open 4 = .ok (.iconst (-1), 1) := by decide +kernel
theorem d_PA_open_5 : decode c_PA_open 5 = .ok (.invokestatic 57, 3) := by decide +kernel
theorem d_PA_open_8 : decode c_PA_open 8 = .ok (.aload_n 0, 1) := by decide +kernel
theorem d_PA_open_9 : decode c_PA_open 9 = .ok (.aload_n 1, 1) := by decide +kernel
theorem d_PA_open_10 : decode c_PA_open 10 = .ok (.putfield 18, 3) := by decide +kernel
theorem d_PA_open_13 : decode c_PA_open 13 = .ok (.aload_n 0, 1) := by decide +kernel
theorem d_PA_open_14 : decode c_PA_open 14 = .ok (.iload_n 2, 1) := by decide +kernel
theorem d_PA_open_15 : decode c_PA_open 15 = .ok (.putfield 63, 3) := by decide +kernel
theorem d_PA_open_18 : decode c_PA_open 18 = .ok (.aload_n 0, 1) := by decide +kernel
theorem d_PA_open_19 : decode c_PA_open 19 = .ok (.aload_n 3, 1) := by decide +kernel
theorem d_PA_open_20 : decode c_PA_open 20 = .ok (.putfield 22, 3) := by decide +kernel
theorem d_PA_open_23 : decode c_PA_open 23 = .ok (.aload_n 0, 1) := by decide +kernel
theorem d_PA_open_24 : decode c_PA_open 24 = .ok (.iconst 0, 1) := by decide +kernel
theorem d_PA_open_25 : decode c_PA_open 25 = .ok (.putfield 53, 3) := by decide +kernel
theorem d_PA_open_28 : decode c_PA_open 28 = .ok (.aload_n 0, 1) := by decide +kernel
theorem d_PA_open_29 : decode c_PA_open 29 = .ok (.iconst 0, 1) := by decide +kernel
theorem d_PA_open_30 : decode c_PA_open 30 = .ok (.putfield 66, 3) := by decide +kernel
theorem d_PA_open_33 : decode c_PA_open 33 = .ok (.aload_n 0, 1) := by decide +kernel
theorem d_PA_open_34 : decode c_PA_open 34 = .ok (.iconst 0, 1) := by decide +kernel
theorem d_PA_open_35 : decode c_PA_open 35 = .ok (.putfield 69, 3) := by decide +kernel
theorem d_PA_open_38 : decode c_PA_open 38 = .ok (.return_, 1) := by decide +kernel
theorem d_PA_putByte_0 : decode c_PA_putByte 0 = .ok (.aload_n 0, 1) := by decide +kernel
theorem d_PA_putByte_1 : decode c_PA_putByte 1 = .ok (.getfield 53, 3) := by decide +kernel
theorem d_PA_putByte_4 : decode c_PA_putByte 4 = .ok (.sipush 16384, 3) := by decide +kernel
theorem d_PA_putByte_7 : decode c_PA_putByte 7 = .ok (.if_icmp .lt 13, 3) := by decide +kernel
theorem d_PA_putByte_10 : decode c_PA_putByte 10 = .ok (.new 123, 3) := by decide +kernel
theorem d_PA_putByte_13 : decode c_PA_putByte 13 = .ok (.dup, 1) := by decide +kernel
theorem d_PA_putByte_14 : decode c_PA_putByte 14 = .ok (.ldc 125, 2) := by decide +kernel
theorem d_PA_putByte_16 : decode c_PA_putByte 16 = .ok (.invokespecial 127, 3) := by decide +kernel
theorem d_PA_putByte_19 : decode c_PA_putByte 19 = .ok (.athrow, 1) := by decide +kernel
theorem d_PA_putByte_20 : decode c_PA_putByte 20 = .ok (.aload_n 0, 1) := by decide +kernel
theorem d_PA_putByte_21 : decode c_PA_putByte 21 = .ok (.getfield 22, 3) := by decide +kernel
theorem d_PA_putByte_24 : decode c_PA_putByte 24 = .ok (.aload_n 0, 1) := by decide +kernel
theorem d_PA_putByte_25 : decode c_PA_putByte 25 = .ok (.getfield 53, 3) := by decide +kernel
theorem d_PA_putByte_28 : decode c_PA_putByte 28 = .ok (.iload_n 1, 1) := by decide +kernel
theorem d_PA_putByte_29 : decode c_PA_putByte 29 = .ok (.i2b, 1) := by decide +kernel
theorem d_PA_putByte_30 : decode c_PA_putByte 30 = .ok (.bastore, 1) := by decide +kernel
theorem d_PA_putByte_31 : decode c_PA_putByte 31 = .ok (.aload_n 0, 1) := by decide +kernel
theorem d_PA_putByte_32 : decode c_PA_putByte 32 = .ok (.dup, 1) := by decide +kernel
theorem d_PA_putByte_33 : decode c_PA_putByte 33 = .ok (.getfield 53, 3) := by decide +kernel
theorem d_PA_putByte_36 : decode c_PA_putByte 36 = .ok (.iconst 1, 1) := by decide +kernel
theorem d_PA_putByte_37 : decode c_PA_putByte 37 = .ok (.iadd, 1) := by decide +kernel
theorem d_PA_putByte_38 : decode c_PA_putByte 38 = .ok (.putfield 53, 3) := by decide +kernel
theorem d_PA_putByte_41 : decode c_PA_putByte 41 = .ok (.return_, 1) := by decide +kernel
theorem d_PA_putNumber_0 : decode c_PA_putNumber 0 = .ok (.aload_n 0, 1) := by decide +kernel
theorem d_PA_putNumber_1 : decode c_PA_putNumber 1 = .ok (.dup, 1) := by decide +kernel
theorem d_PA_putNumber_2 : decode c_PA_putNumber 2 = .ok (.getfield 66, 3) := by decide +kernel
theorem d_PA_putNumber_5 : decode c_PA_putNumber 5 = .ok (.iload_n 1, 1) := by decide +kernel
theorem d_PA_putNumber_6 : decode c_PA_putNumber 6 = .ok (.aload_n 0, 1) := by decide +kernel
theorem d_PA_putNumber_7 : decode c_PA_putNumber 7 = .ok (.getfield 69, 3) := by decide +kernel
theorem d_PA_putNumber_10 : decode c_PA_putNumber 10 = .ok (.ishl, 1) := by decide +kernel
theorem d_PA_putNumber_11 : decode c_PA_putNumber 11 = .ok (.ior, 1) := by decide +kernel
theorem d_PA_putNumber_12 : decode c_PA_putNumber 12 = .ok (.putfield 66, 3) := by decide +kernel
theorem d_PA_putNumber_15 : decode c_PA_putNumber 15 = .ok (.aload_n 0, 1) := by decide +kernel
theorem d_PA_putNumber_16 : decode c_PA_putNumber 16 = .ok (.dup, 1) := by decide +kernel
theorem d_PA_putNumber_17 : decode c_PA_putNumber 17 = .ok (.getfield 69, 3) := by decide +kernel
theorem d_PA_putNumber_20 : decode c_PA_putNumber 20 = .ok (.iload_n 2, 1) := by decide +kernel
theorem d_PA_putNumber_21 : decode c_PA_putNumber 21 = .ok (.iadd, 1) := by decide +kernel
theorem d_PA_putNumber_22 : decode c_PA_putNumber 22 = .ok (.putfield 69, 3) := by decide +kernel
theorem d_PA_putNumber_25 : decode c_PA_putNumber 25 = .ok (.aload_n 0, 1) := by decide +kernel
theorem d_PA_putNumber_26 : decode c_PA_putNumber 26 = .ok (.getfield 69, 3) := by decide +kernel
theorem d_PA_putNumber_29 : decode c_PA_putNumber 29 = .ok (.bipush 8, 2) := by decide +kernel
theorem d_PA_putNumber_31 : decode c_PA_putNumber 31 = .ok (.if_icmp .lt 36, 3) := by decide +kernel
theorem d_PA_putNumber_34 : decode c_PA_putNumber 34 = .ok (.aload_n 0, 1) := by decide +kernel
theorem d_PA_putNumber_35 : decode c_PA_putNumber 35 = .ok (.aload_n 0, 1) := by decide +kernel
theorem d_PA_putNumber_36 : decode c_PA_putNumber 36 = .ok (.getfield 66, 3) := by decide +kernel
theorem d_PA_putNumber_39 : decode c_PA_putNumber 39 = .ok (.invokevirtual 29, 3) := by decide +kernel
theorem d_PA_putNumber_42 : decode c_PA_putNumber 42 = .ok (.aload_n 0, 1) := by decide +kernel
theorem d_PA_putNumber_43 : decode c_PA_putNumber 43 = .ok (.dup, 1) := by decide +kernel
theorem d_PA_putNumber_44 : decode c_PA_putNumber 44 = .ok (.getfield 66, 3) := by decide +kernel
theorem d_PA_putNumber_47 : decode c_PA_putNumber 47 = .ok (.bipush 8, 2) := by decide +kernel
theorem d_PA_putNumber_49 : decode c_PA_putNumber 49 = .ok (.ishr, 1) := by decide +kernel
theorem d_PA_putNumber_50 : decode c_PA_putNumber 50 = .ok (.putfield 66, 3) := by decide +kernel
theorem d_PA_putNumber_53 : decode c_PA_putNumber 53 = .ok (.aload_n 0, 1) := by decide +kernel
theorem d_PA_putNumber_54 : decode c_PA_putNumber 54 = .ok (.dup, 1) := by decide +kernel
theorem d_PA_putNumber_55 : decode c_PA_putNumber 55 = .ok (.getfield 69, 3) := by decide +kernel
theorem d_PA_putNumber_58 : decode c_PA_putNumber 58 = .ok (.bipush 8, 2) := by decide +kernel
theorem d_PA_putNumber_60 : decode c_PA_putNumber 60 = .ok (.isub, 1) := by decide +kernel
theorem d_PA_putNumber_61 : decode c_PA_putNumber 61 = .ok (.putfield 69, 3) := by decide +kernel
theorem d_PA_putNumber_64 : decode c_PA_putNumber 64 = .ok (.goto (-39), 3) := by decide +kernel
theorem d_PA_putNumber_67 : decode c_PA_putNumber 67 = .ok (.return_, 1) := by decide +kernel
theorem d_PA_writeTape_0 : decode c_PA_writeTape 0 = .ok (.iconst 0, 1) := by decide +kernel
theorem d_PA_writeTape_1 : decode c_PA_writeTape 1 = .ok (.istore_n 2, 1) := by decide +kernel
theorem d_PA_writeTape_2 : decode c_PA_writeTape 2 = .ok (.iload_n 2, 1) := by decide +kernel
theorem d_PA_writeTape_3 : decode c_PA_writeTape 3 = .ok (.aload_n 0, 1) := by decide +kernel
theorem d_PA_writeTape_4 : decode c_PA_writeTape 4 = .ok (.getfield 63, 3) := by decide +kernel
theorem d_PA_writeTape_7 : decode c_PA_writeTape 7 = .ok (.if_icmp .ge 72, 3) := by decide +kernel
theorem d_PA_writeTape_10 : decode c_PA_writeTape 10 = .ok (.aload_n 0, 1) := by decide +kernel
theorem d_PA_writeTape_11 : decode c_PA_writeTape 11 = .ok (.iload_n 2, 1) := by decide +kernel
theorem d_PA_writeTape_12 : decode c_PA_writeTape 12 = .ok (.invokevirtual 72, 3) := by decide +kernel
theorem d_PA_writeTape_15 : decode c_PA_writeTape 15 = .ok (.iconst 1, 1) := by decide +kernel
theorem d_PA_writeTape_16 : decode c_PA_writeTape 16 = .ok (.aload_n 0, 1) := by decide +kernel
theorem d_PA_writeTape_17 : decode c_PA_writeTape 17 = .ok (.getfield 75, 3) := by decide +kernel
theorem d_PA_writeTape_20 : decode c_PA_writeTape 20 = .ok (.invokestatic 78, 3) := by decide +kernel
theorem d_PA_writeTape_23 : decode c_PA_writeTape 23 = .ok (.istore_n 1, 1) := by decide +kernel
theorem d_PA_writeTape_24 : decode c_PA_writeTape 24 = .ok (.aload_n 0, 1) := by decide +kernel
theorem d_PA_writeTape_25 : decode c_PA_writeTape 25 = .ok (.getfield 75, 3) := by decide +kernel
theorem d_PA_writeTape_28 : decode c_PA_writeTape 28 = .ok (.ifCond .ne 20, 3) := by decide +kernel
theorem d_PA_writeTape_31 : decode c_PA_writeTape 31 = .ok (.aload_n 0, 1) := by decide +kernel
theorem d_PA_writeTape_32 : decode c_PA_writeTape 32 = .ok (.aload_n 0, 1) := by decide +kernel
theorem d_PA_writeTape_33 : decode c_PA_writeTape 33 = .ok (.getfield 18, 3) := by decide +kernel
theorem d_PA_writeTape_36 : decode c_PA_writeTape 36 = .ok (.iload_n 2, 1) := by decide +kernel
theorem d_PA_writeTape_37 : decode c_PA_writeTape 37 = .ok (.baload, 1) := by decide +kernel
theorem d_PA_writeTape_38 : decode c_PA_writeTape 38 = .ok (.sipush 255, 3) := by decide +kernel
theorem d_PA_writeTape_41 : decode c_PA_writeTape 41 = .ok (.iand, 1) := by decide +kernel
theorem d_PA_writeTape_42 : decode c_PA_writeTape 42 = .ok (.invokevirtual 40, 3) := by decide +kernel
theorem d_PA_writeTape_45 : decode c_PA_writeTape 45 = .ok (.goto 7, 3) := by decide +kernel
theorem d_PA_writeTape_48 : decode c_PA_writeTape 48 = .ok (.aload_n 0, 1) := by decide +kernel
theorem d_PA_writeTape_49 : decode c_PA_writeTape 49 = .ok (.invokevirtual 84, 3) := by decide +kernel
theorem d_PA_writeTape_52 : decode c_PA_writeTape 52 = .ok (.iconst 0, 1) := by decide +kernel
theorem d_PA_writeTape_53 : decode c_PA_writeTape 53 = .ok (.istore_n 3, 1) := by decide +kernel
theorem d_PA_writeTape_54 : decode c_PA_writeTape 54 = .ok (.iload_n 3, 1) := by decide +kernel
theorem d_PA_writeTape_55 : decode c_PA_writeTape 55 = .ok (.iload_n 1, 1) := by decide +kernel
theorem d_PA_writeTape_56 : decode c_PA_writeTape 56 = .ok (.if_icmp .ge 16, 3) := by decide +kernel
theorem d_PA_writeTape_59 : decode c_PA_writeTape 59 = .ok (.aload_n 0, 1) := by decide +kernel
theorem d_PA_writeTape_60 : decode c_PA_writeTape 60 = .ok (.iload_n 2, 1) := by decide +kernel
theorem d_PA_writeTape_61 : decode c_PA_writeTape 61 = .ok (.iload_n 3, 1) := by decide +kernel
theorem d_PA_writeTape_62 : decode c_PA_writeTape 62 = .ok (.iadd, 1) := by decide +kernel
theorem d_PA_writeTape_63 : decode c_PA_writeTape 63 = .ok (.invokevirtual 87, 3) := by decide +kernel
theorem d_PA_writeTape_66 : decode c_PA_writeTape 66 = .ok (.iinc 3 1, 3) := by decide +kernel
theorem d_PA_writeTape_69 : decode c_PA_writeTape 69 = .ok (.goto (-15), 3) := by decide +kernel
theorem d_PA_writeTape_72 : decode c_PA_writeTape 72 = .ok (.iload_n 2, 1) := by decide +kernel
theorem d_PA_writeTape_73 : decode c_PA_writeTape 73 = .ok (.iload_n 1, 1) := by decide +kernel
theorem d_PA_writeTape_74 : decode c_PA_writeTape 74 = .ok (.iadd, 1) := by decide +kernel
theorem d_PA_writeTape_75 : decode c_PA_writeTape 75 = .ok (.istore_n 2, 1) := by decide +kernel
theorem d_PA_writeTape_76 : decode c_PA_writeTape 76 = .ok (.goto (-74), 3) := by decide +kernel
theorem d_PA_writeTape_79 : decode c_PA_writeTape 79 = .ok (.return_, 1) := by decide +kernel
theorem d_PA_findCopy_0 : decode c_PA_findCopy 0 = .ok (.aload_n 0, 1) := by decide +kernel
theorem d_PA_findCopy_1 : decode c_PA_findCopy 1 = .ok (.iconst 0, 1) := by decide +kernel
theorem d_PA_findCopy_2 : decode c_PA_findCopy 2 = .ok (.putfield 75, 3) := by decide +kernel
theorem d_PA_findCopy_5 : decode c_PA_findCopy 5 = .ok (.sipush 258, 3) := by decide +kernel
theorem d_PA_findCopy_8 : decode c_PA_findCopy 8 = .ok (.aload_n 0, 1) := by decide +kernel
theorem d_PA_findCopy_9 : decode c_PA_findCopy 9 = .ok (.getfield 63, 3) := by decide +kernel
theorem d_PA_findCopy_12 : decode c_PA_findCopy 12 = .ok (.iload_n 1, 1) := by decide +kernel
theorem d_PA_findCopy_13 : decode c_PA_findCopy 13 = .ok (.isub, 1) := by decide +kernel
theorem d_PA_findCopy_14 : decode c_PA_findCopy 14 = .ok (.invokestatic 90, 3) := by decide +kernel
theorem d_PA_findCopy_17 : decode c_PA_findCopy 17 = .ok (.istore_n 2, 1) := by decide +kernel
theorem d_PA_findCopy_18 : decode c_PA_findCopy 18 = .ok (.iload_n 2, 1) := by decide +kernel
theorem d_PA_findCopy_19 : decode c_PA_findCopy 19 = .ok (.iconst 3, 1) := by decide +kernel
theorem d_PA_findCopy_20 : decode c_PA_findCopy 20 = .ok (.if_icmp .ge 4, 3) := by decide +kernel
theorem d_PA_findCopy_23 : decode c_PA_findCopy 23 = .ok (.return_, 1) := by decide +kernel
theorem d_PA_findCopy_24 : decode c_PA_findCopy 24 = .ok (.iconst 2, 1) := by decide +kernel
theorem d_PA_findCopy_25 : decode c_PA_findCopy 25 = .ok (.istore_n 3, 1) := by decide +kernel
theorem d_PA_findCopy_26 : decode c_PA_findCopy 26 = .ok (.iconst 0, 1) := by decide +kernel
theorem d_PA_findCopy_27 : decode c_PA_findCopy 27 = .ok (.iload_n 1, 1) := by decide +kernel
theorem d_PA_findCopy_28 : decode c_PA_findCopy 28 = .ok (.sipush 4096, 3) := by decide +kernel
theorem d_PA_findCopy_31 : decode c_PA_findCopy 31 = .ok (.isub, 1) := by decide +kernel
theorem d_PA_findCopy_32 : decode c_PA_findCopy 32 = .ok (.invokestatic 78, 3) := by decide +kernel
theorem d_PA_findCopy_35 : decode c_PA_findCopy 35 = .ok (.istore 4, 2) := by decide +kernel
theorem d_PA_findCopy_37 : decode c_PA_findCopy 37 = .ok (.aload_n 0, 1) := by decide +kernel
theorem d_PA_findCopy_38 : decode c_PA_findCopy 38 = .ok (.getfield 11, 3) := by decide +kernel
theorem d_PA_findCopy_41 : decode c_PA_findCopy 41 = .ok (.aload_n 0, 1) := by decide +kernel
theorem d_PA_findCopy_42 : decode c_PA_findCopy 42 = .ok (.iload_n 1, 1) := by decide +kernel
theorem d_PA_findCopy_43 : decode c_PA_findCopy 43 = .ok (.invokevirtual 93, 3) := by decide +kernel
theorem d_PA_findCopy_46 : decode c_PA_findCopy 46 = .ok (.iaload, 1) := by decide +kernel
theorem d_PA_findCopy_47 : decode c_PA_findCopy 47 = .ok (.istore 5, 2) := by decide +kernel
theorem d_PA_findCopy_49 : decode c_PA_findCopy 49 = .ok (.iconst 0, 1) := by decide +kernel
theorem d_PA_findCopy_50 : decode c_PA_findCopy 50 = .ok (.istore 6, 2) := by decide +kernel
theorem d_PA_findCopy_52 : decode c_PA_findCopy 52 = .ok (.iload 6, 2) := by decide +kernel
theorem d_PA_findCopy_54 : decode c_PA_findCopy 54 = .ok (.sipush 4096, 3) := by decide +kernel
theorem d_PA_findCopy_57 : decode c_PA_findCopy 57 = .ok (.if_icmp .ge 87, 3) := by decide +kernel
theorem d_PA_findCopy_60 : decode c_PA_findCopy 60 = .ok (.iload 5, 2) := by decide +kernel
theorem d_PA_findCopy_62 : decode c_PA_findCopy 62 = .ok (.iload 4, 2) := by decide +kernel
theorem d_PA_findCopy_64 : decode c_PA_findCopy 64 = .ok (.if_icmp .lt 80, 3) := by decide +kernel
theorem d_PA_findCopy_67 : decode c_PA_findCopy 67 = .ok (.iload_n 3, 1) := by decide +kernel
theorem d_PA_findCopy_68 : decode c_PA_findCopy 68 = .ok (.iload_n 2, 1) := by decide +kernel
theorem d_PA_findCopy_69 : decode c_PA_findCopy 69 = .ok (.if_icmp .ge 75, 3) := by decide +kernel
theorem d_PA_findCopy_72 : decode c_PA_findCopy 72 = .ok (.aload_n 0, 1) := by decide +kernel
theorem d_PA_findCopy_73 : decode c_PA_findCopy 73 = .ok (.getfield 18, 3) := by decide +kernel
theorem d_PA_findCopy_76 : decode c_PA_findCopy 76 = .ok (.iload 5, 2) := by decide +kernel
theorem d_PA_findCopy_78 : decode c_PA_findCopy 78 = .ok (.iload_n 3, 1) := by decide +kernel
theorem d_PA_findCopy_79 : decode c_PA_findCopy 79 = .ok (.iadd, 1) := by decide +kernel
theorem d_PA_findCopy_80 : decode c_PA_findCopy 80 = .ok (.baload, 1) := by decide +kernel
theorem d_PA_findCopy_81 : decode c_PA_findCopy 81 = .ok (.aload_n 0, 1) := by decide +kernel
theorem d_PA_findCopy_82 : decode c_PA_findCopy 82 = .ok (.getfield 18, 3) := by decide +kernel
theorem d_PA_findCopy_85 : decode c_PA_findCopy 85 = .ok (.iload_n 1, 1) := by decide +kernel
theorem d_PA_findCopy_86 : decode c_PA_findCopy 86 = .ok (.iload_n 3, 1) := by decide +kernel
theorem d_PA_findCopy_87 : decode c_PA_findCopy 87 = .ok (.iadd, 1) := by decide +kernel
theorem d_PA_findCopy_88 : decode c_PA_findCopy 88 = .ok (.baload, 1) := by decide +kernel
theorem d_PA_findCopy_89 : decode c_PA_findCopy 89 = .ok (.if_icmp .ne 36, 3) := by decide +kernel
theorem d_PA_findCopy_92 : decode c_PA_findCopy 92 = .ok (.aload_n 0, 1) := by decide +kernel
theorem d_PA_findCopy_93 : decode c_PA_findCopy 93 = .ok (.iload 5, 2) := by decide +kernel
theorem d_PA_findCopy_95 : decode c_PA_findCopy 95 = .ok (.iload_n 1, 1) := by decide +kernel
theorem d_PA_findCopy_96 : decode c_PA_findCopy 96 = .ok (.iload_n 2, 1) := by decide +kernel
theorem d_PA_findCopy_97 : decode c_PA_findCopy 97 = .ok (.invokevirtual 97, 3) := by decide +kernel
theorem d_PA_findCopy_100 : decode c_PA_findCopy 100 = .ok (.istore 7, 2) := by decide +kernel
theorem d_PA_findCopy_102 : decode c_PA_findCopy 102 = .ok (.iload 7, 2) := by decide +kernel
theorem d_PA_findCopy_104 : decode c_PA_findCopy 104 = .ok (.iload_n 3, 1) := by decide +kernel
theorem d_PA_findCopy_105 : decode c_PA_findCopy 105 = .ok (.if_icmp .le 20, 3) := by decide +kernel
theorem d_PA_findCopy_108 : decode c_PA_findCopy 108 = .ok (.iload 7, 2) := by decide +kernel
theorem d_PA_findCopy_110 : decode c_PA_findCopy 110 = .ok (.istore_n 3, 1) := by decide +kernel
theorem d_PA_findCopy_111 : decode c_PA_findCopy 111 = .ok (.aload_n 0, 1) := by decide +kernel
theorem d_PA_findCopy_112 : decode c_PA_findCopy 112 = .ok (.iload 7, 2) := by decide +kernel
theorem d_PA_findCopy_114 : decode c_PA_findCopy 114 = .ok (.putfield 75, 3) := by decide +kernel
theorem d_PA_findCopy_117 : decode c_PA_findCopy 117 = .ok (.aload_n 0, 1) := by decide +kernel
theorem d_PA_findCopy_118 : decode c_PA_findCopy 118 = .ok (.iload_n 1, 1) := by decide +kernel
theorem d_PA_findCopy_119 : decode c_PA_findCopy 119 = .ok (.iload 5, 2) := by decide +kernel
theorem d_PA_findCopy_121 : decode c_PA_findCopy 121 = .ok (.isub, 1) := by decide +kernel
theorem d_PA_findCopy_122 : decode c_PA_findCopy 122 = .ok (.putfield 101, 3) := by decide +kernel
theorem d_PA_findCopy_125 : decode c_PA_findCopy 125 = .ok (.aload_n 0, 1) := by decide +kernel
theorem d_PA_findCopy_126 : decode c_PA_findCopy 126 = .ok (.getfield 15, 3) := by decide +kernel
theorem d_PA_findCopy_129 : decode c_PA_findCopy 129 = .ok (.iload 5, 2) := by decide +kernel
theorem d_PA_findCopy_131 : decode c_PA_findCopy 131 = .ok (.sipush 4096, 3) := by decide +kernel
theorem d_PA_findCopy_134 : decode c_PA_findCopy 134 = .ok (.irem, 1) := by decide +kernel
theorem d_PA_findCopy_135 : decode c_PA_findCopy 135 = .ok (.iaload, 1) := by decide +kernel
theorem d_PA_findCopy_136 : decode c_PA_findCopy 136 = .ok (.istore 5, 2) := by decide +kernel
theorem d_PA_findCopy_138 : decode c_PA_findCopy 138 = .ok (.iinc 6 1, 3) := by decide +kernel
theorem d_PA_findCopy_141 : decode c_PA_findCopy 141 = .ok (.goto (-89), 3) := by decide +kernel
theorem d_PA_findCopy_144 : decode c_PA_findCopy 144 = .ok (.return_, 1) := by decide +kernel
theorem d_PA_chainOf_0 : decode c_PA_chainOf 0 = .ok (.aload_n 0, 1) := by decide +kernel
theorem d_PA_chainOf_1 : decode c_PA_chainOf 1 = .ok (.getfield 18, 3) := by decide +kernel
theorem d_PA_chainOf_4 : decode c_PA_chainOf 4 = .ok (.iload_n 1, 1) := by decide +kernel
theorem d_PA_chainOf_5 : decode c_PA_chainOf 5 = .ok (.baload, 1) := by decide +kernel
theorem d_PA_chainOf_6 : decode c_PA_chainOf 6 = .ok (.sipush 255, 3) := by decide +kernel
theorem d_PA_chainOf_9 : decode c_PA_chainOf 9 = .ok (.iand, 1) := by decide +kernel
theorem d_PA_chainOf_10 : decode c_PA_chainOf 10 = .ok (.istore_n 2, 1) := by decide +kernel
theorem d_PA_chainOf_11 : decode c_PA_chainOf 11 = .ok (.aload_n 0, 1) := by decide +kernel
theorem d_PA_chainOf_12 : decode c_PA_chainOf 12 = .ok (.getfield 18, 3) := by decide +kernel
theorem d_PA_chainOf_15 : decode c_PA_chainOf 15 = .ok (.iload_n 1, 1) := by decide +kernel
theorem d_PA_chainOf_16 : decode c_PA_chainOf 16 = .ok (.iconst 1, 1) := by decide +kernel
theorem d_PA_chainOf_17 : decode c_PA_chainOf 17 = .ok (.iadd, 1) := by decide +kernel
theorem d_PA_chainOf_18 : decode c_PA_chainOf 18 = .ok (.baload, 1) := by decide +kernel
theorem d_PA_chainOf_19 : decode c_PA_chainOf 19 = .ok (.sipush 255, 3) := by decide +kernel
theorem d_PA_chainOf_22 : decode c_PA_chainOf 22 = .ok (.iand, 1) := by decide +kernel
theorem d_PA_chainOf_23 : decode c_PA_chainOf 23 = .ok (.istore_n 3, 1) := by decide +kernel
theorem d_PA_chainOf_24 : decode c_PA_chainOf 24 = .ok (.aload_n 0, 1) := by decide +kernel
theorem d_PA_chainOf_25 : decode c_PA_chainOf 25 = .ok (.getfield 18, 3) := by decide +kernel
theorem d_PA_chainOf_28 : decode c_PA_chainOf 28 = .ok (.iload_n 1, 1) := by decide +kernel
theorem d_PA_chainOf_29 : decode c_PA_chainOf 29 = .ok (.iconst 2, 1) := by decide +kernel
theorem d_PA_chainOf_30 : decode c_PA_chainOf 30 = .ok (.iadd, 1) := by decide +kernel
theorem d_PA_chainOf_31 : decode c_PA_chainOf 31 = .ok (.baload, 1) := by decide +kernel
theorem d_PA_chainOf_32 : decode c_PA_chainOf 32 = .ok (.sipush 255, 3) := by decide +kernel
theorem d_PA_chainOf_35 : decode c_PA_chainOf 35 = .ok (.iand, 1) := by decide +kernel
theorem d_PA_chainOf_36 : decode c_PA_chainOf 36 = .ok (.istore 4, 2) := by decide +kernel
theorem d_PA_chainOf_38 : decode c_PA_chainOf 38 = .ok (.iload_n 2, 1) := by decide +kernel
theorem d_PA_chainOf_39 : decode c_PA_chainOf 39 = .ok (.iconst 4, 1) := by decide +kernel
theorem d_PA_chainOf_40 : decode c_PA_chainOf 40 = .ok (.ishl, 1) := by decide +kernel
theorem d_PA_chainOf_41 : decode c_PA_chainOf 41 = .ok (.iload_n 3, 1) := by decide +kernel
theorem d_PA_chainOf_42 : decode c_PA_chainOf 42 = .ok (.iconst 2, 1) := by decide +kernel
theorem d_PA_chainOf_43 : decode c_PA_chainOf 43 = .ok (.ishl, 1) := by decide +kernel
theorem d_PA_chainOf_44 : decode c_PA_chainOf 44 = .ok (.ixor, 1) := by decide +kernel
theorem d_PA_chainOf_45 : decode c_PA_chainOf 45 = .ok (.iload 4, 2) := by decide +kernel
theorem d_PA_chainOf_47 : decode c_PA_chainOf 47 = .ok (.ixor, 1) := by decide +kernel
theorem d_PA_chainOf_48 : decode c_PA_chainOf 48 = .ok (.sipush 4095, 3) := by decide +kernel
theorem d_PA_chainOf_51 : decode c_PA_chainOf 51 = .ok (.iand, 1) := by decide +kernel
theorem d_PA_chainOf_52 : decode c_PA_chainOf 52 = .ok (.ireturn, 1) := by decide +kernel
theorem d_PA_agreement_0 : decode c_PA_agreement 0 = .ok (.iconst 0, 1) := by decide +kernel
theorem d_PA_agreement_1 : decode c_PA_agreement 1 = .ok (.istore 4, 2) := by decide +kernel
theorem d_PA_agreement_3 : decode c_PA_agreement 3 = .ok (.iload 4, 2) := by decide +kernel
theorem d_PA_agreement_5 : decode c_PA_agreement 5 = .ok (.iload_n 3, 1) := by decide +kernel
theorem d_PA_agreement_6 : decode c_PA_agreement 6 = .ok (.if_icmp .ge 30, 3) := by decide +kernel
theorem d_PA_agreement_9 : decode c_PA_agreement 9 = .ok (.aload_n 0, 1) := by decide +kernel
theorem d_PA_agreement_10 : decode c_PA_agreement 10 = .ok (.getfield 18, 3) := by decide +kernel
theorem d_PA_agreement_13 : decode c_PA_agreement 13 = .ok (.iload_n 1, 1) := by decide +kernel
theorem d_PA_agreement_14 : decode c_PA_agreement 14 = .ok (.iload 4, 2) := by decide +kernel
theorem d_PA_agreement_16 : decode c_PA_agreement 16 = .ok (.iadd, 1) := by decide +kernel
theorem d_PA_agreement_17 : decode c_PA_agreement 17 = .ok (.baload, 1) := by decide +kernel
theorem d_PA_agreement_18 : decode c_PA_agreement 18 = .ok (.aload_n 0, 1) := by decide +kernel
theorem d_PA_agreement_19 : decode c_PA_agreement 19 = .ok (.getfield 18, 3) := by decide +kernel
theorem d_PA_agreement_22 : decode c_PA_agreement 22 = .ok (.iload_n 2, 1) := by decide +kernel
theorem d_PA_agreement_23 : decode c_PA_agreement 23 = .ok (.iload 4, 2) := by decide +kernel
theorem d_PA_agreement_25 : decode c_PA_agreement 25 = .ok (.iadd, 1) := by decide +kernel
theorem d_PA_agreement_26 : decode c_PA_agreement 26 = .ok (.baload, 1) := by decide +kernel
theorem d_PA_agreement_27 : decode c_PA_agreement 27 = .ok (.if_icmp .ne 9, 3) := by decide +kernel
theorem d_PA_agreement_30 : decode c_PA_agreement 30 = .ok (.iinc 4 1, 3) := by decide +kernel
theorem d_PA_agreement_33 : decode c_PA_agreement 33 = .ok (.goto (-30), 3) := by decide +kernel
theorem d_PA_agreement_36 : decode c_PA_agreement 36 = .ok (.iload 4, 2) := by decide +kernel
theorem d_PA_agreement_38 : decode c_PA_agreement 38 = .ok (.ireturn, 1) := by decide +kernel
theorem d_PA_putLiteral_0 : decode c_PA_putLiteral 0 = .ok (.iload_n 1, 1) := by decide +kernel
theorem d_PA_putLiteral_1 : decode c_PA_putLiteral 1 = .ok (.sipush 144, 3) := by decide +kernel
theorem d_PA_putLiteral_4 : decode c_PA_putLiteral 4 = .ok (.if_icmp .ge 21, 3) := by decide +kernel
theorem d_PA_putLiteral_7 : decode c_PA_putLiteral 7 = .ok (.aload_n 0, 1) := by decide +kernel
theorem d_PA_putLiteral_8 : decode c_PA_putLiteral 8 = .ok (.bipush 48, 2) := by decide +kernel
theorem d_PA_putLiteral_10 : decode c_PA_putLiteral 10 = .ok (.iload_n 1, 1) := by decide +kernel
theorem d_PA_putLiteral_11 : decode c_PA_putLiteral 11 = .ok (.iadd, 1) := by decide +kernel
theorem d_PA_putLiteral_12 : decode c_PA_putLiteral 12 = .ok (.bipush 8, 2) := by decide +kernel
theorem d_PA_putLiteral_14 : decode c_PA_putLiteral 14 = .ok (.invokestatic 117, 3) := by decide +kernel
theorem d_PA_putLiteral_17 : decode c_PA_putLiteral 17 = .ok (.bipush 8, 2) := by decide +kernel
theorem d_PA_putLiteral_19 : decode c_PA_putLiteral 19 = .ok (.invokevirtual 33, 3) := by decide +kernel
theorem d_PA_putLiteral_22 : decode c_PA_putLiteral 22 = .ok (.goto 79, 3) := by decide +kernel
theorem d_PA_putLiteral_25 : decode c_PA_putLiteral 25 = .ok (.iload_n 1, 1) := by decide +kernel
theorem d_PA_putLiteral_26 : decode c_PA_putLiteral 26 = .ok (.sipush 256, 3) := by decide +kernel
theorem d_PA_putLiteral_29 : decode c_PA_putLiteral 29 = .ok (.if_icmp .ge 26, 3) := by decide +kernel
theorem d_PA_putLiteral_32 : decode c_PA_putLiteral 32 = .ok (.aload_n 0, 1) := by decide +kernel
theorem d_PA_putLiteral_33 : decode c_PA_putLiteral 33 = .ok (.sipush 400, 3) := by decide +kernel
theorem d_PA_putLiteral_36 : decode c_PA_putLiteral 36 = .ok (.iload_n 1, 1) := by decide +kernel
theorem d_PA_putLiteral_37 : decode c_PA_putLiteral 37 = .ok (.iadd, 1) := by decide +kernel
theorem d_PA_putLiteral_38 : decode c_PA_putLiteral 38 = .ok (.sipush 144, 3) := by decide +kernel
theorem d_PA_putLiteral_41 : decode c_PA_putLiteral 41 = .ok (.isub, 1) := by decide +kernel
theorem d_PA_putLiteral_42 : decode c_PA_putLiteral 42 = .ok (.bipush 9, 2) := by decide +kernel
theorem d_PA_putLiteral_44 : decode c_PA_putLiteral 44 = .ok (.invokestatic 117, 3) := by decide +kernel
theorem d_PA_putLiteral_47 : decode c_PA_putLiteral 47 = .ok (.bipush 9, 2) := by decide +kernel
theorem d_PA_putLiteral_49 : decode c_PA_putLiteral 49 = .ok (.invokevirtual 33, 3) := by decide +kernel
theorem d_PA_putLiteral_52 : decode c_PA_putLiteral 52 = .ok (.goto 49, 3) := by decide +kernel
theorem d_PA_putLiteral_55 : decode c_PA_putLiteral 55 = .ok (.iload_n 1, 1) := by decide +kernel
theorem d_PA_putLiteral_56 : decode c_PA_putLiteral 56 = .ok (.sipush 280, 3) := by decide +kernel
theorem d_PA_putLiteral_59 : decode c_PA_putLiteral 59 = .ok (.if_icmp .ge 22, 3) := by decide +kernel
theorem d_PA_putLiteral_62 : decode c_PA_putLiteral 62 = .ok (.aload_n 0, 1) := by decide +kernel
theorem d_PA_putLiteral_63 : decode c_PA_putLiteral 63 = .ok (.iload_n 1, 1) := by decide +kernel
theorem d_PA_putLiteral_64 : decode c_PA_putLiteral 64 = .ok (.sipush 256, 3) := by decide +kernel
theorem d_PA_putLiteral_67 : decode c_PA_putLiteral 67 = .ok (.isub, 1) := by decide +kernel
theorem d_PA_putLiteral_68 : decode c_PA_putLiteral 68 = .ok (.bipush 7, 2) := by decide +kernel
theorem d_PA_putLiteral_70 : decode c_PA_putLiteral 70 = .ok (.invokestatic 117, 3) := by decide +kernel
theorem d_PA_putLiteral_73 : decode c_PA_putLiteral 73 = .ok (.bipush 7, 2) := by decide +kernel
theorem d_PA_putLiteral_75 : decode c_PA_putLiteral 75 = .ok (.invokevirtual 33, 3) := by decide +kernel
theorem d_PA_putLiteral_78 : decode c_PA_putLiteral 78 = .ok (.goto 23, 3) := by decide +kernel
theorem d_PA_putLiteral_81 : decode c_PA_putLiteral 81 = .ok (.aload_n 0, 1) := by decide +kernel
theorem d_PA_putLiteral_82 : decode c_PA_putLiteral 82 = .ok (.sipush 192, 3) := by decide +kernel
theorem d_PA_putLiteral_85 : decode c_PA_putLiteral 85 = .ok (.iload_n 1, 1) := by decide +kernel
theorem d_PA_putLiteral_86 : decode c_PA_putLiteral 86 = .ok (.iadd, 1) := by decide +kernel
theorem d_PA_putLiteral_87 : decode c_PA_putLiteral 87 = .ok (.sipush 280, 3) := by decide +kernel
theorem d_PA_putLiteral_90 : decode c_PA_putLiteral 90 = .ok (.isub, 1) := by decide +kernel
theorem d_PA_putLiteral_91 : decode c_PA_putLiteral 91 = .ok (.bipush 8, 2) := by decide +kernel
theorem d_PA_putLiteral_93 : decode c_PA_putLiteral 93 = .ok (.invokestatic 117, 3) := by decide +kernel
theorem d_PA_putLiteral_96 : decode c_PA_putLiteral 96 = .ok (.bipush 8, 2) := by decide +kernel
theorem d_PA_putLiteral_98 : decode c_PA_putLiteral 98 = .ok (.invokevirtual 33, 3) := by decide +kernel
theorem d_PA_putLiteral_101 : decode c_PA_putLiteral 101 = .ok (.return_, 1) := by decide +kernel
theorem d_PA_turned_0 : decode c_PA_turned 0 = .ok (.iconst 0, 1) := by decide +kernel
theorem d_PA_turned_1 : decode c_PA_turned 1 = .ok (.istore_n 2, 1) := by decide +kernel
theorem d_PA_turned_2 : decode c_PA_turned 2 = .ok (.iconst 0, 1) := by decide +kernel
theorem d_PA_turned_3 : decode c_PA_turned 3 = .ok (.istore_n 3, 1) := by decide +kernel
theorem d_PA_turned_4 : decode c_PA_turned 4 = .ok (.iload_n 3, 1) := by decide +kernel
theorem d_PA_turned_5 : decode c_PA_turned 5 = .ok (.iload_n 1, 1) := by decide +kernel
theorem d_PA_turned_6 : decode c_PA_turned 6 = .ok (.if_icmp .ge 19, 3) := by decide +kernel
theorem d_PA_turned_9 : decode c_PA_turned 9 = .ok (.iload_n 2, 1) := by decide +kernel
theorem d_PA_turned_10 : decode c_PA_turned 10 = .ok (.iconst 1, 1) := by decide +kernel
theorem d_PA_turned_11 : decode c_PA_turned 11 = .ok (.ishl, 1) := by decide +kernel
theorem d_PA_turned_12 : decode c_PA_turned 12 = .ok (.iload_n 0, 1) := by decide +kernel
theorem d_PA_turned_13 : decode c_PA_turned 13 = .ok (.iload_n 3, 1) := by decide +kernel
theorem d_PA_turned_14 : decode c_PA_turned 14 = .ok (.ishr, 1) := by decide +kernel
theorem d_PA_turned_15 : decode c_PA_turned 15 = .ok (.iconst 1, 1) := by decide +kernel
theorem d_PA_turned_16 : decode c_PA_turned 16 = .ok (.iand, 1) := by decide +kernel
theorem d_PA_turned_17 : decode c_PA_turned 17 = .ok (.ior, 1) := by decide +kernel
theorem d_PA_turned_18 : decode c_PA_turned 18 = .ok (.istore_n 2, 1) := by decide +kernel
theorem d_PA_turned_19 : decode c_PA_turned 19 = .ok (.iinc 3 1, 3) := by decide +kernel
theorem d_PA_turned_22 : decode c_PA_turned 22 = .ok (.goto (-18), 3) := by decide +kernel
theorem d_PA_turned_25 : decode c_PA_turned 25 = .ok (.iload_n 2, 1) := by decide +kernel
theorem d_PA_turned_26 : decode c_PA_turned 26 = .ok (.ireturn, 1) := by decide +kernel
theorem d_PA_putCopy_0 : decode c_PA_putCopy 0 = .ok (.getstatic 104, 3) := by decide +kernel
theorem d_PA_putCopy_3 : decode c_PA_putCopy 3 = .ok (.aload_n 0, 1) := by decide +kernel
theorem d_PA_putCopy_4 : decode c_PA_putCopy 4 = .ok (.getfield 75, 3) := by decide +kernel
theorem d_PA_putCopy_7 : decode c_PA_putCopy 7 = .ok (.invokestatic 107, 3) := by decide +kernel
theorem d_PA_putCopy_10 : decode c_PA_putCopy 10 = .ok (.istore_n 1, 1) := by decide +kernel
theorem d_PA_putCopy_11 : decode c_PA_putCopy 11 = .ok (.aload_n 0, 1) := by decide +kernel
theorem d_PA_putCopy_12 : decode c_PA_putCopy 12 = .ok (.sipush 257, 3) := by decide +kernel
theorem d_PA_putCopy_15 : decode c_PA_putCopy 15 = .ok (.iload_n 1, 1) := by decide +kernel
theorem d_PA_putCopy_16 : decode c_PA_putCopy 16 = .ok (.iadd, 1) := by decide +kernel
theorem d_PA_putCopy_17 : decode c_PA_putCopy 17 = .ok (.invokevirtual 40, 3) := by decide +kernel
theorem d_PA_putCopy_20 : decode c_PA_putCopy 20 = .ok (.aload_n 0, 1) := by decide +kernel
theorem d_PA_putCopy_21 : decode c_PA_putCopy 21 = .ok (.aload_n 0, 1) := by decide +kernel
theorem d_PA_putCopy_22 : decode c_PA_putCopy 22 = .ok (.getfield 75, 3) := by decide +kernel
theorem d_PA_putCopy_25 : decode c_PA_putCopy 25 = .ok (.getstatic 104, 3) := by decide +kernel
theorem d_PA_putCopy_28 : decode c_PA_putCopy 28 = .ok (.iload_n 1, 1) := by decide +kernel
theorem d_PA_putCopy_29 : decode c_PA_putCopy 29 = .ok (.iaload, 1) := by decide +kernel
theorem d_PA_putCopy_30 : decode c_PA_putCopy 30 = .ok (.isub, 1) := by decide +kernel
theorem d_PA_putCopy_31 : decode c_PA_putCopy 31 = .ok (.getstatic 111, 3) := by decide +kernel
theorem d_PA_putCopy_34 : decode c_PA_putCopy 34 = .ok (.iload_n 1, 1) := by decide +kernel
theorem d_PA_putCopy_35 : decode c_PA_putCopy 35 = .ok (.iaload, 1) := by decide +kernel
theorem d_PA_putCopy_36 : decode c_PA_putCopy 36 = .ok (.invokevirtual 33, 3) := by decide +kernel
theorem d_PA_putCopy_39 : decode c_PA_putCopy 39 = .ok (.getstatic 114, 3) := by decide +kernel
theorem d_PA_putCopy_42 : decode c_PA_putCopy 42 = .ok (.aload_n 0, 1) := by decide +kernel
theorem d_PA_putCopy_43 : decode c_PA_putCopy 43 = .ok (.getfield 101, 3) := by decide +kernel
theorem d_PA_putCopy_46 : decode c_PA_putCopy 46 = .ok (.invokestatic 107, 3) := by decide +kernel
theorem d_PA_putCopy_49 : decode c_PA_putCopy 49 = .ok (.istore_n 2, 1) := by decide +kernel
theorem d_PA_putCopy_50 : decode c_PA_putCopy 50 = .ok (.aload_n 0, 1) := by decide +kernel
theorem d_PA_putCopy_51 : decode c_PA_putCopy 51 = .ok (.iload_n 2, 1) := by decide +kernel
theorem d_PA_putCopy_52 : decode c_PA_putCopy 52 = .ok (.iconst 5, 1) := by decide +kernel
theorem d_PA_putCopy_53 : decode c_PA_putCopy 53 = .ok (.invokestatic 117, 3) := by decide +kernel
theorem d_PA_putCopy_56 : decode c_PA_putCopy 56 = .ok (.iconst 5, 1) := by decide +kernel
theorem d_PA_putCopy_57 : decode c_PA_putCopy 57 = .ok (.invokevirtual 33, 3) := by decide +kernel
theorem d_PA_putCopy_60 : decode c_PA_putCopy 60 = .ok (.aload_n 0, 1) := by decide +kernel
theorem d_PA_putCopy_61 : decode c_PA_putCopy 61 = .ok (.aload_n 0, 1) := by decide +kernel
theorem d_PA_putCopy_62 : decode c_PA_putCopy 62 = .ok (.getfield 101, 3) := by decide +kernel
theorem d_PA_putCopy_65 : decode c_PA_putCopy 65 = .ok (.getstatic 114, 3) := by decide +kernel
theorem d_PA_putCopy_68 : decode c_PA_putCopy 68 = .ok (.iload_n 2, 1) := by decide +kernel
theorem d_PA_putCopy_69 : decode c_PA_putCopy 69 = .ok (.iaload, 1) := by decide +kernel
theorem d_PA_putCopy_70 : decode c_PA_putCopy 70 = .ok (.isub, 1) := by decide +kernel
theorem d_PA_putCopy_71 : decode c_PA_putCopy 71 = .ok (.getstatic 120, 3) := by decide +kernel
theorem d_PA_putCopy_74 : decode c_PA_putCopy 74 = .ok (.iload_n 2, 1) := by decide +kernel
theorem d_PA_putCopy_75 : decode c_PA_putCopy 75 = .ok (.iaload, 1) := by decide +kernel
theorem d_PA_putCopy_76 : decode c_PA_putCopy 76 = .ok (.invokevirtual 33, 3) := by decide +kernel
theorem d_PA_putCopy_79 : decode c_PA_putCopy 79 = .ok (.return_, 1) := by decide +kernel
theorem d_PA_lastNotAbove_0 : decode c_PA_lastNotAbove 0 = .ok (.iconst 0, 1) := by decide +kernel
theorem d_PA_lastNotAbove_1 : decode c_PA_lastNotAbove 1 = .ok (.istore_n 2, 1) := by decide +kernel
theorem d_PA_lastNotAbove_2 : decode c_PA_lastNotAbove 2 = .ok (.iconst 1, 1) := by decide +kernel
theorem d_PA_lastNotAbove_3 : decode c_PA_lastNotAbove 3 = .ok (.istore_n 3, 1) := by decide +kernel
theorem d_PA_lastNotAbove_4 : decode c_PA_lastNotAbove 4 = .ok (.iload_n 3, 1) := by decide +kernel
theorem d_PA_lastNotAbove_5 : decode c_PA_lastNotAbove 5 = .ok (.aload_n 0, 1) := by decide +kernel
theorem d_PA_lastNotAbove_6 : decode c_PA_lastNotAbove 6 = .ok (.arraylength, 1) := by decide +kernel
theorem d_PA_lastNotAbove_7 : decode c_PA_lastNotAbove 7 = .ok (.if_icmp .ge 18, 3) := by decide +kernel
theorem d_PA_lastNotAbove_10 : decode c_PA_lastNotAbove 10 = .ok (.aload_n 0, 1) := by decide +kernel
theorem d_PA_lastNotAbove_11 : decode c_PA_lastNotAbove 11 = .ok (.iload_n 3, 1) := by decide +kernel
theorem d_PA_lastNotAbove_12 : decode c_PA_lastNotAbove 12 = .ok (.iaload, 1) := by decide +kernel
theorem d_PA_lastNotAbove_13 : decode c_PA_lastNotAbove 13 = .ok (.iload_n 1, 1) := by decide +kernel
theorem d_PA_lastNotAbove_14 : decode c_PA_lastNotAbove 14 = .ok (.if_icmp .gt 11, 3) := by decide +kernel
theorem d_PA_lastNotAbove_17 : decode c_PA_lastNotAbove 17 = .ok (.iload_n 3, 1) := by decide +kernel
theorem d_PA_lastNotAbove_18 : decode c_PA_lastNotAbove 18 = .ok (.istore_n 2, 1) := by decide +kernel
theorem d_PA_lastNotAbove_19 : decode c_PA_lastNotAbove 19 = .ok (.iinc 3 1, 3) := by decide +kernel
theorem d_PA_lastNotAbove_22 : decode c_PA_lastNotAbove 22 = .ok (.goto (-18), 3) := by decide +kernel
theorem d_PA_lastNotAbove_25 : decode c_PA_lastNotAbove 25 = .ok (.iload_n 2, 1) := by decide +kernel
theorem d_PA_lastNotAbove_26 : decode c_PA_lastNotAbove 26 = .ok (.ireturn, 1) := by decide +kernel
theorem d_PA_remember_0 : decode c_PA_remember 0 = .ok (.aload_n 0, 1) := by decide +kernel
theorem d_PA_remember_1 : decode c_PA_remember 1 = .ok (.getfield 63, 3) := by decide +kernel
theorem d_PA_remember_4 : decode c_PA_remember 4 = .ok (.iload_n 1, 1) := by decide +kernel
theorem d_PA_remember_5 : decode c_PA_remember 5 = .ok (.isub, 1) := by decide +kernel
theorem d_PA_remember_6 : decode c_PA_remember 6 = .ok (.iconst 3, 1) := by decide +kernel
theorem d_PA_remember_7 : decode c_PA_remember 7 = .ok (.if_icmp .lt 32, 3) := by decide +kernel
theorem d_PA_remember_10 : decode c_PA_remember 10 = .ok (.aload_n 0, 1) := by decide +kernel
theorem d_PA_remember_11 : decode c_PA_remember 11 = .ok (.iload_n 1, 1) := by decide +kernel
theorem d_PA_remember_12 : decode c_PA_remember 12 = .ok (.invokevirtual 93, 3) := by decide +kernel
theorem d_PA_remember_15 : decode c_PA_remember 15 = .ok (.istore_n 2, 1) := by decide +kernel
theorem d_PA_remember_16 : decode c_PA_remember 16 = .ok (.aload_n 0, 1) := by decide +kernel
theorem d_PA_remember_17 : decode c_PA_remember 17 = .ok (.getfield 15, 3) := by decide +kernel
theorem d_PA_remember_20 : decode c_PA_remember 20 = .ok (.iload_n 1, 1) := by decide +kernel
theorem d_PA_remember_21 : decode c_PA_remember 21 = .ok (.sipush 4096, 3) := by decide +kernel
theorem d_PA_remember_24 : decode c_PA_remember 24 = .ok (.irem, 1) := by decide +kernel
theorem d_PA_remember_25 : decode c_PA_remember 25 = .ok (.aload_n 0, 1) := by decide +kernel
theorem d_PA_remember_26 : decode c_PA_remember 26 = .ok (.getfield 11, 3) := by decide +kernel
theorem d_PA_remember_29 : decode c_PA_remember 29 = .ok (.iload_n 2, 1) := by decide +kernel
theorem d_PA_remember_30 : decode c_PA_remember 30 = .ok (.iaload, 1) := by decide +kernel
theorem d_PA_remember_31 : decode c_PA_remember 31 = .ok (.iastore, 1) := by decide +kernel
theorem d_PA_remember_32 : decode c_PA_remember 32 = .ok (.aload_n 0, 1) := by decide +kernel
theorem d_PA_remember_33 : decode c_PA_remember 33 = .ok (.getfield 11, 3) := by decide +kernel
theorem d_PA_remember_36 : decode c_PA_remember 36 = .ok (.iload_n 2, 1) := by decide +kernel
theorem d_PA_remember_37 : decode c_PA_remember 37 = .ok (.iload_n 1, 1) := by decide +kernel
theorem d_PA_remember_38 : decode c_PA_remember 38 = .ok (.iastore, 1) := by decide +kernel
theorem d_PA_remember_39 : decode c_PA_remember 39 = .ok (.return_, 1) := by decide +kernel
theorem d_PA_putLastBits_0 : decode c_PA_putLastBits 0 = .ok (.aload_n 0, 1) := by decide +kernel
theorem d_PA_putLastBits_1 : decode c_PA_putLastBits 1 = .ok (.getfield 69, 3) := by decide +kernel
theorem d_PA_putLastBits_4 : decode c_PA_putLastBits 4 = .ok (.ifCond .le 11, 3) := by decide +kernel
theorem d_PA_putLastBits_7 : decode c_PA_putLastBits 7 = .ok (.aload_n 0, 1) := by decide +kernel
theorem d_PA_putLastBits_8 : decode c_PA_putLastBits 8 = .ok (.aload_n 0, 1) := by decide +kernel
theorem d_PA_putLastBits_9 : decode c_PA_putLastBits 9 = .ok (.getfield 66, 3) := by decide +kernel
theorem d_PA_putLastBits_12 : decode c_PA_putLastBits 12 = .ok (.invokevirtual 29, 3) := by decide +kernel
theorem d_PA_putLastBits_15 : decode c_PA_putLastBits 15 = .ok (.return_, 1) := by decide +kernel
theorem d_PA_putAdler_0 : decode c_PA_putAdler 0 = .ok (.bipush 24, 2) := by decide +kernel
theorem d_PA_putAdler_2 : decode c_PA_putAdler 2 = .ok (.istore_n 2, 1) := by decide +kernel
theorem d_PA_putAdler_3 : decode c_PA_putAdler 3 = .ok (.iload_n 2, 1) := by decide +kernel
theorem d_PA_putAdler_4 : decode c_PA_putAdler 4 = .ok (.ifCond .lt 16, 3) := by decide +kernel
theorem d_PA_putAdler_7 : decode c_PA_putAdler 7 = .ok (.aload_n 0, 1) := by decide +kernel
theorem d_PA_putAdler_8 : decode c_PA_putAdler 8 = .ok (.iload_n 1, 1) := by decide +kernel
theorem d_PA_putAdler_9 : decode c_PA_putAdler 9 = .ok (.iload_n 2, 1) := by decide +kernel
theorem d_PA_putAdler_10 : decode c_PA_putAdler 10 = .ok (.ishr, 1) := by decide +kernel
theorem d_PA_putAdler_11 : decode c_PA_putAdler 11 = .ok (.invokevirtual 29, 3) := by decide +kernel
theorem d_PA_putAdler_14 : decode c_PA_putAdler 14 = .ok (.iinc 2 (-8), 3) := by decide +kernel
theorem d_PA_putAdler_17 : decode c_PA_putAdler 17 = .ok (.goto (-14), 3) := by decide +kernel
theorem d_PA_putAdler_20 : decode c_PA_putAdler 20 = .ok (.return_, 1) := by decide +kernel
theorem d_LW_word_0 : decode c_LW_word 0 = .ok (.aload_n 2, 1) := by decide +kernel
theorem d_LW_word_1 : decode c_LW_word 1 = .ok (.iconst 0, 1) := by decide +kernel
theorem d_LW_word_2 : decode c_LW_word 2 = .ok (.aload_n 0, 1) := by decide +kernel
theorem d_LW_word_3 : decode c_LW_word 3 = .ok (.iload_n 1, 1) := by decide +kernel
theorem d_LW_word_4 : decode c_LW_word 4 = .ok (.invokevirtual 30, 3) := by decide +kernel
theorem d_LW_word_7 : decode c_LW_word 7 = .ok (.lastore, 1) := by decide +kernel
theorem d_LW_word_8 : decode c_LW_word 8 = .ok (.goto 6, 3) := by decide +kernel
theorem d_LW_word_11 : decode c_LW_word 11 = .ok (.astore_n 3, 1) := by decide +kernel
theorem d_LW_word_12 : decode c_LW_word 12 = .ok (.iconst 1, 1) := by decide +kernel
theorem d_LW_word_13 : decode c_LW_word 13 = .ok (.ireturn, 1) := by decide +kernel
theorem d_LW_word_14 : decode c_LW_word 14 = .ok (.iconst 0, 1) := by decide +kernel
theorem d_LW_word_15 : decode c_LW_word 15 = .ok (.ireturn, 1) := by decide +kernel
theorem d_ZB_word_0 : decode c_ZB_word 0 = .ok (.iload_n 1, 1) := by decide +kernel
theorem d_ZB_word_1 : decode c_ZB_word 1 = .ok (.ifCond .lt 11, 3) := by decide +kernel
theorem d_ZB_word_4 : decode c_ZB_word 4 = .ok (.iload_n 1, 1) := by decide +kernel
theorem d_ZB_word_5 : decode c_ZB_word 5 = .ok (.aload_n 0, 1) := by decide +kernel
theorem d_ZB_word_6 : decode c_ZB_word 6 = .ok (.getfield 53, 3) := by decide +kernel
theorem d_ZB_word_9 : decode c_ZB_word 9 = .ok (.if_icmp .lt 13, 3) := by decide +kernel
theorem d_ZB_word_12 : decode c_ZB_word 12 = .ok (.new 37, 3) := by decide +kernel
theorem d_ZB_word_15 : decode c_ZB_word 15 = .ok (.dup, 1) := by decide +kernel
theorem d_ZB_word_16 : decode c_ZB_word 16 = .ok (.ldc 77, 2) := by decide +kernel
theorem d_ZB_word_18 : decode c_ZB_word 18 = .ok (.invokespecial 41, 3) := by decide +kernel
theorem d_ZB_word_21 : decode c_ZB_word 21 = .ok (.athrow, 1) := by decide +kernel
theorem d_ZB_word_22 : decode c_ZB_word 22 = .ok (.lconst 0, 1) := by decide +kernel
theorem d_ZB_word_23 : decode c_ZB_word 23 = .ok (.lstore_n 2, 1) := by decide +kernel
theorem d_ZB_word_24 : decode c_ZB_word 24 = .ok (.iconst 0, 1) := by decide +kernel
theorem d_ZB_word_25 : decode c_ZB_word 25 = .ok (.istore 4, 2) := by decide +kernel
theorem d_ZB_word_27 : decode c_ZB_word 27 = .ok (.iload 4, 2) := by decide +kernel
theorem d_ZB_word_29 : decode c_ZB_word 29 = .ok (.bipush 8, 2) := by decide +kernel
theorem d_ZB_word_31 : decode c_ZB_word 31 = .ok (.if_icmp .ge 48, 3) := by decide +kernel
theorem d_ZB_word_34 : decode c_ZB_word 34 = .ok (.iload 4, 2) := by decide +kernel
theorem d_ZB_word_36 : decode c_ZB_word 36 = .ok (.aload_n 0, 1) := by decide +kernel
theorem d_ZB_word_37 : decode c_ZB_word 37 = .ok (.getfield 53, 3) := by decide +kernel
theorem d_ZB_word_40 : decode c_ZB_word 40 = .ok (.iload_n 1, 1) := by decide +kernel
theorem d_ZB_word_41 : decode c_ZB_word 41 = .ok (.isub, 1) := by decide +kernel
theorem d_ZB_word_42 : decode c_ZB_word 42 = .ok (.if_icmp .ge 19, 3) := by decide +kernel
theorem d_ZB_word_45 : decode c_ZB_word 45 = .ok (.aload_n 0, 1) := by decide +kernel
theorem d_ZB_word_46 : decode c_ZB_word 46 = .ok (.getfield 13, 3) := by decide +kernel
theorem d_ZB_word_49 : decode c_ZB_word 49 = .ok (.iload_n 1, 1) := by decide +kernel
theorem d_ZB_word_50 : decode c_ZB_word 50 = .ok (.iload 4, 2) := by decide +kernel
theorem d_ZB_word_52 : decode c_ZB_word 52 = .ok (.iadd, 1) := by decide +kernel
theorem d_ZB_word_53 : decode c_ZB_word 53 = .ok (.baload, 1) := by decide +kernel
theorem d_ZB_word_54 : decode c_ZB_word 54 = .ok (.sipush 255, 3) := by decide +kernel
theorem d_ZB_word_57 : decode c_ZB_word 57 = .ok (.iand, 1) := by decide +kernel
theorem d_ZB_word_58 : decode c_ZB_word 58 = .ok (.goto 4, 3) := by decide +kernel
theorem d_ZB_word_61 : decode c_ZB_word 61 = .ok (.iconst 0, 1) := by decide +kernel
theorem d_ZB_word_62 : decode c_ZB_word 62 = .ok (.istore 5, 2) := by decide +kernel
theorem d_ZB_word_64 : decode c_ZB_word 64 = .ok (.lload_n 2, 1) := by decide +kernel
theorem d_ZB_word_65 : decode c_ZB_word 65 = .ok (.bipush 8, 2) := by decide +kernel
theorem d_ZB_word_67 : decode c_ZB_word 67 = .ok (.lshl, 1) := by decide +kernel
theorem d_ZB_word_68 : decode c_ZB_word 68 = .ok (.iload 5, 2) := by decide +kernel
theorem d_ZB_word_70 : decode c_ZB_word 70 = .ok (.i2l, 1) := by decide +kernel
theorem d_ZB_word_71 : decode c_ZB_word 71 = .ok (.lor, 1) := by decide +kernel
theorem d_ZB_word_72 : decode c_ZB_word 72 = .ok (.lstore_n 2, 1) := by decide +kernel
theorem d_ZB_word_73 : decode c_ZB_word 73 = .ok (.iinc 4 1, 3) := by decide +kernel
theorem d_ZB_word_76 : decode c_ZB_word 76 = .ok (.goto (-49), 3) := by decide +kernel
theorem d_ZB_word_79 : decode c_ZB_word 79 = .ok (.lload_n 2, 1) := by decide +kernel
theorem d_ZB_word_80 : decode c_ZB_word 80 = .ok (.lreturn, 1) := by decide +kernel
theorem d_LW_count_0 : decode c_LW_count 0 = .ok (.aload_n 2, 1) := by decide +kernel
theorem d_LW_count_1 : decode c_LW_count 1 = .ok (.iconst 0, 1) := by decide +kernel
theorem d_LW_count_2 : decode c_LW_count 2 = .ok (.aload_n 0, 1) := by decide +kernel
theorem d_LW_count_3 : decode c_LW_count 3 = .ok (.iload_n 1, 1) := by decide +kernel
theorem d_LW_count_4 : decode c_LW_count 4 = .ok (.invokevirtual 34, 3) := by decide +kernel
theorem d_LW_count_7 : decode c_LW_count 7 = .ok (.i2l, 1) := by decide +kernel
theorem d_LW_count_8 : decode c_LW_count 8 = .ok (.lastore, 1) := by decide +kernel
theorem d_LW_count_9 : decode c_LW_count 9 = .ok (.goto 6, 3) := by decide +kernel
theorem d_LW_count_12 : decode c_LW_count 12 = .ok (.astore_n 3, 1) := by decide +kernel
theorem d_LW_count_13 : decode c_LW_count 13 = .ok (.iconst 1, 1) := by decide +kernel
theorem d_LW_count_14 : decode c_LW_count 14 = .ok (.ireturn, 1) := by decide +kernel
theorem d_LW_count_15 : decode c_LW_count 15 = .ok (.iconst 0, 1) := by decide +kernel
theorem d_LW_count_16 : decode c_LW_count 16 = .ok (.ireturn, 1) := by decide +kernel
theorem d_ZB_count_0 : decode c_ZB_count 0 = .ok (.iload_n 1, 1) := by decide +kernel
theorem d_ZB_count_1 : decode c_ZB_count 1 = .ok (.ifCond .ne 8, 3) := by decide +kernel
theorem d_ZB_count_4 : decode c_ZB_count 4 = .ok (.aload_n 0, 1) := by decide +kernel
theorem d_ZB_count_5 : decode c_ZB_count 5 = .ok (.getfield 33, 3) := by decide +kernel
theorem d_ZB_count_8 : decode c_ZB_count 8 = .ok (.ireturn, 1) := by decide +kernel
theorem d_ZB_count_9 : decode c_ZB_count 9 = .ok (.iload_n 1, 1) := by decide +kernel
theorem d_ZB_count_10 : decode c_ZB_count 10 = .ok (.iconst 1, 1) := by decide +kernel
theorem d_ZB_count_11 : decode c_ZB_count 11 = .ok (.if_icmp .ne 8, 3) := by decide +kernel
theorem d_ZB_count_14 : decode c_ZB_count 14 = .ok (.aload_n 0, 1) := by decide +kernel
theorem d_ZB_count_15 : decode c_ZB_count 15 = .ok (.getfield 53, 3) := by decide +kernel
theorem d_ZB_count_18 : decode c_ZB_count 18 = .ok (.ireturn, 1) := by decide +kernel
theorem d_ZB_count_19 : decode c_ZB_count 19 = .ok (.new 48, 3) := by decide +kernel
theorem d_ZB_count_22 : decode c_ZB_count 22 = .ok (.dup, 1) := by decide +kernel
theorem d_ZB_count_23 : decode c_ZB_count 23 = .ok (.ldc 79, 2) := by decide +kernel
theorem d_ZB_count_25 : decode c_ZB_count 25 = .ok (.invokespecial 52, 3) := by decide +kernel
theorem d_ZB_count_28 : decode c_ZB_count 28 = .ok (.athrow, 1) := by decide +kernel
theorem d_MO_init_0 : decode c_MO_init 0 = .ok (.aload_n 0, 1) := by decide +kernel
theorem d_MO_init_1 : decode c_MO_init 1 = .ok (.invokespecial 1, 3) := by decide +kernel
theorem d_MO_init_4 : decode c_MO_init 4 = .ok (.aload_n 0, 1) := by decide +kernel
theorem d_MO_init_5 : decode c_MO_init 5 = .ok (.sipush 16384, 3) := by decide +kernel
theorem d_MO_init_8 : decode c_MO_init 8 = .ok (.newarray .byte, 2) := by decide +kernel
theorem d_MO_init_10 : decode c_MO_init 10 = .ok (.putfield 7, 3) := by decide +kernel
theorem d_MO_init_13 : decode c_MO_init 13 = .ok (.aload_n 0, 1) := by decide +kernel
theorem d_MO_init_14 : decode c_MO_init 14 = .ok (.sipush 16384, 3) := by decide +kernel
theorem d_MO_init_17 : decode c_MO_init 17 = .ok (.newarray .byte, 2) := by decide +kernel
theorem d_MO_init_19 : decode c_MO_init 19 = .ok (.putfield 13, 3) := by decide +kernel
theorem d_MO_init_22 : decode c_MO_init 22 = .ok (.aload_n 0, 1) := by decide +kernel
theorem d_MO_init_23 : decode c_MO_init 23 = .ok (.sipush 16384, 3) := by decide +kernel
theorem d_MO_init_26 : decode c_MO_init 26 = .ok (.newarray .byte, 2) := by decide +kernel
theorem d_MO_init_28 : decode c_MO_init 28 = .ok (.putfield 16, 3) := by decide +kernel
theorem d_MO_init_31 : decode c_MO_init 31 = .ok (.aload_n 0, 1) := by decide +kernel
theorem d_MO_init_32 : decode c_MO_init 32 = .ok (.sipush 16640, 3) := by decide +kernel
theorem d_MO_init_35 : decode c_MO_init 35 = .ok (.newarray .byte, 2) := by decide +kernel
theorem d_MO_init_37 : decode c_MO_init 37 = .ok (.putfield 19, 3) := by decide +kernel
theorem d_MO_init_40 : decode c_MO_init 40 = .ok (.aload_n 0, 1) := by decide +kernel
theorem d_MO_init_41 : decode c_MO_init 41 = .ok (.new 22, 3) := by decide +kernel
theorem d_MO_init_44 : decode c_MO_init 44 = .ok (.dup, 1) := by decide +kernel
theorem d_MO_init_45 : decode c_MO_init 45 = .ok (.invokespecial 24, 3) := by decide +kernel
theorem d_MO_init_48 : decode c_MO_init 48 = .ok (.putfield 25, 3) := by decide +kernel
theorem d_MO_init_51 : decode c_MO_init 51 = .ok (.aload_n 0, 1) := by decide +kernel
theorem d_MO_init_52 : decode c_MO_init 52 = .ok (.new 22, 3) := by decide +kernel
theorem d_MO_init_55 : decode c_MO_init 55 = .ok (.dup, 1) := by decide +kernel
theorem d_MO_init_56 : decode c_MO_init 56 = .ok (.invokespecial 24, 3) := by decide +kernel
theorem d_MO_init_59 : decode c_MO_init 59 = .ok (.putfield 29, 3) := by decide +kernel
theorem d_MO_init_62 : decode c_MO_init 62 = .ok (.aload_n 0, 1) := by decide +kernel
theorem d_MO_init_63 : decode c_MO_init 63 = .ok (.new 22, 3) := by decide +kernel
theorem d_MO_init_66 : decode c_MO_init 66 = .ok (.dup, 1) := by decide +kernel
theorem d_MO_init_67 : decode c_MO_init 67 = .ok (.invokespecial 24, 3) := by decide +kernel
theorem d_MO_init_70 : decode c_MO_init 70 = .ok (.putfield 32, 3) := by decide +kernel
theorem d_MO_init_73 : decode c_MO_init 73 = .ok (.aload_n 0, 1) := by decide +kernel
theorem d_MO_init_74 : decode c_MO_init 74 = .ok (.sipush 640, 3) := by decide +kernel
theorem d_MO_init_77 : decode c_MO_init 77 = .ok (.newarray .int, 2) := by decide +kernel
theorem d_MO_init_79 : decode c_MO_init 79 = .ok (.putfield 35, 3) := by decide +kernel
theorem d_MO_init_82 : decode c_MO_init 82 = .ok (.aload_n 0, 1) := by decide +kernel
theorem d_MO_init_83 : decode c_MO_init 83 = .ok (.ldc 39, 2) := by decide +kernel
theorem d_MO_init_85 : decode c_MO_init 85 = .ok (.newarray .byte, 2) := by decide +kernel
theorem d_MO_init_87 : decode c_MO_init 87 = .ok (.putfield 40, 3) := by decide +kernel
theorem d_MO_init_90 : decode c_MO_init 90 = .ok (.aload_n 0, 1) := by decide +kernel
theorem d_MO_init_91 : decode c_MO_init 91 = .ok (.ldc 39, 2) := by decide +kernel
theorem d_MO_init_93 : decode c_MO_init 93 = .ok (.newarray .int, 2) := by decide +kernel
theorem d_MO_init_95 : decode c_MO_init 95 = .ok (.putfield 43, 3) := by decide +kernel
theorem d_MO_init_98 : decode c_MO_init 98 = .ok (.aload_n 0, 1) := by decide +kernel
theorem d_MO_init_99 : decode c_MO_init 99 = .ok (.sipush 16640, 3) := by decide +kernel
theorem d_MO_init_102 : decode c_MO_init 102 = .ok (.newarray .int, 2) := by decide +kernel
theorem d_MO_init_104 : decode c_MO_init 104 = .ok (.putfield 46, 3) := by decide +kernel
theorem d_MO_init_107 : decode c_MO_init 107 = .ok (.return_, 1) := by decide +kernel
theorem d_MC_init_0 : decode c_MC_init 0 = .ok (.aload_n 0, 1) := by decide +kernel
theorem d_MC_init_1 : decode c_MC_init 1 = .ok (.invokespecial 1, 3) := by decide +kernel
theorem d_MC_init_4 : decode c_MC_init 4 = .ok (.aload_n 0, 1) := by decide +kernel
theorem d_MC_init_5 : decode c_MC_init 5 = .ok (.bipush 16, 2) := by decide +kernel
theorem d_MC_init_7 : decode c_MC_init 7 = .ok (.newarray .int, 2) := by decide +kernel
theorem d_MC_init_9 : decode c_MC_init 9 = .ok (.putfield 7, 3) := by decide +kernel
theorem d_MC_init_12 : decode c_MC_init 12 = .ok (.aload_n 0, 1) := by decide +kernel
theorem d_MC_init_13 : decode c_MC_init 13 = .ok (.sipush 320, 3) := by decide +kernel
theorem d_MC_init_16 : decode c_MC_init 16 = .ok (.newarray .int, 2) := by decide +kernel
theorem d_MC_init_18 : decode c_MC_init 18 = .ok (.putfield 13, 3) := by decide +kernel
theorem d_MC_init_21 : decode c_MC_init 21 = .ok (.return_, 1) := by decide +kernel
theorem d_MO_thrown_0 : decode c_MO_thrown 0 = .ok (.aload_n 0, 1) := by decide +kernel
theorem d_MO_thrown_1 : decode c_MO_thrown 1 = .ok (.getfield 49, 3) := by decide +kernel
theorem d_MO_thrown_4 : decode c_MO_thrown 4 = .ok (.ireturn, 1) := by decide +kernel
theorem d_MO_unpack_0 : decode c_MO_unpack 0 = .ok (.aload_n 0, 1) := by decide +kernel
theorem d_MO_unpack_1 : decode c_MO_unpack 1 = .ok (.iconst 0, 1) := by decide +kernel
theorem d_MO_unpack_2 : decode c_MO_unpack 2 = .ok (.putfield 49, 3) := by decide +kernel
theorem d_MO_unpack_5 : decode c_MO_unpack 5 = .ok (.iconst 0, 1) := by decide +kernel
theorem d_MO_unpack_6 : decode c_MO_unpack 6 = .ok (.istore_n 1, 1) := by decide +kernel
theorem d_MO_unpack_7 : decode c_MO_unpack 7 = .ok (.iload_n 1, 1) := by decide +kernel
theorem d_MO_unpack_8 : decode c_MO_unpack 8 = .ok (.aload_n 0, 1) := by decide +kernel
theorem d_MO_unpack_9 : decode c_MO_unpack 9 = .ok (.getfield 165, 3) := by decide +kernel
theorem d_MO_unpack_12 : decode c_MO_unpack 12 = .ok (.if_icmp .ge 21, 3) := by decide +kernel
theorem d_MO_unpack_15 : decode c_MO_unpack 15 = .ok (.aload_n 0, 1) := by decide +kernel
theorem d_MO_unpack_16 : decode c_MO_unpack 16 = .ok (.getfield 16, 3) := by decide +kernel
theorem d_MO_unpack_19 : decode c_MO_unpack 19 = .ok (.iload_n 1, 1) := by decide +kernel
theorem d_MO_unpack_20 : decode c_MO_unpack 20 = .ok (.aload_n 0, 1) := by decide +kernel
theorem d_MO_unpack_21 : decode c_MO_unpack 21 = .ok (.getfield 7, 3) := by decide +kernel
theorem d_MO_unpack_24 : decode c_MO_unpack 24 = .ok (.iload_n 1, 1) := by decide +kernel
theorem d_MO_unpack_25 : decode c_MO_unpack 25 = .ok (.baload, 1) := by decide +kernel
theorem d_MO_unpack_26 : decode c_MO_unpack 26 = .ok (.bastore, 1) := by decide +kernel
theorem d_MO_unpack_27 : decode c_MO_unpack 27 = .ok (.iinc 1 1, 3) := by decide +kernel
theorem d_MO_unpack_30 : decode c_MO_unpack 30 = .ok (.goto (-23), 3) := by decide +kernel
theorem d_MO_unpack_33 : decode c_MO_unpack 33 = .ok (.aload_n 0, 1) := by decide +kernel
theorem d_MO_unpack_34 : decode c_MO_unpack 34 = .ok (.aload_n 0, 1) := by decide +kernel
theorem d_MO_unpack_35 : decode c_MO_unpack 35 = .ok (.getfield 165, 3) := by decide +kernel
theorem d_MO_unpack_38 : decode c_MO_unpack 38 = .ok (.putfield 59, 3) := by decide +kernel
theorem d_MO_unpack_41 : decode c_MO_unpack 41 = .ok (.aload_n 0, 1) := by decide +kernel
theorem d_MO_unpack_42 : decode c_MO_unpack 42 = .ok (.iconst 0, 1) := by decide +kernel
theorem d_MO_unpack_43 : decode c_MO_unpack 43 = .ok (.putfield 165, 3) := by decide +kernel
theorem d_MO_unpack_46 : decode c_MO_unpack 46 = .ok (.aload_n 0, 1) := by decide +kernel
theorem d_MO_unpack_47 : decode c_MO_unpack 47 = .ok (.invokevirtual 168, 3) := by decide +kernel
theorem d_MO_unpack_50 : decode c_MO_unpack 50 = .ok (.goto 17, 3) := by decide +kernel
theorem d_MO_unpack_53 : decode c_MO_unpack 53 = .ok (.astore_n 1, 1) := by decide +kernel
theorem d_MO_unpack_54 : decode c_MO_unpack 54 = .ok (.aload_n 0, 1) := by decide +kernel
theorem d_MO_unpack_55 : decode c_MO_unpack 55 = .ok (.iconst 1, 1) := by decide +kernel
theorem d_MO_unpack_56 : decode c_MO_unpack 56 = .ok (.invokevirtual 171, 3) := by decide +kernel
theorem d_MO_unpack_59 : decode c_MO_unpack 59 = .ok (.ireturn, 1) := by decide +kernel
theorem d_MO_unpack_60 : decode c_MO_unpack 60 = .ok (.astore_n 1, 1) := by decide +kernel
theorem d_MO_unpack_61 : decode c_MO_unpack 61 = .ok (.aload_n 0, 1) := by decide +kernel
theorem d_MO_unpack_62 : decode c_MO_unpack 62 = .ok (.iconst 2, 1) := by decide +kernel
theorem d_MO_unpack_63 : decode c_MO_unpack 63 = .ok (.invokevirtual 171, 3) := by decide +kernel
theorem d_MO_unpack_66 : decode c_MO_unpack 66 = .ok (.ireturn, 1) := by decide +kernel
theorem d_MO_unpack_67 : decode c_MO_unpack 67 = .ok (.aload_n 0, 1) := by decide +kernel
theorem d_MO_unpack_68 : decode c_MO_unpack 68 = .ok (.aload_n 0, 1) := by decide +kernel
theorem d_MO_unpack_69 : decode c_MO_unpack 69 = .ok (.getfield 90, 3) := by decide +kernel
theorem d_MO_unpack_72 : decode c_MO_unpack 72 = .ok (.putfield 174, 3) := by decide +kernel
theorem d_MO_unpack_75 : decode c_MO_unpack 75 = .ok (.iconst 0, 1) := by decide +kernel
theorem d_MO_unpack_76 : decode c_MO_unpack 76 = .ok (.istore_n 1, 1) := by decide +kernel
theorem d_MO_unpack_77 : decode c_MO_unpack 77 = .ok (.iload_n 1, 1) := by decide +kernel
theorem d_MO_unpack_78 : decode c_MO_unpack 78 = .ok (.aload_n 0, 1) := by decide +kernel
theorem d_MO_unpack_79 : decode c_MO_unpack 79 = .ok (.getfield 174, 3) := by decide +kernel
theorem d_MO_unpack_82 : decode c_MO_unpack 82 = .ok (.if_icmp .ge 21, 3) := by decide +kernel
theorem d_MO_unpack_85 : decode c_MO_unpack 85 = .ok (.aload_n 0, 1) := by decide +kernel
theorem d_MO_unpack_86 : decode c_MO_unpack 86 = .ok (.getfield 13, 3) := by decide +kernel
theorem d_MO_unpack_89 : decode c_MO_unpack 89 = .ok (.iload_n 1, 1) := by decide +kernel
theorem d_MO_unpack_90 : decode c_MO_unpack 90 = .ok (.aload_n 0, 1) := by decide +kernel
theorem d_MO_unpack_91 : decode c_MO_unpack 91 = .ok (.getfield 19, 3) := by decide +kernel
theorem d_MO_unpack_94 : decode c_MO_unpack 94 = .ok (.iload_n 1, 1) := by decide +kernel
theorem d_MO_unpack_95 : decode c_MO_unpack 95 = .ok (.baload, 1) := by decide +kernel
theorem d_MO_unpack_96 : decode c_MO_unpack 96 = .ok (.bastore, 1) := by decide +kernel
theorem d_MO_unpack_97 : decode c_MO_unpack 97 = .ok (.iinc 1 1, 3) := by decide +kernel
theorem d_MO_unpack_100 : decode c_MO_unpack 100 = .ok (.goto (-23), 3) := by decide +kernel
theorem d_MO_unpack_103 : decode c_MO_unpack 103 = .ok (.aload_n 0, 1) := by decide +kernel
theorem d_MO_unpack_104 : decode c_MO_unpack 104 = .ok (.getfield 174, 3) := by decide +kernel
theorem d_MO_unpack_107 : decode c_MO_unpack 107 = .ok (.ireturn, 1) := by decide +kernel
theorem d_MO_inflate_0 : decode c_MO_inflate 0 = .ok (.aload_n 0, 1) := by decide +kernel
theorem d_MO_inflate_1 : decode c_MO_inflate 1 = .ok (.aload_n 0, 1) := by decide +kernel
theorem d_MO_inflate_2 : decode c_MO_inflate 2 = .ok (.getfield 59, 3) := by decide +kernel
theorem d_MO_inflate_5 : decode c_MO_inflate 5 = .ok (.iconst 1, 1) := by decide +kernel
theorem d_MO_inflate_6 : decode c_MO_inflate 6 = .ok (.if_icmp .le 7, 3) := by decide +kernel
theorem d_MO_inflate_9 : decode c_MO_inflate 9 = .ok (.iconst 1, 1) := by decide +kernel
theorem d_MO_inflate_10 : decode c_MO_inflate 10 = .ok (.goto 4, 3) := by decide +kernel
theorem d_MO_inflate_13 : decode c_MO_inflate 13 = .ok (.iconst 0, 1) := by decide +kernel
theorem d_MO_inflate_14 : decode c_MO_inflate 14 = .ok (.invokevirtual 62, 3) := by decide +kernel
theorem d_MO_inflate_17 : decode c_MO_inflate 17 = .ok (.aload_n 0, 1) := by decide +kernel
theorem d_MO_inflate_18 : decode c_MO_inflate 18 = .ok (.getfield 16, 3) := by decide +kernel
theorem d_MO_inflate_21 : decode c_MO_inflate 21 = .ok (.iconst 0, 1) := by decide +kernel
theorem d_MO_inflate_22 : decode c_MO_inflate 22 = .ok (.baload, 1) := by decide +kernel
theorem d_MO_inflate_23 : decode c_MO_inflate 23 = .ok (.sipush 255, 3) := by decide +kernel
theorem d_MO_inflate_26 : decode c_MO_inflate 26 = .ok (.iand, 1) := by decide +kernel
theorem d_MO_inflate_27 : decode c_MO_inflate 27 = .ok (.istore_n 1, 1) := by decide +kernel
theorem d_MO_inflate_28 : decode c_MO_inflate 28 = .ok (.aload_n 0, 1) := by decide +kernel
theorem d_MO_inflate_29 : decode c_MO_inflate 29 = .ok (.getfield 16, 3) := by decide +kernel
theorem d_MO_inflate_32 : decode c_MO_inflate 32 = .ok (.iconst 1, 1) := by decide +kernel
theorem d_MO_inflate_33 : decode c_MO_inflate 33 = .ok (.baload, 1) := by decide +kernel
theorem d_MO_inflate_34 : decode c_MO_inflate 34 = .ok (.sipush 255, 3) := by decide +kernel
theorem d_MO_inflate_37 : decode c_MO_inflate 37 = .ok (.iand, 1) := by decide +kernel
theorem d_MO_inflate_38 : decode c_MO_inflate 38 = .ok (.istore_n 2, 1) := by decide +kernel
theorem d_MO_inflate_39 : decode c_MO_inflate 39 = .ok (.aload_n 0, 1) := by decide +kernel
theorem d_MO_inflate_40 : decode c_MO_inflate 40 = .ok (.iload_n 1, 1) := by decide +kernel
theorem d_MO_inflate_41 : decode c_MO_inflate 41 = .ok (.bipush 16, 2) := by decide +kernel
theorem d_MO_inflate_43 : decode c_MO_inflate 43 = .ok (.irem, 1) := by decide +kernel
theorem d_MO_inflate_44 : decode c_MO_inflate 44 = .ok (.bipush 8, 2) := by decide +kernel
theorem d_MO_inflate_46 : decode c_MO_inflate 46 = .ok (.if_icmp .ne 38, 3) := by decide +kernel
theorem d_MO_inflate_49 : decode c_MO_inflate 49 = .ok (.iload_n 1, 1) := by decide +kernel
theorem d_MO_inflate_50 : decode c_MO_inflate 50 = .ok (.bipush 16, 2) := by decide +kernel
theorem d_MO_inflate_52 : decode c_MO_inflate 52 = .ok (.idiv, 1) := by decide +kernel
theorem d_MO_inflate_53 : decode c_MO_inflate 53 = .ok (.bipush 7, 2) := by decide +kernel
theorem d_MO_inflate_55 : decode c_MO_inflate 55 = .ok (.if_icmp .gt 29, 3) := by decide +kernel
theorem d_MO_inflate_58 : decode c_MO_inflate 58 = .ok (.sipush 256, 3) := by decide +kernel
theorem d_MO_inflate_61 : decode c_MO_inflate 61 = .ok (.iload_n 1, 1) := by decide +kernel
theorem d_MO_inflate_62 : decode c_MO_inflate 62 = .ok (.imul, 1) := by decide +kernel
theorem d_MO_inflate_63 : decode c_MO_inflate 63 = .ok (.iload_n 2, 1) := by decide +kernel
theorem d_MO_inflate_64 : decode c_MO_inflate 64 = .ok (.iadd, 1) := by decide +kernel
theorem d_MO_inflate_65 : decode c_MO_inflate 65 = .ok (.bipush 31, 2) := by decide +kernel
theorem d_MO_inflate_67 : decode c_MO_inflate 67 = .ok (.irem, 1) := by decide +kernel
theorem d_MO_inflate_68 : decode c_MO_inflate 68 = .ok (.ifCond .ne 16, 3) := by decide +kernel
theorem d_MO_inflate_71 : decode c_MO_inflate 71 = .ok (.iload_n 2, 1) := by decide +kernel
theorem d_MO_inflate_72 : decode c_MO_inflate 72 = .ok (.bipush 32, 2) := by decide +kernel
theorem d_MO_inflate_74 : decode c_MO_inflate 74 = .ok (.idiv, 1) := by decide +kernel
theorem d_MO_inflate_75 : decode c_MO_inflate 75 = .ok (.iconst 2, 1) := by decide +kernel
theorem d_MO_inflate_76 : decode c_MO_inflate 76 = .ok (.irem, 1) := by decide +kernel
theorem d_MO_inflate_77 : decode c_MO_inflate 77 = .ok (.ifCond .ne 7, 3) := by decide +kernel
theorem d_MO_inflate_80 : decode c_MO_inflate 80 = .ok (.iconst 1, 1) := by decide +kernel
theorem d_MO_inflate_81 : decode c_MO_inflate 81 = .ok (.goto 4, 3) := by decide +kernel
theorem d_MO_inflate_84 : decode c_MO_inflate 84 = .ok (.iconst 0, 1) := by decide +kernel
theorem d_MO_inflate_85 : decode c_MO_inflate 85 = .ok (.invokevirtual 62, 3) := by decide +kernel
theorem d_MO_inflate_88 : decode c_MO_inflate 88 = .ok (.aload_n 0, 1) := by decide +kernel
theorem d_MO_inflate_89 : decode c_MO_inflate 89 = .ok (.bipush 16, 2) := by decide +kernel
theorem d_MO_inflate_91 : decode c_MO_inflate 91 = .ok (.putfield 56, 3) := by decide +kernel
theorem d_MO_inflate_94 : decode c_MO_inflate 94 = .ok (.aload_n 0, 1) := by decide +kernel
theorem d_MO_inflate_95 : decode c_MO_inflate 95 = .ok (.iconst 0, 1) := by decide +kernel
theorem d_MO_inflate_96 : decode c_MO_inflate 96 = .ok (.putfield 90, 3) := by decide +kernel
theorem d_MO_inflate_99 : decode c_MO_inflate 99 = .ok (.iconst 0, 1) := by decide +kernel
theorem d_MO_inflate_100 : decode c_MO_inflate 100 = .ok (.istore_n 3, 1) := by decide +kernel
theorem d_MO_inflate_101 : decode c_MO_inflate 101 = .ok (.iload_n 3, 1) := by decide +kernel
theorem d_MO_inflate_102 : decode c_MO_inflate 102 = .ok (.ifCond .ne 146, 3) := by decide +kernel
theorem d_MO_inflate_105 : decode c_MO_inflate 105 = .ok (.aload_n 0, 1) := by decide +kernel
theorem d_MO_inflate_106 : decode c_MO_inflate 106 = .ok (.iconst 1, 1) := by decide +kernel
theorem d_MO_inflate_107 : decode c_MO_inflate 107 = .ok (.invokevirtual 66, 3) := by decide +kernel
theorem d_MO_inflate_110 : decode c_MO_inflate 110 = .ok (.iconst 1, 1) := by decide +kernel
theorem d_MO_inflate_111 : decode c_MO_inflate 111 = .ok (.if_icmp .ne 7, 3) := by decide +kernel
theorem d_MO_inflate_114 : decode c_MO_inflate 114 = .ok (.iconst 1, 1) := by decide +kernel
theorem d_MO_inflate_115 : decode c_MO_inflate 115 = .ok (.goto 4, 3) := by decide +kernel
theorem d_MO_inflate_118 : decode c_MO_inflate 118 = .ok (.iconst 0, 1) := by decide +kernel
theorem d_MO_inflate_119 : decode c_MO_inflate 119 = .ok (.istore_n 3, 1) := by decide +kernel
theorem d_MO_inflate_120 : decode c_MO_inflate 120 = .ok (.aload_n 0, 1) := by decide +kernel
theorem d_MO_inflate_121 : decode c_MO_inflate 121 = .ok (.iconst 2, 1) := by decide +kernel
theorem d_MO_inflate_122 : decode c_MO_inflate 122 = .ok (.invokevirtual 66, 3) := by decide +kernel
theorem d_MO_inflate_125 : decode c_MO_inflate 125 = .ok (.istore 4, 2) := by decide +kernel
theorem d_MO_inflate_127 : decode c_MO_inflate 127 = .ok (.aload_n 0, 1) := by decide +kernel
theorem d_MO_inflate_128 : decode c_MO_inflate 128 = .ok (.iload 4, 2) := by decide +kernel
theorem d_MO_inflate_130 : decode c_MO_inflate 130 = .ok (.iconst 3, 1) := by decide +kernel
theorem d_MO_inflate_131 : decode c_MO_inflate 131 = .ok (.if_icmp .ge 7, 3) := by decide +kernel
theorem d_MO_inflate_134 : decode c_MO_inflate 134 = .ok (.iconst 1, 1) := by decide +kernel
theorem d_MO_inflate_135 : decode c_MO_inflate 135 = .ok (.goto 4, 3) := by decide +kernel
theorem d_MO_inflate_138 : decode c_MO_inflate 138 = .ok (.iconst 0, 1) := by decide +kernel
theorem d_MO_inflate_139 : decode c_MO_inflate 139 = .ok (.invokevirtual 62, 3) := by decide +kernel
theorem d_MO_inflate_142 : decode c_MO_inflate 142 = .ok (.iload 4, 2) := by decide +kernel
theorem d_MO_inflate_144 : decode c_MO_inflate 144 = .ok (.ifCond .ne 80, 3) := by decide +kernel
theorem d_MO_inflate_147 : decode c_MO_inflate 147 = .ok (.aload_n 0, 1) := by decide +kernel
theorem d_MO_inflate_148 : decode c_MO_inflate 148 = .ok (.aload_n 0, 1) := by decide +kernel
theorem d_MO_inflate_149 : decode c_MO_inflate 149 = .ok (.getfield 56, 3) := by decide +kernel
theorem d_MO_inflate_152 : decode c_MO_inflate 152 = .ok (.bipush 7, 2) := by decide +kernel
theorem d_MO_inflate_154 : decode c_MO_inflate 154 = .ok (.iadd, 1) := by decide +kernel
theorem d_MO_inflate_155 : decode c_MO_inflate 155 = .ok (.bipush 8, 2) := by decide +kernel
theorem d_MO_inflate_157 : decode c_MO_inflate 157 = .ok (.idiv, 1) := by decide +kernel
theorem d_MO_inflate_158 : decode c_MO_inflate 158 = .ok (.bipush 8, 2) := by decide +kernel
theorem d_MO_inflate_160 : decode c_MO_inflate 160 = .ok (.imul, 1) := by decide +kernel
theorem d_MO_inflate_161 : decode c_MO_inflate 161 = .ok (.putfield 56, 3) := by decide +kernel
theorem d_MO_inflate_164 : decode c_MO_inflate 164 = .ok (.aload_n 0, 1) := by decide +kernel
theorem d_MO_inflate_165 : decode c_MO_inflate 165 = .ok (.bipush 16, 2) := by decide +kernel
theorem d_MO_inflate_167 : decode c_MO_inflate 167 = .ok (.invokevirtual 66, 3) := by decide +kernel
theorem d_MO_inflate_170 : decode c_MO_inflate 170 = .ok (.istore 5, 2) := by decide +kernel
theorem d_MO_inflate_172 : decode c_MO_inflate 172 = .ok (.aload_n 0, 1) := by decide +kernel
theorem d_MO_inflate_173 : decode c_MO_inflate 173 = .ok (.aload_n 0, 1) := by decide +kernel
theorem d_MO_inflate_174 : decode c_MO_inflate 174 = .ok (.bipush 16, 2) := by decide +kernel
theorem d_MO_inflate_176 : decode c_MO_inflate 176 = .ok (.invokevirtual 66, 3) := by decide +kernel
theorem d_MO_inflate_179 : decode c_MO_inflate 179 = .ok (.ldc 107, 2) := by decide +kernel
theorem d_MO_inflate_181 : decode c_MO_inflate 181 = .ok (.iload 5, 2) := by decide +kernel
theorem d_MO_inflate_183 : decode c_MO_inflate 183 = .ok (.isub, 1) := by decide +kernel
theorem d_MO_inflate_184 : decode c_MO_inflate 184 = .ok (.if_icmp .ne 7, 3) := by decide +kernel
theorem d_MO_inflate_187 : decode c_MO_inflate 187 = .ok (.iconst 1, 1) := by decide +kernel
theorem d_MO_inflate_188 : decode c_MO_inflate 188 = .ok (.goto 4, 3) := by decide +kernel
theorem d_MO_inflate_191 : decode c_MO_inflate 191 = .ok (.iconst 0, 1) := by decide +kernel
theorem d_MO_inflate_192 : decode c_MO_inflate 192 = .ok (.invokevirtual 62, 3) := by decide +kernel
theorem d_MO_inflate_195 : decode c_MO_inflate 195 = .ok (.iconst 0, 1) := by decide +kernel
theorem d_MO_inflate_196 : decode c_MO_inflate 196 = .ok (.istore 6, 2) := by decide +kernel
theorem d_MO_inflate_198 : decode c_MO_inflate 198 = .ok (.iload 6, 2) := by decide +kernel
theorem d_MO_inflate_200 : decode c_MO_inflate 200 = .ok (.iload 5, 2) := by decide +kernel
theorem d_MO_inflate_202 : decode c_MO_inflate 202 = .ok (.if_icmp .ge 19, 3) := by decide +kernel
theorem d_MO_inflate_205 : decode c_MO_inflate 205 = .ok (.aload_n 0, 1) := by decide +kernel
theorem d_MO_inflate_206 : decode c_MO_inflate 206 = .ok (.aload_n 0, 1) := by decide +kernel
theorem d_MO_inflate_207 : decode c_MO_inflate 207 = .ok (.bipush 8, 2) := by decide +kernel
theorem d_MO_inflate_209 : decode c_MO_inflate 209 = .ok (.invokevirtual 66, 3) := by decide +kernel
theorem d_MO_inflate_212 : decode c_MO_inflate 212 = .ok (.invokevirtual 96, 3) := by decide +kernel
theorem d_MO_inflate_215 : decode c_MO_inflate 215 = .ok (.iinc 6 1, 3) := by decide +kernel
theorem d_MO_inflate_218 : decode c_MO_inflate 218 = .ok (.goto (-20), 3) := by decide +kernel
theorem d_MO_inflate_221 : decode c_MO_inflate 221 = .ok (.goto (-120), 3) := by decide +kernel
theorem d_MO_inflate_224 : decode c_MO_inflate 224 = .ok (.iload 4, 2) := by decide +kernel
theorem d_MO_inflate_226 : decode c_MO_inflate 226 = .ok (.iconst 1, 1) := by decide +kernel
theorem d_MO_inflate_227 : decode c_MO_inflate 227 = .ok (.if_icmp .ne 10, 3) := by decide +kernel
theorem d_MO_inflate_230 : decode c_MO_inflate 230 = .ok (.aload_n 0, 1) := by decide +kernel
theorem d_MO_inflate_231 : decode c_MO_inflate 231 = .ok (.invokevirtual 108, 3) := by decide +kernel
theorem d_MO_inflate_234 : decode c_MO_inflate 234 = .ok (.goto 7, 3) := by decide +kernel
theorem d_MO_inflate_237 : decode c_MO_inflate 237 = .ok (.aload_n 0, 1) := by decide +kernel
theorem d_MO_inflate_238 : decode c_MO_inflate 238 = .ok (.invokevirtual 111, 3) := by decide +kernel
theorem d_MO_inflate_241 : decode c_MO_inflate 241 = .ok (.aload_n 0, 1) := by decide +kernel
theorem d_MO_inflate_242 : decode c_MO_inflate 242 = .ok (.invokevirtual 114, 3) := by decide +kernel
theorem d_MO_inflate_245 : decode c_MO_inflate 245 = .ok (.goto (-144), 3) := by decide +kernel
theorem d_MO_inflate_248 : decode c_MO_inflate 248 = .ok (.aload_n 0, 1) := by decide +kernel
theorem d_MO_inflate_249 : decode c_MO_inflate 249 = .ok (.aload_n 0, 1) := by decide +kernel
theorem d_MO_inflate_250 : decode c_MO_inflate 250 = .ok (.getfield 56, 3) := by decide +kernel
theorem d_MO_inflate_253 : decode c_MO_inflate 253 = .ok (.bipush 7, 2) := by decide +kernel
theorem d_MO_inflate_255 : decode c_MO_inflate 255 = .ok (.iadd, 1) := by decide +kernel
theorem d_MO_inflate_256 : decode c_MO_inflate 256 = .ok (.bipush 8, 2) := by decide +kernel
theorem d_MO_inflate_258 : decode c_MO_inflate 258 = .ok (.idiv, 1) := by decide +kernel
theorem d_MO_inflate_259 : decode c_MO_inflate 259 = .ok (.bipush 8, 2) := by decide +kernel
theorem d_MO_inflate_261 : decode c_MO_inflate 261 = .ok (.imul, 1) := by decide +kernel
theorem d_MO_inflate_262 : decode c_MO_inflate 262 = .ok (.putfield 56, 3) := by decide +kernel
theorem d_MO_inflate_265 : decode c_MO_inflate 265 = .ok (.lconst 0, 1) := by decide +kernel
theorem d_MO_inflate_266 : decode c_MO_inflate 266 = .ok (.lstore 4, 2) := by decide +kernel
theorem d_MO_inflate_268 : decode c_MO_inflate 268 = .ok (.iconst 0, 1) := by decide +kernel
theorem d_MO_inflate_269 : decode c_MO_inflate 269 = .ok (.istore 6, 2) := by decide +kernel
theorem d_MO_inflate_271 : decode c_MO_inflate 271 = .ok (.iload 6, 2) := by decide +kernel
theorem d_MO_inflate_273 : decode c_MO_inflate 273 = .ok (.iconst 4, 1) := by decide +kernel
theorem d_MO_inflate_274 : decode c_MO_inflate 274 = .ok (.if_icmp .ge 25, 3) := by decide +kernel
theorem d_MO_inflate_277 : decode c_MO_inflate 277 = .ok (.lload 4, 2) := by decide +kernel
theorem d_MO_inflate_279 : decode c_MO_inflate 279 = .ok (.ldc2_w 117, 3) := by decide +kernel
theorem d_MO_inflate_282 : decode c_MO_inflate 282 = .ok (.lmul, 1) := by decide +kernel
theorem d_MO_inflate_283 : decode c_MO_inflate 283 = .ok (.aload_n 0, 1) := by decide +kernel
theorem d_MO_inflate_284 : decode c_MO_inflate 284 = .ok (.bipush 8, 2) := by decide +kernel
theorem d_MO_inflate_286 : decode c_MO_inflate 286 = .ok (.invokevirtual 66, 3) := by decide +kernel
theorem d_MO_inflate_289 : decode c_MO_inflate 289 = .ok (.i2l, 1) := by decide +kernel
theorem d_MO_inflate_290 : decode c_MO_inflate 290 = .ok (.ladd, 1) := by decide +kernel
theorem d_MO_inflate_291 : decode c_MO_inflate 291 = .ok (.lstore 4, 2) := by decide +kernel
theorem d_MO_inflate_293 : decode c_MO_inflate 293 = .ok (.iinc 6 1, 3) := by decide +kernel
theorem d_MO_inflate_296 : decode c_MO_inflate 296 = .ok (.goto (-25), 3) := by decide +kernel
theorem d_MO_inflate_299 : decode c_MO_inflate 299 = .ok (.aload_n 0, 1) := by decide +kernel
theorem d_MO_inflate_300 : decode c_MO_inflate 300 = .ok (.lload 4, 2) := by decide +kernel
theorem d_MO_inflate_302 : decode c_MO_inflate 302 = .ok (.aload_n 0, 1) := by decide +kernel
theorem d_MO_inflate_303 : decode c_MO_inflate 303 = .ok (.getfield 19, 3) := by decide +kernel
theorem d_MO_inflate_306 : decode c_MO_inflate 306 = .ok (.aload_n 0, 1) := by decide +kernel
theorem d_MO_inflate_307 : decode c_MO_inflate 307 = .ok (.getfield 90, 3) := by decide +kernel
theorem d_MO_inflate_310 : decode c_MO_inflate 310 = .ok (.invokestatic 119, 3) := by decide +kernel
theorem d_MO_inflate_313 : decode c_MO_inflate 313 = .ok (.lcmp, 1) := by decide +kernel
theorem d_MO_inflate_314 : decode c_MO_inflate 314 = .ok (.ifCond .ne 21, 3) := by decide +kernel
theorem d_MO_inflate_317 : decode c_MO_inflate 317 = .ok (.aload_n 0, 1) := by decide +kernel
theorem d_MO_inflate_318 : decode c_MO_inflate 318 = .ok (.getfield 56, 3) := by decide +kernel
theorem d_MO_inflate_321 : decode c_MO_inflate 321 = .ok (.bipush 8, 2) := by decide +kernel
theorem d_MO_inflate_323 : decode c_MO_inflate 323 = .ok (.aload_n 0, 1) := by decide +kernel
theorem d_MO_inflate_324 : decode c_MO_inflate 324 = .ok (.getfield 59, 3) := by decide +kernel
theorem d_MO_inflate_327 : decode c_MO_inflate 327 = .ok (.imul, 1) := by decide +kernel
theorem d_MO_inflate_328 : decode c_MO_inflate 328 = .ok (.if_icmp .ne 7, 3) := by decide +kernel
theorem d_MO_inflate_331 : decode c_MO_inflate 331 = .ok (.iconst 1, 1) := by decide +kernel
theorem d_MO_inflate_332 : decode c_MO_inflate 332 = .ok (.goto 4, 3) := by decide +kernel
theorem d_MO_inflate_335 : decode c_MO_inflate 335 = .ok (.iconst 0, 1) := by decide +kernel
theorem d_MO_inflate_336 : decode c_MO_inflate 336 = .ok (.invokevirtual 62, 3) := by decide +kernel
theorem d_MO_inflate_339 : decode c_MO_inflate 339 = .ok (.return_, 1) := by decide +kernel
theorem d_MO_can_0 : decode c_MO_can 0 = .ok (.iload_n 1, 1) := by decide +kernel
theorem d_MO_can_1 : decode c_MO_can 1 = .ok (.ifCond .ne 11, 3) := by decide +kernel
theorem d_MO_can_4 : decode c_MO_can 4 = .ok (.new 53, 3) := by decide +kernel
theorem d_MO_can_7 : decode c_MO_can 7 = .ok (.dup, 1) := by decide +kernel
theorem d_MO_can_8 : decode c_MO_can 8 = .ok (.invokespecial 55, 3) := by decide +kernel
theorem d_MO_can_11 : decode c_MO_can 11 = .ok (.athrow, 1) := by decide +kernel
theorem d_MO_can_12 : decode c_MO_can 12 = .ok (.return_, 1) := by decide +kernel
theorem d_MO_bits_0 : decode c_MO_bits 0 = .ok (.iconst 0, 1) := by decide +kernel
theorem d_MO_bits_1 : decode c_MO_bits 1 = .ok (.istore_n 2, 1) := by decide +kernel
theorem d_MO_bits_2 : decode c_MO_bits 2 = .ok (.iconst 0, 1) := by decide +kernel
theorem d_MO_bits_3 : decode c_MO_bits 3 = .ok (.istore_n 3, 1) := by decide +kernel
theorem d_MO_bits_4 : decode c_MO_bits 4 = .ok (.iload_n 3, 1) := by decide +kernel
theorem d_MO_bits_5 : decode c_MO_bits 5 = .ok (.iload_n 1, 1) := by decide +kernel
theorem d_MO_bits_6 : decode c_MO_bits 6 = .ok (.if_icmp .ge 68, 3) := by decide +kernel
theorem d_MO_bits_9 : decode c_MO_bits 9 = .ok (.aload_n 0, 1) := by decide +kernel
theorem d_MO_bits_10 : decode c_MO_bits 10 = .ok (.aload_n 0, 1) := by decide +kernel
theorem d_MO_bits_11 : decode c_MO_bits 11 = .ok (.getfield 56, 3) := by decide +kernel
theorem d_MO_bits_14 : decode c_MO_bits 14 = .ok (.bipush 8, 2) := by decide +kernel
theorem d_MO_bits_16 : decode c_MO_bits 16 = .ok (.aload_n 0, 1) := by decide +kernel
theorem d_MO_bits_17 : decode c_MO_bits 17 = .ok (.getfield 59, 3) := by decide +kernel
theorem d_MO_bits_20 : decode c_MO_bits 20 = .ok (.imul, 1) := by decide +kernel
theorem d_MO_bits_21 : decode c_MO_bits 21 = .ok (.if_icmp .ge 7, 3) := by decide +kernel
theorem d_MO_bits_24 : decode c_MO_bits 24 = .ok (.iconst 1, 1) := by decide +kernel
theorem d_MO_bits_25 : decode c_MO_bits 25 = .ok (.goto 4, 3) := by decide +kernel
theorem d_MO_bits_28 : decode c_MO_bits 28 = .ok (.iconst 0, 1) := by decide +kernel
theorem d_MO_bits_29 : decode c_MO_bits 29 = .ok (.invokevirtual 62, 3) := by decide +kernel
theorem d_MO_bits_32 : decode c_MO_bits 32 = .ok (.iload_n 2, 1) := by decide +kernel
theorem d_MO_bits_33 : decode c_MO_bits 33 = .ok (.aload_n 0, 1) := by decide +kernel
theorem d_MO_bits_34 : decode c_MO_bits 34 = .ok (.getfield 16, 3) := by decide +kernel
theorem d_MO_bits_37 : decode c_MO_bits 37 = .ok (.aload_n 0, 1) := by decide +kernel
theorem d_MO_bits_38 : decode c_MO_bits 38 = .ok (.getfield 56, 3) := by decide +kernel
theorem d_MO_bits_41 : decode c_MO_bits 41 = .ok (.iconst 3, 1) := by decide +kernel
theorem d_MO_bits_42 : decode c_MO_bits 42 = .ok (.ishr, 1) := by decide +kernel
theorem d_MO_bits_43 : decode c_MO_bits 43 = .ok (.baload, 1) := by decide +kernel
theorem d_MO_bits_44 : decode c_MO_bits 44 = .ok (.aload_n 0, 1) := by decide +kernel
theorem d_MO_bits_45 : decode c_MO_bits 45 = .ok (.getfield 56, 3) := by decide +kernel
theorem d_MO_bits_48 : decode c_MO_bits 48 = .ok (.bipush 7, 2) := by decide +kernel
theorem d_MO_bits_50 : decode c_MO_bits 50 = .ok (.iand, 1) := by decide +kernel
theorem d_MO_bits_51 : decode c_MO_bits 51 = .ok (.ishr, 1) := by decide +kernel
theorem d_MO_bits_52 : decode c_MO_bits 52 = .ok (.iconst 1, 1) := by decide +kernel
theorem d_MO_bits_53 : decode c_MO_bits 53 = .ok (.iand, 1) := by decide +kernel
theorem d_MO_bits_54 : decode c_MO_bits 54 = .ok (.iload_n 3, 1) := by decide +kernel
theorem d_MO_bits_55 : decode c_MO_bits 55 = .ok (.ishl, 1) := by decide +kernel
theorem d_MO_bits_56 : decode c_MO_bits 56 = .ok (.ior, 1) := by decide +kernel
theorem d_MO_bits_57 : decode c_MO_bits 57 = .ok (.istore_n 2, 1) := by decide +kernel
theorem d_MO_bits_58 : decode c_MO_bits 58 = .ok (.aload_n 0, 1) := by decide +kernel
theorem d_MO_bits_59 : decode c_MO_bits 59 = .ok (.dup, 1) := by decide +kernel
theorem d_MO_bits_60 : decode c_MO_bits 60 = .ok (.getfield 56, 3) := by decide +kernel
theorem d_MO_bits_63 : decode c_MO_bits 63 = .ok (.iconst 1, 1) := by decide +kernel
theorem d_MO_bits_64 : decode c_MO_bits 64 = .ok (.iadd, 1) := by decide +kernel
theorem d_MO_bits_65 : decode c_MO_bits 65 = .ok (.putfield 56, 3) := by decide +kernel
theorem d_MO_bits_68 : decode c_MO_bits 68 = .ok (.iinc 3 1, 3) := by decide +kernel
theorem d_MO_bits_71 : decode c_MO_bits 71 = .ok (.goto (-67), 3) := by decide +kernel
theorem d_MO_bits_74 : decode c_MO_bits 74 = .ok (.iload_n 2, 1) := by decide +kernel
theorem d_MO_bits_75 : decode c_MO_bits 75 = .ok (.ireturn, 1) := by decide +kernel
theorem d_MO_give_0 : decode c_MO_give 0 = .ok (.aload_n 0, 1) := by decide +kernel
theorem d_MO_give_1 : decode c_MO_give 1 = .ok (.getfield 90, 3) := by decide +kernel
theorem d_MO_give_4 : decode c_MO_give 4 = .ok (.sipush 16384, 3) := by decide +kernel
theorem d_MO_give_7 : decode c_MO_give 7 = .ok (.if_icmp .ne 11, 3) := by decide +kernel
theorem d_MO_give_10 : decode c_MO_give 10 = .ok (.new 93, 3) := by decide +kernel
theorem d_MO_give_13 : decode c_MO_give 13 = .ok (.dup, 1) := by decide +kernel
theorem d_MO_give_14 : decode c_MO_give 14 = .ok (.invokespecial 95, 3) := by decide +kernel
theorem d_MO_give_17 : decode c_MO_give 17 = .ok (.athrow, 1) := by decide +kernel
theorem d_MO_give_18 : decode c_MO_give 18 = .ok (.aload_n 0, 1) := by decide +kernel
theorem d_MO_give_19 : decode c_MO_give 19 = .ok (.getfield 19, 3) := by decide +kernel
theorem d_MO_give_22 : decode c_MO_give 22 = .ok (.aload_n 0, 1) := by decide +kernel
theorem d_MO_give_23 : decode c_MO_give 23 = .ok (.getfield 90, 3) := by decide +kernel
theorem d_MO_give_26 : decode c_MO_give 26 = .ok (.iload_n 1, 1) := by decide +kernel
theorem d_MO_give_27 : decode c_MO_give 27 = .ok (.i2b, 1) := by decide +kernel
theorem d_MO_give_28 : decode c_MO_give 28 = .ok (.bastore, 1) := by decide +kernel
theorem d_MO_give_29 : decode c_MO_give 29 = .ok (.aload_n 0, 1) := by decide +kernel
theorem d_MO_give_30 : decode c_MO_give 30 = .ok (.dup, 1) := by decide +kernel
theorem d_MO_give_31 : decode c_MO_give 31 = .ok (.getfield 90, 3) := by decide +kernel
theorem d_MO_give_34 : decode c_MO_give 34 = .ok (.iconst 1, 1) := by decide +kernel
theorem d_MO_give_35 : decode c_MO_give 35 = .ok (.iadd, 1) := by decide +kernel
theorem d_MO_give_36 : decode c_MO_give 36 = .ok (.putfield 90, 3) := by decide +kernel
theorem d_MO_give_39 : decode c_MO_give 39 = .ok (.return_, 1) := by decide +kernel
theorem d_MO_fixedCodes_0 : decode c_MO_fixedCodes 0 = .ok (.iconst 0, 1) := by decide +kernel
theorem d_MO_fixedCodes_1 : decode c_MO_fixedCodes 1 = .ok (.istore_n 1, 1) := by decide +kernel
theorem d_MO_fixedCodes_2 : decode c_MO_fixedCodes 2 = .ok (.iload_n 1, 1) := by decide +kernel
theorem d_MO_fixedCodes_3 : decode c_MO_fixedCodes 3 = .ok (.sipush 288, 3) := by decide +kernel
theorem d_MO_fixedCodes_6 : decode c_MO_fixedCodes 6 = .ok (.if_icmp .ge 53, 3) := by decide +kernel
theorem d_MO_fixedCodes_9 : decode c_MO_fixedCodes 9 = .ok (.aload_n 0, 1) := by decide +kernel
theorem d_MO_fixedCodes_10 : decode c_MO_fixedCodes 10 = .ok (.getfield 35, 3) := by decide +kernel
theorem d_MO_fixedCodes_13 : decode c_MO_fixedCodes 13 = .ok (.iload_n 1, 1) := by decide +kernel
theorem d_MO_fixedCodes_14 : decode c_MO_fixedCodes 14 = .ok (.iload_n 1, 1) := by decide +kernel
theorem d_MO_fixedCodes_15 : decode c_MO_fixedCodes 15 = .ok (.sipush 144, 3) := by decide +kernel
theorem d_MO_fixedCodes_18 : decode c_MO_fixedCodes 18 = .ok (.if_icmp .ge 8, 3) := by decide +kernel
theorem d_MO_fixedCodes_21 : decode c_MO_fixedCodes 21 = .ok (.bipush 8, 2) := by decide +kernel
theorem d_MO_fixedCodes_23 : decode c_MO_fixedCodes 23 = .ok (.goto 29, 3) := by decide +kernel
theorem d_MO_fixedCodes_26 : decode c_MO_fixedCodes 26 = .ok (.iload_n 1, 1) := by decide +kernel
theorem d_MO_fixedCodes_27 : decode c_MO_fixedCodes 27 = .ok (.sipush 256, 3) := by decide +kernel
theorem d_MO_fixedCodes_30 : decode c_MO_fixedCodes 30 = .ok (.if_icmp .ge 8, 3) := by decide +kernel
theorem d_MO_fixedCodes_33 : decode c_MO_fixedCodes 33 = .ok (.bipush 9, 2) := by decide +kernel
theorem d_MO_fixedCodes_35 : decode c_MO_fixedCodes 35 = .ok (.goto 17, 3) := by decide +kernel
theorem d_MO_fixedCodes_38 : decode c_MO_fixedCodes 38 = .ok (.iload_n 1, 1) := by decide +kernel
theorem d_MO_fixedCodes_39 : decode c_MO_fixedCodes 39 = .ok (.sipush 280, 3) := by decide +kernel
theorem d_MO_fixedCodes_42 : decode c_MO_fixedCodes 42 = .ok (.if_icmp .ge 8, 3) := by decide +kernel
theorem d_MO_fixedCodes_45 : decode c_MO_fixedCodes 45 = .ok (.bipush 7, 2) := by decide +kernel
theorem d_MO_fixedCodes_47 : decode c_MO_fixedCodes 47 = .ok (.goto 5, 3) := by decide +kernel
theorem d_MO_fixedCodes_50 : decode c_MO_fixedCodes 50 = .ok (.bipush 8, 2) := by decide +kernel
theorem d_MO_fixedCodes_52 : decode c_MO_fixedCodes 52 = .ok (.iastore, 1) := by decide +kernel
theorem d_MO_fixedCodes_53 : decode c_MO_fixedCodes 53 = .ok (.iinc 1 1, 3) := by decide +kernel
theorem d_MO_fixedCodes_56 : decode c_MO_fixedCodes 56 = .ok (.goto (-54), 3) := by decide +kernel
theorem d_MO_fixedCodes_59 : decode c_MO_fixedCodes 59 = .ok (.aload_n 0, 1) := by decide +kernel
theorem d_MO_fixedCodes_60 : decode c_MO_fixedCodes 60 = .ok (.getfield 25, 3) := by decide +kernel
theorem d_MO_fixedCodes_63 : decode c_MO_fixedCodes 63 = .ok (.aload_n 0, 1) := by decide +kernel
theorem d_MO_fixedCodes_64 : decode c_MO_fixedCodes 64 = .ok (.getfield 35, 3) := by decide +kernel
theorem d_MO_fixedCodes_67 : decode c_MO_fixedCodes 67 = .ok (.iconst 0, 1) := by decide +kernel
theorem d_MO_fixedCodes_68 : decode c_MO_fixedCodes 68 = .ok (.sipush 288, 3) := by decide +kernel
theorem d_MO_fixedCodes_71 : decode c_MO_fixedCodes 71 = .ok (.invokevirtual 76, 3) := by decide +kernel
theorem d_MO_fixedCodes_74 : decode c_MO_fixedCodes 74 = .ok (.istore_n 1, 1) := by decide +kernel
theorem d_MO_fixedCodes_75 : decode c_MO_fixedCodes 75 = .ok (.iconst 0, 1) := by decide +kernel
theorem d_MO_fixedCodes_76 : decode c_MO_fixedCodes 76 = .ok (.istore_n 2, 1) := by decide +kernel
theorem d_MO_fixedCodes_77 : decode c_MO_fixedCodes 77 = .ok (.iload_n 2, 1) := by decide +kernel
theorem d_MO_fixedCodes_78 : decode c_MO_fixedCodes 78 = .ok (.bipush 32, 2) := by decide +kernel
theorem d_MO_fixedCodes_80 : decode c_MO_fixedCodes 80 = .ok (.if_icmp .ge 16, 3) := by decide +kernel
theorem d_MO_fixedCodes_83 : decode c_MO_fixedCodes 83 = .ok (.aload_n 0, 1) := by decide +kernel
theorem d_MO_fixedCodes_84 : decode c_MO_fixedCodes 84 = .ok (.getfield 35, 3) := by decide +kernel
theorem d_MO_fixedCodes_87 : decode c_MO_fixedCodes 87 = .ok (.iload_n 2, 1) := by decide +kernel
theorem d_MO_fixedCodes_88 : decode c_MO_fixedCodes 88 = .ok (.iconst 5, 1) := by decide +kernel
theorem d_MO_fixedCodes_89 : decode c_MO_fixedCodes 89 = .ok (.iastore, 1) := by decide +kernel
theorem d_MO_fixedCodes_90 : decode c_MO_fixedCodes 90 = .ok (.iinc 2 1, 3) := by decide +kernel
theorem d_MO_fixedCodes_93 : decode c_MO_fixedCodes 93 = .ok (.goto (-16), 3) := by decide +kernel
theorem d_MO_fixedCodes_96 : decode c_MO_fixedCodes 96 = .ok (.aload_n 0, 1) := by decide +kernel
theorem d_MO_fixedCodes_97 : decode c_MO_fixedCodes 97 = .ok (.getfield 29, 3) := by decide +kernel
theorem d_MO_fixedCodes_100 : decode c_MO_fixedCodes 100 = .ok (.aload_n 0, 1) := by decide +kernel
theorem d_MO_fixedCodes_101 : decode c_MO_fixedCodes 101 = .ok (.getfield 35, 3) := by decide +kernel
theorem d_MO_fixedCodes_104 : decode c_MO_fixedCodes 104 = .ok (.iconst 0, 1) := by decide +kernel
theorem d_MO_fixedCodes_105 : decode c_MO_fixedCodes 105 = .ok (.bipush 32, 2) := by decide +kernel
theorem d_MO_fixedCodes_107 : decode c_MO_fixedCodes 107 = .ok (.invokevirtual 76, 3) := by decide +kernel
theorem d_MO_fixedCodes_110 : decode c_MO_fixedCodes 110 = .ok (.istore_n 1, 1) := by decide +kernel
theorem d_MO_fixedCodes_111 : decode c_MO_fixedCodes 111 = .ok (.return_, 1) := by decide +kernel
end
section
/-! rows that decode: printed by wip/whole/znames.py -/
theorem d_MC_make_0 : decode c_MC_make 0 = .ok (.iconst 0, 1) := by decide +kernel
theorem d_MC_make_1 : decode c_MC_make 1 = .ok (.istore 4, 2) := by decide +kernel
theorem d_MC_make_3 : decode c_MC_make 3 = .ok (.iload 4, 2) := by decide +kernel
theorem d_MC_make_5 : decode c_MC_make 5 = .ok (.bipush 16, 2) := by decide +kernel
theorem d_MC_make_7 : decode c_MC_make 7 = .ok (.if_icmp .ge 17, 3) := by decide +kernel
theorem d_MC_make_10 : decode c_MC_make 10 = .ok (.aload_n 0, 1) := by decide +kernel
theorem d_MC_make_11 : decode c_MC_make 11 = .ok (.getfield 7, 3) := by decide +kernel
theorem d_MC_make_14 : decode c_MC_make 14 = .ok (.iload 4, 2) := by decide +kernel
theorem d_MC_make_16 : decode c_MC_make 16 = .ok (.iconst 0, 1) := by decide +kernel
theorem d_MC_make_17 : decode c_MC_make 17 = .ok (.iastore, 1) := by decide +kernel
theorem d_MC_make_18 : decode c_MC_make 18 = .ok (.iinc 4 1, 3) := by decide +kernel
theorem d_MC_make_21 : decode c_MC_make 21 = .ok (.goto (-18), 3) := by decide +kernel
theorem d_MC_make_24 : decode c_MC_make 24 = .ok (.aload_n 0, 1) := by decide +kernel
theorem d_MC_make_25 : decode c_MC_make 25 = .ok (.iconst 0, 1) := by decide +kernel
theorem d_MC_make_26 : decode c_MC_make 26 = .ok (.putfield 16, 3) := by decide +kernel
theorem d_MC_make_29 : decode c_MC_make 29 = .ok (.iconst 1, 1) := by decide +kernel
theorem d_MC_make_30 : decode c_MC_make 30 = .ok (.istore 4, 2) := by decide +kernel
theorem d_MC_make_32 : decode c_MC_make 32 = .ok (.iload 4, 2) := by decide +kernel
theorem d_MC_make_34 : decode c_MC_make 34 = .ok (.bipush 16, 2) := by decide +kernel
theorem d_MC_make_36 : decode c_MC_make 36 = .ok (.if_icmp .ge 70, 3) := by decide +kernel
theorem d_MC_make_39 : decode c_MC_make 39 = .ok (.iconst 0, 1) := by decide +kernel
theorem d_MC_make_40 : decode c_MC_make 40 = .ok (.istore 5, 2) := by decide +kernel
theorem d_MC_make_42 : decode c_MC_make 42 = .ok (.iload 5, 2) := by decide +kernel
theorem d_MC_make_44 : decode c_MC_make 44 = .ok (.iload_n 3, 1) := by decide +kernel
theorem d_MC_make_45 : decode c_MC_make 45 = .ok (.if_icmp .ge 55, 3) := by decide +kernel
theorem d_MC_make_48 : decode c_MC_make 48 = .ok (.aload_n 1, 1) := by decide +kernel
theorem d_MC_make_49 : decode c_MC_make 49 = .ok (.iload_n 2, 1) := by decide +kernel
theorem d_MC_make_50 : decode c_MC_make 50 = .ok (.iload 5, 2) := by decide +kernel
theorem d_MC_make_52 : decode c_MC_make 52 = .ok (.iadd, 1) := by decide +kernel
theorem d_MC_make_53 : decode c_MC_make 53 = .ok (.iaload, 1) := by decide +kernel
theorem d_MC_make_54 : decode c_MC_make 54 = .ok (.iload 4, 2) := by decide +kernel
theorem d_MC_make_56 : decode c_MC_make 56 = .ok (.if_icmp .eq 6, 3) := by decide +kernel
theorem d_MC_make_59 : decode c_MC_make 59 = .ok (.goto 35, 3) := by decide +kernel
theorem d_MC_make_62 : decode c_MC_make 62 = .ok (.aload_n 0, 1) := by decide +kernel
theorem d_MC_make_63 : decode c_MC_make 63 = .ok (.getfield 7, 3) := by decide +kernel
theorem d_MC_make_66 : decode c_MC_make 66 = .ok (.iload 4, 2) := by decide +kernel
theorem d_MC_make_68 : decode c_MC_make 68 = .ok (.dup2, 1) := by decide +kernel
theorem d_MC_make_69 : decode c_MC_make 69 = .ok (.iaload, 1) := by decide +kernel
theorem d_MC_make_70 : decode c_MC_make 70 = .ok (.iconst 1, 1) := by decide +kernel
theorem d_MC_make_71 : decode c_MC_make 71 = .ok (.iadd, 1) := by decide +kernel
theorem d_MC_make_72 : decode c_MC_make 72 = .ok (.iastore, 1) := by decide +kernel
theorem d_MC_make_73 : decode c_MC_make 73 = .ok (.aload_n 0, 1) := by decide +kernel
theorem d_MC_make_74 : decode c_MC_make 74 = .ok (.getfield 13, 3) := by decide +kernel
theorem d_MC_make_77 : decode c_MC_make 77 = .ok (.aload_n 0, 1) := by decide +kernel
theorem d_MC_make_78 : decode c_MC_make 78 = .ok (.getfield 16, 3) := by decide +kernel
theorem d_MC_make_81 : decode c_MC_make 81 = .ok (.iload 5, 2) := by decide +kernel
theorem d_MC_make_83 : decode c_MC_make 83 = .ok (.iastore, 1) := by decide +kernel
theorem d_MC_make_84 : decode c_MC_make 84 = .ok (.aload_n 0, 1) := by decide +kernel
theorem d_MC_make_85 : decode c_MC_make 85 = .ok (.dup, 1) := by decide +kernel
theorem d_MC_make_86 : decode c_MC_make 86 = .ok (.getfield 16, 3) := by decide +kernel
theorem d_MC_make_89 : decode c_MC_make 89 = .ok (.iconst 1, 1) := by decide +kernel
theorem d_MC_make_90 : decode c_MC_make 90 = .ok (.iadd, 1) := by decide +kernel
theorem d_MC_make_91 : decode c_MC_make 91 = .ok (.putfield 16, 3) := by decide +kernel
theorem d_MC_make_94 : decode c_MC_make 94 = .ok (.iinc 5 1, 3) := by decide +kernel
theorem d_MC_make_97 : decode c_MC_make 97 = .ok (.goto (-55), 3) := by decide +kernel
theorem d_MC_make_100 : decode c_MC_make 100 = .ok (.iinc 4 1, 3) := by decide +kernel
theorem d_MC_make_103 : decode c_MC_make 103 = .ok (.goto (-71), 3) := by decide +kernel
theorem d_MC_make_106 : decode c_MC_make 106 = .ok (.ldc 20, 2) := by decide +kernel
theorem d_MC_make_108 : decode c_MC_make 108 = .ok (.istore 4, 2) := by decide +kernel
theorem d_MC_make_110 : decode c_MC_make 110 = .ok (.iconst 1, 1) := by decide +kernel
theorem d_MC_make_111 : decode c_MC_make 111 = .ok (.istore 5, 2) := by decide +kernel
theorem d_MC_make_113 : decode c_MC_make 113 = .ok (.iload 5, 2) := by decide +kernel
theorem d_MC_make_115 : decode c_MC_make 115 = .ok (.bipush 16, 2) := by decide +kernel
theorem d_MC_make_117 : decode c_MC_make 117 = .ok (.if_icmp .ge 27, 3) := by decide +kernel
theorem d_MC_make_120 : decode c_MC_make 120 = .ok (.iload 4, 2) := by decide +kernel
theorem d_MC_make_122 : decode c_MC_make 122 = .ok (.aload_n 0, 1) := by decide +kernel
theorem d_MC_make_123 : decode c_MC_make 123 = .ok (.getfield 7, 3) := by decide +kernel
theorem d_MC_make_126 : decode c_MC_make 126 = .ok (.iload 5, 2) := by decide +kernel
theorem d_MC_make_128 : decode c_MC_make 128 = .ok (.iaload, 1) := by decide +kernel
theorem d_MC_make_129 : decode c_MC_make 129 = .ok (.bipush 15, 2) := by decide +kernel
theorem d_MC_make_131 : decode c_MC_make 131 = .ok (.iload 5, 2) := by decide +kernel
theorem d_MC_make_133 : decode c_MC_make 133 = .ok (.isub, 1) := by decide +kernel
theorem d_MC_make_134 : decode c_MC_make 134 = .ok (.ishl, 1) := by decide +kernel
theorem d_MC_make_135 : decode c_MC_make 135 = .ok (.isub, 1) := by decide +kernel
theorem d_MC_make_136 : decode c_MC_make 136 = .ok (.istore 4, 2) := by decide +kernel
theorem d_MC_make_138 : decode c_MC_make 138 = .ok (.iinc 5 1, 3) := by decide +kernel
theorem d_MC_make_141 : decode c_MC_make 141 = .ok (.goto (-28), 3) := by decide +kernel
theorem d_MC_make_144 : decode c_MC_make 144 = .ok (.iload 4, 2) := by decide +kernel
theorem d_MC_make_146 : decode c_MC_make 146 = .ok (.ireturn, 1) := by decide +kernel
theorem d_MO_toldCodes_0 : decode c_MO_toldCodes 0 = .ok (.aload_n 0, 1) := by decide +kernel
theorem d_MO_toldCodes_1 : decode c_MO_toldCodes 1 = .ok (.iconst 5, 1) := by decide +kernel
theorem d_MO_toldCodes_2 : decode c_MO_toldCodes 2 = .ok (.invokevirtual 66, 3) := by decide +kernel
theorem d_MO_toldCodes_5 : decode c_MO_toldCodes 5 = .ok (.sipush 257, 3) := by decide +kernel
theorem d_MO_toldCodes_8 : decode c_MO_toldCodes 8 = .ok (.iadd, 1) := by decide +kernel
theorem d_MO_toldCodes_9 : decode c_MO_toldCodes 9 = .ok (.istore_n 1, 1) := by decide +kernel
theorem d_MO_toldCodes_10 : decode c_MO_toldCodes 10 = .ok (.aload_n 0, 1) := by decide +kernel
theorem d_MO_toldCodes_11 : decode c_MO_toldCodes 11 = .ok (.iconst 5, 1) := by decide +kernel
theorem d_MO_toldCodes_12 : decode c_MO_toldCodes 12 = .ok (.invokevirtual 66, 3) := by decide +kernel
theorem d_MO_toldCodes_15 : decode c_MO_toldCodes 15 = .ok (.iconst 1, 1) := by decide +kernel
theorem d_MO_toldCodes_16 : decode c_MO_toldCodes 16 = .ok (.iadd, 1) := by decide +kernel
theorem d_MO_toldCodes_17 : decode c_MO_toldCodes 17 = .ok (.istore_n 2, 1) := by decide +kernel
theorem d_MO_toldCodes_18 : decode c_MO_toldCodes 18 = .ok (.aload_n 0, 1) := by decide +kernel
theorem d_MO_toldCodes_19 : decode c_MO_toldCodes 19 = .ok (.iconst 4, 1) := by decide +kernel
theorem d_MO_toldCodes_20 : decode c_MO_toldCodes 20 = .ok (.invokevirtual 66, 3) := by decide +kernel
theorem d_MO_toldCodes_23 : decode c_MO_toldCodes 23 = .ok (.iconst 4, 1) := by decide +kernel
theorem d_MO_toldCodes_24 : decode c_MO_toldCodes 24 = .ok (.iadd, 1) := by decide +kernel
theorem d_MO_toldCodes_25 : decode c_MO_toldCodes 25 = .ok (.istore_n 3, 1) := by decide +kernel
theorem d_MO_toldCodes_26 : decode c_MO_toldCodes 26 = .ok (.aload_n 0, 1) := by decide +kernel
theorem d_MO_toldCodes_27 : decode c_MO_toldCodes 27 = .ok (.iload_n 1, 1) := by decide +kernel
theorem d_MO_toldCodes_28 : decode c_MO_toldCodes 28 = .ok (.sipush 286, 3) := by decide +kernel
theorem d_MO_toldCodes_31 : decode c_MO_toldCodes 31 = .ok (.if_icmp .gt 13, 3) := by decide +kernel
theorem d_MO_toldCodes_34 : decode c_MO_toldCodes 34 = .ok (.iload_n 2, 1) := by decide +kernel
theorem d_MO_toldCodes_35 : decode c_MO_toldCodes 35 = .ok (.bipush 30, 2) := by decide +kernel
theorem d_MO_toldCodes_37 : decode c_MO_toldCodes 37 = .ok (.if_icmp .gt 7, 3) := by decide +kernel
theorem d_MO_toldCodes_40 : decode c_MO_toldCodes 40 = .ok (.iconst 1, 1) := by decide +kernel
theorem d_MO_toldCodes_41 : decode c_MO_toldCodes 41 = .ok (.goto 4, 3) := by decide +kernel
theorem d_MO_toldCodes_44 : decode c_MO_toldCodes 44 = .ok (.iconst 0, 1) := by decide +kernel
theorem d_MO_toldCodes_45 : decode c_MO_toldCodes 45 = .ok (.invokevirtual 62, 3) := by decide +kernel
theorem d_MO_toldCodes_48 : decode c_MO_toldCodes 48 = .ok (.iconst 0, 1) := by decide +kernel
theorem d_MO_toldCodes_49 : decode c_MO_toldCodes 49 = .ok (.istore 4, 2) := by decide +kernel
theorem d_MO_toldCodes_51 : decode c_MO_toldCodes 51 = .ok (.iload 4, 2) := by decide +kernel
theorem d_MO_toldCodes_53 : decode c_MO_toldCodes 53 = .ok (.bipush 19, 2) := by decide +kernel
theorem d_MO_toldCodes_55 : decode c_MO_toldCodes 55 = .ok (.if_icmp .ge 17, 3) := by decide +kernel
theorem d_MO_toldCodes_58 : decode c_MO_toldCodes 58 = .ok (.aload_n 0, 1) := by decide +kernel
theorem d_MO_toldCodes_59 : decode c_MO_toldCodes 59 = .ok (.getfield 35, 3) := by decide +kernel
theorem d_MO_toldCodes_62 : decode c_MO_toldCodes 62 = .ok (.iload 4, 2) := by decide +kernel
theorem d_MO_toldCodes_64 : decode c_MO_toldCodes 64 = .ok (.iconst 0, 1) := by decide +kernel
theorem d_MO_toldCodes_65 : decode c_MO_toldCodes 65 = .ok (.iastore, 1) := by decide +kernel
theorem d_MO_toldCodes_66 : decode c_MO_toldCodes 66 = .ok (.iinc 4 1, 3) := by decide +kernel
theorem d_MO_toldCodes_69 : decode c_MO_toldCodes 69 = .ok (.goto (-18), 3) := by decide +kernel
theorem d_MO_toldCodes_72 : decode c_MO_toldCodes 72 = .ok (.iconst 0, 1) := by decide +kernel
theorem d_MO_toldCodes_73 : decode c_MO_toldCodes 73 = .ok (.istore 4, 2) := by decide +kernel
theorem d_MO_toldCodes_75 : decode c_MO_toldCodes 75 = .ok (.iload 4, 2) := by decide +kernel
theorem d_MO_toldCodes_77 : decode c_MO_toldCodes 77 = .ok (.iload_n 3, 1) := by decide +kernel
theorem d_MO_toldCodes_78 : decode c_MO_toldCodes 78 = .ok (.if_icmp .ge 25, 3) := by decide +kernel
theorem d_MO_toldCodes_81 : decode c_MO_toldCodes 81 = .ok (.aload_n 0, 1) := by decide +kernel
theorem d_MO_toldCodes_82 : decode c_MO_toldCodes 82 = .ok (.getfield 35, 3) := by decide +kernel
theorem d_MO_toldCodes_85 : decode c_MO_toldCodes 85 = .ok (.getstatic 80, 3) := by decide +kernel
theorem d_MO_toldCodes_88 : decode c_MO_toldCodes 88 = .ok (.iload 4, 2) := by decide +kernel
theorem d_MO_toldCodes_90 : decode c_MO_toldCodes 90 = .ok (.iaload, 1) := by decide +kernel
theorem d_MO_toldCodes_91 : decode c_MO_toldCodes 91 = .ok (.aload_n 0, 1) := by decide +kernel
theorem d_MO_toldCodes_92 : decode c_MO_toldCodes 92 = .ok (.iconst 3, 1) := by decide +kernel
theorem d_MO_toldCodes_93 : decode c_MO_toldCodes 93 = .ok (.invokevirtual 66, 3) := by decide +kernel
theorem d_MO_toldCodes_96 : decode c_MO_toldCodes 96 = .ok (.iastore, 1) := by decide +kernel
theorem d_MO_toldCodes_97 : decode c_MO_toldCodes 97 = .ok (.iinc 4 1, 3) := by decide +kernel
theorem d_MO_toldCodes_100 : decode c_MO_toldCodes 100 = .ok (.goto (-25), 3) := by decide +kernel
theorem d_MO_toldCodes_103 : decode c_MO_toldCodes 103 = .ok (.aload_n 0, 1) := by decide +kernel
theorem d_MO_toldCodes_104 : decode c_MO_toldCodes 104 = .ok (.aload_n 0, 1) := by decide +kernel
theorem d_MO_toldCodes_105 : decode c_MO_toldCodes 105 = .ok (.getfield 32, 3) := by decide +kernel
theorem d_MO_toldCodes_108 : decode c_MO_toldCodes 108 = .ok (.aload_n 0, 1) := by decide +kernel
theorem d_MO_toldCodes_109 : decode c_MO_toldCodes 109 = .ok (.getfield 35, 3) := by decide +kernel
theorem d_MO_toldCodes_112 : decode c_MO_toldCodes 112 = .ok (.iconst 0, 1) := by decide +kernel
theorem d_MO_toldCodes_113 : decode c_MO_toldCodes 113 = .ok (.bipush 19, 2) := by decide +kernel
theorem d_MO_toldCodes_115 : decode c_MO_toldCodes 115 = .ok (.invokevirtual 76, 3) := by decide +kernel
theorem d_MO_toldCodes_118 : decode c_MO_toldCodes 118 = .ok (.ifCond .ne 7, 3) := by decide +kernel
theorem d_MO_toldCodes_121 : decode c_MO_toldCodes 121 = .ok (.iconst 1, 1) := by decide +kernel
theorem d_MO_toldCodes_122 : decode c_MO_toldCodes 122 = .ok (.goto 4, 3) := by decide +kernel
theorem d_MO_toldCodes_125 : decode c_MO_toldCodes 125 = .ok (.iconst 0, 1) := by decide +kernel
theorem d_MO_toldCodes_126 : decode c_MO_toldCodes 126 = .ok (.invokevirtual 62, 3) := by decide +kernel
theorem d_MO_toldCodes_129 : decode c_MO_toldCodes 129 = .ok (.iconst 0, 1) := by decide +kernel
theorem d_MO_toldCodes_130 : decode c_MO_toldCodes 130 = .ok (.istore 4, 2) := by decide +kernel
theorem d_MO_toldCodes_132 : decode c_MO_toldCodes 132 = .ok (.iload 4, 2) := by decide +kernel
theorem d_MO_toldCodes_134 : decode c_MO_toldCodes 134 = .ok (.iload_n 1, 1) := by decide +kernel
theorem d_MO_toldCodes_135 : decode c_MO_toldCodes 135 = .ok (.iload_n 2, 1) := by decide +kernel
theorem d_MO_toldCodes_136 : decode c_MO_toldCodes 136 = .ok (.iadd, 1) := by decide +kernel
theorem d_MO_toldCodes_137 : decode c_MO_toldCodes 137 = .ok (.if_icmp .ge 174, 3) := by decide +kernel
theorem d_MO_toldCodes_140 : decode c_MO_toldCodes 140 = .ok (.aload_n 0, 1) := by decide +kernel
theorem d_MO_toldCodes_141 : decode c_MO_toldCodes 141 = .ok (.aload_n 0, 1) := by decide +kernel
theorem d_MO_toldCodes_142 : decode c_MO_toldCodes 142 = .ok (.getfield 32, 3) := by decide +kernel
theorem d_MO_toldCodes_145 : decode c_MO_toldCodes 145 = .ok (.invokevirtual 83, 3) := by decide +kernel
theorem d_MO_toldCodes_148 : decode c_MO_toldCodes 148 = .ok (.istore 5, 2) := by decide +kernel
theorem d_MO_toldCodes_150 : decode c_MO_toldCodes 150 = .ok (.iload 5, 2) := by decide +kernel
theorem d_MO_toldCodes_152 : decode c_MO_toldCodes 152 = .ok (.bipush 16, 2) := by decide +kernel
theorem d_MO_toldCodes_154 : decode c_MO_toldCodes 154 = .ok (.if_icmp .ge 18, 3) := by decide +kernel
theorem d_MO_toldCodes_157 : decode c_MO_toldCodes 157 = .ok (.aload_n 0, 1) := by decide +kernel
theorem d_MO_toldCodes_158 : decode c_MO_toldCodes 158 = .ok (.getfield 35, 3) := by decide +kernel
theorem d_MO_toldCodes_161 : decode c_MO_toldCodes 161 = .ok (.iload 4, 2) := by decide +kernel
theorem d_MO_toldCodes_163 : decode c_MO_toldCodes 163 = .ok (.iload 5, 2) := by decide +kernel
theorem d_MO_toldCodes_165 : decode c_MO_toldCodes 165 = .ok (.iastore, 1) := by decide +kernel
theorem d_MO_toldCodes_166 : decode c_MO_toldCodes 166 = .ok (.iinc 4 1, 3) := by decide +kernel
theorem d_MO_toldCodes_169 : decode c_MO_toldCodes 169 = .ok (.goto (-37), 3) := by decide +kernel
theorem d_MO_toldCodes_172 : decode c_MO_toldCodes 172 = .ok (.aload_n 0, 1) := by decide +kernel
theorem d_MO_toldCodes_173 : decode c_MO_toldCodes 173 = .ok (.iload 5, 2) := by decide +kernel
theorem d_MO_toldCodes_175 : decode c_MO_toldCodes 175 = .ok (.bipush 16, 2) := by decide +kernel
theorem d_MO_toldCodes_177 : decode c_MO_toldCodes 177 = .ok (.if_icmp .gt 8, 3) := by decide +kernel
theorem d_MO_toldCodes_180 : decode c_MO_toldCodes 180 = .ok (.iload 4, 2) := by decide +kernel
theorem d_MO_toldCodes_182 : decode c_MO_toldCodes 182 = .ok (.ifCond .le 7, 3) := by decide +kernel
theorem d_MO_toldCodes_185 : decode c_MO_toldCodes 185 = .ok (.iconst 1, 1) := by decide +kernel
theorem d_MO_toldCodes_186 : decode c_MO_toldCodes 186 = .ok (.goto 4, 3) := by decide +kernel
theorem d_MO_toldCodes_189 : decode c_MO_toldCodes 189 = .ok (.iconst 0, 1) := by decide +kernel
theorem d_MO_toldCodes_190 : decode c_MO_toldCodes 190 = .ok (.invokevirtual 62, 3) := by decide +kernel
theorem d_MO_toldCodes_193 : decode c_MO_toldCodes 193 = .ok (.iload 5, 2) := by decide +kernel
theorem d_MO_toldCodes_195 : decode c_MO_toldCodes 195 = .ok (.bipush 16, 2) := by decide +kernel
theorem d_MO_toldCodes_197 : decode c_MO_toldCodes 197 = .ok (.if_icmp .ne 15, 3) := by decide +kernel
theorem d_MO_toldCodes_200 : decode c_MO_toldCodes 200 = .ok (.aload_n 0, 1) := by decide +kernel
theorem d_MO_toldCodes_201 : decode c_MO_toldCodes 201 = .ok (.getfield 35, 3) := by decide +kernel
theorem d_MO_toldCodes_204 : decode c_MO_toldCodes 204 = .ok (.iload 4, 2) := by decide +kernel
theorem d_MO_toldCodes_206 : decode c_MO_toldCodes 206 = .ok (.iconst 1, 1) := by decide +kernel
theorem d_MO_toldCodes_207 : decode c_MO_toldCodes 207 = .ok (.isub, 1) := by decide +kernel
theorem d_MO_toldCodes_208 : decode c_MO_toldCodes 208 = .ok (.iaload, 1) := by decide +kernel
theorem d_MO_toldCodes_209 : decode c_MO_toldCodes 209 = .ok (.goto 4, 3) := by decide +kernel
theorem d_MO_toldCodes_212 : decode c_MO_toldCodes 212 = .ok (.iconst 0, 1) := by decide +kernel
theorem d_MO_toldCodes_213 : decode c_MO_toldCodes 213 = .ok (.istore 6, 2) := by decide +kernel
theorem d_MO_toldCodes_215 : decode c_MO_toldCodes 215 = .ok (.iload 5, 2) := by decide +kernel
theorem d_MO_toldCodes_217 : decode c_MO_toldCodes 217 = .ok (.bipush 16, 2) := by decide +kernel
theorem d_MO_toldCodes_219 : decode c_MO_toldCodes 219 = .ok (.if_icmp .ne 13, 3) := by decide +kernel
theorem d_MO_toldCodes_222 : decode c_MO_toldCodes 222 = .ok (.iconst 3, 1) := by decide +kernel
theorem d_MO_toldCodes_223 : decode c_MO_toldCodes 223 = .ok (.aload_n 0, 1) := by decide +kernel
theorem d_MO_toldCodes_224 : decode c_MO_toldCodes 224 = .ok (.iconst 2, 1) := by decide +kernel
theorem d_MO_toldCodes_225 : decode c_MO_toldCodes 225 = .ok (.invokevirtual 66, 3) := by decide +kernel
theorem d_MO_toldCodes_228 : decode c_MO_toldCodes 228 = .ok (.iadd, 1) := by decide +kernel
theorem d_MO_toldCodes_229 : decode c_MO_toldCodes 229 = .ok (.goto 29, 3) := by decide +kernel
theorem d_MO_toldCodes_232 : decode c_MO_toldCodes 232 = .ok (.iload 5, 2) := by decide +kernel
theorem d_MO_toldCodes_234 : decode c_MO_toldCodes 234 = .ok (.bipush 17, 2) := by decide +kernel
theorem d_MO_toldCodes_236 : decode c_MO_toldCodes 236 = .ok (.if_icmp .ne 13, 3) := by decide +kernel
theorem d_MO_toldCodes_239 : decode c_MO_toldCodes 239 = .ok (.iconst 3, 1) := by decide +kernel
theorem d_MO_toldCodes_240 : decode c_MO_toldCodes 240 = .ok (.aload_n 0, 1) := by decide +kernel
theorem d_MO_toldCodes_241 : decode c_MO_toldCodes 241 = .ok (.iconst 3, 1) := by decide +kernel
theorem d_MO_toldCodes_242 : decode c_MO_toldCodes 242 = .ok (.invokevirtual 66, 3) := by decide +kernel
theorem d_MO_toldCodes_245 : decode c_MO_toldCodes 245 = .ok (.iadd, 1) := by decide +kernel
theorem d_MO_toldCodes_246 : decode c_MO_toldCodes 246 = .ok (.goto 12, 3) := by decide +kernel
theorem d_MO_toldCodes_249 : decode c_MO_toldCodes 249 = .ok (.bipush 11, 2) := by decide +kernel
theorem d_MO_toldCodes_251 : decode c_MO_toldCodes 251 = .ok (.aload_n 0, 1) := by decide +kernel
theorem d_MO_toldCodes_252 : decode c_MO_toldCodes 252 = .ok (.bipush 7, 2) := by decide +kernel
theorem d_MO_toldCodes_254 : decode c_MO_toldCodes 254 = .ok (.invokevirtual 66, 3) := by decide +kernel
theorem d_MO_toldCodes_257 : decode c_MO_toldCodes 257 = .ok (.iadd, 1) := by decide +kernel
theorem d_MO_toldCodes_258 : decode c_MO_toldCodes 258 = .ok (.istore 7, 2) := by decide +kernel
theorem d_MO_toldCodes_260 : decode c_MO_toldCodes 260 = .ok (.aload_n 0, 1) := by decide +kernel
theorem d_MO_toldCodes_261 : decode c_MO_toldCodes 261 = .ok (.iload 4, 2) := by decide +kernel
theorem d_MO_toldCodes_263 : decode c_MO_toldCodes 263 = .ok (.iload 7, 2) := by decide +kernel
theorem d_MO_toldCodes_265 : decode c_MO_toldCodes 265 = .ok (.iadd, 1) := by decide +kernel
theorem d_MO_toldCodes_266 : decode c_MO_toldCodes 266 = .ok (.iload_n 1, 1) := by decide +kernel
theorem d_MO_toldCodes_267 : decode c_MO_toldCodes 267 = .ok (.iload_n 2, 1) := by decide +kernel
theorem d_MO_toldCodes_268 : decode c_MO_toldCodes 268 = .ok (.iadd, 1) := by decide +kernel
theorem d_MO_toldCodes_269 : decode c_MO_toldCodes 269 = .ok (.if_icmp .gt 7, 3) := by decide +kernel
theorem d_MO_toldCodes_272 : decode c_MO_toldCodes 272 = .ok (.iconst 1, 1) := by decide +kernel
theorem d_MO_toldCodes_273 : decode c_MO_toldCodes 273 = .ok (.goto 4, 3) := by decide +kernel
theorem d_MO_toldCodes_276 : decode c_MO_toldCodes 276 = .ok (.iconst 0, 1) := by decide +kernel
theorem d_MO_toldCodes_277 : decode c_MO_toldCodes 277 = .ok (.invokevirtual 62, 3) := by decide +kernel
theorem d_MO_toldCodes_280 : decode c_MO_toldCodes 280 = .ok (.iconst 0, 1) := by decide +kernel
theorem d_MO_toldCodes_281 : decode c_MO_toldCodes 281 = .ok (.istore 8, 2) := by decide +kernel
theorem d_MO_toldCodes_283 : decode c_MO_toldCodes 283 = .ok (.iload 8, 2) := by decide +kernel
theorem d_MO_toldCodes_285 : decode c_MO_toldCodes 285 = .ok (.iload 7, 2) := by decide +kernel
theorem d_MO_toldCodes_287 : decode c_MO_toldCodes 287 = .ok (.if_icmp .ge 21, 3) := by decide +kernel
theorem d_MO_toldCodes_290 : decode c_MO_toldCodes 290 = .ok (.aload_n 0, 1) := by decide +kernel
theorem d_MO_toldCodes_291 : decode c_MO_toldCodes 291 = .ok (.getfield 35, 3) := by decide +kernel
theorem d_MO_toldCodes_294 : decode c_MO_toldCodes 294 = .ok (.iload 4, 2) := by decide +kernel
theorem d_MO_toldCodes_296 : decode c_MO_toldCodes 296 = .ok (.iload 6, 2) := by decide +kernel
theorem d_MO_toldCodes_298 : decode c_MO_toldCodes 298 = .ok (.iastore, 1) := by decide +kernel
theorem d_MO_toldCodes_299 : decode c_MO_toldCodes 299 = .ok (.iinc 4 1, 3) := by decide +kernel
theorem d_MO_toldCodes_302 : decode c_MO_toldCodes 302 = .ok (.iinc 8 1, 3) := by decide +kernel
theorem d_MO_toldCodes_305 : decode c_MO_toldCodes 305 = .ok (.goto (-22), 3) := by decide +kernel
theorem d_MO_toldCodes_308 : decode c_MO_toldCodes 308 = .ok (.goto (-176), 3) := by decide +kernel
theorem d_MO_toldCodes_311 : decode c_MO_toldCodes 311 = .ok (.aload_n 0, 1) := by decide +kernel
theorem d_MO_toldCodes_312 : decode c_MO_toldCodes 312 = .ok (.aload_n 0, 1) := by decide +kernel
theorem d_MO_toldCodes_313 : decode c_MO_toldCodes 313 = .ok (.getfield 35, 3) := by decide +kernel
theorem d_MO_toldCodes_316 : decode c_MO_toldCodes 316 = .ok (.sipush 256, 3) := by decide +kernel
theorem d_MO_toldCodes_319 : decode c_MO_toldCodes 319 = .ok (.iaload, 1) := by decide +kernel
theorem d_MO_toldCodes_320 : decode c_MO_toldCodes 320 = .ok (.ifCond .le 23, 3) := by decide +kernel
theorem d_MO_toldCodes_323 : decode c_MO_toldCodes 323 = .ok (.aload_n 0, 1) := by decide +kernel
theorem d_MO_toldCodes_324 : decode c_MO_toldCodes 324 = .ok (.getfield 25, 3) := by decide +kernel
theorem d_MO_toldCodes_327 : decode c_MO_toldCodes 327 = .ok (.aload_n 0, 1) := by decide +kernel
theorem d_MO_toldCodes_328 : decode c_MO_toldCodes 328 = .ok (.getfield 35, 3) := by decide +kernel
theorem d_MO_toldCodes_331 : decode c_MO_toldCodes 331 = .ok (.iconst 0, 1) := by decide +kernel
theorem d_MO_toldCodes_332 : decode c_MO_toldCodes 332 = .ok (.iload_n 1, 1) := by decide +kernel
theorem d_MO_toldCodes_333 : decode c_MO_toldCodes 333 = .ok (.invokevirtual 76, 3) := by decide +kernel
theorem d_MO_toldCodes_336 : decode c_MO_toldCodes 336 = .ok (.ifCond .ne 7, 3) := by decide +kernel
theorem d_MO_toldCodes_339 : decode c_MO_toldCodes 339 = .ok (.iconst 1, 1) := by decide +kernel
theorem d_MO_toldCodes_340 : decode c_MO_toldCodes 340 = .ok (.goto 4, 3) := by decide +kernel
theorem d_MO_toldCodes_343 : decode c_MO_toldCodes 343 = .ok (.iconst 0, 1) := by decide +kernel
theorem d_MO_toldCodes_344 : decode c_MO_toldCodes 344 = .ok (.invokevirtual 62, 3) := by decide +kernel
theorem d_MO_toldCodes_347 : decode c_MO_toldCodes 347 = .ok (.aload_n 0, 1) := by decide +kernel
theorem d_MO_toldCodes_348 : decode c_MO_toldCodes 348 = .ok (.getfield 29, 3) := by decide +kernel
theorem d_MO_toldCodes_351 : decode c_MO_toldCodes 351 = .ok (.aload_n 0, 1) := by decide +kernel
theorem d_MO_toldCodes_352 : decode c_MO_toldCodes 352 = .ok (.getfield 35, 3) := by decide +kernel
theorem d_MO_toldCodes_355 : decode c_MO_toldCodes 355 = .ok (.iload_n 1, 1) := by decide +kernel
theorem d_MO_toldCodes_356 : decode c_MO_toldCodes 356 = .ok (.iload_n 2, 1) := by decide +kernel
theorem d_MO_toldCodes_357 : decode c_MO_toldCodes 357 = .ok (.invokevirtual 76, 3) := by decide +kernel
theorem d_MO_toldCodes_360 : decode c_MO_toldCodes 360 = .ok (.istore 5, 2) := by decide +kernel
theorem d_MO_toldCodes_362 : decode c_MO_toldCodes 362 = .ok (.aload_n 0, 1) := by decide +kernel
theorem d_MO_toldCodes_363 : decode c_MO_toldCodes 363 = .ok (.iload 5, 2) := by decide +kernel
theorem d_MO_toldCodes_365 : decode c_MO_toldCodes 365 = .ok (.ifCond .eq 37, 3) := by decide +kernel
theorem d_MO_toldCodes_368 : decode c_MO_toldCodes 368 = .ok (.aload_n 0, 1) := by decide +kernel
theorem d_MO_toldCodes_369 : decode c_MO_toldCodes 369 = .ok (.getfield 29, 3) := by decide +kernel
theorem d_MO_toldCodes_372 : decode c_MO_toldCodes 372 = .ok (.getfield 87, 3) := by decide +kernel
theorem d_MO_toldCodes_375 : decode c_MO_toldCodes 375 = .ok (.ifCond .eq 27, 3) := by decide +kernel
theorem d_MO_toldCodes_378 : decode c_MO_toldCodes 378 = .ok (.aload_n 0, 1) := by decide +kernel
theorem d_MO_toldCodes_379 : decode c_MO_toldCodes 379 = .ok (.getfield 29, 3) := by decide +kernel
theorem d_MO_toldCodes_382 : decode c_MO_toldCodes 382 = .ok (.getfield 87, 3) := by decide +kernel
theorem d_MO_toldCodes_385 : decode c_MO_toldCodes 385 = .ok (.iconst 1, 1) := by decide +kernel
theorem d_MO_toldCodes_386 : decode c_MO_toldCodes 386 = .ok (.if_icmp .ne 20, 3) := by decide +kernel
theorem d_MO_toldCodes_389 : decode c_MO_toldCodes 389 = .ok (.aload_n 0, 1) := by decide +kernel
theorem d_MO_toldCodes_390 : decode c_MO_toldCodes 390 = .ok (.getfield 29, 3) := by decide +kernel
theorem d_MO_toldCodes_393 : decode c_MO_toldCodes 393 = .ok (.getfield 70, 3) := by decide +kernel
theorem d_MO_toldCodes_396 : decode c_MO_toldCodes 396 = .ok (.iconst 1, 1) := by decide +kernel
theorem d_MO_toldCodes_397 : decode c_MO_toldCodes 397 = .ok (.iaload, 1) := by decide +kernel
theorem d_MO_toldCodes_398 : decode c_MO_toldCodes 398 = .ok (.iconst 1, 1) := by decide +kernel
theorem d_MO_toldCodes_399 : decode c_MO_toldCodes 399 = .ok (.if_icmp .ne 7, 3) := by decide +kernel
theorem d_MO_toldCodes_402 : decode c_MO_toldCodes 402 = .ok (.iconst 1, 1) := by decide +kernel
theorem d_MO_toldCodes_403 : decode c_MO_toldCodes 403 = .ok (.goto 4, 3) := by decide +kernel
theorem d_MO_toldCodes_406 : decode c_MO_toldCodes 406 = .ok (.iconst 0, 1) := by decide +kernel
theorem d_MO_toldCodes_407 : decode c_MO_toldCodes 407 = .ok (.invokevirtual 62, 3) := by decide +kernel
theorem d_MO_toldCodes_410 : decode c_MO_toldCodes 410 = .ok (.return_, 1) := by decide +kernel
theorem d_MO_meaning_0 : decode c_MO_meaning 0 = .ok (.iconst 0, 1) := by decide +kernel
theorem d_MO_meaning_1 : decode c_MO_meaning 1 = .ok (.istore_n 2, 1) := by decide +kernel
theorem d_MO_meaning_2 : decode c_MO_meaning 2 = .ok (.iconst 0, 1) := by decide +kernel
theorem d_MO_meaning_3 : decode c_MO_meaning 3 = .ok (.istore_n 3, 1) := by decide +kernel
theorem d_MO_meaning_4 : decode c_MO_meaning 4 = .ok (.iconst 0, 1) := by decide +kernel
theorem d_MO_meaning_5 : decode c_MO_meaning 5 = .ok (.istore 4, 2) := by decide +kernel
theorem d_MO_meaning_7 : decode c_MO_meaning 7 = .ok (.iconst 1, 1) := by decide +kernel
theorem d_MO_meaning_8 : decode c_MO_meaning 8 = .ok (.istore 5, 2) := by decide +kernel
theorem d_MO_meaning_10 : decode c_MO_meaning 10 = .ok (.iload 5, 2) := by decide +kernel
theorem d_MO_meaning_12 : decode c_MO_meaning 12 = .ok (.bipush 16, 2) := by decide +kernel
theorem d_MO_meaning_14 : decode c_MO_meaning 14 = .ok (.if_icmp .ge 70, 3) := by decide +kernel
theorem d_MO_meaning_17 : decode c_MO_meaning 17 = .ok (.iload_n 2, 1) := by decide +kernel
theorem d_MO_meaning_18 : decode c_MO_meaning 18 = .ok (.iconst 1, 1) := by decide +kernel
theorem d_MO_meaning_19 : decode c_MO_meaning 19 = .ok (.ishl, 1) := by decide +kernel
theorem d_MO_meaning_20 : decode c_MO_meaning 20 = .ok (.aload_n 0, 1) := by decide +kernel
theorem d_MO_meaning_21 : decode c_MO_meaning 21 = .ok (.iconst 1, 1) := by decide +kernel
theorem d_MO_meaning_22 : decode c_MO_meaning 22 = .ok (.invokevirtual 66, 3) := by decide +kernel
theorem d_MO_meaning_25 : decode c_MO_meaning 25 = .ok (.ior, 1) := by decide +kernel
theorem d_MO_meaning_26 : decode c_MO_meaning 26 = .ok (.istore_n 2, 1) := by decide +kernel
theorem d_MO_meaning_27 : decode c_MO_meaning 27 = .ok (.iload_n 3, 1) := by decide +kernel
theorem d_MO_meaning_28 : decode c_MO_meaning 28 = .ok (.iconst 1, 1) := by decide +kernel
theorem d_MO_meaning_29 : decode c_MO_meaning 29 = .ok (.ishl, 1) := by decide +kernel
theorem d_MO_meaning_30 : decode c_MO_meaning 30 = .ok (.istore_n 3, 1) := by decide +kernel
theorem d_MO_meaning_31 : decode c_MO_meaning 31 = .ok (.iload_n 2, 1) := by decide +kernel
theorem d_MO_meaning_32 : decode c_MO_meaning 32 = .ok (.iload_n 3, 1) := by decide +kernel
theorem d_MO_meaning_33 : decode c_MO_meaning 33 = .ok (.isub, 1) := by decide +kernel
theorem d_MO_meaning_34 : decode c_MO_meaning 34 = .ok (.aload_n 1, 1) := by decide +kernel
theorem d_MO_meaning_35 : decode c_MO_meaning 35 = .ok (.getfield 70, 3) := by decide +kernel
theorem d_MO_meaning_38 : decode c_MO_meaning 38 = .ok (.iload 5, 2) := by decide +kernel
theorem d_MO_meaning_40 : decode c_MO_meaning 40 = .ok (.iaload, 1) := by decide +kernel
theorem d_MO_meaning_41 : decode c_MO_meaning 41 = .ok (.if_icmp .ge 15, 3) := by decide +kernel
theorem d_MO_meaning_44 : decode c_MO_meaning 44 = .ok (.aload_n 1, 1) := by decide +kernel
theorem d_MO_meaning_45 : decode c_MO_meaning 45 = .ok (.getfield 73, 3) := by decide +kernel
theorem d_MO_meaning_48 : decode c_MO_meaning 48 = .ok (.iload 4, 2) := by decide +kernel
theorem d_MO_meaning_50 : decode c_MO_meaning 50 = .ok (.iload_n 2, 1) := by decide +kernel
theorem d_MO_meaning_51 : decode c_MO_meaning 51 = .ok (.iadd, 1) := by decide +kernel
theorem d_MO_meaning_52 : decode c_MO_meaning 52 = .ok (.iload_n 3, 1) := by decide +kernel
theorem d_MO_meaning_53 : decode c_MO_meaning 53 = .ok (.isub, 1) := by decide +kernel
theorem d_MO_meaning_54 : decode c_MO_meaning 54 = .ok (.iaload, 1) := by decide +kernel
theorem d_MO_meaning_55 : decode c_MO_meaning 55 = .ok (.ireturn, 1) := by decide +kernel
theorem d_MO_meaning_56 : decode c_MO_meaning 56 = .ok (.iload 4, 2) := by decide +kernel
theorem d_MO_meaning_58 : decode c_MO_meaning 58 = .ok (.aload_n 1, 1) := by decide +kernel
theorem d_MO_meaning_59 : decode c_MO_meaning 59 = .ok (.getfield 70, 3) := by decide +kernel
theorem d_MO_meaning_62 : decode c_MO_meaning 62 = .ok (.iload 5, 2) := by decide +kernel
theorem d_MO_meaning_64 : decode c_MO_meaning 64 = .ok (.iaload, 1) := by decide +kernel
theorem d_MO_meaning_65 : decode c_MO_meaning 65 = .ok (.iadd, 1) := by decide +kernel
theorem d_MO_meaning_66 : decode c_MO_meaning 66 = .ok (.istore 4, 2) := by decide +kernel
theorem d_MO_meaning_68 : decode c_MO_meaning 68 = .ok (.iload_n 3, 1) := by decide +kernel
theorem d_MO_meaning_69 : decode c_MO_meaning 69 = .ok (.aload_n 1, 1) := by decide +kernel
theorem d_MO_meaning_70 : decode c_MO_meaning 70 = .ok (.getfield 70, 3) := by decide +kernel
theorem d_MO_meaning_73 : decode c_MO_meaning 73 = .ok (.iload 5, 2) := by decide +kernel
theorem d_MO_meaning_75 : decode c_MO_meaning 75 = .ok (.iaload, 1) := by decide +kernel
theorem d_MO_meaning_76 : decode c_MO_meaning 76 = .ok (.iadd, 1) := by decide +kernel
theorem d_MO_meaning_77 : decode c_MO_meaning 77 = .ok (.istore_n 3, 1) := by decide +kernel
theorem d_MO_meaning_78 : decode c_MO_meaning 78 = .ok (.iinc 5 1, 3) := by decide +kernel
theorem d_MO_meaning_81 : decode c_MO_meaning 81 = .ok (.goto (-71), 3) := by decide +kernel
theorem d_MO_meaning_84 : decode c_MO_meaning 84 = .ok (.aload_n 0, 1) := by decide +kernel
theorem d_MO_meaning_85 : decode c_MO_meaning 85 = .ok (.iconst 0, 1) := by decide +kernel
theorem d_MO_meaning_86 : decode c_MO_meaning 86 = .ok (.invokevirtual 62, 3) := by decide +kernel
theorem d_MO_meaning_89 : decode c_MO_meaning 89 = .ok (.iconst 0, 1) := by decide +kernel
theorem d_MO_meaning_90 : decode c_MO_meaning 90 = .ok (.ireturn, 1) := by decide +kernel
theorem d_MO_block_0 : decode c_MO_block 0 = .ok (.aload_n 0, 1) := by decide +kernel
theorem d_MO_block_1 : decode c_MO_block 1 = .ok (.aload_n 0, 1) := by decide +kernel
theorem d_MO_block_2 : decode c_MO_block 2 = .ok (.getfield 25, 3) := by decide +kernel
theorem d_MO_block_5 : decode c_MO_block 5 = .ok (.invokevirtual 83, 3) := by decide +kernel
theorem d_MO_block_8 : decode c_MO_block 8 = .ok (.istore_n 1, 1) := by decide +kernel
theorem d_MO_block_9 : decode c_MO_block 9 = .ok (.iload_n 1, 1) := by decide +kernel
theorem d_MO_block_10 : decode c_MO_block 10 = .ok (.sipush 256, 3) := by decide +kernel
theorem d_MO_block_13 : decode c_MO_block 13 = .ok (.if_icmp .ge 11, 3) := by decide +kernel
theorem d_MO_block_16 : decode c_MO_block 16 = .ok (.aload_n 0, 1) := by decide +kernel
theorem d_MO_block_17 : decode c_MO_block 17 = .ok (.iload_n 1, 1) := by decide +kernel
theorem d_MO_block_18 : decode c_MO_block 18 = .ok (.invokevirtual 96, 3) := by decide +kernel
theorem d_MO_block_21 : decode c_MO_block 21 = .ok (.goto (-21), 3) := by decide +kernel
theorem d_MO_block_24 : decode c_MO_block 24 = .ok (.iload_n 1, 1) := by decide +kernel
theorem d_MO_block_25 : decode c_MO_block 25 = .ok (.sipush 256, 3) := by decide +kernel
theorem d_MO_block_28 : decode c_MO_block 28 = .ok (.if_icmp .ne 4, 3) := by decide +kernel
theorem d_MO_block_31 : decode c_MO_block 31 = .ok (.return_, 1) := by decide +kernel
theorem d_MO_block_32 : decode c_MO_block 32 = .ok (.aload_n 0, 1) := by decide +kernel
theorem d_MO_block_33 : decode c_MO_block 33 = .ok (.iload_n 1, 1) := by decide +kernel
theorem d_MO_block_34 : decode c_MO_block 34 = .ok (.sipush 286, 3) := by decide +kernel
theorem d_MO_block_37 : decode c_MO_block 37 = .ok (.if_icmp .ge 7, 3) := by decide +kernel
theorem d_MO_block_40 : decode c_MO_block 40 = .ok (.iconst 1, 1) := by decide +kernel
theorem d_MO_block_41 : decode c_MO_block 41 = .ok (.goto 4, 3) := by decide +kernel
theorem d_MO_block_44 : decode c_MO_block 44 = .ok (.iconst 0, 1) := by decide +kernel
theorem d_MO_block_45 : decode c_MO_block 45 = .ok (.invokevirtual 62, 3) := by decide +kernel
theorem d_MO_block_48 : decode c_MO_block 48 = .ok (.iconst 3, 1) := by decide +kernel
theorem d_MO_block_49 : decode c_MO_block 49 = .ok (.istore_n 2, 1) := by decide +kernel
theorem d_MO_block_50 : decode c_MO_block 50 = .ok (.sipush 257, 3) := by decide +kernel
theorem d_MO_block_53 : decode c_MO_block 53 = .ok (.istore_n 3, 1) := by decide +kernel
theorem d_MO_block_54 : decode c_MO_block 54 = .ok (.iload_n 3, 1) := by decide +kernel
theorem d_MO_block_55 : decode c_MO_block 55 = .ok (.iload_n 1, 1) := by decide +kernel
theorem d_MO_block_56 : decode c_MO_block 56 = .ok (.if_icmp .ge 18, 3) := by decide +kernel
theorem d_MO_block_59 : decode c_MO_block 59 = .ok (.iload_n 2, 1) := by decide +kernel
theorem d_MO_block_60 : decode c_MO_block 60 = .ok (.iconst 1, 1) := by decide +kernel
theorem d_MO_block_61 : decode c_MO_block 61 = .ok (.iload_n 3, 1) := by decide +kernel
theorem d_MO_block_62 : decode c_MO_block 62 = .ok (.invokestatic 100, 3) := by decide +kernel
theorem d_MO_block_65 : decode c_MO_block 65 = .ok (.ishl, 1) := by decide +kernel
theorem d_MO_block_66 : decode c_MO_block 66 = .ok (.iadd, 1) := by decide +kernel
theorem d_MO_block_67 : decode c_MO_block 67 = .ok (.istore_n 2, 1) := by decide +kernel
theorem d_MO_block_68 : decode c_MO_block 68 = .ok (.iinc 3 1, 3) := by decide +kernel
theorem d_MO_block_71 : decode c_MO_block 71 = .ok (.goto (-17), 3) := by decide +kernel
theorem d_MO_block_74 : decode c_MO_block 74 = .ok (.iload_n 1, 1) := by decide +kernel
theorem d_MO_block_75 : decode c_MO_block 75 = .ok (.sipush 285, 3) := by decide +kernel
theorem d_MO_block_78 : decode c_MO_block 78 = .ok (.if_icmp .ne 9, 3) := by decide +kernel
theorem d_MO_block_81 : decode c_MO_block 81 = .ok (.sipush 258, 3) := by decide +kernel
theorem d_MO_block_84 : decode c_MO_block 84 = .ok (.goto 13, 3) := by decide +kernel
theorem d_MO_block_87 : decode c_MO_block 87 = .ok (.iload_n 2, 1) := by decide +kernel
theorem d_MO_block_88 : decode c_MO_block 88 = .ok (.aload_n 0, 1) := by decide +kernel
theorem d_MO_block_89 : decode c_MO_block 89 = .ok (.iload_n 1, 1) := by decide +kernel
theorem d_MO_block_90 : decode c_MO_block 90 = .ok (.invokestatic 100, 3) := by decide +kernel
theorem d_MO_block_93 : decode c_MO_block 93 = .ok (.invokevirtual 66, 3) := by decide +kernel
theorem d_MO_block_96 : decode c_MO_block 96 = .ok (.iadd, 1) := by decide +kernel
theorem d_MO_block_97 : decode c_MO_block 97 = .ok (.istore_n 2, 1) := by decide +kernel
theorem d_MO_block_98 : decode c_MO_block 98 = .ok (.aload_n 0, 1) := by decide +kernel
theorem d_MO_block_99 : decode c_MO_block 99 = .ok (.aload_n 0, 1) := by decide +kernel
theorem d_MO_block_100 : decode c_MO_block 100 = .ok (.getfield 29, 3) := by decide +kernel
theorem d_MO_block_103 : decode c_MO_block 103 = .ok (.invokevirtual 83, 3) := by decide +kernel
theorem d_MO_block_106 : decode c_MO_block 106 = .ok (.istore_n 3, 1) := by decide +kernel
theorem d_MO_block_107 : decode c_MO_block 107 = .ok (.aload_n 0, 1) := by decide +kernel
theorem d_MO_block_108 : decode c_MO_block 108 = .ok (.iload_n 3, 1) := by decide +kernel
theorem d_MO_block_109 : decode c_MO_block 109 = .ok (.bipush 30, 2) := by decide +kernel
theorem d_MO_block_111 : decode c_MO_block 111 = .ok (.if_icmp .ge 7, 3) := by decide +kernel
theorem d_MO_block_114 : decode c_MO_block 114 = .ok (.iconst 1, 1) := by decide +kernel
theorem d_MO_block_115 : decode c_MO_block 115 = .ok (.goto 4, 3) := by decide +kernel
theorem d_MO_block_118 : decode c_MO_block 118 = .ok (.iconst 0, 1) := by decide +kernel
theorem d_MO_block_119 : decode c_MO_block 119 = .ok (.invokevirtual 62, 3) := by decide +kernel
theorem d_MO_block_122 : decode c_MO_block 122 = .ok (.iconst 1, 1) := by decide +kernel
theorem d_MO_block_123 : decode c_MO_block 123 = .ok (.istore 4, 2) := by decide +kernel
theorem d_MO_block_125 : decode c_MO_block 125 = .ok (.iconst 0, 1) := by decide +kernel
theorem d_MO_block_126 : decode c_MO_block 126 = .ok (.istore 5, 2) := by decide +kernel
theorem d_MO_block_128 : decode c_MO_block 128 = .ok (.iload 5, 2) := by decide +kernel
theorem d_MO_block_130 : decode c_MO_block 130 = .ok (.iload_n 3, 1) := by decide +kernel
theorem d_MO_block_131 : decode c_MO_block 131 = .ok (.if_icmp .ge 21, 3) := by decide +kernel
theorem d_MO_block_134 : decode c_MO_block 134 = .ok (.iload 4, 2) := by decide +kernel
theorem d_MO_block_136 : decode c_MO_block 136 = .ok (.iconst 1, 1) := by decide +kernel
theorem d_MO_block_137 : decode c_MO_block 137 = .ok (.iload 5, 2) := by decide +kernel
theorem d_MO_block_139 : decode c_MO_block 139 = .ok (.invokestatic 103, 3) := by decide +kernel
theorem d_MO_block_142 : decode c_MO_block 142 = .ok (.ishl, 1) := by decide +kernel
theorem d_MO_block_143 : decode c_MO_block 143 = .ok (.iadd, 1) := by decide +kernel
theorem d_MO_block_144 : decode c_MO_block 144 = .ok (.istore 4, 2) := by decide +kernel
theorem d_MO_block_146 : decode c_MO_block 146 = .ok (.iinc 5 1, 3) := by decide +kernel
theorem d_MO_block_149 : decode c_MO_block 149 = .ok (.goto (-21), 3) := by decide +kernel
theorem d_MO_block_152 : decode c_MO_block 152 = .ok (.iload 4, 2) := by decide +kernel
theorem d_MO_block_154 : decode c_MO_block 154 = .ok (.aload_n 0, 1) := by decide +kernel
theorem d_MO_block_155 : decode c_MO_block 155 = .ok (.iload_n 3, 1) := by decide +kernel
theorem d_MO_block_156 : decode c_MO_block 156 = .ok (.invokestatic 103, 3) := by decide +kernel
theorem d_MO_block_159 : decode c_MO_block 159 = .ok (.invokevirtual 66, 3) := by decide +kernel
theorem d_MO_block_162 : decode c_MO_block 162 = .ok (.iadd, 1) := by decide +kernel
theorem d_MO_block_163 : decode c_MO_block 163 = .ok (.istore 4, 2) := by decide +kernel
theorem d_MO_block_165 : decode c_MO_block 165 = .ok (.aload_n 0, 1) := by decide +kernel
theorem d_MO_block_166 : decode c_MO_block 166 = .ok (.iload 4, 2) := by decide +kernel
theorem d_MO_block_168 : decode c_MO_block 168 = .ok (.ldc 106, 2) := by decide +kernel
theorem d_MO_block_170 : decode c_MO_block 170 = .ok (.if_icmp .gt 16, 3) := by decide +kernel
theorem d_MO_block_173 : decode c_MO_block 173 = .ok (.iload 4, 2) := by decide +kernel
theorem d_MO_block_175 : decode c_MO_block 175 = .ok (.aload_n 0, 1) := by decide +kernel
theorem d_MO_block_176 : decode c_MO_block 176 = .ok (.getfield 90, 3) := by decide +kernel
theorem d_MO_block_179 : decode c_MO_block 179 = .ok (.if_icmp .gt 7, 3) := by decide +kernel
theorem d_MO_block_182 : decode c_MO_block 182 = .ok (.iconst 1, 1) := by decide +kernel
theorem d_MO_block_183 : decode c_MO_block 183 = .ok (.goto 4, 3) := by decide +kernel
theorem d_MO_block_186 : decode c_MO_block 186 = .ok (.iconst 0, 1) := by decide +kernel
theorem d_MO_block_187 : decode c_MO_block 187 = .ok (.invokevirtual 62, 3) := by decide +kernel
theorem d_MO_block_190 : decode c_MO_block 190 = .ok (.iconst 0, 1) := by decide +kernel
theorem d_MO_block_191 : decode c_MO_block 191 = .ok (.istore 5, 2) := by decide +kernel
theorem d_MO_block_193 : decode c_MO_block 193 = .ok (.iload 5, 2) := by decide +kernel
theorem d_MO_block_195 : decode c_MO_block 195 = .ok (.iload_n 2, 1) := by decide +kernel
theorem d_MO_block_196 : decode c_MO_block 196 = .ok (.if_icmp .ge 25, 3) := by decide +kernel
theorem d_MO_block_199 : decode c_MO_block 199 = .ok (.aload_n 0, 1) := by decide +kernel
theorem d_MO_block_200 : decode c_MO_block 200 = .ok (.aload_n 0, 1) := by decide +kernel
theorem d_MO_block_201 : decode c_MO_block 201 = .ok (.getfield 19, 3) := by decide +kernel
theorem d_MO_block_204 : decode c_MO_block 204 = .ok (.aload_n 0, 1) := by decide +kernel
theorem d_MO_block_205 : decode c_MO_block 205 = .ok (.getfield 90, 3) := by decide +kernel
theorem d_MO_block_208 : decode c_MO_block 208 = .ok (.iload 4, 2) := by decide +kernel
theorem d_MO_block_210 : decode c_MO_block 210 = .ok (.isub, 1) := by decide +kernel
theorem d_MO_block_211 : decode c_MO_block 211 = .ok (.baload, 1) := by decide +kernel
theorem d_MO_block_212 : decode c_MO_block 212 = .ok (.invokevirtual 96, 3) := by decide +kernel
theorem d_MO_block_215 : decode c_MO_block 215 = .ok (.iinc 5 1, 3) := by decide +kernel
theorem d_MO_block_218 : decode c_MO_block 218 = .ok (.goto (-25), 3) := by decide +kernel
theorem d_MO_block_221 : decode c_MO_block 221 = .ok (.goto (-221), 3) := by decide +kernel
theorem d_MO_lengthBits_0 : decode c_MO_lengthBits 0 = .ok (.iload_n 0, 1) := by decide +kernel
theorem d_MO_lengthBits_1 : decode c_MO_lengthBits 1 = .ok (.sipush 265, 3) := by decide +kernel
theorem d_MO_lengthBits_4 : decode c_MO_lengthBits 4 = .ok (.if_icmp .ge 7, 3) := by decide +kernel
theorem d_MO_lengthBits_7 : decode c_MO_lengthBits 7 = .ok (.iconst 0, 1) := by decide +kernel
theorem d_MO_lengthBits_8 : decode c_MO_lengthBits 8 = .ok (.goto 21, 3) := by decide +kernel
theorem d_MO_lengthBits_11 : decode c_MO_lengthBits 11 = .ok (.iload_n 0, 1) := by decide +kernel
theorem d_MO_lengthBits_12 : decode c_MO_lengthBits 12 = .ok (.sipush 285, 3) := by decide +kernel
theorem d_MO_lengthBits_15 : decode c_MO_lengthBits 15 = .ok (.if_icmp .ne 7, 3) := by decide +kernel
theorem d_MO_lengthBits_18 : decode c_MO_lengthBits 18 = .ok (.iconst 0, 1) := by decide +kernel
theorem d_MO_lengthBits_19 : decode c_MO_lengthBits 19 = .ok (.goto 10, 3) := by decide +kernel
theorem d_MO_lengthBits_22 : decode c_MO_lengthBits 22 = .ok (.iload_n 0, 1) := by decide +kernel
theorem d_MO_lengthBits_23 : decode c_MO_lengthBits 23 = .ok (.sipush 261, 3) := by decide +kernel
theorem d_MO_lengthBits_26 : decode c_MO_lengthBits 26 = .ok (.isub, 1) := by decide +kernel
theorem d_MO_lengthBits_27 : decode c_MO_lengthBits 27 = .ok (.iconst 4, 1) := by decide +kernel
theorem d_MO_lengthBits_28 : decode c_MO_lengthBits 28 = .ok (.idiv, 1) := by decide +kernel
theorem d_MO_lengthBits_29 : decode c_MO_lengthBits 29 = .ok (.ireturn, 1) := by decide +kernel
theorem d_MO_distanceBits_0 : decode c_MO_distanceBits 0 = .ok (.iload_n 0, 1) := by decide +kernel
theorem d_MO_distanceBits_1 : decode c_MO_distanceBits 1 = .ok (.iconst 4, 1) := by decide +kernel
theorem d_MO_distanceBits_2 : decode c_MO_distanceBits 2 = .ok (.if_icmp .ge 7, 3) := by decide +kernel
theorem d_MO_distanceBits_5 : decode c_MO_distanceBits 5 = .ok (.iconst 0, 1) := by decide +kernel
theorem d_MO_distanceBits_6 : decode c_MO_distanceBits 6 = .ok (.goto 8, 3) := by decide +kernel
theorem d_MO_distanceBits_9 : decode c_MO_distanceBits 9 = .ok (.iload_n 0, 1) := by decide +kernel
theorem d_MO_distanceBits_10 : decode c_MO_distanceBits 10 = .ok (.iconst 2, 1) := by decide +kernel
theorem d_MO_distanceBits_11 : decode c_MO_distanceBits 11 = .ok (.isub, 1) := by decide +kernel
theorem d_MO_distanceBits_12 : decode c_MO_distanceBits 12 = .ok (.iconst 2, 1) := by decide +kernel
theorem d_MO_distanceBits_13 : decode c_MO_distanceBits 13 = .ok (.idiv, 1) := by decide +kernel
theorem d_MO_distanceBits_14 : decode c_MO_distanceBits 14 = .ok (.ireturn, 1) := by decide +kernel
theorem d_MO_adler_0 : decode c_MO_adler 0 = .ok (.iconst 1, 1) := by decide +kernel
theorem d_MO_adler_1 : decode c_MO_adler 1 = .ok (.istore_n 2, 1) := by decide +kernel
theorem d_MO_adler_2 : decode c_MO_adler 2 = .ok (.iconst 0, 1) := by decide +kernel
theorem d_MO_adler_3 : decode c_MO_adler 3 = .ok (.istore_n 3, 1) := by decide +kernel
theorem d_MO_adler_4 : decode c_MO_adler 4 = .ok (.iconst 0, 1) := by decide +kernel
theorem d_MO_adler_5 : decode c_MO_adler 5 = .ok (.istore 4, 2) := by decide +kernel
theorem d_MO_adler_7 : decode c_MO_adler 7 = .ok (.iload 4, 2) := by decide +kernel
theorem d_MO_adler_9 : decode c_MO_adler 9 = .ok (.iload_n 1, 1) := by decide +kernel
theorem d_MO_adler_10 : decode c_MO_adler 10 = .ok (.if_icmp .ge 30, 3) := by decide +kernel
theorem d_MO_adler_13 : decode c_MO_adler 13 = .ok (.iload_n 2, 1) := by decide +kernel
theorem d_MO_adler_14 : decode c_MO_adler 14 = .ok (.aload_n 0, 1) := by decide +kernel
theorem d_MO_adler_15 : decode c_MO_adler 15 = .ok (.iload 4, 2) := by decide +kernel
theorem d_MO_adler_17 : decode c_MO_adler 17 = .ok (.baload, 1) := by decide +kernel
theorem d_MO_adler_18 : decode c_MO_adler 18 = .ok (.sipush 255, 3) := by decide +kernel
theorem d_MO_adler_21 : decode c_MO_adler 21 = .ok (.iand, 1) := by decide +kernel
theorem d_MO_adler_22 : decode c_MO_adler 22 = .ok (.iadd, 1) := by decide +kernel
theorem d_MO_adler_23 : decode c_MO_adler 23 = .ok (.ldc 123, 2) := by decide +kernel
theorem d_MO_adler_25 : decode c_MO_adler 25 = .ok (.irem, 1) := by decide +kernel
theorem d_MO_adler_26 : decode c_MO_adler 26 = .ok (.istore_n 2, 1) := by decide +kernel
theorem d_MO_adler_27 : decode c_MO_adler 27 = .ok (.iload_n 3, 1) := by decide +kernel
theorem d_MO_adler_28 : decode c_MO_adler 28 = .ok (.iload_n 2, 1) := by decide +kernel
theorem d_MO_adler_29 : decode c_MO_adler 29 = .ok (.iadd, 1) := by decide +kernel
theorem d_MO_adler_30 : decode c_MO_adler 30 = .ok (.ldc 123, 2) := by decide +kernel
theorem d_MO_adler_32 : decode c_MO_adler 32 = .ok (.irem, 1) := by decide +kernel
theorem d_MO_adler_33 : decode c_MO_adler 33 = .ok (.istore_n 3, 1) := by decide +kernel
theorem d_MO_adler_34 : decode c_MO_adler 34 = .ok (.iinc 4 1, 3) := by decide +kernel
theorem d_MO_adler_37 : decode c_MO_adler 37 = .ok (.goto (-30), 3) := by decide +kernel
theorem d_MO_adler_40 : decode c_MO_adler 40 = .ok (.ldc2_w 124, 3) := by decide +kernel
theorem d_MO_adler_43 : decode c_MO_adler 43 = .ok (.iload_n 3, 1) := by decide +kernel
theorem d_MO_adler_44 : decode c_MO_adler 44 = .ok (.i2l, 1) := by decide +kernel
theorem d_MO_adler_45 : decode c_MO_adler 45 = .ok (.lmul, 1) := by decide +kernel
theorem d_MO_adler_46 : decode c_MO_adler 46 = .ok (.iload_n 2, 1) := by decide +kernel
theorem d_MO_adler_47 : decode c_MO_adler 47 = .ok (.i2l, 1) := by decide +kernel
theorem d_MO_adler_48 : decode c_MO_adler 48 = .ok (.ladd, 1) := by decide +kernel
theorem d_MO_adler_49 : decode c_MO_adler 49 = .ok (.lreturn, 1) := by decide +kernel
theorem d_MO_fail_0 : decode c_MO_fail 0 = .ok (.aload_n 0, 1) := by decide +kernel
theorem d_MO_fail_1 : decode c_MO_fail 1 = .ok (.iload_n 1, 1) := by decide +kernel
theorem d_MO_fail_2 : decode c_MO_fail 2 = .ok (.putfield 49, 3) := by decide +kernel
theorem d_MO_fail_5 : decode c_MO_fail 5 = .ok (.iconst 0, 1) := by decide +kernel
theorem d_MO_fail_6 : decode c_MO_fail 6 = .ok (.ireturn, 1) := by decide +kernel
theorem d_MO_pack_0 : decode c_MO_pack 0 = .ok (.aload_n 0, 1) := by decide +kernel
theorem d_MO_pack_1 : decode c_MO_pack 1 = .ok (.iconst 0, 1) := by decide +kernel
theorem d_MO_pack_2 : decode c_MO_pack 2 = .ok (.putfield 49, 3) := by decide +kernel
theorem d_MO_pack_5 : decode c_MO_pack 5 = .ok (.iconst 0, 1) := by decide +kernel
theorem d_MO_pack_6 : decode c_MO_pack 6 = .ok (.istore_n 1, 1) := by decide +kernel
theorem d_MO_pack_7 : decode c_MO_pack 7 = .ok (.iload_n 1, 1) := by decide +kernel
theorem d_MO_pack_8 : decode c_MO_pack 8 = .ok (.aload_n 0, 1) := by decide +kernel
theorem d_MO_pack_9 : decode c_MO_pack 9 = .ok (.getfield 165, 3) := by decide +kernel
theorem d_MO_pack_12 : decode c_MO_pack 12 = .ok (.if_icmp .ge 21, 3) := by decide +kernel
theorem d_MO_pack_15 : decode c_MO_pack 15 = .ok (.aload_n 0, 1) := by decide +kernel
theorem d_MO_pack_16 : decode c_MO_pack 16 = .ok (.getfield 19, 3) := by decide +kernel
theorem d_MO_pack_19 : decode c_MO_pack 19 = .ok (.iload_n 1, 1) := by decide +kernel
theorem d_MO_pack_20 : decode c_MO_pack 20 = .ok (.aload_n 0, 1) := by decide +kernel
theorem d_MO_pack_21 : decode c_MO_pack 21 = .ok (.getfield 7, 3) := by decide +kernel
theorem d_MO_pack_24 : decode c_MO_pack 24 = .ok (.iload_n 1, 1) := by decide +kernel
theorem d_MO_pack_25 : decode c_MO_pack 25 = .ok (.baload, 1) := by decide +kernel
theorem d_MO_pack_26 : decode c_MO_pack 26 = .ok (.bastore, 1) := by decide +kernel
theorem d_MO_pack_27 : decode c_MO_pack 27 = .ok (.iinc 1 1, 3) := by decide +kernel
theorem d_MO_pack_30 : decode c_MO_pack 30 = .ok (.goto (-23), 3) := by decide +kernel
theorem d_MO_pack_33 : decode c_MO_pack 33 = .ok (.aload_n 0, 1) := by decide +kernel
theorem d_MO_pack_34 : decode c_MO_pack 34 = .ok (.aload_n 0, 1) := by decide +kernel
theorem d_MO_pack_35 : decode c_MO_pack 35 = .ok (.getfield 165, 3) := by decide +kernel
theorem d_MO_pack_38 : decode c_MO_pack 38 = .ok (.putfield 90, 3) := by decide +kernel
theorem d_MO_pack_41 : decode c_MO_pack 41 = .ok (.aload_n 0, 1) := by decide +kernel
theorem d_MO_pack_42 : decode c_MO_pack 42 = .ok (.iconst 0, 1) := by decide +kernel
theorem d_MO_pack_43 : decode c_MO_pack 43 = .ok (.putfield 126, 3) := by decide +kernel
theorem d_MO_pack_46 : decode c_MO_pack 46 = .ok (.aload_n 0, 1) := by decide +kernel
theorem d_MO_pack_47 : decode c_MO_pack 47 = .ok (.bipush 120, 2) := by decide +kernel
theorem d_MO_pack_49 : decode c_MO_pack 49 = .ok (.invokevirtual 129, 3) := by decide +kernel
theorem d_MO_pack_52 : decode c_MO_pack 52 = .ok (.aload_n 0, 1) := by decide +kernel
theorem d_MO_pack_53 : decode c_MO_pack 53 = .ok (.iconst 1, 1) := by decide +kernel
theorem d_MO_pack_54 : decode c_MO_pack 54 = .ok (.invokevirtual 129, 3) := by decide +kernel
theorem d_MO_pack_57 : decode c_MO_pack 57 = .ok (.aload_n 0, 1) := by decide +kernel
theorem d_MO_pack_58 : decode c_MO_pack 58 = .ok (.invokevirtual 177, 3) := by decide +kernel
theorem d_MO_pack_61 : decode c_MO_pack 61 = .ok (.aload_n 0, 1) := by decide +kernel
theorem d_MO_pack_62 : decode c_MO_pack 62 = .ok (.aload_n 0, 1) := by decide +kernel
theorem d_MO_pack_63 : decode c_MO_pack 63 = .ok (.getfield 19, 3) := by decide +kernel
theorem d_MO_pack_66 : decode c_MO_pack 66 = .ok (.aload_n 0, 1) := by decide +kernel
theorem d_MO_pack_67 : decode c_MO_pack 67 = .ok (.getfield 90, 3) := by decide +kernel
theorem d_MO_pack_70 : decode c_MO_pack 70 = .ok (.invokestatic 119, 3) := by decide +kernel
theorem d_MO_pack_73 : decode c_MO_pack 73 = .ok (.invokevirtual 180, 3) := by decide +kernel
theorem d_MO_pack_76 : decode c_MO_pack 76 = .ok (.aload_n 0, 1) := by decide +kernel
theorem d_MO_pack_77 : decode c_MO_pack 77 = .ok (.getfield 126, 3) := by decide +kernel
theorem d_MO_pack_80 : decode c_MO_pack 80 = .ok (.sipush 16384, 3) := by decide +kernel
theorem d_MO_pack_83 : decode c_MO_pack 83 = .ok (.if_icmp .le 9, 3) := by decide +kernel
theorem d_MO_pack_86 : decode c_MO_pack 86 = .ok (.aload_n 0, 1) := by decide +kernel
theorem d_MO_pack_87 : decode c_MO_pack 87 = .ok (.iconst 1, 1) := by decide +kernel
theorem d_MO_pack_88 : decode c_MO_pack 88 = .ok (.invokevirtual 171, 3) := by decide +kernel
theorem d_MO_pack_91 : decode c_MO_pack 91 = .ok (.ireturn, 1) := by decide +kernel
theorem d_MO_pack_92 : decode c_MO_pack 92 = .ok (.aload_n 0, 1) := by decide +kernel
theorem d_MO_pack_93 : decode c_MO_pack 93 = .ok (.aload_n 0, 1) := by decide +kernel
theorem d_MO_pack_94 : decode c_MO_pack 94 = .ok (.getfield 126, 3) := by decide +kernel
theorem d_MO_pack_97 : decode c_MO_pack 97 = .ok (.putfield 174, 3) := by decide +kernel
theorem d_MO_pack_100 : decode c_MO_pack 100 = .ok (.iconst 0, 1) := by decide +kernel
theorem d_MO_pack_101 : decode c_MO_pack 101 = .ok (.istore_n 1, 1) := by decide +kernel
theorem d_MO_pack_102 : decode c_MO_pack 102 = .ok (.iload_n 1, 1) := by decide +kernel
theorem d_MO_pack_103 : decode c_MO_pack 103 = .ok (.aload_n 0, 1) := by decide +kernel
theorem d_MO_pack_104 : decode c_MO_pack 104 = .ok (.getfield 174, 3) := by decide +kernel
theorem d_MO_pack_107 : decode c_MO_pack 107 = .ok (.if_icmp .ge 21, 3) := by decide +kernel
theorem d_MO_pack_110 : decode c_MO_pack 110 = .ok (.aload_n 0, 1) := by decide +kernel
theorem d_MO_pack_111 : decode c_MO_pack 111 = .ok (.getfield 13, 3) := by decide +kernel
theorem d_MO_pack_114 : decode c_MO_pack 114 = .ok (.iload_n 1, 1) := by decide +kernel
theorem d_MO_pack_115 : decode c_MO_pack 115 = .ok (.aload_n 0, 1) := by decide +kernel
theorem d_MO_pack_116 : decode c_MO_pack 116 = .ok (.getfield 40, 3) := by decide +kernel
theorem d_MO_pack_119 : decode c_MO_pack 119 = .ok (.iload_n 1, 1) := by decide +kernel
theorem d_MO_pack_120 : decode c_MO_pack 120 = .ok (.baload, 1) := by decide +kernel
theorem d_MO_pack_121 : decode c_MO_pack 121 = .ok (.bastore, 1) := by decide +kernel
theorem d_MO_pack_122 : decode c_MO_pack 122 = .ok (.iinc 1 1, 3) := by decide +kernel
theorem d_MO_pack_125 : decode c_MO_pack 125 = .ok (.goto (-23), 3) := by decide +kernel
theorem d_MO_pack_128 : decode c_MO_pack 128 = .ok (.aload_n 0, 1) := by decide +kernel
theorem d_MO_pack_129 : decode c_MO_pack 129 = .ok (.getfield 174, 3) := by decide +kernel
theorem d_MO_pack_132 : decode c_MO_pack 132 = .ok (.ireturn, 1) := by decide +kernel
theorem d_MO_put_0 : decode c_MO_put 0 = .ok (.aload_n 0, 1) := by decide +kernel
theorem d_MO_put_1 : decode c_MO_put 1 = .ok (.getfield 126, 3) := by decide +kernel
theorem d_MO_put_4 : decode c_MO_put 4 = .ok (.aload_n 0, 1) := by decide +kernel
theorem d_MO_put_5 : decode c_MO_put 5 = .ok (.getfield 40, 3) := by decide +kernel
theorem d_MO_put_8 : decode c_MO_put 8 = .ok (.arraylength, 1) := by decide +kernel
theorem d_MO_put_9 : decode c_MO_put 9 = .ok (.if_icmp .ne 11, 3) := by decide +kernel
theorem d_MO_put_12 : decode c_MO_put 12 = .ok (.new 93, 3) := by decide +kernel
theorem d_MO_put_15 : decode c_MO_put 15 = .ok (.dup, 1) := by decide +kernel
theorem d_MO_put_16 : decode c_MO_put 16 = .ok (.invokespecial 95, 3) := by decide +kernel
theorem d_MO_put_19 : decode c_MO_put 19 = .ok (.athrow, 1) := by decide +kernel
theorem d_MO_put_20 : decode c_MO_put 20 = .ok (.aload_n 0, 1) := by decide +kernel
theorem d_MO_put_21 : decode c_MO_put 21 = .ok (.getfield 40, 3) := by decide +kernel
theorem d_MO_put_24 : decode c_MO_put 24 = .ok (.aload_n 0, 1) := by decide +kernel
theorem d_MO_put_25 : decode c_MO_put 25 = .ok (.getfield 126, 3) := by decide +kernel
theorem d_MO_put_28 : decode c_MO_put 28 = .ok (.iload_n 1, 1) := by decide +kernel
theorem d_MO_put_29 : decode c_MO_put 29 = .ok (.i2b, 1) := by decide +kernel
theorem d_MO_put_30 : decode c_MO_put 30 = .ok (.bastore, 1) := by decide +kernel
theorem d_MO_put_31 : decode c_MO_put 31 = .ok (.aload_n 0, 1) := by decide +kernel
theorem d_MO_put_32 : decode c_MO_put 32 = .ok (.dup, 1) := by decide +kernel
theorem d_MO_put_33 : decode c_MO_put 33 = .ok (.getfield 126, 3) := by decide +kernel
theorem d_MO_put_36 : decode c_MO_put 36 = .ok (.iconst 1, 1) := by decide +kernel
theorem d_MO_put_37 : decode c_MO_put 37 = .ok (.iadd, 1) := by decide +kernel
theorem d_MO_put_38 : decode c_MO_put 38 = .ok (.putfield 126, 3) := by decide +kernel
theorem d_MO_put_41 : decode c_MO_put 41 = .ok (.return_, 1) := by decide +kernel
theorem d_MO_deflate_0 : decode c_MO_deflate 0 = .ok (.iconst 0, 1) := by decide +kernel
theorem d_MO_deflate_1 : decode c_MO_deflate 1 = .ok (.istore_n 1, 1) := by decide +kernel
theorem d_MO_deflate_2 : decode c_MO_deflate 2 = .ok (.iload_n 1, 1) := by decide +kernel
theorem d_MO_deflate_3 : decode c_MO_deflate 3 = .ok (.ldc 39, 2) := by decide +kernel
theorem d_MO_deflate_5 : decode c_MO_deflate 5 = .ok (.if_icmp .ge 16, 3) := by decide +kernel
theorem d_MO_deflate_8 : decode c_MO_deflate 8 = .ok (.aload_n 0, 1) := by decide +kernel
theorem d_MO_deflate_9 : decode c_MO_deflate 9 = .ok (.getfield 43, 3) := by decide +kernel
theorem d_MO_deflate_12 : decode c_MO_deflate 12 = .ok (.iload_n 1, 1) := by decide +kernel
theorem d_MO_deflate_13 : decode c_MO_deflate 13 = .ok (.iconst (-1), 1) := by decide +kernel
theorem d_MO_deflate_14 : decode c_MO_deflate 14 = .ok (.iastore, 1) := by decide +kernel
theorem d_MO_deflate_15 : decode c_MO_deflate 15 = .ok (.iinc 1 1, 3) := by decide +kernel
theorem d_MO_deflate_18 : decode c_MO_deflate 18 = .ok (.goto (-16), 3) := by decide +kernel
theorem d_MO_deflate_21 : decode c_MO_deflate 21 = .ok (.aload_n 0, 1) := by decide +kernel
theorem d_MO_deflate_22 : decode c_MO_deflate 22 = .ok (.iconst 0, 1) := by decide +kernel
theorem d_MO_deflate_23 : decode c_MO_deflate 23 = .ok (.putfield 132, 3) := by decide +kernel
theorem d_MO_deflate_26 : decode c_MO_deflate 26 = .ok (.aload_n 0, 1) := by decide +kernel
theorem d_MO_deflate_27 : decode c_MO_deflate 27 = .ok (.iconst 0, 1) := by decide +kernel
theorem d_MO_deflate_28 : decode c_MO_deflate 28 = .ok (.putfield 135, 3) := by decide +kernel
theorem d_MO_deflate_31 : decode c_MO_deflate 31 = .ok (.aload_n 0, 1) := by decide +kernel
theorem d_MO_deflate_32 : decode c_MO_deflate 32 = .ok (.iconst 3, 1) := by decide +kernel
theorem d_MO_deflate_33 : decode c_MO_deflate 33 = .ok (.iconst 3, 1) := by decide +kernel
theorem d_MO_deflate_34 : decode c_MO_deflate 34 = .ok (.invokevirtual 141, 3) := by decide +kernel
theorem d_MO_deflate_37 : decode c_MO_deflate 37 = .ok (.iconst 0, 1) := by decide +kernel
theorem d_MO_deflate_38 : decode c_MO_deflate 38 = .ok (.istore_n 1, 1) := by decide +kernel
theorem d_MO_deflate_39 : decode c_MO_deflate 39 = .ok (.iconst 0, 1) := by decide +kernel
theorem d_MO_deflate_40 : decode c_MO_deflate 40 = .ok (.istore_n 2, 1) := by decide +kernel
theorem d_MO_deflate_41 : decode c_MO_deflate 41 = .ok (.iload_n 1, 1) := by decide +kernel
theorem d_MO_deflate_42 : decode c_MO_deflate 42 = .ok (.aload_n 0, 1) := by decide +kernel
theorem d_MO_deflate_43 : decode c_MO_deflate 43 = .ok (.getfield 90, 3) := by decide +kernel
theorem d_MO_deflate_46 : decode c_MO_deflate 46 = .ok (.if_icmp .ge 215, 3) := by decide +kernel
theorem d_MO_deflate_49 : decode c_MO_deflate 49 = .ok (.iload_n 2, 1) := by decide +kernel
theorem d_MO_deflate_50 : decode c_MO_deflate 50 = .ok (.iload_n 1, 1) := by decide +kernel
theorem d_MO_deflate_51 : decode c_MO_deflate 51 = .ok (.if_icmp .ge 44, 3) := by decide +kernel
theorem d_MO_deflate_54 : decode c_MO_deflate 54 = .ok (.iload_n 2, 1) := by decide +kernel
theorem d_MO_deflate_55 : decode c_MO_deflate 55 = .ok (.iconst 2, 1) := by decide +kernel
theorem d_MO_deflate_56 : decode c_MO_deflate 56 = .ok (.iadd, 1) := by decide +kernel
theorem d_MO_deflate_57 : decode c_MO_deflate 57 = .ok (.aload_n 0, 1) := by decide +kernel
theorem d_MO_deflate_58 : decode c_MO_deflate 58 = .ok (.getfield 90, 3) := by decide +kernel
theorem d_MO_deflate_61 : decode c_MO_deflate 61 = .ok (.if_icmp .ge 34, 3) := by decide +kernel
theorem d_MO_deflate_64 : decode c_MO_deflate 64 = .ok (.aload_n 0, 1) := by decide +kernel
theorem d_MO_deflate_65 : decode c_MO_deflate 65 = .ok (.iload_n 2, 1) := by decide +kernel
theorem d_MO_deflate_66 : decode c_MO_deflate 66 = .ok (.invokevirtual 153, 3) := by decide +kernel
theorem d_MO_deflate_69 : decode c_MO_deflate 69 = .ok (.istore_n 3, 1) := by decide +kernel
theorem d_MO_deflate_70 : decode c_MO_deflate 70 = .ok (.aload_n 0, 1) := by decide +kernel
theorem d_MO_deflate_71 : decode c_MO_deflate 71 = .ok (.getfield 46, 3) := by decide +kernel
theorem d_MO_deflate_74 : decode c_MO_deflate 74 = .ok (.iload_n 2, 1) := by decide +kernel
theorem d_MO_deflate_75 : decode c_MO_deflate 75 = .ok (.aload_n 0, 1) := by decide +kernel
theorem d_MO_deflate_76 : decode c_MO_deflate 76 = .ok (.getfield 43, 3) := by decide +kernel
theorem d_MO_deflate_79 : decode c_MO_deflate 79 = .ok (.iload_n 3, 1) := by decide +kernel
theorem d_MO_deflate_80 : decode c_MO_deflate 80 = .ok (.iaload, 1) := by decide +kernel
theorem d_MO_deflate_81 : decode c_MO_deflate 81 = .ok (.iastore, 1) := by decide +kernel
theorem d_MO_deflate_82 : decode c_MO_deflate 82 = .ok (.aload_n 0, 1) := by decide +kernel
theorem d_MO_deflate_83 : decode c_MO_deflate 83 = .ok (.getfield 43, 3) := by decide +kernel
theorem d_MO_deflate_86 : decode c_MO_deflate 86 = .ok (.iload_n 3, 1) := by decide +kernel
theorem d_MO_deflate_87 : decode c_MO_deflate 87 = .ok (.iload_n 2, 1) := by decide +kernel
theorem d_MO_deflate_88 : decode c_MO_deflate 88 = .ok (.iastore, 1) := by decide +kernel
theorem d_MO_deflate_89 : decode c_MO_deflate 89 = .ok (.iinc 2 1, 3) := by decide +kernel
theorem d_MO_deflate_92 : decode c_MO_deflate 92 = .ok (.goto (-43), 3) := by decide +kernel
theorem d_MO_deflate_95 : decode c_MO_deflate 95 = .ok (.iconst 2, 1) := by decide +kernel
theorem d_MO_deflate_96 : decode c_MO_deflate 96 = .ok (.istore_n 3, 1) := by decide +kernel
theorem d_MO_deflate_97 : decode c_MO_deflate 97 = .ok (.iconst 0, 1) := by decide +kernel
theorem d_MO_deflate_98 : decode c_MO_deflate 98 = .ok (.istore 4, 2) := by decide +kernel
theorem d_MO_deflate_100 : decode c_MO_deflate 100 = .ok (.sipush 258, 3) := by decide +kernel
theorem d_MO_deflate_103 : decode c_MO_deflate 103 = .ok (.aload_n 0, 1) := by decide +kernel
theorem d_MO_deflate_104 : decode c_MO_deflate 104 = .ok (.getfield 90, 3) := by decide +kernel
theorem d_MO_deflate_107 : decode c_MO_deflate 107 = .ok (.iload_n 1, 1) := by decide +kernel
theorem d_MO_deflate_108 : decode c_MO_deflate 108 = .ok (.isub, 1) := by decide +kernel
theorem d_MO_deflate_109 : decode c_MO_deflate 109 = .ok (.invokestatic 156, 3) := by decide +kernel
theorem d_MO_deflate_112 : decode c_MO_deflate 112 = .ok (.istore 5, 2) := by decide +kernel
theorem d_MO_deflate_114 : decode c_MO_deflate 114 = .ok (.iload 5, 2) := by decide +kernel
theorem d_MO_deflate_116 : decode c_MO_deflate 116 = .ok (.iconst 2, 1) := by decide +kernel
theorem d_MO_deflate_117 : decode c_MO_deflate 117 = .ok (.if_icmp .le 16, 3) := by decide +kernel
theorem d_MO_deflate_120 : decode c_MO_deflate 120 = .ok (.aload_n 0, 1) := by decide +kernel
theorem d_MO_deflate_121 : decode c_MO_deflate 121 = .ok (.getfield 43, 3) := by decide +kernel
theorem d_MO_deflate_124 : decode c_MO_deflate 124 = .ok (.aload_n 0, 1) := by decide +kernel
theorem d_MO_deflate_125 : decode c_MO_deflate 125 = .ok (.iload_n 1, 1) := by decide +kernel
theorem d_MO_deflate_126 : decode c_MO_deflate 126 = .ok (.invokevirtual 153, 3) := by decide +kernel
theorem d_MO_deflate_129 : decode c_MO_deflate 129 = .ok (.iaload, 1) := by decide +kernel
theorem d_MO_deflate_130 : decode c_MO_deflate 130 = .ok (.goto 4, 3) := by decide +kernel
theorem d_MO_deflate_133 : decode c_MO_deflate 133 = .ok (.iconst (-1), 1) := by decide +kernel
theorem d_MO_deflate_134 : decode c_MO_deflate 134 = .ok (.istore 6, 2) := by decide +kernel
theorem d_MO_deflate_136 : decode c_MO_deflate 136 = .ok (.iload 6, 2) := by decide +kernel
theorem d_MO_deflate_138 : decode c_MO_deflate 138 = .ok (.ifCond .lt 84, 3) := by decide +kernel
theorem d_MO_deflate_141 : decode c_MO_deflate 141 = .ok (.iload_n 1, 1) := by decide +kernel
theorem d_MO_deflate_142 : decode c_MO_deflate 142 = .ok (.iload 6, 2) := by decide +kernel
theorem d_MO_deflate_144 : decode c_MO_deflate 144 = .ok (.isub, 1) := by decide +kernel
theorem d_MO_deflate_145 : decode c_MO_deflate 145 = .ok (.sipush 4096, 3) := by decide +kernel
theorem d_MO_deflate_148 : decode c_MO_deflate 148 = .ok (.if_icmp .gt 74, 3) := by decide +kernel
theorem d_MO_deflate_151 : decode c_MO_deflate 151 = .ok (.iload_n 3, 1) := by decide +kernel
theorem d_MO_deflate_152 : decode c_MO_deflate 152 = .ok (.iload 5, 2) := by decide +kernel
theorem d_MO_deflate_154 : decode c_MO_deflate 154 = .ok (.if_icmp .ge 68, 3) := by decide +kernel
theorem d_MO_deflate_157 : decode c_MO_deflate 157 = .ok (.iconst 0, 1) := by decide +kernel
theorem d_MO_deflate_158 : decode c_MO_deflate 158 = .ok (.istore 7, 2) := by decide +kernel
theorem d_MO_deflate_160 : decode c_MO_deflate 160 = .ok (.iload 7, 2) := by decide +kernel
theorem d_MO_deflate_162 : decode c_MO_deflate 162 = .ok (.iload 5, 2) := by decide +kernel
theorem d_MO_deflate_164 : decode c_MO_deflate 164 = .ok (.if_icmp .ge 31, 3) := by decide +kernel
theorem d_MO_deflate_167 : decode c_MO_deflate 167 = .ok (.aload_n 0, 1) := by decide +kernel
theorem d_MO_deflate_168 : decode c_MO_deflate 168 = .ok (.getfield 19, 3) := by decide +kernel
theorem d_MO_deflate_171 : decode c_MO_deflate 171 = .ok (.iload 6, 2) := by decide +kernel
theorem d_MO_deflate_173 : decode c_MO_deflate 173 = .ok (.iload 7, 2) := by decide +kernel
theorem d_MO_deflate_175 : decode c_MO_deflate 175 = .ok (.iadd, 1) := by decide +kernel
theorem d_MO_deflate_176 : decode c_MO_deflate 176 = .ok (.baload, 1) := by decide +kernel
theorem d_MO_deflate_177 : decode c_MO_deflate 177 = .ok (.aload_n 0, 1) := by decide +kernel
theorem d_MO_deflate_178 : decode c_MO_deflate 178 = .ok (.getfield 19, 3) := by decide +kernel
theorem d_MO_deflate_181 : decode c_MO_deflate 181 = .ok (.iload_n 1, 1) := by decide +kernel
theorem d_MO_deflate_182 : decode c_MO_deflate 182 = .ok (.iload 7, 2) := by decide +kernel
theorem d_MO_deflate_184 : decode c_MO_deflate 184 = .ok (.iadd, 1) := by decide +kernel
theorem d_MO_deflate_185 : decode c_MO_deflate 185 = .ok (.baload, 1) := by decide +kernel
theorem d_MO_deflate_186 : decode c_MO_deflate 186 = .ok (.if_icmp .ne 9, 3) := by decide +kernel
theorem d_MO_deflate_189 : decode c_MO_deflate 189 = .ok (.iinc 7 1, 3) := by decide +kernel
theorem d_MO_deflate_192 : decode c_MO_deflate 192 = .ok (.goto (-32), 3) := by decide +kernel
theorem d_MO_deflate_195 : decode c_MO_deflate 195 = .ok (.iload 7, 2) := by decide +kernel
theorem d_MO_deflate_197 : decode c_MO_deflate 197 = .ok (.iload_n 3, 1) := by decide +kernel
theorem d_MO_deflate_198 : decode c_MO_deflate 198 = .ok (.if_icmp .le 12, 3) := by decide +kernel
theorem d_MO_deflate_201 : decode c_MO_deflate 201 = .ok (.iload 7, 2) := by decide +kernel
theorem d_MO_deflate_203 : decode c_MO_deflate 203 = .ok (.istore_n 3, 1) := by decide +kernel
theorem d_MO_deflate_204 : decode c_MO_deflate 204 = .ok (.iload_n 1, 1) := by decide +kernel
theorem d_MO_deflate_205 : decode c_MO_deflate 205 = .ok (.iload 6, 2) := by decide +kernel
theorem d_MO_deflate_207 : decode c_MO_deflate 207 = .ok (.isub, 1) := by decide +kernel
theorem d_MO_deflate_208 : decode c_MO_deflate 208 = .ok (.istore 4, 2) := by decide +kernel
theorem d_MO_deflate_210 : decode c_MO_deflate 210 = .ok (.aload_n 0, 1) := by decide +kernel
theorem d_MO_deflate_211 : decode c_MO_deflate 211 = .ok (.getfield 46, 3) := by decide +kernel
theorem d_MO_deflate_214 : decode c_MO_deflate 214 = .ok (.iload 6, 2) := by decide +kernel
theorem d_MO_deflate_216 : decode c_MO_deflate 216 = .ok (.iaload, 1) := by decide +kernel
theorem d_MO_deflate_217 : decode c_MO_deflate 217 = .ok (.istore 6, 2) := by decide +kernel
theorem d_MO_deflate_219 : decode c_MO_deflate 219 = .ok (.goto (-83), 3) := by decide +kernel
theorem d_MO_deflate_222 : decode c_MO_deflate 222 = .ok (.iload 4, 2) := by decide +kernel
theorem d_MO_deflate_224 : decode c_MO_deflate 224 = .ok (.ifCond .le 17, 3) := by decide +kernel
theorem d_MO_deflate_227 : decode c_MO_deflate 227 = .ok (.aload_n 0, 1) := by decide +kernel
theorem d_MO_deflate_228 : decode c_MO_deflate 228 = .ok (.iload_n 3, 1) := by decide +kernel
theorem d_MO_deflate_229 : decode c_MO_deflate 229 = .ok (.iload 4, 2) := by decide +kernel
theorem d_MO_deflate_231 : decode c_MO_deflate 231 = .ok (.invokevirtual 162, 3) := by decide +kernel
theorem d_MO_deflate_234 : decode c_MO_deflate 234 = .ok (.iload_n 1, 1) := by decide +kernel
theorem d_MO_deflate_235 : decode c_MO_deflate 235 = .ok (.iload_n 3, 1) := by decide +kernel
theorem d_MO_deflate_236 : decode c_MO_deflate 236 = .ok (.iadd, 1) := by decide +kernel
theorem d_MO_deflate_237 : decode c_MO_deflate 237 = .ok (.istore_n 1, 1) := by decide +kernel
theorem d_MO_deflate_238 : decode c_MO_deflate 238 = .ok (.goto 20, 3) := by decide +kernel
theorem d_MO_deflate_241 : decode c_MO_deflate 241 = .ok (.aload_n 0, 1) := by decide +kernel
theorem d_MO_deflate_242 : decode c_MO_deflate 242 = .ok (.aload_n 0, 1) := by decide +kernel
theorem d_MO_deflate_243 : decode c_MO_deflate 243 = .ok (.getfield 19, 3) := by decide +kernel
theorem d_MO_deflate_246 : decode c_MO_deflate 246 = .ok (.iload_n 1, 1) := by decide +kernel
theorem d_MO_deflate_247 : decode c_MO_deflate 247 = .ok (.baload, 1) := by decide +kernel
theorem d_MO_deflate_248 : decode c_MO_deflate 248 = .ok (.sipush 255, 3) := by decide +kernel
theorem d_MO_deflate_251 : decode c_MO_deflate 251 = .ok (.iand, 1) := by decide +kernel
theorem d_MO_deflate_252 : decode c_MO_deflate 252 = .ok (.invokevirtual 148, 3) := by decide +kernel
theorem d_MO_deflate_255 : decode c_MO_deflate 255 = .ok (.iinc 1 1, 3) := by decide +kernel
theorem d_MO_deflate_258 : decode c_MO_deflate 258 = .ok (.goto (-217), 3) := by decide +kernel
theorem d_MO_deflate_261 : decode c_MO_deflate 261 = .ok (.aload_n 0, 1) := by decide +kernel
theorem d_MO_deflate_262 : decode c_MO_deflate 262 = .ok (.sipush 256, 3) := by decide +kernel
theorem d_MO_deflate_265 : decode c_MO_deflate 265 = .ok (.invokevirtual 148, 3) := by decide +kernel
theorem d_MO_deflate_268 : decode c_MO_deflate 268 = .ok (.aload_n 0, 1) := by decide +kernel
theorem d_MO_deflate_269 : decode c_MO_deflate 269 = .ok (.invokevirtual 138, 3) := by decide +kernel
theorem d_MO_deflate_272 : decode c_MO_deflate 272 = .ok (.return_, 1) := by decide +kernel
theorem d_MO_putBits_0 : decode c_MO_putBits 0 = .ok (.iconst 0, 1) := by decide +kernel
theorem d_MO_putBits_1 : decode c_MO_putBits 1 = .ok (.istore_n 3, 1) := by decide +kernel
theorem d_MO_putBits_2 : decode c_MO_putBits 2 = .ok (.iload_n 3, 1) := by decide +kernel
theorem d_MO_putBits_3 : decode c_MO_putBits 3 = .ok (.iload_n 2, 1) := by decide +kernel
theorem d_MO_putBits_4 : decode c_MO_putBits 4 = .ok (.if_icmp .ge 51, 3) := by decide +kernel
theorem d_MO_putBits_7 : decode c_MO_putBits 7 = .ok (.aload_n 0, 1) := by decide +kernel
theorem d_MO_putBits_8 : decode c_MO_putBits 8 = .ok (.dup, 1) := by decide +kernel
theorem d_MO_putBits_9 : decode c_MO_putBits 9 = .ok (.getfield 132, 3) := by decide +kernel
theorem d_MO_putBits_12 : decode c_MO_putBits 12 = .ok (.iload_n 1, 1) := by decide +kernel
theorem d_MO_putBits_13 : decode c_MO_putBits 13 = .ok (.iload_n 3, 1) := by decide +kernel
theorem d_MO_putBits_14 : decode c_MO_putBits 14 = .ok (.ishr, 1) := by decide +kernel
theorem d_MO_putBits_15 : decode c_MO_putBits 15 = .ok (.iconst 1, 1) := by decide +kernel
theorem d_MO_putBits_16 : decode c_MO_putBits 16 = .ok (.iand, 1) := by decide +kernel
theorem d_MO_putBits_17 : decode c_MO_putBits 17 = .ok (.aload_n 0, 1) := by decide +kernel
theorem d_MO_putBits_18 : decode c_MO_putBits 18 = .ok (.getfield 135, 3) := by decide +kernel
theorem d_MO_putBits_21 : decode c_MO_putBits 21 = .ok (.ishl, 1) := by decide +kernel
theorem d_MO_putBits_22 : decode c_MO_putBits 22 = .ok (.ior, 1) := by decide +kernel
theorem d_MO_putBits_23 : decode c_MO_putBits 23 = .ok (.putfield 132, 3) := by decide +kernel
theorem d_MO_putBits_26 : decode c_MO_putBits 26 = .ok (.aload_n 0, 1) := by decide +kernel
theorem d_MO_putBits_27 : decode c_MO_putBits 27 = .ok (.dup, 1) := by decide +kernel
theorem d_MO_putBits_28 : decode c_MO_putBits 28 = .ok (.getfield 135, 3) := by decide +kernel
theorem d_MO_putBits_31 : decode c_MO_putBits 31 = .ok (.iconst 1, 1) := by decide +kernel
theorem d_MO_putBits_32 : decode c_MO_putBits 32 = .ok (.iadd, 1) := by decide +kernel
theorem d_MO_putBits_33 : decode c_MO_putBits 33 = .ok (.putfield 135, 3) := by decide +kernel
theorem d_MO_putBits_36 : decode c_MO_putBits 36 = .ok (.aload_n 0, 1) := by decide +kernel
theorem d_MO_putBits_37 : decode c_MO_putBits 37 = .ok (.getfield 135, 3) := by decide +kernel
theorem d_MO_putBits_40 : decode c_MO_putBits 40 = .ok (.bipush 8, 2) := by decide +kernel
theorem d_MO_putBits_42 : decode c_MO_putBits 42 = .ok (.if_icmp .ne 7, 3) := by decide +kernel
theorem d_MO_putBits_45 : decode c_MO_putBits 45 = .ok (.aload_n 0, 1) := by decide +kernel
theorem d_MO_putBits_46 : decode c_MO_putBits 46 = .ok (.invokevirtual 138, 3) := by decide +kernel
theorem d_MO_putBits_49 : decode c_MO_putBits 49 = .ok (.iinc 3 1, 3) := by decide +kernel
theorem d_MO_putBits_52 : decode c_MO_putBits 52 = .ok (.goto (-50), 3) := by decide +kernel
theorem d_MO_putBits_55 : decode c_MO_putBits 55 = .ok (.return_, 1) := by decide +kernel
theorem d_MO_flush_0 : decode c_MO_flush 0 = .ok (.aload_n 0, 1) := by decide +kernel
theorem d_MO_flush_1 : decode c_MO_flush 1 = .ok (.getfield 135, 3) := by decide +kernel
theorem d_MO_flush_4 : decode c_MO_flush 4 = .ok (.ifCond .ne 4, 3) := by decide +kernel
theorem d_MO_flush_7 : decode c_MO_flush 7 = .ok (.return_, 1) := by decide +kernel
theorem d_MO_flush_8 : decode c_MO_flush 8 = .ok (.aload_n 0, 1) := by decide +kernel
theorem d_MO_flush_9 : decode c_MO_flush 9 = .ok (.aload_n 0, 1) := by decide +kernel
theorem d_MO_flush_10 : decode c_MO_flush 10 = .ok (.getfield 132, 3) := by decide +kernel
theorem d_MO_flush_13 : decode c_MO_flush 13 = .ok (.invokevirtual 129, 3) := by decide +kernel
theorem d_MO_flush_16 : decode c_MO_flush 16 = .ok (.aload_n 0, 1) := by decide +kernel
theorem d_MO_flush_17 : decode c_MO_flush 17 = .ok (.iconst 0, 1) := by decide +kernel
theorem d_MO_flush_18 : decode c_MO_flush 18 = .ok (.putfield 132, 3) := by decide +kernel
theorem d_MO_flush_21 : decode c_MO_flush 21 = .ok (.aload_n 0, 1) := by decide +kernel
theorem d_MO_flush_22 : decode c_MO_flush 22 = .ok (.iconst 0, 1) := by decide +kernel
theorem d_MO_flush_23 : decode c_MO_flush 23 = .ok (.putfield 135, 3) := by decide +kernel
theorem d_MO_flush_26 : decode c_MO_flush 26 = .ok (.return_, 1) := by decide +kernel
theorem d_MO_mark_0 : decode c_MO_mark 0 = .ok (.aload_n 0, 1) := by decide +kernel
theorem d_MO_mark_1 : decode c_MO_mark 1 = .ok (.getfield 19, 3) := by decide +kernel
theorem d_MO_mark_4 : decode c_MO_mark 4 = .ok (.iload_n 1, 1) := by decide +kernel
theorem d_MO_mark_5 : decode c_MO_mark 5 = .ok (.baload, 1) := by decide +kernel
theorem d_MO_mark_6 : decode c_MO_mark 6 = .ok (.sipush 255, 3) := by decide +kernel
theorem d_MO_mark_9 : decode c_MO_mark 9 = .ok (.iand, 1) := by decide +kernel
theorem d_MO_mark_10 : decode c_MO_mark 10 = .ok (.ldc 151, 2) := by decide +kernel
theorem d_MO_mark_12 : decode c_MO_mark 12 = .ok (.imul, 1) := by decide +kernel
theorem d_MO_mark_13 : decode c_MO_mark 13 = .ok (.aload_n 0, 1) := by decide +kernel
theorem d_MO_mark_14 : decode c_MO_mark 14 = .ok (.getfield 19, 3) := by decide +kernel
theorem d_MO_mark_17 : decode c_MO_mark 17 = .ok (.iload_n 1, 1) := by decide +kernel
theorem d_MO_mark_18 : decode c_MO_mark 18 = .ok (.iconst 1, 1) := by decide +kernel
theorem d_MO_mark_19 : decode c_MO_mark 19 = .ok (.iadd, 1) := by decide +kernel
theorem d_MO_mark_20 : decode c_MO_mark 20 = .ok (.baload, 1) := by decide +kernel
theorem d_MO_mark_21 : decode c_MO_mark 21 = .ok (.sipush 255, 3) := by decide +kernel
theorem d_MO_mark_24 : decode c_MO_mark 24 = .ok (.iand, 1) := by decide +kernel
theorem d_MO_mark_25 : decode c_MO_mark 25 = .ok (.sipush 257, 3) := by decide +kernel
theorem d_MO_mark_28 : decode c_MO_mark 28 = .ok (.imul, 1) := by decide +kernel
theorem d_MO_mark_29 : decode c_MO_mark 29 = .ok (.iadd, 1) := by decide +kernel
theorem d_MO_mark_30 : decode c_MO_mark 30 = .ok (.aload_n 0, 1) := by decide +kernel
theorem d_MO_mark_31 : decode c_MO_mark 31 = .ok (.getfield 19, 3) := by decide +kernel
theorem d_MO_mark_34 : decode c_MO_mark 34 = .ok (.iload_n 1, 1) := by decide +kernel
theorem d_MO_mark_35 : decode c_MO_mark 35 = .ok (.iconst 2, 1) := by decide +kernel
theorem d_MO_mark_36 : decode c_MO_mark 36 = .ok (.iadd, 1) := by decide +kernel
theorem d_MO_mark_37 : decode c_MO_mark 37 = .ok (.baload, 1) := by decide +kernel
theorem d_MO_mark_38 : decode c_MO_mark 38 = .ok (.sipush 255, 3) := by decide +kernel
theorem d_MO_mark_41 : decode c_MO_mark 41 = .ok (.iand, 1) := by decide +kernel
theorem d_MO_mark_42 : decode c_MO_mark 42 = .ok (.iadd, 1) := by decide +kernel
theorem d_MO_mark_43 : decode c_MO_mark 43 = .ok (.ldc 152, 2) := by decide +kernel
theorem d_MO_mark_45 : decode c_MO_mark 45 = .ok (.imul, 1) := by decide +kernel
theorem d_MO_mark_46 : decode c_MO_mark 46 = .ok (.iconst 4, 1) := by decide +kernel
theorem d_MO_mark_47 : decode c_MO_mark 47 = .ok (.ishr, 1) := by decide +kernel
theorem d_MO_mark_48 : decode c_MO_mark 48 = .ok (.ldc 107, 2) := by decide +kernel
theorem d_MO_mark_50 : decode c_MO_mark 50 = .ok (.iand, 1) := by decide +kernel
theorem d_MO_mark_51 : decode c_MO_mark 51 = .ok (.ireturn, 1) := by decide +kernel
theorem d_MO_putCopy_0 : decode c_MO_putCopy 0 = .ok (.sipush 257, 3) := by decide +kernel
theorem d_MO_putCopy_3 : decode c_MO_putCopy 3 = .ok (.istore_n 3, 1) := by decide +kernel
theorem d_MO_putCopy_4 : decode c_MO_putCopy 4 = .ok (.iconst 3, 1) := by decide +kernel
theorem d_MO_putCopy_5 : decode c_MO_putCopy 5 = .ok (.istore 4, 2) := by decide +kernel
theorem d_MO_putCopy_7 : decode c_MO_putCopy 7 = .ok (.iload_n 3, 1) := by decide +kernel
theorem d_MO_putCopy_8 : decode c_MO_putCopy 8 = .ok (.sipush 284, 3) := by decide +kernel
theorem d_MO_putCopy_11 : decode c_MO_putCopy 11 = .ok (.if_icmp .ge 33, 3) := by decide +kernel
theorem d_MO_putCopy_14 : decode c_MO_putCopy 14 = .ok (.iload 4, 2) := by decide +kernel
theorem d_MO_putCopy_16 : decode c_MO_putCopy 16 = .ok (.iconst 1, 1) := by decide +kernel
theorem d_MO_putCopy_17 : decode c_MO_putCopy 17 = .ok (.iload_n 3, 1) := by decide +kernel
theorem d_MO_putCopy_18 : decode c_MO_putCopy 18 = .ok (.invokestatic 100, 3) := by decide +kernel
theorem d_MO_putCopy_21 : decode c_MO_putCopy 21 = .ok (.ishl, 1) := by decide +kernel
theorem d_MO_putCopy_22 : decode c_MO_putCopy 22 = .ok (.iadd, 1) := by decide +kernel
theorem d_MO_putCopy_23 : decode c_MO_putCopy 23 = .ok (.iload_n 1, 1) := by decide +kernel
theorem d_MO_putCopy_24 : decode c_MO_putCopy 24 = .ok (.if_icmp .gt 20, 3) := by decide +kernel
theorem d_MO_putCopy_27 : decode c_MO_putCopy 27 = .ok (.iload 4, 2) := by decide +kernel
theorem d_MO_putCopy_29 : decode c_MO_putCopy 29 = .ok (.iconst 1, 1) := by decide +kernel
theorem d_MO_putCopy_30 : decode c_MO_putCopy 30 = .ok (.iload_n 3, 1) := by decide +kernel
theorem d_MO_putCopy_31 : decode c_MO_putCopy 31 = .ok (.invokestatic 100, 3) := by decide +kernel
theorem d_MO_putCopy_34 : decode c_MO_putCopy 34 = .ok (.ishl, 1) := by decide +kernel
theorem d_MO_putCopy_35 : decode c_MO_putCopy 35 = .ok (.iadd, 1) := by decide +kernel
theorem d_MO_putCopy_36 : decode c_MO_putCopy 36 = .ok (.istore 4, 2) := by decide +kernel
theorem d_MO_putCopy_38 : decode c_MO_putCopy 38 = .ok (.iinc 3 1, 3) := by decide +kernel
theorem d_MO_putCopy_41 : decode c_MO_putCopy 41 = .ok (.goto (-34), 3) := by decide +kernel
theorem d_MO_putCopy_44 : decode c_MO_putCopy 44 = .ok (.iload_n 1, 1) := by decide +kernel
theorem d_MO_putCopy_45 : decode c_MO_putCopy 45 = .ok (.sipush 258, 3) := by decide +kernel
theorem d_MO_putCopy_48 : decode c_MO_putCopy 48 = .ok (.if_icmp .ne 12, 3) := by decide +kernel
theorem d_MO_putCopy_51 : decode c_MO_putCopy 51 = .ok (.sipush 285, 3) := by decide +kernel
theorem d_MO_putCopy_54 : decode c_MO_putCopy 54 = .ok (.istore_n 3, 1) := by decide +kernel
theorem d_MO_putCopy_55 : decode c_MO_putCopy 55 = .ok (.sipush 258, 3) := by decide +kernel
theorem d_MO_putCopy_58 : decode c_MO_putCopy 58 = .ok (.istore 4, 2) := by decide +kernel
theorem d_MO_putCopy_60 : decode c_MO_putCopy 60 = .ok (.aload_n 0, 1) := by decide +kernel
theorem d_MO_putCopy_61 : decode c_MO_putCopy 61 = .ok (.iload_n 3, 1) := by decide +kernel
theorem d_MO_putCopy_62 : decode c_MO_putCopy 62 = .ok (.invokevirtual 148, 3) := by decide +kernel
theorem d_MO_putCopy_65 : decode c_MO_putCopy 65 = .ok (.aload_n 0, 1) := by decide +kernel
theorem d_MO_putCopy_66 : decode c_MO_putCopy 66 = .ok (.iload_n 1, 1) := by decide +kernel
theorem d_MO_putCopy_67 : decode c_MO_putCopy 67 = .ok (.iload 4, 2) := by decide +kernel
theorem d_MO_putCopy_69 : decode c_MO_putCopy 69 = .ok (.isub, 1) := by decide +kernel
theorem d_MO_putCopy_70 : decode c_MO_putCopy 70 = .ok (.iload_n 3, 1) := by decide +kernel
theorem d_MO_putCopy_71 : decode c_MO_putCopy 71 = .ok (.invokestatic 100, 3) := by decide +kernel
theorem d_MO_putCopy_74 : decode c_MO_putCopy 74 = .ok (.invokevirtual 141, 3) := by decide +kernel
theorem d_MO_putCopy_77 : decode c_MO_putCopy 77 = .ok (.iconst 0, 1) := by decide +kernel
theorem d_MO_putCopy_78 : decode c_MO_putCopy 78 = .ok (.istore 5, 2) := by decide +kernel
theorem d_MO_putCopy_80 : decode c_MO_putCopy 80 = .ok (.iconst 1, 1) := by decide +kernel
theorem d_MO_putCopy_81 : decode c_MO_putCopy 81 = .ok (.istore 6, 2) := by decide +kernel
theorem d_MO_putCopy_83 : decode c_MO_putCopy 83 = .ok (.iload 6, 2) := by decide +kernel
theorem d_MO_putCopy_85 : decode c_MO_putCopy 85 = .ok (.iconst 1, 1) := by decide +kernel
theorem d_MO_putCopy_86 : decode c_MO_putCopy 86 = .ok (.iload 5, 2) := by decide +kernel
theorem d_MO_putCopy_88 : decode c_MO_putCopy 88 = .ok (.invokestatic 103, 3) := by decide +kernel
theorem d_MO_putCopy_91 : decode c_MO_putCopy 91 = .ok (.ishl, 1) := by decide +kernel
theorem d_MO_putCopy_92 : decode c_MO_putCopy 92 = .ok (.iadd, 1) := by decide +kernel
theorem d_MO_putCopy_93 : decode c_MO_putCopy 93 = .ok (.iload_n 2, 1) := by decide +kernel
theorem d_MO_putCopy_94 : decode c_MO_putCopy 94 = .ok (.if_icmp .gt 21, 3) := by decide +kernel
theorem d_MO_putCopy_97 : decode c_MO_putCopy 97 = .ok (.iload 6, 2) := by decide +kernel
theorem d_MO_putCopy_99 : decode c_MO_putCopy 99 = .ok (.iconst 1, 1) := by decide +kernel
theorem d_MO_putCopy_100 : decode c_MO_putCopy 100 = .ok (.iload 5, 2) := by decide +kernel
theorem d_MO_putCopy_102 : decode c_MO_putCopy 102 = .ok (.invokestatic 103, 3) := by decide +kernel
theorem d_MO_putCopy_105 : decode c_MO_putCopy 105 = .ok (.ishl, 1) := by decide +kernel
theorem d_MO_putCopy_106 : decode c_MO_putCopy 106 = .ok (.iadd, 1) := by decide +kernel
theorem d_MO_putCopy_107 : decode c_MO_putCopy 107 = .ok (.istore 6, 2) := by decide +kernel
theorem d_MO_putCopy_109 : decode c_MO_putCopy 109 = .ok (.iinc 5 1, 3) := by decide +kernel
theorem d_MO_putCopy_112 : decode c_MO_putCopy 112 = .ok (.goto (-29), 3) := by decide +kernel
theorem d_MO_putCopy_115 : decode c_MO_putCopy 115 = .ok (.aload_n 0, 1) := by decide +kernel
theorem d_MO_putCopy_116 : decode c_MO_putCopy 116 = .ok (.iload 5, 2) := by decide +kernel
theorem d_MO_putCopy_118 : decode c_MO_putCopy 118 = .ok (.iconst 5, 1) := by decide +kernel
theorem d_MO_putCopy_119 : decode c_MO_putCopy 119 = .ok (.invokevirtual 145, 3) := by decide +kernel
theorem d_MO_putCopy_122 : decode c_MO_putCopy 122 = .ok (.aload_n 0, 1) := by decide +kernel
theorem d_MO_putCopy_123 : decode c_MO_putCopy 123 = .ok (.iload_n 2, 1) := by decide +kernel
theorem d_MO_putCopy_124 : decode c_MO_putCopy 124 = .ok (.iload 6, 2) := by decide +kernel
theorem d_MO_putCopy_126 : decode c_MO_putCopy 126 = .ok (.isub, 1) := by decide +kernel
theorem d_MO_putCopy_127 : decode c_MO_putCopy 127 = .ok (.iload 5, 2) := by decide +kernel
theorem d_MO_putCopy_129 : decode c_MO_putCopy 129 = .ok (.invokestatic 103, 3) := by decide +kernel
theorem d_MO_putCopy_132 : decode c_MO_putCopy 132 = .ok (.invokevirtual 141, 3) := by decide +kernel
theorem d_MO_putCopy_135 : decode c_MO_putCopy 135 = .ok (.return_, 1) := by decide +kernel
theorem d_MO_putLiteral_0 : decode c_MO_putLiteral 0 = .ok (.iload_n 1, 1) := by decide +kernel
theorem d_MO_putLiteral_1 : decode c_MO_putLiteral 1 = .ok (.sipush 144, 3) := by decide +kernel
theorem d_MO_putLiteral_4 : decode c_MO_putLiteral 4 = .ok (.if_icmp .ge 16, 3) := by decide +kernel
theorem d_MO_putLiteral_7 : decode c_MO_putLiteral 7 = .ok (.aload_n 0, 1) := by decide +kernel
theorem d_MO_putLiteral_8 : decode c_MO_putLiteral 8 = .ok (.bipush 48, 2) := by decide +kernel
theorem d_MO_putLiteral_10 : decode c_MO_putLiteral 10 = .ok (.iload_n 1, 1) := by decide +kernel
theorem d_MO_putLiteral_11 : decode c_MO_putLiteral 11 = .ok (.iadd, 1) := by decide +kernel
theorem d_MO_putLiteral_12 : decode c_MO_putLiteral 12 = .ok (.bipush 8, 2) := by decide +kernel
theorem d_MO_putLiteral_14 : decode c_MO_putLiteral 14 = .ok (.invokevirtual 145, 3) := by decide +kernel
theorem d_MO_putLiteral_17 : decode c_MO_putLiteral 17 = .ok (.goto 64, 3) := by decide +kernel
theorem d_MO_putLiteral_20 : decode c_MO_putLiteral 20 = .ok (.iload_n 1, 1) := by decide +kernel
theorem d_MO_putLiteral_21 : decode c_MO_putLiteral 21 = .ok (.sipush 256, 3) := by decide +kernel
theorem d_MO_putLiteral_24 : decode c_MO_putLiteral 24 = .ok (.if_icmp .ge 21, 3) := by decide +kernel
theorem d_MO_putLiteral_27 : decode c_MO_putLiteral 27 = .ok (.aload_n 0, 1) := by decide +kernel
theorem d_MO_putLiteral_28 : decode c_MO_putLiteral 28 = .ok (.sipush 400, 3) := by decide +kernel
theorem d_MO_putLiteral_31 : decode c_MO_putLiteral 31 = .ok (.iload_n 1, 1) := by decide +kernel
theorem d_MO_putLiteral_32 : decode c_MO_putLiteral 32 = .ok (.iadd, 1) := by decide +kernel
theorem d_MO_putLiteral_33 : decode c_MO_putLiteral 33 = .ok (.sipush 144, 3) := by decide +kernel
theorem d_MO_putLiteral_36 : decode c_MO_putLiteral 36 = .ok (.isub, 1) := by decide +kernel
theorem d_MO_putLiteral_37 : decode c_MO_putLiteral 37 = .ok (.bipush 9, 2) := by decide +kernel
theorem d_MO_putLiteral_39 : decode c_MO_putLiteral 39 = .ok (.invokevirtual 145, 3) := by decide +kernel
theorem d_MO_putLiteral_42 : decode c_MO_putLiteral 42 = .ok (.goto 39, 3) := by decide +kernel
theorem d_MO_putLiteral_45 : decode c_MO_putLiteral 45 = .ok (.iload_n 1, 1) := by decide +kernel
theorem d_MO_putLiteral_46 : decode c_MO_putLiteral 46 = .ok (.sipush 280, 3) := by decide +kernel
theorem d_MO_putLiteral_49 : decode c_MO_putLiteral 49 = .ok (.if_icmp .ge 17, 3) := by decide +kernel
theorem d_MO_putLiteral_52 : decode c_MO_putLiteral 52 = .ok (.aload_n 0, 1) := by decide +kernel
theorem d_MO_putLiteral_53 : decode c_MO_putLiteral 53 = .ok (.iload_n 1, 1) := by decide +kernel
theorem d_MO_putLiteral_54 : decode c_MO_putLiteral 54 = .ok (.sipush 256, 3) := by decide +kernel
theorem d_MO_putLiteral_57 : decode c_MO_putLiteral 57 = .ok (.isub, 1) := by decide +kernel
theorem d_MO_putLiteral_58 : decode c_MO_putLiteral 58 = .ok (.bipush 7, 2) := by decide +kernel
theorem d_MO_putLiteral_60 : decode c_MO_putLiteral 60 = .ok (.invokevirtual 145, 3) := by decide +kernel
theorem d_MO_putLiteral_63 : decode c_MO_putLiteral 63 = .ok (.goto 18, 3) := by decide +kernel
theorem d_MO_putLiteral_66 : decode c_MO_putLiteral 66 = .ok (.aload_n 0, 1) := by decide +kernel
theorem d_MO_putLiteral_67 : decode c_MO_putLiteral 67 = .ok (.sipush 192, 3) := by decide +kernel
theorem d_MO_putLiteral_70 : decode c_MO_putLiteral 70 = .ok (.iload_n 1, 1) := by decide +kernel
theorem d_MO_putLiteral_71 : decode c_MO_putLiteral 71 = .ok (.iadd, 1) := by decide +kernel
theorem d_MO_putLiteral_72 : decode c_MO_putLiteral 72 = .ok (.sipush 280, 3) := by decide +kernel
theorem d_MO_putLiteral_75 : decode c_MO_putLiteral 75 = .ok (.isub, 1) := by decide +kernel
theorem d_MO_putLiteral_76 : decode c_MO_putLiteral 76 = .ok (.bipush 8, 2) := by decide +kernel
theorem d_MO_putLiteral_78 : decode c_MO_putLiteral 78 = .ok (.invokevirtual 145, 3) := by decide +kernel
theorem d_MO_putLiteral_81 : decode c_MO_putLiteral 81 = .ok (.return_, 1) := by decide +kernel
theorem d_MO_putCode_0 : decode c_MO_putCode 0 = .ok (.iload_n 2, 1) := by decide +kernel
theorem d_MO_putCode_1 : decode c_MO_putCode 1 = .ok (.iconst 1, 1) := by decide +kernel
theorem d_MO_putCode_2 : decode c_MO_putCode 2 = .ok (.isub, 1) := by decide +kernel
theorem d_MO_putCode_3 : decode c_MO_putCode 3 = .ok (.istore_n 3, 1) := by decide +kernel
theorem d_MO_putCode_4 : decode c_MO_putCode 4 = .ok (.iload_n 3, 1) := by decide +kernel
theorem d_MO_putCode_5 : decode c_MO_putCode 5 = .ok (.ifCond .lt 19, 3) := by decide +kernel
theorem d_MO_putCode_8 : decode c_MO_putCode 8 = .ok (.aload_n 0, 1) := by decide +kernel
theorem d_MO_putCode_9 : decode c_MO_putCode 9 = .ok (.iload_n 1, 1) := by decide +kernel
theorem d_MO_putCode_10 : decode c_MO_putCode 10 = .ok (.iload_n 3, 1) := by decide +kernel
theorem d_MO_putCode_11 : decode c_MO_putCode 11 = .ok (.ishr, 1) := by decide +kernel
theorem d_MO_putCode_12 : decode c_MO_putCode 12 = .ok (.iconst 1, 1) := by decide +kernel
theorem d_MO_putCode_13 : decode c_MO_putCode 13 = .ok (.iand, 1) := by decide +kernel
theorem d_MO_putCode_14 : decode c_MO_putCode 14 = .ok (.iconst 1, 1) := by decide +kernel
theorem d_MO_putCode_15 : decode c_MO_putCode 15 = .ok (.invokevirtual 141, 3) := by decide +kernel
theorem d_MO_putCode_18 : decode c_MO_putCode 18 = .ok (.iinc 3 (-1), 3) := by decide +kernel
theorem d_MO_putCode_21 : decode c_MO_putCode 21 = .ok (.goto (-17), 3) := by decide +kernel
theorem d_MO_putCode_24 : decode c_MO_putCode 24 = .ok (.return_, 1) := by decide +kernel
theorem d_MO_putBig_0 : decode c_MO_putBig 0 = .ok (.bipush 24, 2) := by decide +kernel
theorem d_MO_putBig_2 : decode c_MO_putBig 2 = .ok (.istore_n 3, 1) := by decide +kernel
theorem d_MO_putBig_3 : decode c_MO_putBig 3 = .ok (.iload_n 3, 1) := by decide +kernel
theorem d_MO_putBig_4 : decode c_MO_putBig 4 = .ok (.ifCond .lt 17, 3) := by decide +kernel
theorem d_MO_putBig_7 : decode c_MO_putBig 7 = .ok (.aload_n 0, 1) := by decide +kernel
theorem d_MO_putBig_8 : decode c_MO_putBig 8 = .ok (.lload_n 1, 1) := by decide +kernel
theorem d_MO_putBig_9 : decode c_MO_putBig 9 = .ok (.iload_n 3, 1) := by decide +kernel
theorem d_MO_putBig_10 : decode c_MO_putBig 10 = .ok (.lshr, 1) := by decide +kernel
theorem d_MO_putBig_11 : decode c_MO_putBig 11 = .ok (.l2i, 1) := by decide +kernel
theorem d_MO_putBig_12 : decode c_MO_putBig 12 = .ok (.invokevirtual 129, 3) := by decide +kernel
theorem d_MO_putBig_15 : decode c_MO_putBig 15 = .ok (.iinc 3 (-8), 3) := by decide +kernel
theorem d_MO_putBig_18 : decode c_MO_putBig 18 = .ok (.goto (-15), 3) := by decide +kernel
theorem d_MO_putBig_21 : decode c_MO_putBig 21 = .ok (.return_, 1) := by decide +kernel
theorem d_MO_adler2_0 : decode c_MO_adler2 0 = .ok (.aload_n 0, 1) := by decide +kernel
theorem d_MO_adler2_1 : decode c_MO_adler2 1 = .ok (.iconst 0, 1) := by decide +kernel
theorem d_MO_adler2_2 : decode c_MO_adler2 2 = .ok (.putfield 49, 3) := by decide +kernel
theorem d_MO_adler2_5 : decode c_MO_adler2 5 = .ok (.aload_n 0, 1) := by decide +kernel
theorem d_MO_adler2_6 : decode c_MO_adler2 6 = .ok (.getfield 7, 3) := by decide +kernel
theorem d_MO_adler2_9 : decode c_MO_adler2 9 = .ok (.aload_n 0, 1) := by decide +kernel
theorem d_MO_adler2_10 : decode c_MO_adler2 10 = .ok (.getfield 165, 3) := by decide +kernel
theorem d_MO_adler2_13 : decode c_MO_adler2 13 = .ok (.invokestatic 119, 3) := by decide +kernel
theorem d_MO_adler2_16 : decode c_MO_adler2 16 = .ok (.l2i, 1) := by decide +kernel
theorem d_MO_adler2_17 : decode c_MO_adler2 17 = .ok (.ireturn, 1) := by decide +kernel
theorem d_MO_feed_0 : decode c_MO_feed 0 = .ok (.aload_n 0, 1) := by decide +kernel
theorem d_MO_feed_1 : decode c_MO_feed 1 = .ok (.iconst 0, 1) := by decide +kernel
theorem d_MO_feed_2 : decode c_MO_feed 2 = .ok (.putfield 49, 3) := by decide +kernel
theorem d_MO_feed_5 : decode c_MO_feed 5 = .ok (.aload_n 0, 1) := by decide +kernel
theorem d_MO_feed_6 : decode c_MO_feed 6 = .ok (.getfield 165, 3) := by decide +kernel
theorem d_MO_feed_9 : decode c_MO_feed 9 = .ok (.bipush 20, 2) := by decide +kernel
theorem d_MO_feed_11 : decode c_MO_feed 11 = .ok (.iadd, 1) := by decide +kernel
theorem d_MO_feed_12 : decode c_MO_feed 12 = .ok (.sipush 16384, 3) := by decide +kernel
theorem d_MO_feed_15 : decode c_MO_feed 15 = .ok (.if_icmp .le 9, 3) := by decide +kernel
theorem d_MO_feed_18 : decode c_MO_feed 18 = .ok (.aload_n 0, 1) := by decide +kernel
theorem d_MO_feed_19 : decode c_MO_feed 19 = .ok (.iconst 1, 1) := by decide +kernel
theorem d_MO_feed_20 : decode c_MO_feed 20 = .ok (.invokevirtual 171, 3) := by decide +kernel
theorem d_MO_feed_23 : decode c_MO_feed 23 = .ok (.ireturn, 1) := by decide +kernel
theorem d_MO_feed_24 : decode c_MO_feed 24 = .ok (.iconst 0, 1) := by decide +kernel
theorem d_MO_feed_25 : decode c_MO_feed 25 = .ok (.istore 6, 2) := by decide +kernel
theorem d_MO_feed_27 : decode c_MO_feed 27 = .ok (.iload 6, 2) := by decide +kernel
theorem d_MO_feed_29 : decode c_MO_feed 29 = .ok (.bipush 20, 2) := by decide +kernel
theorem d_MO_feed_31 : decode c_MO_feed 31 = .ok (.if_icmp .ge 90, 3) := by decide +kernel
theorem d_MO_feed_34 : decode c_MO_feed 34 = .ok (.iload 6, 2) := by decide +kernel
theorem d_MO_feed_36 : decode c_MO_feed 36 = .ok (.iconst 4, 1) := by decide +kernel
theorem d_MO_feed_37 : decode c_MO_feed 37 = .ok (.if_icmp .ge 7, 3) := by decide +kernel
theorem d_MO_feed_40 : decode c_MO_feed 40 = .ok (.iload_n 1, 1) := by decide +kernel
theorem d_MO_feed_41 : decode c_MO_feed 41 = .ok (.goto 39, 3) := by decide +kernel
theorem d_MO_feed_44 : decode c_MO_feed 44 = .ok (.iload 6, 2) := by decide +kernel
theorem d_MO_feed_46 : decode c_MO_feed 46 = .ok (.bipush 8, 2) := by decide +kernel
theorem d_MO_feed_48 : decode c_MO_feed 48 = .ok (.if_icmp .ge 7, 3) := by decide +kernel
theorem d_MO_feed_51 : decode c_MO_feed 51 = .ok (.iload_n 2, 1) := by decide +kernel
theorem d_MO_feed_52 : decode c_MO_feed 52 = .ok (.goto 28, 3) := by decide +kernel
theorem d_MO_feed_55 : decode c_MO_feed 55 = .ok (.iload 6, 2) := by decide +kernel
theorem d_MO_feed_57 : decode c_MO_feed 57 = .ok (.bipush 12, 2) := by decide +kernel
theorem d_MO_feed_59 : decode c_MO_feed 59 = .ok (.if_icmp .ge 7, 3) := by decide +kernel
theorem d_MO_feed_62 : decode c_MO_feed 62 = .ok (.iload_n 3, 1) := by decide +kernel
theorem d_MO_feed_63 : decode c_MO_feed 63 = .ok (.goto 17, 3) := by decide +kernel
theorem d_MO_feed_66 : decode c_MO_feed 66 = .ok (.iload 6, 2) := by decide +kernel
theorem d_MO_feed_68 : decode c_MO_feed 68 = .ok (.bipush 16, 2) := by decide +kernel
theorem d_MO_feed_70 : decode c_MO_feed 70 = .ok (.if_icmp .ge 8, 3) := by decide +kernel
theorem d_MO_feed_73 : decode c_MO_feed 73 = .ok (.iload 4, 2) := by decide +kernel
theorem d_MO_feed_75 : decode c_MO_feed 75 = .ok (.goto 5, 3) := by decide +kernel
theorem d_MO_feed_78 : decode c_MO_feed 78 = .ok (.iload 5, 2) := by decide +kernel
theorem d_MO_feed_80 : decode c_MO_feed 80 = .ok (.istore 7, 2) := by decide +kernel
theorem d_MO_feed_82 : decode c_MO_feed 82 = .ok (.aload_n 0, 1) := by decide +kernel
theorem d_MO_feed_83 : decode c_MO_feed 83 = .ok (.getfield 7, 3) := by decide +kernel
theorem d_MO_feed_86 : decode c_MO_feed 86 = .ok (.aload_n 0, 1) := by decide +kernel
theorem d_MO_feed_87 : decode c_MO_feed 87 = .ok (.getfield 165, 3) := by decide +kernel
theorem d_MO_feed_90 : decode c_MO_feed 90 = .ok (.iload 7, 2) := by decide +kernel
theorem d_MO_feed_92 : decode c_MO_feed 92 = .ok (.bipush 24, 2) := by decide +kernel
theorem d_MO_feed_94 : decode c_MO_feed 94 = .ok (.bipush 8, 2) := by decide +kernel
theorem d_MO_feed_96 : decode c_MO_feed 96 = .ok (.iload 6, 2) := by decide +kernel
theorem d_MO_feed_98 : decode c_MO_feed 98 = .ok (.iconst 4, 1) := by decide +kernel
theorem d_MO_feed_99 : decode c_MO_feed 99 = .ok (.irem, 1) := by decide +kernel
theorem d_MO_feed_100 : decode c_MO_feed 100 = .ok (.imul, 1) := by decide +kernel
theorem d_MO_feed_101 : decode c_MO_feed 101 = .ok (.isub, 1) := by decide +kernel
theorem d_MO_feed_102 : decode c_MO_feed 102 = .ok (.ishr, 1) := by decide +kernel
theorem d_MO_feed_103 : decode c_MO_feed 103 = .ok (.i2b, 1) := by decide +kernel
theorem d_MO_feed_104 : decode c_MO_feed 104 = .ok (.bastore, 1) := by decide +kernel
theorem d_MO_feed_105 : decode c_MO_feed 105 = .ok (.aload_n 0, 1) := by decide +kernel
theorem d_MO_feed_106 : decode c_MO_feed 106 = .ok (.dup, 1) := by decide +kernel
theorem d_MO_feed_107 : decode c_MO_feed 107 = .ok (.getfield 165, 3) := by decide +kernel
theorem d_MO_feed_110 : decode c_MO_feed 110 = .ok (.iconst 1, 1) := by decide +kernel
theorem d_MO_feed_111 : decode c_MO_feed 111 = .ok (.iadd, 1) := by decide +kernel
theorem d_MO_feed_112 : decode c_MO_feed 112 = .ok (.putfield 165, 3) := by decide +kernel
theorem d_MO_feed_115 : decode c_MO_feed 115 = .ok (.iinc 6 1, 3) := by decide +kernel
theorem d_MO_feed_118 : decode c_MO_feed 118 = .ok (.goto (-91), 3) := by decide +kernel
theorem d_MO_feed_121 : decode c_MO_feed 121 = .ok (.aload_n 0, 1) := by decide +kernel
theorem d_MO_feed_122 : decode c_MO_feed 122 = .ok (.getfield 165, 3) := by decide +kernel
theorem d_MO_feed_125 : decode c_MO_feed 125 = .ok (.ireturn, 1) := by decide +kernel
theorem d_MO_end_0 : decode c_MO_end 0 = .ok (.aload_n 0, 1) := by decide +kernel
theorem d_MO_end_1 : decode c_MO_end 1 = .ok (.iconst 0, 1) := by decide +kernel
theorem d_MO_end_2 : decode c_MO_end 2 = .ok (.putfield 49, 3) := by decide +kernel
theorem d_MO_end_5 : decode c_MO_end 5 = .ok (.iload_n 1, 1) := by decide +kernel
theorem d_MO_end_6 : decode c_MO_end 6 = .ok (.ifCond .lt 11, 3) := by decide +kernel
theorem d_MO_end_9 : decode c_MO_end 9 = .ok (.iload_n 1, 1) := by decide +kernel
theorem d_MO_end_10 : decode c_MO_end 10 = .ok (.aload_n 0, 1) := by decide +kernel
theorem d_MO_end_11 : decode c_MO_end 11 = .ok (.getfield 165, 3) := by decide +kernel
theorem d_MO_end_14 : decode c_MO_end 14 = .ok (.if_icmp .le 9, 3) := by decide +kernel
theorem d_MO_end_17 : decode c_MO_end 17 = .ok (.aload_n 0, 1) := by decide +kernel
theorem d_MO_end_18 : decode c_MO_end 18 = .ok (.iconst 1, 1) := by decide +kernel
theorem d_MO_end_19 : decode c_MO_end 19 = .ok (.invokevirtual 171, 3) := by decide +kernel
theorem d_MO_end_22 : decode c_MO_end 22 = .ok (.ireturn, 1) := by decide +kernel
theorem d_MO_end_23 : decode c_MO_end 23 = .ok (.aload_n 0, 1) := by decide +kernel
theorem d_MO_end_24 : decode c_MO_end 24 = .ok (.iload_n 1, 1) := by decide +kernel
theorem d_MO_end_25 : decode c_MO_end 25 = .ok (.putfield 165, 3) := by decide +kernel
theorem d_MO_end_28 : decode c_MO_end 28 = .ok (.iload_n 1, 1) := by decide +kernel
theorem d_MO_end_29 : decode c_MO_end 29 = .ok (.ireturn, 1) := by decide +kernel
end
section
/-! rows that decode: printed by wip/whole/znames.py -/
theorem d_MO_again_0 : decode c_MO_again 0 = .ok (.aload_n 0, 1) := by decide +kernel
theorem d_MO_again_1 : decode c_MO_again 1 = .ok (.iconst 0, 1) := by decide +kernel
theorem d_MO_again_2 : decode c_MO_again 2 = .ok (.putfield 49, 3) := by decide +kernel
theorem d_MO_again_5 : decode c_MO_again 5 = .ok (.iconst 0, 1) := by decide +kernel
theorem d_MO_again_6 : decode c_MO_again 6 = .ok (.istore_n 1, 1) := by decide +kernel
theorem d_MO_again_7 : decode c_MO_again 7 = .ok (.iload_n 1, 1) := by decide +kernel
theorem d_MO_again_8 : decode c_MO_again 8 = .ok (.aload_n 0, 1) := by decide +kernel
theorem d_MO_again_9 : decode c_MO_again 9 = .ok (.getfield 174, 3) := by decide +kernel
theorem d_MO_again_12 : decode c_MO_again 12 = .ok (.if_icmp .ge 21, 3) := by decide +kernel
theorem d_MO_again_15 : decode c_MO_again 15 = .ok (.aload_n 0, 1) := by decide +kernel
theorem d_MO_again_16 : decode c_MO_again 16 = .ok (.getfield 7, 3) := by decide +kernel
theorem d_MO_again_19 : decode c_MO_again 19 = .ok (.iload_n 1, 1) := by decide +kernel
theorem d_MO_again_20 : decode c_MO_again 20 = .ok (.aload_n 0, 1) := by decide +kernel
theorem d_MO_again_21 : decode c_MO_again 21 = .ok (.getfield 13, 3) := by decide +kernel
theorem d_MO_again_24 : decode c_MO_again 24 = .ok (.iload_n 1, 1) := by decide +kernel
theorem d_MO_again_25 : decode c_MO_again 25 = .ok (.baload, 1) := by decide +kernel
theorem d_MO_again_26 : decode c_MO_again 26 = .ok (.bastore, 1) := by decide +kernel
theorem d_MO_again_27 : decode c_MO_again 27 = .ok (.iinc 1 1, 3) := by decide +kernel
theorem d_MO_again_30 : decode c_MO_again 30 = .ok (.goto (-23), 3) := by decide +kernel
theorem d_MO_again_33 : decode c_MO_again 33 = .ok (.aload_n 0, 1) := by decide +kernel
theorem d_MO_again_34 : decode c_MO_again 34 = .ok (.aload_n 0, 1) := by decide +kernel
theorem d_MO_again_35 : decode c_MO_again 35 = .ok (.getfield 174, 3) := by decide +kernel
theorem d_MO_again_38 : decode c_MO_again 38 = .ok (.putfield 165, 3) := by decide +kernel
theorem d_MO_again_41 : decode c_MO_again 41 = .ok (.aload_n 0, 1) := by decide +kernel
theorem d_MO_again_42 : decode c_MO_again 42 = .ok (.getfield 165, 3) := by decide +kernel
theorem d_MO_again_45 : decode c_MO_again 45 = .ok (.ireturn, 1) := by decide +kernel
theorem d_MO_word_0 : decode c_MO_word 0 = .ok (.aload_n 0, 1) := by decide +kernel
theorem d_MO_word_1 : decode c_MO_word 1 = .ok (.iconst 0, 1) := by decide +kernel
theorem d_MO_word_2 : decode c_MO_word 2 = .ok (.putfield 49, 3) := by decide +kernel
theorem d_MO_word_5 : decode c_MO_word 5 = .ok (.iload_n 1, 1) := by decide +kernel
theorem d_MO_word_6 : decode c_MO_word 6 = .ok (.ifCond .lt 11, 3) := by decide +kernel
theorem d_MO_word_9 : decode c_MO_word 9 = .ok (.iload_n 1, 1) := by decide +kernel
theorem d_MO_word_10 : decode c_MO_word 10 = .ok (.aload_n 0, 1) := by decide +kernel
theorem d_MO_word_11 : decode c_MO_word 11 = .ok (.getfield 174, 3) := by decide +kernel
theorem d_MO_word_14 : decode c_MO_word 14 = .ok (.if_icmp .lt 10, 3) := by decide +kernel
theorem d_MO_word_17 : decode c_MO_word 17 = .ok (.aload_n 0, 1) := by decide +kernel
theorem d_MO_word_18 : decode c_MO_word 18 = .ok (.iconst 1, 1) := by decide +kernel
theorem d_MO_word_19 : decode c_MO_word 19 = .ok (.invokevirtual 171, 3) := by decide +kernel
theorem d_MO_word_22 : decode c_MO_word 22 = .ok (.i2l, 1) := by decide +kernel
theorem d_MO_word_23 : decode c_MO_word 23 = .ok (.lreturn, 1) := by decide +kernel
theorem d_MO_word_24 : decode c_MO_word 24 = .ok (.lconst 0, 1) := by decide +kernel
theorem d_MO_word_25 : decode c_MO_word 25 = .ok (.lstore_n 2, 1) := by decide +kernel
theorem d_MO_word_26 : decode c_MO_word 26 = .ok (.iload_n 1, 1) := by decide +kernel
theorem d_MO_word_27 : decode c_MO_word 27 = .ok (.istore 4, 2) := by decide +kernel
theorem d_MO_word_29 : decode c_MO_word 29 = .ok (.iload 4, 2) := by decide +kernel
theorem d_MO_word_31 : decode c_MO_word 31 = .ok (.iload_n 1, 1) := by decide +kernel
theorem d_MO_word_32 : decode c_MO_word 32 = .ok (.bipush 8, 2) := by decide +kernel
theorem d_MO_word_34 : decode c_MO_word 34 = .ok (.iadd, 1) := by decide +kernel
theorem d_MO_word_35 : decode c_MO_word 35 = .ok (.if_icmp .ge 41, 3) := by decide +kernel
theorem d_MO_word_38 : decode c_MO_word 38 = .ok (.lload_n 2, 1) := by decide +kernel
theorem d_MO_word_39 : decode c_MO_word 39 = .ok (.ldc2_w 117, 3) := by decide +kernel
theorem d_MO_word_42 : decode c_MO_word 42 = .ok (.lmul, 1) := by decide +kernel
theorem d_MO_word_43 : decode c_MO_word 43 = .ok (.iload 4, 2) := by decide +kernel
theorem d_MO_word_45 : decode c_MO_word 45 = .ok (.aload_n 0, 1) := by decide +kernel
theorem d_MO_word_46 : decode c_MO_word 46 = .ok (.getfield 174, 3) := by decide +kernel
theorem d_MO_word_49 : decode c_MO_word 49 = .ok (.if_icmp .ge 17, 3) := by decide +kernel
theorem d_MO_word_52 : decode c_MO_word 52 = .ok (.aload_n 0, 1) := by decide +kernel
theorem d_MO_word_53 : decode c_MO_word 53 = .ok (.getfield 13, 3) := by decide +kernel
theorem d_MO_word_56 : decode c_MO_word 56 = .ok (.iload 4, 2) := by decide +kernel
theorem d_MO_word_58 : decode c_MO_word 58 = .ok (.baload, 1) := by decide +kernel
theorem d_MO_word_59 : decode c_MO_word 59 = .ok (.sipush 255, 3) := by decide +kernel
theorem d_MO_word_62 : decode c_MO_word 62 = .ok (.iand, 1) := by decide +kernel
theorem d_MO_word_63 : decode c_MO_word 63 = .ok (.goto 4, 3) := by decide +kernel
theorem d_MO_word_66 : decode c_MO_word 66 = .ok (.iconst 0, 1) := by decide +kernel
theorem d_MO_word_67 : decode c_MO_word 67 = .ok (.i2l, 1) := by decide +kernel
theorem d_MO_word_68 : decode c_MO_word 68 = .ok (.ladd, 1) := by decide +kernel
theorem d_MO_word_69 : decode c_MO_word 69 = .ok (.lstore_n 2, 1) := by decide +kernel
theorem d_MO_word_70 : decode c_MO_word 70 = .ok (.iinc 4 1, 3) := by decide +kernel
theorem d_MO_word_73 : decode c_MO_word 73 = .ok (.goto (-44), 3) := by decide +kernel
theorem d_MO_word_76 : decode c_MO_word 76 = .ok (.lload_n 2, 1) := by decide +kernel
theorem d_MO_word_77 : decode c_MO_word 77 = .ok (.lreturn, 1) := by decide +kernel
theorem d_MO_count_0 : decode c_MO_count 0 = .ok (.aload_n 0, 1) := by decide +kernel
theorem d_MO_count_1 : decode c_MO_count 1 = .ok (.iconst 0, 1) := by decide +kernel
theorem d_MO_count_2 : decode c_MO_count 2 = .ok (.putfield 49, 3) := by decide +kernel
theorem d_MO_count_5 : decode c_MO_count 5 = .ok (.iload_n 1, 1) := by decide +kernel
theorem d_MO_count_6 : decode c_MO_count 6 = .ok (.ifCond .lt 8, 3) := by decide +kernel
theorem d_MO_count_9 : decode c_MO_count 9 = .ok (.iload_n 1, 1) := by decide +kernel
theorem d_MO_count_10 : decode c_MO_count 10 = .ok (.iconst 1, 1) := by decide +kernel
theorem d_MO_count_11 : decode c_MO_count 11 = .ok (.if_icmp .le 11, 3) := by decide +kernel
theorem d_MO_count_14 : decode c_MO_count 14 = .ok (.aload_n 0, 1) := by decide +kernel
theorem d_MO_count_15 : decode c_MO_count 15 = .ok (.iconst 1, 1) := by decide +kernel
theorem d_MO_count_16 : decode c_MO_count 16 = .ok (.invokevirtual 171, 3) := by decide +kernel
theorem d_MO_count_19 : decode c_MO_count 19 = .ok (.goto 18, 3) := by decide +kernel
theorem d_MO_count_22 : decode c_MO_count 22 = .ok (.iload_n 1, 1) := by decide +kernel
theorem d_MO_count_23 : decode c_MO_count 23 = .ok (.ifCond .ne 10, 3) := by decide +kernel
theorem d_MO_count_26 : decode c_MO_count 26 = .ok (.aload_n 0, 1) := by decide +kernel
theorem d_MO_count_27 : decode c_MO_count 27 = .ok (.getfield 165, 3) := by decide +kernel
theorem d_MO_count_30 : decode c_MO_count 30 = .ok (.goto 7, 3) := by decide +kernel
theorem d_MO_count_33 : decode c_MO_count 33 = .ok (.aload_n 0, 1) := by decide +kernel
theorem d_MO_count_34 : decode c_MO_count 34 = .ok (.getfield 174, 3) := by decide +kernel
theorem d_MO_count_37 : decode c_MO_count 37 = .ok (.ireturn, 1) := by decide +kernel
end
section
/-! contracts whose end is 'returned' or 'threw': what they say, how a body gives one, how a call uses one -/
section ZXA
/-- the frame at a method's end: mc cells of ms slots may be new if it returned, tc of ts if it threw -/
def zx_End (st : State) (o : Outcome) (t : State) (L : List Loc) (mc ms tc ts : Nat) : Prop :=
  st.WarmedH t.vm ∧ (((∃ v, o = .returned v) ∧ st.sameButNew ({ t with vm := st.vm } : State) L mc ms) ∨ ((∃ x, o = .threw x) ∧ st.sameButNew ({ t with vm := st.vm } : State) L tc ts))
def zx_Met (l : Launch) (y : MethodName) (ws : List Cond) (rm : Room) (Pc : Array Value → State → Prop) (Qc : Array Value → State → Outcome → State → Prop) (mc ms tc ts : Nat) (free : Addr → Prop) : Prop :=
  MetFree l y (headSpec ws rm) Pc (fun _ _ _ _ _ => True) (fun a st o t => Qc a st o t ∧ ∃ L, zx_End st o t L mc ms tc ts ∧ ∀ q ∈ L, free q.base)
def zx_Q (below : List Frame) (Qc : Array Value → State → Outcome → State → Prop) (a : Array Value) (s : State) (mc ms tc ts : Nat) (free : Addr → Prop) : State → Prop := fun t =>
  ∃ o, t.status = .running ∧ Ended t below o ∧ Qc a s o t ∧ ∃ L, zx_End s o t L mc ms tc ts ∧ ∀ q ∈ L, free q.base
/-- what a caller must know of a method's code -/
def zx_Code (s : State) (y : MethodName) (maxL : Nat) : Prop := ∃ mk methM cM, s.methodNamed? y = some mk ∧ s.vm.method? mk = some methM ∧ methM.code = some cM ∧ cM.maxLocals = maxL ∧ parseMethodDescriptor y.desc = some methM.sig
theorem zx_code {args : Array Value} {s : State} {y : MethodName} {bytes : ByteArray} {maxL : Nat} {ret : Option FieldType} (h : (Cond.code y bytes maxL ret).before args s = true) : zx_Code s y maxL := by
  obtain ⟨mk, hn⟩ := Cond.code_named h
  obtain ⟨meth, c, h1, h2, -, h4, -, -, -, h8⟩ := Cond.code_spec hn h
  exact ⟨mk, meth, c, hn, h1, h2, h4, h8⟩
theorem zx_codeWith {args : Array Value} {s : State} {y : MethodName} {bytes : ByteArray} {maxL : Nat} {ret : Option FieldType} {hh : List (Nat × Nat × Nat × Nat)} (h : (Cond.codeWith y bytes maxL ret hh).before args s = true) : zx_Code s y maxL := by
  obtain ⟨mk, meth, c, hn, h1, h2, -, h4, -, -, -, h8⟩ := Cond.codeWith_spec h
  exact ⟨mk, meth, c, hn, h1, h2, h4, h8⟩
theorem zx_ofG {l : Launch} {y : MethodName} {ws : List Cond} {rm : Room} {Pc : Array Value → State → Prop} {Qc : Array Value → State → Outcome → State → Prop} {mc ms tc ts : Nat} {free : Addr → Prop} {cc : ByteArray} {maxL : Nat} {ret : Option FieldType}
    (hy : plainName y.cls = true)
    (his : ∀ args (s : State) m, (headSpec ws rm).pre.before args s = true → s.methodNamed? y = some m → ∃ meth c, s.vm.method? m = some meth ∧ meth.code = some c ∧ c.code = cc ∧ c.maxLocals = maxL ∧ meth.sig.returnType = ret ∧ meth.locks = false)
    (body : ∀ p e s m args below meth c s₁, BodyLoose p l y (headSpec ws rm) cc maxL ret e s m args below meth c s₁ → c.maxLocals = maxL → Pc args s →
      W p l e (headSpec ws rm).room s m args below meth c s.heap [] 0 0 (zx_Q below Qc args s mc ms tc ts free) (entryFrame m args maxL)) : zx_Met l y ws rm Pc Qc mc ms tc ts free := by
  refine MetFree.of_bodyS (code := cc) (maxLocals := maxL) (ret := ret) hy his ?_
  intro p e s m args below meth c s₁ B hml hP _
  have hh0 : s₁.heap = s.heap := by rw [B.state]; rfl
  obtain ⟨t, a1, o, b1, b2, b3⟩ := body p e s m args below meth c s₁ B hml hP s₁ hh0 (Stand.of_body B)
  exact ⟨t, o, a1, b1, b2, ⟨b3.1, b3.2⟩⟩
theorem zx_ofW {l : Launch} {y : MethodName} {ws ws' : List Cond} {rm : Room} {Pc : Array Value → State → Prop} {Qc : Array Value → State → Outcome → State → Prop} {mc ms tc ts : Nat} {free : Addr → Prop} {cc : ByteArray} {maxL : Nat} {ret : Option FieldType}
    (hy : plainName y.cls = true) (hw : ws = Cond.code y cc maxL ret :: ws')
    (body : ∀ p e s m args below meth c s₁, BodyLoose p l y (headSpec ws rm) cc maxL ret e s m args below meth c s₁ → c.maxLocals = maxL → Pc args s →
      W p l e (headSpec ws rm).room s m args below meth c s.heap [] 0 0 (zx_Q below Qc args s mc ms tc ts free) (entryFrame m args maxL)) : zx_Met l y ws rm Pc Qc mc ms tc ts free := by
  refine zx_ofG hy ?_ body
  intro args s m h hn
  obtain ⟨meth, c, h1, h2, h3, h4, h5, h6, -, -⟩ := Cond.code_spec hn (atoms_spec (ws := ws) h _ (by rw [hw]; exact List.mem_cons_self))
  exact ⟨meth, c, h1, h2, h3, h4, h5, h6⟩
theorem zx_ofWith {l : Launch} {y : MethodName} {ws ws' : List Cond} {rm : Room} {Pc : Array Value → State → Prop} {Qc : Array Value → State → Outcome → State → Prop} {mc ms tc ts : Nat} {free : Addr → Prop} {cc : ByteArray} {maxL : Nat} {ret : Option FieldType} {hh : List (Nat × Nat × Nat × Nat)}
    (hy : plainName y.cls = true) (hw : ws = Cond.codeWith y cc maxL ret hh :: ws')
    (body : ∀ p e s m args below meth c s₁, BodyLoose p l y (headSpec ws rm) cc maxL ret e s m args below meth c s₁ → c.maxLocals = maxL → Pc args s →
      W p l e (headSpec ws rm).room s m args below meth c s.heap [] 0 0 (zx_Q below Qc args s mc ms tc ts free) (entryFrame m args maxL)) : zx_Met l y ws rm Pc Qc mc ms tc ts free := by
  refine zx_ofG hy ?_ body
  intro args s m h hn
  obtain ⟨mk, meth, c, hn', h1, h2, h3, h4, -, h5, h6, -⟩ := Cond.codeWith_spec (atoms_spec (ws := ws) h _ (by rw [hw]; exact List.mem_cons_self))
  cases hn.symm.trans hn'
  exact ⟨meth, c, h1, h2, h3, h4, h5, h6⟩
end ZXA
section ZXB
variable {p : Program} {l : Launch} {e : Env} {R : Room} {s : State} {m : MethodId} {args : Array Value} {below : List Frame} {meth : Method} {c : Code} {H : Heap} {locs : List Loc} {cells slots : Nat} {Q : State → Prop}
theorem zx_mono {Q' : State → Prop} {g : JFrame} (h : ∀ t, Q t → Q' t) (k : W p l e R s m args below meth c H locs cells slots Q g) : W p l e R s m args below meth c H locs cells slots Q' g := by
  intro T hT X
  obtain ⟨t, a, b⟩ := k T hT X
  exact ⟨t, a, h t b⟩
/-- a plain return's end is such an end -/
theorem zx_ofMQ {Qc : Array Value → State → Outcome → State → Prop} {mc ms tc ts : Nat} {free : Addr → Prop} {t : State} (h : MQ below Qc args s mc ms free t) : zx_Q below Qc args s mc ms tc ts free t := by
  obtain ⟨o, h1, h2, h3, L, ⟨h4, h5, h6⟩, h7⟩ := h
  exact ⟨o, h1, h2, h3, L, ⟨h5, Or.inl ⟨h4, h6⟩⟩, h7⟩
/-- an exception that no row of the method's table covers leaves it -/
theorem zx_leave {Qc : Array Value → State → Outcome → State → Prop} {mc ms tc ts : Nat} {free : Addr → Prop} {T : State} (hT : T.heap = H) (X : Stand p l e R s m args below meth c T locs cells slots) (hlocks : meth.locks = false) {a : Addr} {g : JFrame} (hg : g.method = m) (hlocked : g.locked = none) (hentered : g.entered = [])
    (hout : ∀ x ∈ c.exceptionTable.toList, covers x g.pc = false) (hc : cells ≤ tc) (hs : slots ≤ ts) (hf : ∀ q ∈ locs, free q.base) (hq : ∀ t : State, t.heap = H → s.WarmedH t.vm → Qc args s (.threw a) t) :
    ∃ t, Steps p.tables e below ((T.setTop g).pushFrame (.throwing a)) t ∧ zx_Q below Qc args s mc ms tc ts free t := by
  obtain ⟨h1, h2, h3, h4, h5⟩ := X.leaveThrown a hg hlocked hentered hout (hlocks := hlocks)
  exact ⟨_, h1, .threw a, h2, h3, hq _ hT h4, locs, ⟨h4, Or.inr ⟨⟨a, rfl⟩, h5.mono hc hs⟩⟩, hf⟩
end ZXB
section ZXC
variable {p : Program} {l : Launch} {e : Env} {R : Room} {s : State} {m : MethodId} {sargs : Array Value} {below : List Frame} {meth : Method} {c : Code} {U : State} {locs : List Loc} {cells slots : Nat}
/-- a call by such a contract: it comes back, or the exception lies over the caller's frame -/
theorem zx_pay {y : MethodName} {ws : List Cond} {rm : Room} {Pc : Array Value → State → Prop} {Qc : Array Value → State → Outcome → State → Prop} {mc ms tc ts maxL len : Nat} {free : Addr → Prop} (hM : zx_Met l y ws rm Pc Qc mc ms tc ts free) (hbl : FrameBlind Pc)
    {g : JFrame} {ig : Instr} {mk : MethodId} {a : Array Value} (X : Stand p l e R s m sargs below meth c U locs cells slots) (hg : g.method = m) (hsize : g.locals.size = c.maxLocals) (hdg : decode c.code g.pc = .ok (ig, len)) (hW : 2 * g.monitorRoom + (g.stack.map fun v => v.category).sum ≤ 8)
    (hn : U.methodNamed? y = some mk) (hcode : zx_Code U y maxL) (hws : ∀ w ∈ ws, w.before a U = true) (hini : (Cond.initialized y.cls).before a U = true)
    (hframes : rm.frames + 1 ≤ R.frames) (hlocals : 8 + (maxL + 11) + rm.locals ≤ R.locals) (hc : cells + rm.cells ≤ R.cells) (hs : slots + rm.slots ≤ R.slots) (hP : Pc a U) :
    (∃ (v : Option Value) (t T' : State) (L : List Loc), Stand p l e R s m sargs below meth c T' (locs ++ L) (cells + mc) (slots + ms) ∧ (∀ q ∈ L, free q.base) ∧ T'.heap = t.heap ∧ T'.vm = t.vm ∧ Qc a (U.calling g mk a) (.returned v) t ∧
      Steps p.tables e below (doInvoke e (U.setTop g) [] mk a).1 (T'.setTop { g with pc := g.pc + len, stack := v.toList ++ g.stack })) ∨
    (∃ (v : Addr) (t T' : State) (L : List Loc), Stand p l e R s m sargs below meth c T' (locs ++ L) (cells + tc) (slots + ts) ∧ (∀ q ∈ L, free q.base) ∧ T'.heap = t.heap ∧ T'.vm = t.vm ∧ Qc a (U.calling g mk a) (.threw v) t ∧
      Steps p.tables e below (doInvoke e (U.setTop g) [] mk a).1 ((T'.setTop g).pushFrame (.throwing v))) := by
  obtain ⟨mk', methY, cY, hn', hmY, hcY, hlY, -⟩ := hcode
  cases hn.symm.trans hn'
  obtain ⟨kY, hkY, -⟩ := className_of_methodNamed hn
  have hinitY : kY.init = .initialized := Cond.initialized_spec (findClass_of_methodNamed hn) hkY hini
  have h : At U g.method c below := by rw [hg]; exact X.here
  have happ : (headSpec ws rm).appliesLoose y e.platform (U.calling g mk a) = true :=
    Spec.appliesLoose_calling (g := g) h hdg hn hkY hinitY
      (X.room_calling (g := g) (R' := rm) hsize hmY hcY hframes (by rw [hlY]; omega) hc hs) (atoms_intro hws)
  obtain ⟨mid, hmid⟩ := h.above
  have hfr : (U.setTop g).frames = (.java g :: mid) ++ below := by rw [State.frames_setTop' g h.top, hmid]; rfl
  obtain ⟨o, s₂, hsteps, -, hend, hq⟩ := Steps.callFree hM p X.admits X.cas X.clock (acts := []) hfr happ (hbl _ _ _ _ hP) trivial
  have hq' : Qc a (U.calling g mk a) o s₂ ∧ ∃ L, zx_End (U.calling g mk a) o s₂ L mc ms tc ts ∧ ∀ q ∈ L, free q.base := hq
  rw [State.frames_setTop' g h.top] at hend
  obtain ⟨hqc, L, ⟨hW₂, hcase⟩, hL⟩ := hq'
  have hW' : U.WarmedH s₂.vm := hW₂
  obtain ⟨g₀, hg0⟩ := Option.isSome_iff_exists.mp h.top
  obtain ⟨r, hr⟩ := State.topJava?_eq_some.mp hg0
  have hr' : (({ U with heap := s₂.heap, slotsUsed := s₂.slotsUsed } : State).setVm s₂.vm).frames = .java g₀ :: r := hr
  have hU0 : U = U.setFrames U.frames := by
    obtain ⟨t, ht, -⟩ := State.frames_cons hr
    rw [State.setFrames_self ht]
  have stand : ∀ {k n : Nat}, (U.calling g mk a).sameButNew ({ s₂ with vm := (U.calling g mk a).vm } : State) L k n →
      s₂ = ({ (U.calling g mk a).setFrames s₂.frames with heap := s₂.heap, slotsUsed := s₂.slotsUsed } : State).setVm s₂.vm ∧
      Stand p l e R s m sargs below meth c (({ U with heap := s₂.heap, slotsUsed := s₂.slotsUsed } : State).setVm s₂.vm) (locs ++ L) (cells + k) (slots + n) := by
    intro k n ⟨e2, q2, q3, q4, q5, q6⟩
    have e3 : s₂ = ({ (U.calling g mk a).setFrames s₂.frames with heap := s₂.heap, slotsUsed := s₂.slotsUsed } : State).setVm s₂.vm := by
      have : s₂ = ({ s₂ with vm := (U.calling g mk a).vm } : State).setVm s₂.vm := rfl
      rw [e2] at this
      exact this
    have hsame : U.sameButNew ({ U with heap := s₂.heap, slotsUsed := s₂.slotsUsed } : State) L k n := by
      refine ⟨?_, q2, q3, q4, q5, q6⟩
      show ({ U with heap := s₂.heap, slotsUsed := s₂.slotsUsed } : State) = { U.setFrames U.frames with heap := s₂.heap, slotsUsed := s₂.slotsUsed }
      rw [← hU0]
    exact ⟨e3, X.admits, X.cas, X.clock, X.frames, X.room, X.hears, X.method, X.code, (X.here.setHeapUsed s₂.heap s₂.slotsUsed).setVm hW'.alike, X.tail, State.WarmedH.trans X.warmed hW', X.limits, X.bytes, X.same.trans (hsame.setVm s.vm)⟩
  rcases hcase with ⟨⟨v, rfl⟩, hsm⟩ | ⟨⟨v, rfl⟩, hsm⟩
  · obtain ⟨e3, X'⟩ := stand hsm
    obtain ⟨c₂, i₂, len₂, hc₂, hd₂, hf₂⟩ := hend
    have hcc : c₂ = c := by
      have h1 : s₂.code? g.method = U.code? g.method := by
        rw [State.code?_eq, State.code?_eq, hW'.alike.method?]
      exact Option.some.inj (hc₂.symm.trans (h1.trans h.code))
    subst hcc
    have hlen : len₂ = len := by rw [hdg] at hd₂; cases hd₂; rfl
    subst hlen
    have hs₂ : s₂ = (({ U with heap := s₂.heap, slotsUsed := s₂.slotsUsed } : State).setVm s₂.vm).setTop { g with pc := g.pc + len₂, stack := v.toList ++ g.stack } := by
      refine e3.trans ?_
      rw [hf₂, State.calling_eq h.top, State.setFrames_setFrames, State.setTop_of_frames _ hr', hr]
      rfl
    refine Or.inl ⟨v, s₂, _, L, X', hL, rfl, rfl, hqc, ?_⟩
    rw [← hs₂]
    exact hsteps
  · obtain ⟨e3, X'⟩ := stand hsm
    have hf₂ : s₂.frames = .throwing v :: .java g :: U.frames.tail := hend
    have hs₂ : s₂ = ((({ U with heap := s₂.heap, slotsUsed := s₂.slotsUsed } : State).setVm s₂.vm).setTop g).pushFrame (.throwing v) := by
      refine e3.trans ?_
      rw [hf₂, State.calling_eq h.top, State.setFrames_setFrames, State.pushFrame, State.frames_setTop _ hr', State.setTop_of_frames _ hr', State.setFrames_setFrames, hr]
      rfl
    refine Or.inr ⟨v, s₂, _, L, X', hL, rfl, rfl, hqc, ?_⟩
    rw [← hs₂]
    exact hsteps
end ZXC
end
section
/-! from claim/NAMES.whole.lean.txt: exceptions made and thrown; how a caller catches -/
section VXA
/-- where a method has thrown q: the class by its name, the cell, what was written, the world -/
def vx_T (XC : String → State → State → Prop) (st : State) (q : Addr) (t : State) (mc ms : Nat) (free : Addr → Prop) : Prop :=
  ∃ (E : String) (ce : Cell) (L : List Loc), XC E st t ∧ t.heap[q]? = some ce ∧ ce.vm = .none ∧ st.vm.findClass E = some ce.cls ∧ st.WarmedH t.vm ∧ st.sameButNew ({ t with vm := st.vm } : State) L mc ms ∧ ∀ z ∈ L, free z.base
def vx_Q (Qc : Array Value → State → Outcome → State → Prop) (XC : String → State → State → Prop) (mc ms : Nat) (free : Addr → Prop) : Array Value → State → Outcome → State → Prop := fun a st o t =>
  (Qc a st o t ∧ ∃ L, FrameEnd st o t L mc ms ∧ ∀ q ∈ L, free q.base) ∨ ∃ q, o = .threw q ∧ vx_T XC st q t mc ms free
theorem vx_cls {s : State} {T : State} {vm₁ : Vm} {E : String} {k : ClassId} (hW : s.WarmedH vm₁) (h : (T.setVm vm₁).vm.findClass E = some k) : s.vm.findClass E = some k := by
  have h1 : vm₁.findClass E = some k := h
  rw [hW.alike.findClass] at h1
  exact h1
/-- the method's frame g, with q thrown over it -/
def vx_W (p : Program) (l : Launch) (e : Env) (R : Room) (s : State) (m : MethodId) (args : Array Value) (below : List Frame) (meth : Method) (c : Code) (H : Heap) (locs : List Loc) (cells slots : Nat) (Q : State → Prop) (g : JFrame) (q : Addr) : Prop :=
  ∀ T : State, T.heap = H → Stand p l e R s m args below meth c T locs cells slots → ∃ t, Steps p.tables e below ((T.setTop g).pushFrame (.throwing q)) t ∧ Q t
section Rows
variable {p : Program} {l : Launch} {e : Env} {R : Room} {s : State} {m : MethodId} {args : Array Value} {below : List Frame} {meth : Method} {c : Code} {H : Heap} {locs : List Loc} {cells slots : Nat} {Q : State → Prop}
variable {mc ms : Nat} {free : Addr → Prop} {A0 A1 : Nat → Prop} {H0 : Heap} {a : Array Value} {pc : Nat} {ls : Array Slot} {st0 rest : List Value}
/-- caught by the row x of this method's table; the rows ahead don't take it -/
theorem vx_catch {own name : String} {E : String} {ce : Cell} {q : Addr} (hown : s.vm.findClass own = some m.cls) (pre : List ExceptionTableEntry) (x : ExceptionTableEntry) (suf : List ExceptionTableEntry) (hsplit : c.exceptionTable.toList = pre ++ x :: suf)
    (hpass : ∀ z ∈ pre, covers z pc = false ∨ (z.catchType ≠ 0 ∧ ∃ nm : String, (Cond.classLink own z.catchType nm).before args s = true ∧ va_Nc E nm s)) (hx : covers x pc = true) (h0 : x.catchType ≠ 0)
    (hlink : (Cond.classLink own x.catchType name).before args s = true) (hcast : (Cond.castable E name).before args s = true) (hcell : H[q]? = some ce) (hv : ce.vm = .none) (hcl : s.vm.findClass E = some ce.cls)
    (kk : W p l e R s m args below meth c H locs cells slots Q (F0 m x.handlerPc ls [.ref q])) : vx_W p l e R s m args below meth c H locs cells slots Q (F0 m pc ls rest) q := by
  intro T hT X
  have hpl : e.platform.magicAccessors = ({} : Platform).magicAccessors := by rw [X.admits.platform]
  obtain ⟨c3, c4, hc3, hc4, hasg⟩ := Cond.castable_spec hcast
  cases Option.some.inj (hc3.symm.trans hcl)
  obtain ⟨c5, hc5, hcl5⟩ := Cond.classLink_spec hown hlink e.platform hpl
  cases Option.some.inj (hc4.symm.trans hc5)
  obtain ⟨vm', X', st⟩ := X.thenCaughtThrough q (g := F0 m pc ls rest) rfl (Steps.refl _) (by rw [hT]; exact hcell) (by rw [hv]; rfl) (by obtain ⟨k9, h9, -⟩ := Vm.findClass_spec hcl; exact ⟨k9, h9⟩) pre x suf hsplit
    (fun z hz => by
      rcases hpass z hz with h | ⟨hz0, nm, hl1, hn1⟩
      · exact Or.inl h
      · obtain ⟨c6, hc6, hcl6⟩ := Cond.classLink_spec hown hl1 e.platform hpl
        obtain ⟨a8, b8, h1, h2, h3⟩ := hn1
        cases Option.some.inj (h1.symm.trans hcl)
        cases Option.some.inj (h2.symm.trans hc6)
        exact Or.inr ⟨hz0, _, hcl6, h3⟩) hx (Or.inr ⟨h0, c4, hcl5, hasg⟩)
  obtain ⟨t, a1, b1⟩ := kk (T.setVm vm') hT X'
  exact ⟨t, st.trans a1, b1⟩
end Rows
section Ends
variable {p : Program} {l : Launch} {e : Env} {R : Room} {s : State} {m : MethodId} {args : Array Value} {below : List Frame} {meth : Method} {c : Code} {H : Heap} {locs : List Loc} {cells slots : Nat} {Q : State → Prop}
variable {mc ms : Nat} {free : Addr → Prop} {A0 A1 : Nat → Prop} {H0 : Heap} {a : Array Value} {ls : Array Slot} {st0 rest : List Value}
variable {Qc : Array Value → State → Outcome → State → Prop} {XC : String → State → State → Prop}
/-- what a body that may throw owes at its end -/
def vx_MQ (below : List Frame) (Qc : Array Value → State → Outcome → State → Prop) (XC : String → State → State → Prop) (a : Array Value) (s : State) (mc ms : Nat) (free : Addr → Prop) : State → Prop := fun t =>
  ∃ o, t.status = .running ∧ Ended t below o ∧ vx_Q Qc XC mc ms free a s o t
theorem vx_frame {U : State} {k n : Nat} (h : s.sameButNew ({ U with vm := s.vm } : State) locs k n) : s.heap.size ≤ U.heap.size ∧ ∀ q : Nat, q < s.heap.size → (∀ z ∈ locs, z.base ≠ q) → U.heap[q]? = s.heap[q]? := by
  obtain ⟨-, h2, -, -, -, h6⟩ := h
  refine ⟨h2, fun q hq hz => ?_⟩
  obtain ⟨c9, e1, e2, e3, e4⟩ := h6 q _ (Array.getElem?_eq_getElem hq)
  have hs : c9.slots = (s.heap[q]).slots := Array.ext_getElem? fun i => e4 i fun hm => hz _ hm rfl
  have h9 : c9 = s.heap[q] := by
    rw [hs] at e2
    exact e2
  have e5 : U.heap[q]? = some c9 := e1
  rw [e5, h9, Array.getElem?_eq_getElem hq]
/-- the words of a throw but the four that speak of the heap -/
def vx_no (w : Cond) : Bool := decide (w ≠ .isRef (.static Bundle.tN "UNASSIGNED_STACK" Bundle.steD)) && decide (w ≠ .isRef (.static Bundle.tN "SUPPRESSED_SENTINEL" Bundle.listD)) && decide (w ≠ .laysStatic Bundle.tN "UNASSIGNED_STACK" Bundle.steD) && decide (w ≠ .laysStatic Bundle.tN "SUPPRESSED_SENTINEL" Bundle.listD)
def vx_at0 (own : String) (ic : Nat) (X : String) (names : List String) : List Cond := (Bundle.ownAtoms0 own ic X names).filter vx_no
def vx_atS (own : String) (ic : Nat) (X : String) (names : List String) : List Cond := (Bundle.ownAtoms own ic X names).filter vx_no
/-- a word that the tables alone decide, or a good one -/
def vx_ot (w : Cond) : Bool := w.onTables || goodWord w
theorem vx_ot_at {args a' : Array Value} {s U : State} {w : Cond} (hW : s.WarmedH U.vm) (hvm : s.vm = U.vm) (hg : vx_ot w = true) (h : w.before args s = true) : w.before a' U = true := by
  simp only [vx_ot, Bool.or_eq_true] at hg
  rcases hg with hg | hg
  · exact va_tabs hg hvm h
  · exact word_at hW (good_of_word hg) h
theorem vx_own {args : Array Value} {s : State} {L : List Cond} (h1 : ∀ w ∈ L.filter vx_no, w.before args s = true)
    (hU : (Cond.isRef (.static Bundle.tN "UNASSIGNED_STACK" Bundle.steD)).before args s = true) (hN : (Cond.isRef (.static Bundle.tN "SUPPRESSED_SENTINEL" Bundle.listD)).before args s = true)
    (lU : (Cond.laysStatic Bundle.tN "UNASSIGNED_STACK" Bundle.steD).before args s = true) (lN : (Cond.laysStatic Bundle.tN "SUPPRESSED_SENTINEL" Bundle.listD).before args s = true) : ∀ w ∈ L, w.before args s = true := by
  intro w hw
  by_cases e1 : w = .isRef (.static Bundle.tN "UNASSIGNED_STACK" Bundle.steD)
  · rw [e1]; exact hU
  · by_cases e2 : w = .isRef (.static Bundle.tN "SUPPRESSED_SENTINEL" Bundle.listD)
    · rw [e2]; exact hN
    · by_cases e3 : w = .laysStatic Bundle.tN "UNASSIGNED_STACK" Bundle.steD
      · rw [e3]; exact lU
      · by_cases e4 : w = .laysStatic Bundle.tN "SUPPRESSED_SENTINEL" Bundle.listD
        · rw [e4]; exact lN
        · exact h1 w (List.mem_filter.mpr ⟨hw, by unfold vx_no; rw [decide_eq_true e1, decide_eq_true e2, decide_eq_true e3, decide_eq_true e4]; rfl⟩)
/-- where a static field lies, its class's statics cell in H -/
def vx_L (C n d : String) (A : Nat → Prop) (U : State) (H : Heap) : Prop := ∃ (c : ClassId) (k : Class) (i : Nat) (f : Field) (a : Nat) (cell : Cell), U.vm.findClass C = some c ∧ U.fieldFound? C n d = some (c, k, i, f) ∧ f.isStatic = true ∧ k.statics = some a ∧ H[a]? = some cell ∧ cell.vm.isStatics = true ∧ cell.cls = c ∧ f.slot < cell.slots.size ∧ k.staticTypes[f.slot]? = some f.type ∧ ¬ A a
theorem vx_L.moved {C n d : String} {A : Nat → Prop} {u U : State} {H : Heap} (hvm : u.vm.Alike U.vm) (h : vx_L C n d A u H) : vx_L C n d A U H := by
  obtain ⟨c, k, i, f, a, cell, h1, h2, h3, h4, h5, h6, h7, h8, h9, h10⟩ := h
  obtain ⟨k', hi', he⟩ := State.fieldFound?_setVm hvm h2
  exact ⟨c, k', i, f, a, cell, by rw [hvm.findClass]; exact h1, hi', h3, by rw [he]; exact h4, h5, h6, h7, h8, by rw [he]; exact h9, h10⟩
theorem vx_L.kept {C n d : String} {A : Nat → Prop} {U : State} {H H1 : Heap} (h : vx_L C n d A U H) (hq : ∀ a : Nat, a < H.size → ¬ A a → H1[a]? = H[a]?) : vx_L C n d A U H1 := by
  obtain ⟨c, k, i, f, a, cell, h1, h2, h3, h4, h5, h6, h7, h8, h9, h10⟩ := h
  exact ⟨c, k, i, f, a, cell, h1, h2, h3, h4, by rw [hq a (Array.getElem?_eq_some_iff.mp h5).1 h10]; exact h5, h6, h7, h8, h9, h10⟩
theorem vx_L.narrow {C n d : String} {A B : Nat → Prop} {U : State} {H : Heap} (h : vx_L C n d A U H) (hAB : ∀ q, B q → A q) : vx_L C n d B U H := by
  obtain ⟨c, k, i, f, a, cell, h1, h2, h3, h4, h5, h6, h7, h8, h9, h10⟩ := h
  exact ⟨c, k, i, f, a, cell, h1, h2, h3, h4, h5, h6, h7, h8, h9, fun z => h10 (hAB _ z)⟩
theorem vx_L.word {C n d : String} {A : Nat → Prop} {s : State} {args : Array Value} (h : vx_L C n d A s s.heap) : (Cond.laysStatic C n d).before args s = true := by
  obtain ⟨c, k, i, f, a, cell, h1, h2, h3, h4, h5, h6, h7, h8, h9, -⟩ := h
  show (Cond.laysStatic C n d).holds args s none s [] = true
  exact Cond.laysStatic_of h1 h2 h3 h4 h5 h6 h7 h8 h9
/-- .. and what it holds: null or some reference -/
def vx_Zq (C n d : String) (A : Nat → Prop) (U : State) (H : Heap) : Prop := va_Zq C n d A U H ∧ vx_L C n d A U H
theorem vx_Zq.moved {C n d : String} {A : Nat → Prop} {u U : State} {H : Heap} (hvm : u.vm.Alike U.vm) (h : vx_Zq C n d A u H) : vx_Zq C n d A U H := ⟨va_Zq.moved hvm h.1, vx_L.moved hvm h.2⟩
theorem vx_Zq.kept {C n d : String} {A : Nat → Prop} {U : State} {H H1 : Heap} (h : vx_Zq C n d A U H) (hq : ∀ a : Nat, a < H.size → ¬ A a → H1[a]? = H[a]?) : vx_Zq C n d A U H1 := ⟨va_Zq.kept h.1 hq, vx_L.kept h.2 hq⟩
theorem vx_Zq.narrow {C n d : String} {A B : Nat → Prop} {U : State} {H : Heap} (h : vx_Zq C n d A U H) (hAB : ∀ q, B q → A q) : vx_Zq C n d B U H := ⟨va_Zq.narrow h.1 hAB, vx_L.narrow h.2 hAB⟩
theorem vx_Zqof {args : Array Value} {s : State} {C n d : String} {A : Nat → Prop} (hl : (Cond.laysStatic C n d).before args s = true) (hini : (Cond.initialized C).before args s = true) (h : (Cond.isRef (.static C n d)).before args s = true) (hA : ∀ a : Nat, a < s.heap.size → ¬ A a) : vx_Zq C n d A s s.heap := by
  refine ⟨va_Zqof hl hini h hA, ?_⟩
  obtain ⟨c, k, i, f, a, cell, h1, h2, h3, h4, h5, h6, h7, h8, h9⟩ := Cond.laysStatic_spec hl
  exact ⟨c, k, i, f, a, cell, h1, h2, h3, h4, h5, h6, h7, h8, h9, hA a (Array.getElem?_eq_some_iff.mp h5).1⟩
theorem vx_isRef {C n d : String} {v : Value} {A : Nat → Prop} {s : State} {args : Array Value} (h : va_Z C n d v A s s.heap) (hv : v.isRef = true) : (Cond.isRef (.static C n d)).before args s = true := by
  obtain ⟨cf, kf, fi, f, a, cell, h1, h2, h3, h4, h5, h6, h7, -⟩ := h
  have he : (Term.static C n d).eval args s none [] s = some v := by
    simp [Term.eval, State.fieldNamed?, h1, h2, h4, h5, h6, h7]
  simp only [Cond.before, Cond.holds, Cond.value, he]
  cases v <;> simp_all [Value.isRef]
theorem vx_isRefq {C n d : String} {A : Nat → Prop} {s : State} {args : Array Value} (h : va_Zq C n d A s s.heap) : (Cond.isRef (.static C n d)).before args s = true := by
  rcases h with h | ⟨t, h⟩
  · exact vx_isRef h rfl
  · exact vx_isRef h rfl
/-- the same frame, seen from here: as if the method were called anew in this heap -/
theorem vx_rebase {T : State} (X : Stand p l e R s m args below meth c T locs cells slots) {R' : Room} (hf : R'.frames ≤ R.frames) (hl : R'.locals ≤ R.locals) (hc : cells + R'.cells ≤ R.cells) (hs : slots + R'.slots ≤ R.slots) :
    Stand p l e R' ((T.setVm s.vm).setFrames (.invoking m args :: below)) m args below meth c T [] 0 0 := by
  have htop : (T.setVm s.vm).topJava?.isSome := X.here.top
  have hF : ((T.setVm s.vm).setFrames (.invoking m args :: below)).frames = .invoking m args :: below := State.frames_setFrames _ (State.cur_lt_of_top htop)
  obtain ⟨g₀, hg0⟩ := Option.isSome_iff_exists.mp htop
  obtain ⟨r, hr⟩ := State.topJava?_eq_some.mp hg0
  have hl9 : e.platform.stackLimits (T.setVm s.vm).me = e.platform.stackLimits s.me := X.limits
  have hb9 : (T.setVm s.vm).me.stackBytes = s.me.stackBytes := X.bytes
  refine ⟨X.admits, X.cas, X.clock, hF, ?_, X.hears, X.method, X.code, X.here, X.tail, X.warmed, ?_, ?_, ?_⟩
  · have h := X.room
    have hU : ((T.setVm s.vm).setFrames (.invoking m args :: below)).localsInUse = s.localsInUse := by
      rw [State.localsInUse_invoking hF (meth := meth) (c := c) X.method X.code, State.localsInUse_invoking X.frames X.method X.code]
    simp only [State.hasRoom, Bool.and_eq_true, decide_eq_true_eq] at h ⊢
    obtain ⟨⟨⟨⟨h1, h2, h3, h4, h5, h6⟩, h7⟩, h8⟩, h9⟩ := h
    rw [X.frames, List.length_cons] at h2 h3
    have q1 := X.heapSize
    have q2 := X.used
    simp only [hF, hU, List.length_cons, State.stackLimits_setFrames, State.stackBytes_setFrames, hl9, hb9]
    refine ⟨⟨⟨⟨by omega, by omega, by omega, by omega, by omega, h6⟩, ?_⟩, ?_⟩, X.book⟩
    · show T.heap.size + R'.cells ≤ e.platform.maxCells
      omega
    · show T.slotsUsed + R'.slots ≤ e.platform.maxSlots
      omega
  · rw [State.stackLimits_setFrames]; rfl
  · rw [State.stackBytes_setFrames]; rfl
  · refine ⟨?_, Nat.le_refl _, Nat.le_refl _, ?_, ?_, fun a c9 h9 => ⟨c9, h9, rfl, rfl, fun _ _ => rfl⟩⟩
    · obtain ⟨t, ht, -⟩ := State.frames_cons hr
      show T.setVm s.vm = { ((T.setVm s.vm).setFrames (.invoking m args :: below)).setFrames (T.setVm s.vm).frames with heap := T.heap, slotsUsed := T.slotsUsed }
      rw [State.setFrames_setFrames, State.setFrames_self ht]
      rfl
    · show T.slotsUsed = T.slotsUsed + ((T.heap.toList.drop T.heap.size).map (·.slots.size)).sum
      rw [List.drop_eq_nil_of_le (Nat.le_of_eq Array.length_toList)]
      rfl
    · show ((T.heap.toList.drop T.heap.size).map (·.slots.size)).sum ≤ 0
      rw [List.drop_eq_nil_of_le (Nat.le_of_eq Array.length_toList)]
      exact Nat.le_refl _
/-- 'throw new E()': new; dup; invokespecial; athrow -/
theorem vx_throw0 {cc : ByteArray} {pc : Nat} (hexec : p.tables.exec = Jvm.exec) (hb : c.code = cc) (hl : l.stackTraces = false) {own cls : String} {names : List String} {ik ic mc ms : Nat} {A : Nat → Prop}
    (hown : s.vm.findClass own = some m.cls) (hcls : Bundle.fit cls = true) (hnames : ∀ n ∈ names, Bundle.fit n = true)
    (hk : (Cond.classLink own ik cls).before args s = true) (hini : (Cond.initialized cls).before args s = true) (hat : ∀ w ∈ vx_at0 own ic cls names, w.before args s = true)
    (hgood : ∀ w ∈ Cond.classLink own ik cls :: Cond.initialized cls :: vx_at0 own ic cls names, vx_ot w = true)
    (hU : vx_Zq Bundle.tN "UNASSIGNED_STACK" Bundle.steD A s s.heap) (hN : vx_Zq Bundle.tN "SUPPRESSED_SENTINEL" Bundle.listD A s s.heap) (hS : va_S A s.heap H locs) (hsize : ls.size = c.maxLocals)
    (d0 : decode cc pc = .ok (.new ik, 3)) (d3 : decode cc (pc + 3) = .ok (.dup, 1)) (d4 : decode cc (pc + 4) = .ok (.invokespecial ic, 3)) (d7 : decode cc (pc + 7) = .ok (.athrow, 1))
    (hout : ∀ x ∈ c.exceptionTable.toList, covers x (pc + 7) = false)
    (hRframes : names.length + 3 < R.frames) (hRlocals : (rest.map fun v => v.category).sum + (13 * (names.length + 1) + 42) ≤ R.locals) (hRcells : cells + 1 ≤ R.cells) (hRslots : slots + 6 ≤ R.slots) (hlocks : meth.locks = false)
    (hx : ∀ t : State, s.vm.Alike t.vm → H.size ≤ t.heap.size → (∀ q : Nat, q < H.size → t.heap[q]? = H[q]?) → XC cls s t)
    (hf : ∀ z ∈ locs, free z.base) (hc : cells + 1 ≤ mc) (hs : slots + 6 ≤ ms) :
    W p l e R s m args below meth c H locs cells slots (vx_MQ below Qc XC args s mc ms free) (F0 m pc ls rest) := by
  intro T hT X
  have htr : e.platform.stackTraces = false := (show e.platform.stackTraces = l.stackTraces by rw [X.admits.platform]).trans hl
  have Y := vx_rebase X (R' := { frames := R.frames, locals := R.locals, cells := 1, slots := 6 }) (Nat.le_refl _) (Nat.le_refl _) hRcells hRslots
  obtain ⟨s', hA⟩ : ∃ z, z = (T.setVm s.vm).setFrames (.invoking m args :: below) := ⟨_, rfl⟩
  rw [← hA] at Y
  have hvm : s'.vm = s.vm := by rw [hA]; rfl
  have hhp : s'.heap = H := by rw [hA]; exact hT
  have hW0 : s.WarmedH s'.vm := by rw [hvm]; exact State.WarmedH.refl s
  have hat' : ∀ w ∈ vx_at0 own ic cls names, w.before args s' = true := fun w hw => vx_ot_at hW0 hvm.symm (hgood w (List.mem_cons_of_mem _ (List.mem_cons_of_mem _ hw))) (hat w hw)
  have hk' : (Cond.classLink own ik cls).before args s' = true := vx_ot_at hW0 hvm.symm (hgood _ List.mem_cons_self) hk
  have hini' : (Cond.initialized cls).before args s' = true := vx_ot_at hW0 hvm.symm (hgood _ (List.mem_cons_of_mem _ List.mem_cons_self)) hini
  have hU' : vx_Zq Bundle.tN "UNASSIGNED_STACK" Bundle.steD A s' s'.heap := by rw [hhp]; exact vx_Zq.moved hW0.alike (hU.kept hS.2.1)
  have hN' : vx_Zq Bundle.tN "SUPPRESSED_SENTINEL" Bundle.listD A s' s'.heap := by rw [hhp]; exact vx_Zq.moved hW0.alike (hN.kept hS.2.1)
  have h : ∀ w ∈ Bundle.ownAtoms0 own ic cls names, w.before args s' = true := vx_own hat' (vx_isRefq hU'.1) (vx_isRefq hN'.1) hU'.2.word hN'.2.word
  have hown' : s'.vm.findClass own = some m.cls := by rw [hvm]; exact hown
  have hins : (Cond.instantiable cls 6).before args s' = true := h _ (by simp [Bundle.ownAtoms0])
  obtain ⟨vm₁, cX, kX, hfX, hkX, -, -, X₁, st1⟩ := Y.newCold hexec (own := own) (C := cls) (index := ik) (n := 6) hown' hk' hins hini'
    (g := F0 m pc ls rest) rfl (by rw [hb]; exact d0) (Nat.le_refl _) (Nat.le_refl _)
  generalize hT1 : (T.setVm vm₁).pushCell { cls := cX, slots := kX.instanceTypes.map defaultValue, vm := .none } = T1 at X₁ st1
  have hcat : (Value.ref T.heap.size).category = 1 := rfl
  have hcellA : T1.heap[T.heap.size]? = some (freshCell cX kX) := by rw [← hT1]; exact State.heap_pushCell_size _ _
  have d3' : decode c.code (pc + 3) = .ok (.dup, 1) := by rw [hb]; exact d3
  obtain ⟨U, hsteps, hrun, hend, hW, hsame, ce, hce, hO⟩ := X₁.ctorThrow0 hexec htr (own := own) (cls := cls) (names := names) (ic := ic) hown' hcls hnames h (fun x hx => nomatch hx) hfX hkX hcellA (by rw [hhp, hT]; exact Nat.le_refl _)
    (g := { method := m, pc := pc + 4, locals := ls, stack := .ref T.heap.size :: .ref T.heap.size :: rest, locked := none }) rfl hsize rfl rfl (rest := rest) rfl
    (by rw [hb]; exact d4) (by rw [hb]; exact d7) hout hRframes (by simp only [List.map_cons, List.sum_cons, hcat]; omega) hlocks
  obtain ⟨f1, f2⟩ := vx_frame hsame
  rw [hhp] at f1 f2
  have hWs : s.WarmedH U.vm := State.WarmedH.trans hW0 hW
  have hcl : s.vm.findClass cls = some ce.cls := by
    have h9 := hO.cls
    rw [hvm] at h9
    exact h9
  have hall : s.sameButNew ({ U with vm := s.vm } : State) locs mc ms := by
    subst hA
    obtain ⟨e1, e2⟩ := hsame
    rw [State.setFrames_setFrames] at e1
    have h2 : (T.setVm s.vm).sameButNew ({ U with vm := s.vm } : State) [] (0 + 1) (0 + 6) := ⟨e1, e2⟩
    have h3 := X.same.trans h2
    rw [List.append_nil] at h3
    exact h3.mono hc hs
  refine ⟨U, ?_, .threw T.heap.size, hrun, hend, Or.inr ⟨T.heap.size, rfl, cls, ce, locs, hx U hWs.alike f1 (fun q hq => f2 q hq (fun z hz => nomatch hz)), hce, hO.vm, hcl, hWs, hall, hf⟩⟩
  refine st1 _ ?_
  show Steps p.tables e below (T1.setTop { method := m, pc := pc + 3, locals := ls, stack := .ref T.heap.size :: rest, locked := none }) _
  jvm_step X₁.here [X₁.here.top, hexec, d3', Value.category]
  exact hsteps
/-- 'throw new E("text")': new; dup; ldc; invokespecial; athrow -/
theorem vx_throwS {cc : ByteArray} {pc : Nat} (hexec : p.tables.exec = Jvm.exec) (hb : c.code = cc) (hl : l.stackTraces = false) {own cls text : String} {names : List String} {ik is ic mc ms sa : Nat} {A : Nat → Prop}
    (hown : s.vm.findClass own = some m.cls) (hcls : Bundle.fit cls = true) (hnames : ∀ n ∈ names, Bundle.fit n = true)
    (hk : (Cond.classLink own ik cls).before args s = true) (hini : (Cond.initialized cls).before args s = true) (hstr : vk_R own is text sa s) (hat : ∀ w ∈ vx_atS own ic cls names, w.before args s = true)
    (hgood : ∀ w ∈ Cond.classLink own ik cls :: Cond.initialized cls :: vx_atS own ic cls names, vx_ot w = true)
    (hU : vx_Zq Bundle.tN "UNASSIGNED_STACK" Bundle.steD A s s.heap) (hN : vx_Zq Bundle.tN "SUPPRESSED_SENTINEL" Bundle.listD A s s.heap) (hS : va_S A s.heap H locs) (hsize : ls.size = c.maxLocals)
    (d0 : decode cc pc = .ok (.new ik, 3)) (d3 : decode cc (pc + 3) = .ok (.dup, 1)) (d4 : decode cc (pc + 4) = .ok (.ldc is, 2)) (d6 : decode cc (pc + 6) = .ok (.invokespecial ic, 3)) (d9 : decode cc (pc + 9) = .ok (.athrow, 1))
    (hout : ∀ x ∈ c.exceptionTable.toList, covers x (pc + 9) = false)
    (hRframes : names.length + 3 < R.frames) (hRlocals : (rest.map fun v => v.category).sum + (13 * (names.length + 1) + 43) ≤ R.locals) (hRcells : cells + 1 ≤ R.cells) (hRslots : slots + 6 ≤ R.slots) (hlocks : meth.locks = false)
    (hx : ∀ t : State, s.vm.Alike t.vm → H.size ≤ t.heap.size → (∀ q : Nat, q < H.size → t.heap[q]? = H[q]?) → XC cls s t)
    (hf : ∀ z ∈ locs, free z.base) (hc : cells + 1 ≤ mc) (hs : slots + 6 ≤ ms) :
    W p l e R s m args below meth c H locs cells slots (vx_MQ below Qc XC args s mc ms free) (F0 m pc ls rest) := by
  intro T hT X
  have htr : e.platform.stackTraces = false := (show e.platform.stackTraces = l.stackTraces by rw [X.admits.platform]).trans hl
  have Y := vx_rebase X (R' := { frames := R.frames, locals := R.locals, cells := 1, slots := 6 }) (Nat.le_refl _) (Nat.le_refl _) hRcells hRslots
  obtain ⟨s', hA⟩ : ∃ z, z = (T.setVm s.vm).setFrames (.invoking m args :: below) := ⟨_, rfl⟩
  rw [← hA] at Y
  have hvm : s'.vm = s.vm := by rw [hA]; rfl
  have hhp : s'.heap = H := by rw [hA]; exact hT
  have hW0 : s.WarmedH s'.vm := by rw [hvm]; exact State.WarmedH.refl s
  have hat' : ∀ w ∈ vx_atS own ic cls names, w.before args s' = true := fun w hw => vx_ot_at hW0 hvm.symm (hgood w (List.mem_cons_of_mem _ (List.mem_cons_of_mem _ hw))) (hat w hw)
  have hk' : (Cond.classLink own ik cls).before args s' = true := vx_ot_at hW0 hvm.symm (hgood _ List.mem_cons_self) hk
  have hini' : (Cond.initialized cls).before args s' = true := vx_ot_at hW0 hvm.symm (hgood _ (List.mem_cons_of_mem _ List.mem_cons_self)) hini
  have hU' : vx_Zq Bundle.tN "UNASSIGNED_STACK" Bundle.steD A s' s'.heap := by rw [hhp]; exact vx_Zq.moved hW0.alike (hU.kept hS.2.1)
  have hN' : vx_Zq Bundle.tN "SUPPRESSED_SENTINEL" Bundle.listD A s' s'.heap := by rw [hhp]; exact vx_Zq.moved hW0.alike (hN.kept hS.2.1)
  have h : ∀ w ∈ Bundle.ownAtoms own ic cls names, w.before args s' = true := vx_own hat' (vx_isRefq hU'.1) (vx_isRefq hN'.1) hU'.2.word hN'.2.word
  have hown' : s'.vm.findClass own = some m.cls := by rw [hvm]; exact hown
  have hins : (Cond.instantiable cls 6).before args s' = true := h _ (by simp [Bundle.ownAtoms])
  obtain ⟨vm₁, cX, kX, hfX, hkX, -, -, X₁, st1⟩ := Y.newCold hexec (own := own) (C := cls) (index := ik) (n := 6) hown' hk' hins hini'
    (g := F0 m pc ls rest) rfl (by rw [hb]; exact d0) (Nat.le_refl _) (Nat.le_refl _)
  generalize hT1 : (T.setVm vm₁).pushCell { cls := cX, slots := kX.instanceTypes.map defaultValue, vm := .none } = T1 at X₁ st1
  have hcat : (Value.ref T.heap.size).category = 1 := rfl
  have hcellA : T1.heap[T.heap.size]? = some (freshCell cX kX) := by rw [← hT1]; exact State.heap_pushCell_size _ _
  have d3' : decode c.code (pc + 3) = .ok (.dup, 1) := by rw [hb]; exact d3
  have d4' : decode c.code (pc + 4) = .ok (.ldc is, 2) := by rw [hb]; exact d4
  have hstr' : vk_R own is text sa s' := vk_R.warm hW0 hstr
  obtain ⟨U, hsteps, hrun, hend, hW, hsame, ce, hce, hO⟩ := X₁.ctorThrowS hexec htr (own := own) (cls := cls) (names := names) (ic := ic) hown' hcls hnames h (fun x hx => nomatch hx) hfX hkX hcellA (by rw [hhp, hT]; exact Nat.le_refl _) (msg := .ref sa) rfl
    (g := { method := m, pc := pc + 6, locals := ls, stack := .ref sa :: .ref T.heap.size :: .ref T.heap.size :: rest, locked := none }) rfl hsize rfl rfl (rest := rest) rfl
    (by rw [hb]; exact d6) (by rw [hb]; exact d9) hout hRframes (by simp only [List.map_cons, List.sum_cons, hcat]; omega) hlocks
  obtain ⟨f1, f2⟩ := vx_frame hsame
  rw [hhp] at f1 f2
  have hWs : s.WarmedH U.vm := State.WarmedH.trans hW0 hW
  have hcl : s.vm.findClass cls = some ce.cls := by
    have h9 := hO.cls
    rw [hvm] at h9
    exact h9
  have hall : s.sameButNew ({ U with vm := s.vm } : State) locs mc ms := by
    subst hA
    obtain ⟨e1, e2⟩ := hsame
    rw [State.setFrames_setFrames] at e1
    have h2 : (T.setVm s.vm).sameButNew ({ U with vm := s.vm } : State) [] (0 + 1) (0 + 6) := ⟨e1, e2⟩
    have h3 := X.same.trans h2
    rw [List.append_nil] at h3
    exact h3.mono hc hs
  refine ⟨U, ?_, .threw T.heap.size, hrun, hend, Or.inr ⟨T.heap.size, rfl, cls, ce, locs, hx U hWs.alike f1 (fun q hq => f2 q hq (fun z hz => nomatch hz)), hce, hO.vm, hcl, hWs, hall, hf⟩⟩
  refine st1 _ ?_
  show Steps p.tables e below (T1.setTop { method := m, pc := pc + 3, locals := ls, stack := .ref T.heap.size :: rest, locked := none }) _
  jvm_step X₁.here [X₁.here.top, hexec, d3', Value.category]
  exact X₁.ldcString hexec (own := own) (text := text) (index := is) (a := sa) hown' hstr'.1 hstr'.2
    (g := { method := m, pc := pc + 4, locals := ls, stack := .ref T.heap.size :: .ref T.heap.size :: rest, locked := none }) rfl d4' _ hsteps
end Ends
end VXA
end
section
/-! the walk zj: locals, stack and world stand in the goal; the heap is inside -/
def zst_tabs : List (String × String × List Nat) := [
  ("ZlibBox", "LENGTH_BASES", [3, 4, 5, 6, 7, 8, 9, 10, 11, 13, 15, 17, 19, 23, 27, 31, 35, 43, 51, 59, 67, 83, 99, 115, 131, 163, 195, 227, 258]),
  ("ZlibBox", "LENGTH_BITS", [0, 0, 0, 0, 0, 0, 0, 0, 1, 1, 1, 1, 2, 2, 2, 2, 3, 3, 3, 3, 4, 4, 4, 4, 5, 5, 5, 5, 0]),
  ("ZlibBox", "DISTANCE_BASES", [1, 2, 3, 4, 5, 7, 9, 13, 17, 25, 33, 49, 65, 97, 129, 193, 257, 385, 513, 769, 1025, 1537, 2049, 3073, 4097, 6145, 8193, 12289, 16385, 24577]),
  ("ZlibBox", "DISTANCE_BITS", [0, 0, 0, 0, 1, 1, 2, 2, 3, 3, 4, 4, 5, 5, 6, 6, 7, 7, 8, 8, 9, 9, 10, 10, 11, 11, 12, 12, 13, 13]),
  ("ZlibBox$Unpacker", "LENGTH_ORDER", [16, 17, 18, 0, 8, 7, 9, 6, 10, 5, 11, 4, 12, 3, 13, 2, 14, 1, 15]),
  ("ZlibBoxModel", "ORDER", [16, 17, 18, 0, 8, 7, 9, 6, 10, 5, 11, 4, 12, 3, 13, 2, 14, 1, 15])]
/-- what is static: the tables, at the cells q, and two fields of Throwable; no method writes them -/
def zst (q : Nat → Nat) (A : Nat → Prop) (U : State) (H : Heap) : Prop :=
  vx_Zq "java/lang/Throwable" "UNASSIGNED_STACK" "[Ljava/lang/StackTraceElement;" A U H ∧ vx_Zq "java/lang/Throwable" "SUPPRESSED_SENTINEL" "Ljava/util/List;" A U H ∧
  (∀ (i : Nat) (r : String × String × List Nat), zst_tabs[i]? = some r → va_Z r.1 r.2.1 "[I" (.ref (q i)) A U H ∧ va_T .int (q i) r.2.2.length (fun j => .int (nI (r.2.2.getD j 0))) A U H) ∧ ∀ w ∈ zxW, va_Nw w U
theorem zok_warm {w : Cond} {s U : State} (h : zok w = true) (hW : s.WarmedH U.vm) (hZ : va_Nw w s) : va_Nw w U := by
  cases w with
  | fieldLinkNest => exact va_Nw.warmF hW hZ
  | methodLinkNest => exact va_Nw.warmM hW hZ
  | castable => exact va_Nw.warmC hW hZ
  | declares => exact va_Nw.warmD hW hZ
  | stringRef own k tx =>
    have hcur : ∃ cur, s.vm.findClass own = some cur := by
      have h1 := hZ
      simp only [va_Nw, Cond.before, Cond.holds, Cond.value] at h1
      cases hc : s.vm.findClass own with
      | none => simp [hc] at h1
      | some cur => exact ⟨cur, rfl⟩
    obtain ⟨cur, hcur⟩ := hcur
    obtain ⟨-, -, -, sa, -, -, -, -, -, hev⟩ := Cond.stringRef_spec hcur hZ
    exact (vk_R.warm hW ⟨hZ, hev⟩).1
  | _ => exact absurd h Bool.false_ne_true
theorem zst.warm {q : Nat → Nat} {A : Nat → Prop} {u U : State} {H : Heap} (hW : u.WarmedH U.vm) (h : zst q A u H) : zst q A U H :=
  ⟨h.1.moved hW.alike, h.2.1.moved hW.alike, fun i r hr => ⟨(h.2.2.1 i r hr).1.moved hW.alike, (h.2.2.1 i r hr).2.moved hW.alike⟩, fun w hw => zok_warm (List.mem_filter.mp hw).2 hW (h.2.2.2 w hw)⟩
theorem zst.kept {q : Nat → Nat} {A : Nat → Prop} {U : State} {H H1 : Heap} (h : zst q A U H) (hq : ∀ a : Nat, a < H.size → ¬ A a → H1[a]? = H[a]?) : zst q A U H1 :=
  ⟨h.1.kept hq, h.2.1.kept hq, fun i r hr => ⟨(h.2.2.1 i r hr).1.kept hq, (h.2.2.1 i r hr).2.kept hq⟩, h.2.2.2⟩
theorem zst.narrow {q : Nat → Nat} {A B : Nat → Prop} {U : State} {H : Heap} (h : zst q A U H) (hAB : ∀ a, B a → A a) : zst q B U H :=
  ⟨h.1.narrow hAB, h.2.1.narrow hAB, fun i r hr => ⟨(h.2.2.1 i r hr).1.narrow hAB, (h.2.2.1 i r hr).2.narrow hAB⟩, h.2.2.2⟩
/-- the tables' numbers: classes and slots; the classes of byte[], int[], long[]; the static cells -/
abbrev zk : Type := va_G × (Nat → ClassId) × (Nat → Nat)
abbrev zty (K : zk) : List (ClassId × FieldType) := [(K.2.1 0, .byte), (K.2.1 1, .int), (K.2.1 2, .long)]
abbrev zB (K : zk) (a n : Nat) (f : Nat → Int32) : Nat × va_E := (a, .inl (K.2.1 0, n, .inl f))
abbrev zI (K : zk) (a n : Nat) (f : Nat → Int32) : Nat × va_E := (a, .inl (K.2.1 1, n, .inl f))
abbrev zL (K : zk) (a n : Nat) (f : Nat → Int64) : Nat × va_E := (a, .inl (K.2.1 2, n, .inr (.inl f)))
abbrev zO (a ci : Nat) (fs : List Value) : Nat × va_E := (a, .inr (ci, fs))
abbrev zg : Type := Program × Launch × Env × Room × State × MethodId × Array Value × List Frame × Method × Code × zk × (Nat → Prop) × Nat × (State → Prop)
def zj (G : zg) (k n pc : Nat) (L : List (Nat × Value)) (st : List Value) (ws : va_W) : Prop := match G with
  | (p, l, e, R, s, m, args, below, meth, c, K, A, nL, Q) => ∀ (H : Heap) (locs : List Loc) (ls : Array Slot), va_P K.1 vwCl ws H → va_D A ws → va_S A s.heap H locs → lv_has ls nL L → W p l e R s m args below meth c H locs k n Q (F0 m pc ls st)
/-- what stays fixed in a method's walk: code, words, tables, statics, room -/
def zf (G : zg) (l : Launch) (K : zk) (rm : Room) (own : String) (cc : ByteArray) (nl : Nat) : Prop := match G with
  | (p, l', e, R, s, m, args, below, meth, c, K', A, nL, Q) => p.tables.exec = Jvm.exec ∧ c.code = cc ∧ c.maxLocals = nL ∧ s.vm.findClass own = some m.cls ∧ (∀ w ∈ zT, w.before args s = true) ∧ va_K K'.1 vwCl (zty K') s ∧ (∀ q, s.heap.size ≤ q → A q) ∧ zst K'.2.2 A s s.heap ∧ meth.locks = false ∧ (∀ q, A q → ∀ cell, s.heap[q]? = some cell → cell.vm.isStatics = false) ∧ l' = l ∧ K' = K ∧ R = rm ∧ nL = nl
section ZJ
variable {G : zg} {l : Launch} {K : zk} {rm : Room} {own : String} {cc : ByteArray} {nl : Nat} {k n pc : Nat} {L L' : List (Nat × Value)} {st : List Value} {ws ws' : va_W}
theorem zj_eq {pc' : Nat} {L' : List (Nat × Value)} {st' : List Value} (h1 : pc = pc') (h2 : L = L') (h3 : st = st') (h4 : ws = ws') (kk : zj G k n pc' L' st' ws') : zj G k n pc L st ws := by
  subst h1; subst h2; subst h3; subst h4; exact kk
theorem zj_top {x z : Int32} (h : x = z) (kk : zj G k n pc L (.int z :: st) ws) : zj G k n pc L (.int x :: st) ws := by subst h; exact kk
theorem zj_sub {L' : List (Nat × Value)} (is : List Nat) (h : lv_pick L is = L') (kk : zj G k n pc L' st ws) : zj G k n pc L st ws := by
  obtain ⟨p, l, e, R, s, m, args, below, meth, c, K, A, nL, Q⟩ := G
  intro H locs ls hP hD hS hl
  exact kk H locs ls hP hD hS (lv_sub hl is h)
theorem zj_wsub {ws' : va_W} (is : List Nat) (hn : va_nd is = true) (h : is.map (fun i => ws[i]?) = ws'.map some) (h2 : is.filterMap (fun i => ws[i]?) = ws') (kk : zj G k n pc L st ws') : zj G k n pc L st ws := by
  obtain ⟨p, l, e, R, s, m, args, below, meth, c, K, A, nL, Q⟩ := G
  intro H locs ls hP hD hS hl
  exact kk H locs ls (hP.sub is h2) (hD.sub is hn h) hS hl
theorem zj_widen {k' n' : Nat} (h1 : k ≤ k') (h2 : n ≤ n') (kk : zj G k' n' pc L st ws) : zj G k n pc L st ws := by
  obtain ⟨p, l, e, R, s, m, args, below, meth, c, K, A, nL, Q⟩ := G
  intro H locs ls hP hD hS hl
  exact W.widen h1 h2 (kk H locs ls hP hD hS hl)
theorem zj_iconst (F : zf G l K rm own cc nl) {z : Int} {v : Int32} (d : decode cc pc = .ok (.iconst z, 1)) (hv : Int32.ofInt z = v) (kk : zj G k n (pc + 1) L (.int v :: st) ws) : zj G k n pc L st ws := by
  obtain ⟨p, l, e, R, s, m, args, below, meth, c, K, A, nL, Q⟩ := G
  obtain ⟨hx, hb, hml, hown, hts, hK, hA, hZ, hlk, hst, rfl, rfl, rfl, rfl⟩ := F
  intro H locs ls hP hD hS hl
  exact lv_iconst hx hb d hv (kk H locs ls hP hD hS hl)
theorem zj_bipush (F : zf G l K rm own cc nl) {z : Int} {v : Int32} (d : decode cc pc = .ok (.bipush z, 2)) (hv : (Int8.ofInt z).toInt32 = v) (kk : zj G k n (pc + 2) L (.int v :: st) ws) : zj G k n pc L st ws := by
  obtain ⟨p, l, e, R, s, m, args, below, meth, c, K, A, nL, Q⟩ := G
  obtain ⟨hx, hb, hml, hown, hts, hK, hA, hZ, hlk, hst, rfl, rfl, rfl, rfl⟩ := F
  intro H locs ls hP hD hS hl
  exact lv_bipush hx hb d hv (kk H locs ls hP hD hS hl)
theorem zj_sipush (F : zf G l K rm own cc nl) {z : Int} {v : Int32} (d : decode cc pc = .ok (.sipush z, 3)) (hv : (Int16.ofInt z).toInt32 = v) (kk : zj G k n (pc + 3) L (.int v :: st) ws) : zj G k n pc L st ws := by
  obtain ⟨p, l, e, R, s, m, args, below, meth, c, K, A, nL, Q⟩ := G
  obtain ⟨hx, hb, hml, hown, hts, hK, hA, hZ, hlk, hst, rfl, rfl, rfl, rfl⟩ := F
  intro H locs ls hP hD hS hl
  exact lv_sipush hx hb d hv (kk H locs ls hP hD hS hl)
theorem zj_lconst (F : zf G l K rm own cc nl) {z : Fin 2} {v : Int64} (d : decode cc pc = .ok (.lconst z, 1)) (hv : Int64.ofNat (z : Nat) = v) (kk : zj G k n (pc + 1) L (.long v :: st) ws) : zj G k n pc L st ws := by
  obtain ⟨p, l, e, R, s, m, args, below, meth, c, K, A, nL, Q⟩ := G
  obtain ⟨hx, hb, hml, hown, hts, hK, hA, hZ, hlk, hst, rfl, rfl, rfl, rfl⟩ := F
  intro H locs ls hP hD hS hl
  exact lv_lconst hx hb d hv (kk H locs ls hP hD hS hl)
theorem zj_ldc (F : zf G l K rm own cc nl) {index : Nat} {v : Int32} (d : decode cc pc = .ok (.ldc index, 2)) (hw : Cond.constant own index v ∈ zT) (kk : zj G k n (pc + 2) L (.int v :: st) ws) : zj G k n pc L st ws := by
  obtain ⟨p, l, e, R, s, m, args, below, meth, c, K, A, nL, Q⟩ := G
  obtain ⟨hx, hb, hml, hown, hts, hK, hA, hZ, hlk, hst, rfl, rfl, rfl, rfl⟩ := F
  intro H locs ls hP hD hS hl
  exact lv_ldc hx hb hown (hts _ hw) d (kk H locs ls hP hD hS hl)
theorem zj_ldc2 (F : zf G l K rm own cc nl) {index : Nat} {v : Int64} (d : decode cc pc = .ok (.ldc2_w index, 3)) (hw : Cond.constantLong own index v ∈ zT) (kk : zj G k n (pc + 3) L (.long v :: st) ws) : zj G k n pc L st ws := by
  obtain ⟨p, l, e, R, s, m, args, below, meth, c, K, A, nL, Q⟩ := G
  obtain ⟨hx, hb, hml, hown, hts, hK, hA, hZ, hlk, hst, rfl, rfl, rfl, rfl⟩ := F
  intro H locs ls hP hD hS hl
  exact lv_ldc2 hx hb hown (hts _ hw) d (kk H locs ls hP hD hS hl)
theorem zj_iload_n (F : zf G l K rm own cc nl) {z : Fin 4} {i : Nat} {x : Int32} (d : decode cc pc = .ok (.iload_n z, 1)) (j : Nat) (hi : (z : Nat) = i) (hv : L[j]? = some (i, .int x)) (kk : zj G k n (pc + 1) L (.int x :: st) ws) : zj G k n pc L st ws := by
  obtain ⟨p, l, e, R, s, m, args, below, meth, c, K, A, nL, Q⟩ := G
  obtain ⟨hx, hb, hml, hown, hts, hK, hA, hZ, hlk, hst, rfl, rfl, rfl, rfl⟩ := F
  intro H locs ls hP hD hS hl
  exact lv_iload_n hx hb d hi (lv_at hl j hv) (kk H locs ls hP hD hS hl)
theorem zj_iload (F : zf G l K rm own cc nl) {i : Nat} {x : Int32} (d : decode cc pc = .ok (.iload i, 2)) (j : Nat) (hv : L[j]? = some (i, .int x)) (kk : zj G k n (pc + 2) L (.int x :: st) ws) : zj G k n pc L st ws := by
  obtain ⟨p, l, e, R, s, m, args, below, meth, c, K, A, nL, Q⟩ := G
  obtain ⟨hx, hb, hml, hown, hts, hK, hA, hZ, hlk, hst, rfl, rfl, rfl, rfl⟩ := F
  intro H locs ls hP hD hS hl
  exact lv_iload hx hb d (lv_at hl j hv) (kk H locs ls hP hD hS hl)
theorem zj_istore_n (F : zf G l K rm own cc nl) {z : Fin 4} {i : Nat} {x : Int32} (d : decode cc pc = .ok (.istore_n z, 1)) (hi : (z : Nat) = i) (hlt : i < nl) (hL : (i, Value.int x) :: L.filter (fun q => !(q.1 == i) && !(q.1 + 1 == i && q.2.category == 2)) = L') (kk : zj G k n (pc + 1) L' st ws) : zj G k n pc L (.int x :: st) ws := by
  obtain ⟨p, l, e, R, s, m, args, below, meth, c, K, A, nL, Q⟩ := G
  obtain ⟨hx, hb, hml, hown, hts, hK, hA, hZ, hlk, hst, rfl, rfl, rfl, rfl⟩ := F
  intro H locs ls hP hD hS hl
  exact lv_istore_n hx hb d hi hl hlt hL (fun ls' hl' => kk H locs ls' hP hD hS hl')
theorem zj_istore (F : zf G l K rm own cc nl) {i : Nat} {x : Int32} (d : decode cc pc = .ok (.istore i, 2)) (hlt : i < nl) (hL : (i, Value.int x) :: L.filter (fun q => !(q.1 == i) && !(q.1 + 1 == i && q.2.category == 2)) = L') (kk : zj G k n (pc + 2) L' st ws) : zj G k n pc L (.int x :: st) ws := by
  obtain ⟨p, l, e, R, s, m, args, below, meth, c, K, A, nL, Q⟩ := G
  obtain ⟨hx, hb, hml, hown, hts, hK, hA, hZ, hlk, hst, rfl, rfl, rfl, rfl⟩ := F
  intro H locs ls hP hD hS hl
  exact lv_istore hx hb d hl hlt hL (fun ls' hl' => kk H locs ls' hP hD hS hl')
theorem zj_lload_n (F : zf G l K rm own cc nl) {z : Fin 4} {i : Nat} {x : Int64} (d : decode cc pc = .ok (.lload_n z, 1)) (j : Nat) (hi : (z : Nat) = i) (hv : L[j]? = some (i, .long x)) (kk : zj G k n (pc + 1) L (.long x :: st) ws) : zj G k n pc L st ws := by
  obtain ⟨p, l, e, R, s, m, args, below, meth, c, K, A, nL, Q⟩ := G
  obtain ⟨hx, hb, hml, hown, hts, hK, hA, hZ, hlk, hst, rfl, rfl, rfl, rfl⟩ := F
  intro H locs ls hP hD hS hl
  exact lv_lload_n hx hb d hi (lv_at hl j hv) (kk H locs ls hP hD hS hl)
theorem zj_lload (F : zf G l K rm own cc nl) {i : Nat} {x : Int64} (d : decode cc pc = .ok (.lload i, 2)) (j : Nat) (hv : L[j]? = some (i, .long x)) (kk : zj G k n (pc + 2) L (.long x :: st) ws) : zj G k n pc L st ws := by
  obtain ⟨p, l, e, R, s, m, args, below, meth, c, K, A, nL, Q⟩ := G
  obtain ⟨hx, hb, hml, hown, hts, hK, hA, hZ, hlk, hst, rfl, rfl, rfl, rfl⟩ := F
  intro H locs ls hP hD hS hl
  exact lv_lload hx hb d (lv_at hl j hv) (kk H locs ls hP hD hS hl)
theorem zj_lstore_n (F : zf G l K rm own cc nl) {z : Fin 4} {i : Nat} {x : Int64} (d : decode cc pc = .ok (.lstore_n z, 1)) (hi : (z : Nat) = i) (hlt : i + 1 < nl) (hL : (i, Value.long x) :: L.filter (fun q => !(q.1 == i) && (!(q.1 == i + 1) && !(q.1 + 1 == i && q.2.category == 2))) = L') (kk : zj G k n (pc + 1) L' st ws) : zj G k n pc L (.long x :: st) ws := by
  obtain ⟨p, l, e, R, s, m, args, below, meth, c, K, A, nL, Q⟩ := G
  obtain ⟨hx, hb, hml, hown, hts, hK, hA, hZ, hlk, hst, rfl, rfl, rfl, rfl⟩ := F
  intro H locs ls hP hD hS hl
  exact lv_lstore_n hx hb d hi hl hlt hL (fun ls' hl' => kk H locs ls' hP hD hS hl')
theorem zj_lstore (F : zf G l K rm own cc nl) {i : Nat} {x : Int64} (d : decode cc pc = .ok (.lstore i, 2)) (hlt : i + 1 < nl) (hL : (i, Value.long x) :: L.filter (fun q => !(q.1 == i) && (!(q.1 == i + 1) && !(q.1 + 1 == i && q.2.category == 2))) = L') (kk : zj G k n (pc + 2) L' st ws) : zj G k n pc L (.long x :: st) ws := by
  obtain ⟨p, l, e, R, s, m, args, below, meth, c, K, A, nL, Q⟩ := G
  obtain ⟨hx, hb, hml, hown, hts, hK, hA, hZ, hlk, hst, rfl, rfl, rfl, rfl⟩ := F
  intro H locs ls hP hD hS hl
  exact lv_lstore hx hb d hl hlt hL (fun ls' hl' => kk H locs ls' hP hD hS hl')
theorem zj_aload_n (F : zf G l K rm own cc nl) {z : Fin 4} {i : Nat} {x : Nat} (d : decode cc pc = .ok (.aload_n z, 1)) (j : Nat) (hi : (z : Nat) = i) (hv : L[j]? = some (i, .ref x)) (kk : zj G k n (pc + 1) L (.ref x :: st) ws) : zj G k n pc L st ws := by
  obtain ⟨p, l, e, R, s, m, args, below, meth, c, K, A, nL, Q⟩ := G
  obtain ⟨hx, hb, hml, hown, hts, hK, hA, hZ, hlk, hst, rfl, rfl, rfl, rfl⟩ := F
  intro H locs ls hP hD hS hl
  exact lv_aload_n hx hb d hi (lv_at hl j hv) (kk H locs ls hP hD hS hl)
theorem zj_aload (F : zf G l K rm own cc nl) {i : Nat} {x : Nat} (d : decode cc pc = .ok (.aload i, 2)) (j : Nat) (hv : L[j]? = some (i, .ref x)) (kk : zj G k n (pc + 2) L (.ref x :: st) ws) : zj G k n pc L st ws := by
  obtain ⟨p, l, e, R, s, m, args, below, meth, c, K, A, nL, Q⟩ := G
  obtain ⟨hx, hb, hml, hown, hts, hK, hA, hZ, hlk, hst, rfl, rfl, rfl, rfl⟩ := F
  intro H locs ls hP hD hS hl
  exact lv_aload hx hb d (lv_at hl j hv) (kk H locs ls hP hD hS hl)
theorem zj_astore_n (F : zf G l K rm own cc nl) {z : Fin 4} {i : Nat} {x : Nat} (d : decode cc pc = .ok (.astore_n z, 1)) (hi : (z : Nat) = i) (hlt : i < nl) (hL : (i, Value.ref x) :: L.filter (fun q => !(q.1 == i) && !(q.1 + 1 == i && q.2.category == 2)) = L') (kk : zj G k n (pc + 1) L' st ws) : zj G k n pc L (.ref x :: st) ws := by
  obtain ⟨p, l, e, R, s, m, args, below, meth, c, K, A, nL, Q⟩ := G
  obtain ⟨hx, hb, hml, hown, hts, hK, hA, hZ, hlk, hst, rfl, rfl, rfl, rfl⟩ := F
  intro H locs ls hP hD hS hl
  exact lv_astore_n hx hb d hi hl hlt hL (fun ls' hl' => kk H locs ls' hP hD hS hl')
theorem zj_astore (F : zf G l K rm own cc nl) {i : Nat} {x : Nat} (d : decode cc pc = .ok (.astore i, 2)) (hlt : i < nl) (hL : (i, Value.ref x) :: L.filter (fun q => !(q.1 == i) && !(q.1 + 1 == i && q.2.category == 2)) = L') (kk : zj G k n (pc + 2) L' st ws) : zj G k n pc L (.ref x :: st) ws := by
  obtain ⟨p, l, e, R, s, m, args, below, meth, c, K, A, nL, Q⟩ := G
  obtain ⟨hx, hb, hml, hown, hts, hK, hA, hZ, hlk, hst, rfl, rfl, rfl, rfl⟩ := F
  intro H locs ls hP hD hS hl
  exact lv_astore hx hb d hl hlt hL (fun ls' hl' => kk H locs ls' hP hD hS hl')
theorem zj_iinc (F : zf G l K rm own cc nl) {i : Nat} {z : Int} {x v : Int32} (d : decode cc pc = .ok (.iinc i z, 3)) (j : Nat) (hk : L[j]? = some (i, .int x)) (hv : x + Int32.ofInt z = v) (hlt : i < nl) (hL : (i, Value.int v) :: L.filter (fun q => !(q.1 == i) && !(q.1 + 1 == i && q.2.category == 2)) = L') (kk : zj G k n (pc + 3) L' st ws) : zj G k n pc L st ws := by
  obtain ⟨p, l, e, R, s, m, args, below, meth, c, K, A, nL, Q⟩ := G
  obtain ⟨hx, hb, hml, hown, hts, hK, hA, hZ, hlk, hst, rfl, rfl, rfl, rfl⟩ := F
  intro H locs ls hP hD hS hl
  exact lv_iinc hx hb d hl hk hv hlt hL (fun ls' hl' => kk H locs ls' hP hD hS hl')
theorem zj_iadd (F : zf G l K rm own cc nl) {x y z : Int32} (d : decode cc pc = .ok (.iadd, 1)) (hz : x + y = z) (kk : zj G k n (pc + 1) L (.int z :: st) ws) : zj G k n pc L (.int y :: .int x :: st) ws := by
  obtain ⟨p, l, e, R, s, m, args, below, meth, c, K, A, nL, Q⟩ := G
  obtain ⟨hx, hb, hml, hown, hts, hK, hA, hZ, hlk, hst, rfl, rfl, rfl, rfl⟩ := F
  intro H locs ls hP hD hS hl
  subst hz
  exact lv_iadd hx hb d (kk H locs ls hP hD hS hl)
theorem zj_isub (F : zf G l K rm own cc nl) {x y z : Int32} (d : decode cc pc = .ok (.isub, 1)) (hz : x - y = z) (kk : zj G k n (pc + 1) L (.int z :: st) ws) : zj G k n pc L (.int y :: .int x :: st) ws := by
  obtain ⟨p, l, e, R, s, m, args, below, meth, c, K, A, nL, Q⟩ := G
  obtain ⟨hx, hb, hml, hown, hts, hK, hA, hZ, hlk, hst, rfl, rfl, rfl, rfl⟩ := F
  intro H locs ls hP hD hS hl
  subst hz
  exact lv_isub hx hb d (kk H locs ls hP hD hS hl)
theorem zj_imul (F : zf G l K rm own cc nl) {x y z : Int32} (d : decode cc pc = .ok (.imul, 1)) (hz : x * y = z) (kk : zj G k n (pc + 1) L (.int z :: st) ws) : zj G k n pc L (.int y :: .int x :: st) ws := by
  obtain ⟨p, l, e, R, s, m, args, below, meth, c, K, A, nL, Q⟩ := G
  obtain ⟨hx, hb, hml, hown, hts, hK, hA, hZ, hlk, hst, rfl, rfl, rfl, rfl⟩ := F
  intro H locs ls hP hD hS hl
  subst hz
  exact lv_imul hx hb d (kk H locs ls hP hD hS hl)
theorem zj_iand (F : zf G l K rm own cc nl) {x y z : Int32} (d : decode cc pc = .ok (.iand, 1)) (hz : x &&& y = z) (kk : zj G k n (pc + 1) L (.int z :: st) ws) : zj G k n pc L (.int y :: .int x :: st) ws := by
  obtain ⟨p, l, e, R, s, m, args, below, meth, c, K, A, nL, Q⟩ := G
  obtain ⟨hx, hb, hml, hown, hts, hK, hA, hZ, hlk, hst, rfl, rfl, rfl, rfl⟩ := F
  intro H locs ls hP hD hS hl
  subst hz
  exact lv_iand hx hb d (kk H locs ls hP hD hS hl)
theorem zj_ior (F : zf G l K rm own cc nl) {x y z : Int32} (d : decode cc pc = .ok (.ior, 1)) (hz : x ||| y = z) (kk : zj G k n (pc + 1) L (.int z :: st) ws) : zj G k n pc L (.int y :: .int x :: st) ws := by
  obtain ⟨p, l, e, R, s, m, args, below, meth, c, K, A, nL, Q⟩ := G
  obtain ⟨hx, hb, hml, hown, hts, hK, hA, hZ, hlk, hst, rfl, rfl, rfl, rfl⟩ := F
  intro H locs ls hP hD hS hl
  subst hz
  exact lv_ior hx hb d (kk H locs ls hP hD hS hl)
theorem zj_ixor (F : zf G l K rm own cc nl) {x y z : Int32} (d : decode cc pc = .ok (.ixor, 1)) (hz : x ^^^ y = z) (kk : zj G k n (pc + 1) L (.int z :: st) ws) : zj G k n pc L (.int y :: .int x :: st) ws := by
  obtain ⟨p, l, e, R, s, m, args, below, meth, c, K, A, nL, Q⟩ := G
  obtain ⟨hx, hb, hml, hown, hts, hK, hA, hZ, hlk, hst, rfl, rfl, rfl, rfl⟩ := F
  intro H locs ls hP hD hS hl
  subst hz
  exact lv_ixor hx hb d (kk H locs ls hP hD hS hl)
theorem zj_ishl (F : zf G l K rm own cc nl) {x y z : Int32} (d : decode cc pc = .ok (.ishl, 1)) (hz : x <<< (y &&& 31) = z) (kk : zj G k n (pc + 1) L (.int z :: st) ws) : zj G k n pc L (.int y :: .int x :: st) ws := by
  obtain ⟨p, l, e, R, s, m, args, below, meth, c, K, A, nL, Q⟩ := G
  obtain ⟨hx, hb, hml, hown, hts, hK, hA, hZ, hlk, hst, rfl, rfl, rfl, rfl⟩ := F
  intro H locs ls hP hD hS hl
  subst hz
  exact lv_ishl hx hb d (kk H locs ls hP hD hS hl)
theorem zj_ishr (F : zf G l K rm own cc nl) {x y z : Int32} (d : decode cc pc = .ok (.ishr, 1)) (hz : x >>> (y &&& 31) = z) (kk : zj G k n (pc + 1) L (.int z :: st) ws) : zj G k n pc L (.int y :: .int x :: st) ws := by
  obtain ⟨p, l, e, R, s, m, args, below, meth, c, K, A, nL, Q⟩ := G
  obtain ⟨hx, hb, hml, hown, hts, hK, hA, hZ, hlk, hst, rfl, rfl, rfl, rfl⟩ := F
  intro H locs ls hP hD hS hl
  subst hz
  exact lv_ishr hx hb d (kk H locs ls hP hD hS hl)
theorem zj_idiv (F : zf G l K rm own cc nl) {x y z : Int32} (d : decode cc pc = .ok (.idiv, 1)) (hne : ¬ y = 0) (hz : x / y = z) (kk : zj G k n (pc + 1) L (.int z :: st) ws) : zj G k n pc L (.int y :: .int x :: st) ws := by
  obtain ⟨p, l, e, R, s, m, args, below, meth, c, K, A, nL, Q⟩ := G
  obtain ⟨hx, hb, hml, hown, hts, hK, hA, hZ, hlk, hst, rfl, rfl, rfl, rfl⟩ := F
  intro H locs ls hP hD hS hl
  subst hz
  exact lv_idiv hx hb d hne (kk H locs ls hP hD hS hl)
theorem zj_irem (F : zf G l K rm own cc nl) {x y z : Int32} (d : decode cc pc = .ok (.irem, 1)) (hne : ¬ y = 0) (hz : x - x / y * y = z) (kk : zj G k n (pc + 1) L (.int z :: st) ws) : zj G k n pc L (.int y :: .int x :: st) ws := by
  obtain ⟨p, l, e, R, s, m, args, below, meth, c, K, A, nL, Q⟩ := G
  obtain ⟨hx, hb, hml, hown, hts, hK, hA, hZ, hlk, hst, rfl, rfl, rfl, rfl⟩ := F
  intro H locs ls hP hD hS hl
  subst hz
  exact lv_irem hx hb d hne (kk H locs ls hP hD hS hl)
theorem zj_ladd (F : zf G l K rm own cc nl) {x y z : Int64} (d : decode cc pc = .ok (.ladd, 1)) (hz : x + y = z) (kk : zj G k n (pc + 1) L (.long z :: st) ws) : zj G k n pc L (.long y :: .long x :: st) ws := by
  obtain ⟨p, l, e, R, s, m, args, below, meth, c, K, A, nL, Q⟩ := G
  obtain ⟨hx, hb, hml, hown, hts, hK, hA, hZ, hlk, hst, rfl, rfl, rfl, rfl⟩ := F
  intro H locs ls hP hD hS hl
  subst hz
  exact lv_ladd hx hb d (kk H locs ls hP hD hS hl)
theorem zj_lmul (F : zf G l K rm own cc nl) {x y z : Int64} (d : decode cc pc = .ok (.lmul, 1)) (hz : x * y = z) (kk : zj G k n (pc + 1) L (.long z :: st) ws) : zj G k n pc L (.long y :: .long x :: st) ws := by
  obtain ⟨p, l, e, R, s, m, args, below, meth, c, K, A, nL, Q⟩ := G
  obtain ⟨hx, hb, hml, hown, hts, hK, hA, hZ, hlk, hst, rfl, rfl, rfl, rfl⟩ := F
  intro H locs ls hP hD hS hl
  subst hz
  exact lv_lmul hx hb d (kk H locs ls hP hD hS hl)
theorem zj_lor (F : zf G l K rm own cc nl) {x y z : Int64} (d : decode cc pc = .ok (.lor, 1)) (hz : x ||| y = z) (kk : zj G k n (pc + 1) L (.long z :: st) ws) : zj G k n pc L (.long y :: .long x :: st) ws := by
  obtain ⟨p, l, e, R, s, m, args, below, meth, c, K, A, nL, Q⟩ := G
  obtain ⟨hx, hb, hml, hown, hts, hK, hA, hZ, hlk, hst, rfl, rfl, rfl, rfl⟩ := F
  intro H locs ls hP hD hS hl
  subst hz
  exact lv_lor hx hb d (kk H locs ls hP hD hS hl)
theorem zj_lshl (F : zf G l K rm own cc nl) {x z : Int64} {y : Int32} (d : decode cc pc = .ok (.lshl, 1)) (hz : x <<< (y.toInt64 &&& 63) = z) (kk : zj G k n (pc + 1) L (.long z :: st) ws) : zj G k n pc L (.int y :: .long x :: st) ws := by
  obtain ⟨p, l, e, R, s, m, args, below, meth, c, K, A, nL, Q⟩ := G
  obtain ⟨hx, hb, hml, hown, hts, hK, hA, hZ, hlk, hst, rfl, rfl, rfl, rfl⟩ := F
  intro H locs ls hP hD hS hl
  exact lv_lshl hx hb d hz (kk H locs ls hP hD hS hl)
theorem zj_lshr (F : zf G l K rm own cc nl) {x z : Int64} {y : Int32} (d : decode cc pc = .ok (.lshr, 1)) (hz : x >>> (y.toInt64 &&& 63) = z) (kk : zj G k n (pc + 1) L (.long z :: st) ws) : zj G k n pc L (.int y :: .long x :: st) ws := by
  obtain ⟨p, l, e, R, s, m, args, below, meth, c, K, A, nL, Q⟩ := G
  obtain ⟨hx, hb, hml, hown, hts, hK, hA, hZ, hlk, hst, rfl, rfl, rfl, rfl⟩ := F
  intro H locs ls hP hD hS hl
  exact lv_lshr hx hb d hz (kk H locs ls hP hD hS hl)
theorem zj_i2l (F : zf G l K rm own cc nl) {x : Int32} {z : Int64} (d : decode cc pc = .ok (.i2l, 1)) (hz : x.toInt64 = z) (kk : zj G k n (pc + 1) L (.long z :: st) ws) : zj G k n pc L (.int x :: st) ws := by
  obtain ⟨p, l, e, R, s, m, args, below, meth, c, K, A, nL, Q⟩ := G
  obtain ⟨hx, hb, hml, hown, hts, hK, hA, hZ, hlk, hst, rfl, rfl, rfl, rfl⟩ := F
  intro H locs ls hP hD hS hl
  exact lv_i2l hx hb d hz (kk H locs ls hP hD hS hl)
theorem zj_l2i (F : zf G l K rm own cc nl) {x : Int64} {z : Int32} (d : decode cc pc = .ok (.l2i, 1)) (hz : x.toInt32 = z) (kk : zj G k n (pc + 1) L (.int z :: st) ws) : zj G k n pc L (.long x :: st) ws := by
  obtain ⟨p, l, e, R, s, m, args, below, meth, c, K, A, nL, Q⟩ := G
  obtain ⟨hx, hb, hml, hown, hts, hK, hA, hZ, hlk, hst, rfl, rfl, rfl, rfl⟩ := F
  intro H locs ls hP hD hS hl
  exact lv_l2i hx hb d hz (kk H locs ls hP hD hS hl)
theorem zj_i2b (F : zf G l K rm own cc nl) {x : Int32} {z : Int32} (d : decode cc pc = .ok (.i2b, 1)) (hz : x.toInt8.toInt32 = z) (kk : zj G k n (pc + 1) L (.int z :: st) ws) : zj G k n pc L (.int x :: st) ws := by
  obtain ⟨p, l, e, R, s, m, args, below, meth, c, K, A, nL, Q⟩ := G
  obtain ⟨hx, hb, hml, hown, hts, hK, hA, hZ, hlk, hst, rfl, rfl, rfl, rfl⟩ := F
  intro H locs ls hP hD hS hl
  exact lv_i2b hx hb d hz (kk H locs ls hP hD hS hl)
theorem zj_if_eq (F : zf G l K rm own cc nl) {x : Int32} {off : Int} {tgt : Nat} {P : Prop} (d : decode cc pc = .ok (.ifCond .eq off, 3)) (ht : (pc : Int) + off = (tgt : Int)) (hP : x = 0 ↔ P) (kt : P → zj G k n tgt L st ws) (kf : ¬ P → zj G k n (pc + 3) L st ws) : zj G k n pc L (.int x :: st) ws := by
  obtain ⟨p, l, e, R, s, m, args, below, meth, c, K, A, nL, Q⟩ := G
  obtain ⟨hx, hb, hml, hown, hts, hK, hA, hZ, hlk, hst, rfl, rfl, rfl, rfl⟩ := F
  intro H locs ls hPw hD hS hl
  exact lv_if_eq hx hb d ht (fun h => kt (hP.mp h) H locs ls hPw hD hS hl) (fun h => kf (fun q => h (hP.mpr q)) H locs ls hPw hD hS hl)
theorem zj_if_ne (F : zf G l K rm own cc nl) {x : Int32} {off : Int} {tgt : Nat} {P : Prop} (d : decode cc pc = .ok (.ifCond .ne off, 3)) (ht : (pc : Int) + off = (tgt : Int)) (hP : x = 0 ↔ P) (kt : ¬ P → zj G k n tgt L st ws) (kf : P → zj G k n (pc + 3) L st ws) : zj G k n pc L (.int x :: st) ws := by
  obtain ⟨p, l, e, R, s, m, args, below, meth, c, K, A, nL, Q⟩ := G
  obtain ⟨hx, hb, hml, hown, hts, hK, hA, hZ, hlk, hst, rfl, rfl, rfl, rfl⟩ := F
  intro H locs ls hPw hD hS hl
  exact lv_if_ne hx hb d ht (fun h => kt (fun q => h (hP.mpr q)) H locs ls hPw hD hS hl) (fun h => kf (hP.mp h) H locs ls hPw hD hS hl)
theorem zj_if_lt (F : zf G l K rm own cc nl) {x : Int32} {off : Int} {tgt : Nat} {P : Prop} (d : decode cc pc = .ok (.ifCond .lt off, 3)) (ht : (pc : Int) + off = (tgt : Int)) (hP : x < 0 ↔ P) (kt : P → zj G k n tgt L st ws) (kf : ¬ P → zj G k n (pc + 3) L st ws) : zj G k n pc L (.int x :: st) ws := by
  obtain ⟨p, l, e, R, s, m, args, below, meth, c, K, A, nL, Q⟩ := G
  obtain ⟨hx, hb, hml, hown, hts, hK, hA, hZ, hlk, hst, rfl, rfl, rfl, rfl⟩ := F
  intro H locs ls hPw hD hS hl
  exact lv_if_lt hx hb d ht (fun h => kt (hP.mp h) H locs ls hPw hD hS hl) (fun h => kf (fun q => h (hP.mpr q)) H locs ls hPw hD hS hl)
theorem zj_if_ge (F : zf G l K rm own cc nl) {x : Int32} {off : Int} {tgt : Nat} {P : Prop} (d : decode cc pc = .ok (.ifCond .ge off, 3)) (ht : (pc : Int) + off = (tgt : Int)) (hP : 0 ≤ x ↔ P) (kt : P → zj G k n tgt L st ws) (kf : ¬ P → zj G k n (pc + 3) L st ws) : zj G k n pc L (.int x :: st) ws := by
  obtain ⟨p, l, e, R, s, m, args, below, meth, c, K, A, nL, Q⟩ := G
  obtain ⟨hx, hb, hml, hown, hts, hK, hA, hZ, hlk, hst, rfl, rfl, rfl, rfl⟩ := F
  intro H locs ls hPw hD hS hl
  exact lv_if_ge hx hb d ht (fun h => kt (hP.mp h) H locs ls hPw hD hS hl) (fun h => kf (fun q => h (hP.mpr q)) H locs ls hPw hD hS hl)
theorem zj_if_gt (F : zf G l K rm own cc nl) {x : Int32} {off : Int} {tgt : Nat} {P : Prop} (d : decode cc pc = .ok (.ifCond .gt off, 3)) (ht : (pc : Int) + off = (tgt : Int)) (hP : 0 < x ↔ P) (kt : P → zj G k n tgt L st ws) (kf : ¬ P → zj G k n (pc + 3) L st ws) : zj G k n pc L (.int x :: st) ws := by
  obtain ⟨p, l, e, R, s, m, args, below, meth, c, K, A, nL, Q⟩ := G
  obtain ⟨hx, hb, hml, hown, hts, hK, hA, hZ, hlk, hst, rfl, rfl, rfl, rfl⟩ := F
  intro H locs ls hPw hD hS hl
  exact lv_if_gt hx hb d ht (fun h => kt (hP.mp h) H locs ls hPw hD hS hl) (fun h => kf (fun q => h (hP.mpr q)) H locs ls hPw hD hS hl)
theorem zj_if_le (F : zf G l K rm own cc nl) {x : Int32} {off : Int} {tgt : Nat} {P : Prop} (d : decode cc pc = .ok (.ifCond .le off, 3)) (ht : (pc : Int) + off = (tgt : Int)) (hP : x ≤ 0 ↔ P) (kt : P → zj G k n tgt L st ws) (kf : ¬ P → zj G k n (pc + 3) L st ws) : zj G k n pc L (.int x :: st) ws := by
  obtain ⟨p, l, e, R, s, m, args, below, meth, c, K, A, nL, Q⟩ := G
  obtain ⟨hx, hb, hml, hown, hts, hK, hA, hZ, hlk, hst, rfl, rfl, rfl, rfl⟩ := F
  intro H locs ls hPw hD hS hl
  exact lv_if_le hx hb d ht (fun h => kt (hP.mp h) H locs ls hPw hD hS hl) (fun h => kf (fun q => h (hP.mpr q)) H locs ls hPw hD hS hl)
theorem zj_icmp_eq (F : zf G l K rm own cc nl) {x y : Int32} {off : Int} {tgt : Nat} {P : Prop} (d : decode cc pc = .ok (.if_icmp .eq off, 3)) (ht : (pc : Int) + off = (tgt : Int)) (hP : x = y ↔ P) (kt : P → zj G k n tgt L st ws) (kf : ¬ P → zj G k n (pc + 3) L st ws) : zj G k n pc L (.int y :: .int x :: st) ws := by
  obtain ⟨p, l, e, R, s, m, args, below, meth, c, K, A, nL, Q⟩ := G
  obtain ⟨hx, hb, hml, hown, hts, hK, hA, hZ, hlk, hst, rfl, rfl, rfl, rfl⟩ := F
  intro H locs ls hPw hD hS hl
  exact lv_icmp_eq hx hb d ht (fun h => kt (hP.mp h) H locs ls hPw hD hS hl) (fun h => kf (fun q => h (hP.mpr q)) H locs ls hPw hD hS hl)
theorem zj_icmp_ne (F : zf G l K rm own cc nl) {x y : Int32} {off : Int} {tgt : Nat} {P : Prop} (d : decode cc pc = .ok (.if_icmp .ne off, 3)) (ht : (pc : Int) + off = (tgt : Int)) (hP : x = y ↔ P) (kt : ¬ P → zj G k n tgt L st ws) (kf : P → zj G k n (pc + 3) L st ws) : zj G k n pc L (.int y :: .int x :: st) ws := by
  obtain ⟨p, l, e, R, s, m, args, below, meth, c, K, A, nL, Q⟩ := G
  obtain ⟨hx, hb, hml, hown, hts, hK, hA, hZ, hlk, hst, rfl, rfl, rfl, rfl⟩ := F
  intro H locs ls hPw hD hS hl
  exact lv_icmp_ne hx hb d ht (fun h => kt (fun q => h (hP.mpr q)) H locs ls hPw hD hS hl) (fun h => kf (hP.mp h) H locs ls hPw hD hS hl)
theorem zj_icmp_lt (F : zf G l K rm own cc nl) {x y : Int32} {off : Int} {tgt : Nat} {P : Prop} (d : decode cc pc = .ok (.if_icmp .lt off, 3)) (ht : (pc : Int) + off = (tgt : Int)) (hP : x < y ↔ P) (kt : P → zj G k n tgt L st ws) (kf : ¬ P → zj G k n (pc + 3) L st ws) : zj G k n pc L (.int y :: .int x :: st) ws := by
  obtain ⟨p, l, e, R, s, m, args, below, meth, c, K, A, nL, Q⟩ := G
  obtain ⟨hx, hb, hml, hown, hts, hK, hA, hZ, hlk, hst, rfl, rfl, rfl, rfl⟩ := F
  intro H locs ls hPw hD hS hl
  exact lv_icmp_lt hx hb d ht (fun h => kt (hP.mp h) H locs ls hPw hD hS hl) (fun h => kf (fun q => h (hP.mpr q)) H locs ls hPw hD hS hl)
theorem zj_icmp_ge (F : zf G l K rm own cc nl) {x y : Int32} {off : Int} {tgt : Nat} {P : Prop} (d : decode cc pc = .ok (.if_icmp .ge off, 3)) (ht : (pc : Int) + off = (tgt : Int)) (hP : y ≤ x ↔ P) (kt : P → zj G k n tgt L st ws) (kf : ¬ P → zj G k n (pc + 3) L st ws) : zj G k n pc L (.int y :: .int x :: st) ws := by
  obtain ⟨p, l, e, R, s, m, args, below, meth, c, K, A, nL, Q⟩ := G
  obtain ⟨hx, hb, hml, hown, hts, hK, hA, hZ, hlk, hst, rfl, rfl, rfl, rfl⟩ := F
  intro H locs ls hPw hD hS hl
  exact lv_icmp_ge hx hb d ht (fun h => kt (hP.mp h) H locs ls hPw hD hS hl) (fun h => kf (fun q => h (hP.mpr q)) H locs ls hPw hD hS hl)
theorem zj_icmp_gt (F : zf G l K rm own cc nl) {x y : Int32} {off : Int} {tgt : Nat} {P : Prop} (d : decode cc pc = .ok (.if_icmp .gt off, 3)) (ht : (pc : Int) + off = (tgt : Int)) (hP : y < x ↔ P) (kt : P → zj G k n tgt L st ws) (kf : ¬ P → zj G k n (pc + 3) L st ws) : zj G k n pc L (.int y :: .int x :: st) ws := by
  obtain ⟨p, l, e, R, s, m, args, below, meth, c, K, A, nL, Q⟩ := G
  obtain ⟨hx, hb, hml, hown, hts, hK, hA, hZ, hlk, hst, rfl, rfl, rfl, rfl⟩ := F
  intro H locs ls hPw hD hS hl
  exact lv_icmp_gt hx hb d ht (fun h => kt (hP.mp h) H locs ls hPw hD hS hl) (fun h => kf (fun q => h (hP.mpr q)) H locs ls hPw hD hS hl)
theorem zj_icmp_le (F : zf G l K rm own cc nl) {x y : Int32} {off : Int} {tgt : Nat} {P : Prop} (d : decode cc pc = .ok (.if_icmp .le off, 3)) (ht : (pc : Int) + off = (tgt : Int)) (hP : x ≤ y ↔ P) (kt : P → zj G k n tgt L st ws) (kf : ¬ P → zj G k n (pc + 3) L st ws) : zj G k n pc L (.int y :: .int x :: st) ws := by
  obtain ⟨p, l, e, R, s, m, args, below, meth, c, K, A, nL, Q⟩ := G
  obtain ⟨hx, hb, hml, hown, hts, hK, hA, hZ, hlk, hst, rfl, rfl, rfl, rfl⟩ := F
  intro H locs ls hPw hD hS hl
  exact lv_icmp_le hx hb d ht (fun h => kt (hP.mp h) H locs ls hPw hD hS hl) (fun h => kf (fun q => h (hP.mpr q)) H locs ls hPw hD hS hl)
theorem zj_goto (F : zf G l K rm own cc nl) {off : Int} {tgt : Nat} (d : decode cc pc = .ok (.goto off, 3)) (ht : (pc : Int) + off = (tgt : Int)) (kk : zj G k n tgt L st ws) : zj G k n pc L st ws := by
  obtain ⟨p, l, e, R, s, m, args, below, meth, c, K, A, nL, Q⟩ := G
  obtain ⟨hx, hb, hml, hown, hts, hK, hA, hZ, hlk, hst, rfl, rfl, rfl, rfl⟩ := F
  intro H locs ls hP hD hS hl
  exact lv_goto hx hb d ht (kk H locs ls hP hD hS hl)
theorem zj_pop (F : zf G l K rm own cc nl) {v : Value} (d : decode cc pc = .ok (.pop, 1)) (hv : v.category = 1) (kk : zj G k n (pc + 1) L st ws) : zj G k n pc L (v :: st) ws := by
  obtain ⟨p, l, e, R, s, m, args, below, meth, c, K, A, nL, Q⟩ := G
  obtain ⟨hx, hb, hml, hown, hts, hK, hA, hZ, hlk, hst, rfl, rfl, rfl, rfl⟩ := F
  intro H locs ls hP hD hS hl
  exact lv_pop hx hb d hv (kk H locs ls hP hD hS hl)
theorem zj_dup (F : zf G l K rm own cc nl) {v : Value} (d : decode cc pc = .ok (.dup, 1)) (hv : v.category = 1) (kk : zj G k n (pc + 1) L (v :: v :: st) ws) : zj G k n pc L (v :: st) ws := by
  obtain ⟨p, l, e, R, s, m, args, below, meth, c, K, A, nL, Q⟩ := G
  obtain ⟨hx, hb, hml, hown, hts, hK, hA, hZ, hlk, hst, rfl, rfl, rfl, rfl⟩ := F
  intro H locs ls hP hD hS hl
  exact lv_dup hx hb d hv (kk H locs ls hP hD hS hl)
theorem zj_dup2 (F : zf G l K rm own cc nl) {v w : Value} (d : decode cc pc = .ok (.dup2, 1)) (hv : v.category = 1) (hw : w.category = 1) (kk : zj G k n (pc + 1) L (v :: w :: v :: w :: st) ws) : zj G k n pc L (v :: w :: st) ws := by
  obtain ⟨p, l, e, R, s, m, args, below, meth, c, K, A, nL, Q⟩ := G
  obtain ⟨hx, hb, hml, hown, hts, hK, hA, hZ, hlk, hst, rfl, rfl, rfl, rfl⟩ := F
  intro H locs ls hP hD hS hl
  exact lv_dup2_11 hx hb d hv hw (kk H locs ls hP hD hS hl)
theorem zj_lcmp (F : zf G l K rm own cc nl) {x y : Int64} {z : Int32} (d : decode cc pc = .ok (.lcmp, 1)) (hz : lg_cmp x y = z) (kk : zj G k n (pc + 1) L (.int z :: st) ws) : zj G k n pc L (.long y :: .long x :: st) ws := by
  obtain ⟨p, l, e, R, s, m, args, below, meth, c, K, A, nL, Q⟩ := G
  obtain ⟨hx, hb, hml, hown, hts, hK, hA, hZ, hlk, hst, rfl, rfl, rfl, rfl⟩ := F
  intro H locs ls hP hD hS hl
  subst hz
  exact W.lcmp hx hb d (kk H locs ls hP hD hS hl)
theorem zj_lald (F : zf G l K rm own cc nl) {t0 : ClassId} {N a : Nat} {f : Nat → Int64} {i : Int32} {z : Int64} (d : decode cc pc = .ok (.laload, 1)) (q t j : Nat) (he : ws[q]? = some (a, .inl (t0, N, .inr (.inl f)))) (ht : (zty K)[t]? = some (t0, .long)) (hi : i = nI j) (hj : j < N) (hN : N < 2 ^ 31) (hz : f j = z) (kk : zj G k n (pc + 1) L (.long z :: st) ws) : zj G k n pc L (.int i :: .ref a :: st) ws := by
  obtain ⟨p, l, e, R, s, m, args, below, meth, c, K, A, nL, Q⟩ := G
  obtain ⟨hx, hb, hml, hown, hts, hK, hA, hZ, hlk, hst, rfl, rfl, rfl, rfl⟩ := F
  intro H locs ls hP hD hS hl
  subst hi
  subst hz
  refine va_lald hx hb hK hP q t he ht (vp_in_nI hj hN) d ?_
  rw [nI_clamp (by omega)]
  exact (kk H locs ls hP hD hS hl)
theorem zj_last (F : zf G l K rm own cc nl) {t0 : ClassId} {N a : Nat} {f : Nat → Int64} {i : Int32} {x : Int64} (d : decode cc pc = .ok (.lastore, 1)) (q t j : Nat) (he : ws[q]? = some (a, .inl (t0, N, .inr (.inl f)))) (ht : (zty K)[t]? = some (t0, .long)) (hi : i = nI j) (hj : j < N) (hN : N < 2 ^ 31) (hws : ws.set q (a, .inl (t0, N, .inr (.inl (vp_updL f j x)))) = ws') (kk : zj G k n (pc + 1) L st ws') : zj G k n pc L (.long x :: .int i :: .ref a :: st) ws := by
  obtain ⟨p, l, e, R, s, m, args, below, meth, c, K, A, nL, Q⟩ := G
  obtain ⟨hx, hb, hml, hown, hts, hK, hA, hZ, hlk, hst, rfl, rfl, rfl, rfl⟩ := F
  intro H locs ls hP hD hS hl
  subst hi
  subst hws
  refine va_last hx hb hK hP hD hS q t he ht (vp_in_nI hj hN) d ?_
  rw [nI_clamp (by omega)]
  exact fun H1 locs1 hP1 hD1 hS1 => kk H1 locs1 ls hP1 hD1 hS1 hl
theorem zj_get (F : zf G l K rm own cc nl) {C : String} {T : u_T} {N ci index a : Nat} {fs : List Value} {v : Value} (d : decode cc pc = .ok (.getfield index, 3)) (q j : Nat) (he : ws[q]? = some (a, .inr (ci, fs))) (hc : vwCl[ci]? = some (C, T, N)) (hin : ∀ w ∈ u_ws C T N, w ∈ zT) (hj : j < N) (hw : Cond.fieldLink own index (T j).1 (T j).2.1 (T j).2.2.1 ∈ zT) (hv : fs[j]? = some v) (kk : zj G k n (pc + 3) L (v :: st) ws) : zj G k n pc L (.ref a :: st) ws := by
  obtain ⟨p, l, e, R, s, m, args, below, meth, c, K, A, nL, Q⟩ := G
  obtain ⟨hx, hb, hml, hown, hts, hK, hA, hZ, hlk, hst, rfl, rfl, rfl, rfl⟩ := F
  intro H locs ls hP hD hS hl
  exact va_get hx hb hts hin hown hK hP q he hc j hj (hts _ hw) (fun _ h9 => h9) hv d (kk H locs ls hP hD hS hl)
theorem zj_getN (F : zf G l K rm own cc nl) {C host : String} {T : u_T} {N ci index a : Nat} {fs : List Value} {v : Value} (d : decode cc pc = .ok (.getfield index, 3)) (q j : Nat) (he : ws[q]? = some (a, .inr (ci, fs))) (hc : vwCl[ci]? = some (C, T, N)) (hin : ∀ w ∈ u_ws C T N, w ∈ zT) (hj : j < N) (hw : Cond.fieldLinkNest own index (T j).1 (T j).2.1 (T j).2.2.1 host ∈ zxW) (hv : fs[j]? = some v) (kk : zj G k n (pc + 3) L (v :: st) ws) : zj G k n pc L (.ref a :: st) ws := by
  obtain ⟨p, l, e, R, s, m, args, below, meth, c, K, A, nL, Q⟩ := G
  obtain ⟨hx, hb, hml, hown, hts, hK, hA, hZ, hlk, hst, rfl, rfl, rfl, rfl⟩ := F
  intro H locs ls hP hD hS hl
  exact va_getN hx hb hts hin hown hK hP q he hc j hj (va_Nw.use rfl (hZ.2.2.2 _ hw)) (fun _ h9 => h9) hv d (kk H locs ls hP hD hS hl)
theorem zj_put (F : zf G l K rm own cc nl) {C : String} {T : u_T} {N ci index a : Nat} {fs : List Value} {v : Value} {ty0 : Nat → FieldType} (d : decode cc pc = .ok (.putfield index, 3)) (q j : Nat) (he : ws[q]? = some (a, .inr (ci, fs))) (hc : vwCl[ci]? = some (C, T, N)) (hin : ∀ w ∈ u_ws C T N, w ∈ zT) (hty : ∀ k, k < N → parseFieldDescriptor (T k).2.2.1 = some (ty0 k)) (hnm : ∀ a, a < N → ∀ b, b < N → a ≠ b → (T a).2.1 ≠ (T b).2.1) (hj : j < N) (hw : Cond.fieldLink own index (T j).1 (T j).2.1 (T j).2.2.1 ∈ zT) (hfin : (T j).2.2.2 = false) (hn : narrow (ty0 j) v = v) (hfit : fits (ty0 j) v = true) (hl : j < fs.length) (hws : ws.set q (a, .inr (ci, fs.set j v)) = ws') (kk : zj G k n (pc + 3) L st ws') : zj G k n pc L (v :: .ref a :: st) ws := by
  obtain ⟨p, l, e, R, s, m, args, below, meth, c, K, A, nL, Q⟩ := G
  obtain ⟨hx, hb, hml, hown, hts, hK, hA, hZ, hlk, hst, rfl, rfl, rfl, rfl⟩ := F
  intro H locs ls hP hD hS hL
  subst hws
  exact va_put hx hb hts hin ty0 hty hnm hown hK hP hD hS q he hc j hj (hts _ hw) (fun _ h9 => h9) hfin (hty j hj) hn hfit hl d (fun H1 locs1 hP1 hD1 hS1 => kk H1 locs1 ls hP1 hD1 hS1 hL)
theorem zj_iald (F : zf G l K rm own cc nl) {t0 : ClassId} {N a : Nat} {f : Nat → Int32} {i z : Int32} (d : decode cc pc = .ok (.iaload, 1)) (q t j : Nat) (he : ws[q]? = some (a, .inl (t0, N, .inl f))) (ht : (zty K)[t]? = some (t0, .int)) (hi : i = nI j) (hj : j < N) (hN : N < 2 ^ 31) (hz : f j = z) (kk : zj G k n (pc + 1) L (.int z :: st) ws) : zj G k n pc L (.int i :: .ref a :: st) ws := by
  obtain ⟨p, l, e, R, s, m, args, below, meth, c, K, A, nL, Q⟩ := G
  obtain ⟨hx, hb, hml, hown, hts, hK, hA, hZ, hlk, hst, rfl, rfl, rfl, rfl⟩ := F
  intro H locs ls hP hD hS hl
  subst hi
  subst hz
  refine va_iald hx hb hK hP q t he ht (vp_in_nI hj hN) d ?_
  rw [nI_clamp (by omega)]
  exact (kk H locs ls hP hD hS hl)
theorem zj_bald (F : zf G l K rm own cc nl) {t0 : ClassId} {N a : Nat} {f : Nat → Int32} {i z : Int32} (d : decode cc pc = .ok (.baload, 1)) (q t j : Nat) (he : ws[q]? = some (a, .inl (t0, N, .inl f))) (ht : (zty K)[t]? = some (t0, .byte)) (hi : i = nI j) (hj : j < N) (hN : N < 2 ^ 31) (hz : f j = z) (kk : zj G k n (pc + 1) L (.int z :: st) ws) : zj G k n pc L (.int i :: .ref a :: st) ws := by
  obtain ⟨p, l, e, R, s, m, args, below, meth, c, K, A, nL, Q⟩ := G
  obtain ⟨hx, hb, hml, hown, hts, hK, hA, hZ, hlk, hst, rfl, rfl, rfl, rfl⟩ := F
  intro H locs ls hP hD hS hl
  subst hi
  subst hz
  refine va_bald hx hb hK hP q t he ht (vp_in_nI hj hN) d ?_
  rw [nI_clamp (by omega)]
  exact (kk H locs ls hP hD hS hl)
theorem zj_iast (F : zf G l K rm own cc nl) {t0 : ClassId} {N a : Nat} {f : Nat → Int32} {i x : Int32} (d : decode cc pc = .ok (.iastore, 1)) (q t j : Nat) (he : ws[q]? = some (a, .inl (t0, N, .inl f))) (ht : (zty K)[t]? = some (t0, .int)) (hi : i = nI j) (hj : j < N) (hN : N < 2 ^ 31) (hws : ws.set q (a, .inl (t0, N, .inl (upd f j x))) = ws') (kk : zj G k n (pc + 1) L st ws') : zj G k n pc L (.int x :: .int i :: .ref a :: st) ws := by
  obtain ⟨p, l, e, R, s, m, args, below, meth, c, K, A, nL, Q⟩ := G
  obtain ⟨hx, hb, hml, hown, hts, hK, hA, hZ, hlk, hst, rfl, rfl, rfl, rfl⟩ := F
  intro H locs ls hP hD hS hl
  subst hi
  subst hws
  refine va_iast hx hb hK hP hD hS q t he ht (vp_in_nI hj hN) d ?_
  rw [nI_clamp (by omega)]
  exact fun H1 locs1 hP1 hD1 hS1 => kk H1 locs1 ls hP1 hD1 hS1 hl
theorem zj_bast (F : zf G l K rm own cc nl) {t0 : ClassId} {N a : Nat} {f : Nat → Int32} {i x : Int32} (d : decode cc pc = .ok (.bastore, 1)) (q t j : Nat) (he : ws[q]? = some (a, .inl (t0, N, .inl f))) (ht : (zty K)[t]? = some (t0, .byte)) (hi : i = nI j) (hj : j < N) (hN : N < 2 ^ 31) (hws : ws.set q (a, .inl (t0, N, .inl (upd f j (vp_nar .byte x)))) = ws') (kk : zj G k n (pc + 1) L st ws') : zj G k n pc L (.int x :: .int i :: .ref a :: st) ws := by
  obtain ⟨p, l, e, R, s, m, args, below, meth, c, K, A, nL, Q⟩ := G
  obtain ⟨hx, hb, hml, hown, hts, hK, hA, hZ, hlk, hst, rfl, rfl, rfl, rfl⟩ := F
  intro H locs ls hP hD hS hl
  subst hi
  subst hws
  refine va_bast hx hb hK hP hD hS q t he ht (vp_in_nI hj hN) d ?_
  rw [nI_clamp (by omega)]
  exact fun H1 locs1 hP1 hD1 hS1 => kk H1 locs1 ls hP1 hD1 hS1 hl
theorem zj_alen (F : zf G l K rm own cc nl) {t0 : ClassId} {a : Nat} {x : vp_A} {ty : FieldType} (d : decode cc pc = .ok (.arraylength, 1)) (q t : Nat) (he : ws[q]? = some (a, .inl (t0, x))) (ht : (zty K)[t]? = some (t0, ty)) (kk : zj G k n (pc + 1) L (.int (nI x.1) :: st) ws) : zj G k n pc L (.ref a :: st) ws := by
  obtain ⟨p, l, e, R, s, m, args, below, meth, c, K, A, nL, Q⟩ := G
  obtain ⟨hx, hb, hml, hown, hts, hK, hA, hZ, hlk, hst, rfl, rfl, rfl, rfl⟩ := F
  intro H locs ls hP hD hS hl
  exact va_alen hx hb hK hP q t he ht rfl d (kk H locs ls hP hD hS hl)
theorem zj_gets (F : zf G l K rm own cc nl) {C nm : String} {xs : List Nat} {index : Nat} (d : decode cc pc = .ok (.getstatic index, 3)) (i : Nat) (hi : zst_tabs[i]? = some (C, nm, xs)) (hw : Cond.fieldLink own index C nm "[I" ∈ zT) (kk : zj G k n (pc + 3) L (.ref (K.2.2 i) :: st) ws) : zj G k n pc L st ws := by
  obtain ⟨p, l, e, R, s, m, args, below, meth, c, K, A, nL, Q⟩ := G
  obtain ⟨hx, hb, hml, hown, hts, hK, hA, hZ, hlk, hst, rfl, rfl, rfl, rfl⟩ := F
  intro H locs ls hP hD hS hl
  exact va_gets hx hb (hZ.2.2.1 i _ hi).1 hS hown (hts _ hw) (fun _ h9 => h9) d (kk H locs ls hP hD hS hl)
theorem zj_getsN (F : zf G l K rm own cc nl) {C nm host : String} {xs : List Nat} {index : Nat} (d : decode cc pc = .ok (.getstatic index, 3)) (i : Nat) (hi : zst_tabs[i]? = some (C, nm, xs)) (hw : Cond.fieldLinkNest own index C nm "[I" host ∈ zxW) (kk : zj G k n (pc + 3) L (.ref (K.2.2 i) :: st) ws) : zj G k n pc L st ws := by
  obtain ⟨p, l, e, R, s, m, args, below, meth, c, K, A, nL, Q⟩ := G
  obtain ⟨hx, hb, hml, hown, hts, hK, hA, hZ, hlk, hst, rfl, rfl, rfl, rfl⟩ := F
  intro H locs ls hP hD hS hl
  exact va_getsN hx hb (hZ.2.2.1 i _ hi).1 hS hown (va_Nw.use rfl (hZ.2.2.2 _ hw)) (fun _ h9 => h9) d (kk H locs ls hP hD hS hl)
theorem zj_tald (F : zf G l K rm own cc nl) {C nm : String} {xs : List Nat} {i : Int32} (d : decode cc pc = .ok (.iaload, 1)) (t j : Nat) (hi : zst_tabs[t]? = some (C, nm, xs)) (hj : i = nI j) (hlt : j < xs.length) (hN : xs.length < 2 ^ 31) (kk : zj G k n (pc + 1) L (.int (nI (xs.getD j 0)) :: st) ws) : zj G k n pc L (.int i :: .ref (K.2.2 t) :: st) ws := by
  obtain ⟨p, l, e, R, s, m, args, below, meth, c, K, A, nL, Q⟩ := G
  obtain ⟨hx, hb, hml, hown, hts, hK, hA, hZ, hlk, hst, rfl, rfl, rfl, rfl⟩ := F
  intro H locs ls hP hD hS hl
  subst hj
  refine va_ti hx hb (hZ.2.2.1 t _ hi).2 hS (vp_in_nI hlt hN) (v := .int (nI (xs.getD j 0))) ?_ d (kk H locs ls hP hD hS hl)
  rw [nI_clamp (by omega)]
end ZJ
end
section
/-! contracts over worlds; a body, its ends, its calls -/
/-- the word that says a method's code -/
def zCW (y : MethodName) (maxL : Nat) (cw : Cond) : Prop := (∃ b r, cw = .code y b maxL r) ∨ ∃ b r hh, cw = .codeWith y b maxL r hh
theorem zCW.use {y : MethodName} {maxL : Nat} {cw : Cond} {args : Array Value} {s : State} (h : zCW y maxL cw) (hb : cw.before args s = true) : zx_Code s y maxL := by
  rcases h with ⟨b, r, rfl⟩ | ⟨b, r, hh, rfl⟩
  · exact zx_code hb
  · exact zx_codeWith hb
/-- the object that was thrown -/
def zc_X (X : String) (a : Nat) (st t : State) : Prop := True ∧ ∃ cell : Cell, t.heap[a]? = some cell ∧ cell.vm.isStatics = false ∧ t.vm.findClass X = some cell.cls
def zc_O (post : Option Value → va_W → Prop) (thr : String → va_W → Prop) (oc : Outcome) (w1 : va_W) (st t : State) : Prop := match oc with
  | .returned v => post v w1
  | .threw a => ∃ X, thr X w1 ∧ zc_X X a st t
def zc_Q (K : zk) (w0 : va_W) (sz : Nat) (post : Option Value → va_W → Prop) (thr : String → va_W → Prop) : Array Value → State → Outcome → State → Prop := fun _ st oc t => (∃ w1, zc_O post thr oc w1 st t ∧ va_P K.1 vwCl w1 t.heap ∧ va_D (va_A w0 sz) w1) ∧ va_F (va_A w0 sz) st t
def zc_P (K : zk) (av : List Value) (w0 : va_W) (sz : Nat) : Array Value → State → Prop := va_Pc av (fun U => U.heap.size = sz ∧ va_P K.1 vwCl w0 U.heap ∧ va_K K.1 vwCl (zty K) U ∧ va_D (fun _ => True) w0 ∧ zst K.2.2 (va_A w0 sz) U U.heap)
/-- a method's contract: from the cells w0 it returns with 'post', or throws with 'thr'; nothing else changes -/
def zc (l : Launch) (K : zk) (y : MethodName) (cw : Cond) (rm : Room) (mc ms tc ts : Nat) (av : List Value) (w0 : va_W) (post : Option Value → va_W → Prop) (thr : String → va_W → Prop) : Prop :=
  ∀ sz : Nat, zx_Met l y (cw :: zT) rm (zc_P K av w0 sz) (zc_Q K w0 sz post thr) mc ms tc ts (va_A w0 sz)
/-- what is known at a method's ends -/
def zq (G : zg) (ret : Option FieldType) (hh : List (Nat × Nat × Nat × Nat)) (w0 : va_W) (mc ms tc ts : Nat) (post : Option Value → va_W → Prop) (thr : String → va_W → Prop) : Prop := match G with
  | (p, l, e, R, s, m, args, below, meth, c, K, A, nL, Q) => meth.sig.returnType = ret ∧ c.exceptionTable.toList.map (fun h => (h.startPc, h.endPc, h.handlerPc, h.catchType)) = hh ∧ A = va_A w0 s.heap.size ∧ Q = zx_Q below (zc_Q K w0 s.heap.size post thr) args s mc ms tc ts (va_A w0 s.heap.size)
theorem zc_blind {K : zk} {av : List Value} {w0 : va_W} {sz : Nat} : FrameBlind (zc_P K av w0 sz) := by
  intro a U g mk h
  obtain ⟨h0, h1, h2, h3, h4, h5⟩ := h
  exact ⟨h0, h1, h2, va_K.moved (u := U) (U := U.calling g mk a) (Vm.Alike.refl U.vm) h3, h4, zst.warm (u := U) (U := U.calling g mk a) (State.WarmedH.refl U) h5⟩
theorem zc_notStatics {K : zk} {w0 : va_W} {s : State} (hP : va_P K.1 vwCl w0 s.heap) : ∀ q, va_A w0 s.heap.size q → ∀ cell, s.heap[q]? = some cell → cell.vm.isStatics = false := by
  intro q h cell hc
  rcases h with ⟨k, e, hk⟩ | h
  · have h1 := hP k _ hk
    cases e with
    | inl x =>
      have h2 : s.heap[q]? = some (vp_cell x.1 x.2) := h1
      cases h2.symm.trans hc
      obtain ⟨cA, n, f⟩ := x
      rcases f with f | f | f | f | f <;> rfl
    | inr o =>
      obtain ⟨r, h2, cell', h3, h4, h5, h6⟩ := h1
      cases h3.symm.trans hc
      rw [h5]; rfl
  · have := (Array.getElem?_eq_some_iff.mp hc).1
    omega
theorem zc_of {l : Launch} {K : zk} {y : MethodName} {rm : Room} {mc ms tc ts : Nat} {av : List Value} {w0 : va_W} {post : Option Value → va_W → Prop} {thr : String → va_W → Prop} {cc : ByteArray} {nl : Nat} {ret : Option FieldType}
    (hy : plainName y.cls = true) (hlen : (lg_sl av).length ≤ nl)
    (body : ∀ G : zg, zf G l K rm y.cls cc nl → zq G ret [] w0 mc ms tc ts post thr → zj G 0 0 0 (lv_args 0 av) [] w0) : zc l K y (.code y cc nl ret) rm mc ms tc ts av w0 post thr := by
  intro sz
  refine zx_ofW (cc := cc) (maxL := nl) (ret := ret) hy rfl ?_
  intro p e s m args below meth c s₁ B hml hv
  obtain ⟨rfl, hsz, hP, hK, hD0, hZ⟩ := hv
  subst hsz
  have hts := atoms_spec (ws := Cond.code y cc nl ret :: zT) B.pre
  have hl := lv_entry av (n := nl) hlen
  have htab : c.exceptionTable.toList.map (fun h => (h.startPc, h.endPc, h.handlerPc, h.catchType)) = [] := by
    have h1 := B.noHandlers (hts _ List.mem_cons_self)
    have h0 : c.exceptionTable.size = 0 := by simpa [Array.isEmpty] using h1
    have h2 : c.exceptionTable.toList = [] := List.eq_nil_of_length_eq_zero (by simpa using h0)
    rw [h2]; rfl
  rw [lg_entry_eq]
  exact body (p, l, e, rm, s, m, av.toArray, below, meth, c, K, va_A w0 s.heap.size, nl, _) ⟨B.exec, B.bytes, hml, findClass_of_methodNamed B.named, fun w h => hts w (List.mem_cons_of_mem _ h), hK, fun q h => Or.inr h, hZ, B.notSynchronized, zc_notStatics hP, rfl, rfl, rfl, rfl⟩ ⟨B.returns, htab, rfl, rfl⟩ s.heap [] _ hP hD0.self va_S.rf hl
section ZE
variable {G : zg} {l : Launch} {K : zk} {rm : Room} {own : String} {cc : ByteArray} {nl : Nat} {k n pc : Nat} {L L' : List (Nat × Value)} {st : List Value} {ws ws' : va_W}
variable {hh : List (Nat × Nat × Nat × Nat)} {w0 : va_W} {mc ms tc ts : Nat} {post : Option Value → va_W → Prop} {thr : String → va_W → Prop}
theorem zj_vret (F : zf G l K rm own cc nl) (E : zq G none hh w0 mc ms tc ts post thr) (d : decode cc pc = .ok (.return_, 1)) (hk : k ≤ mc) (hm : n ≤ ms) (hp : post none ws) : zj G k n pc L [] ws := by
  obtain ⟨p, l, e, R, s, m, args, below, meth, c, K, A, nL, Q⟩ := G
  obtain ⟨hx, hb, hml, hown, hts, hK, hA, hZ, hlk, hst, rfl, rfl, rfl, rfl⟩ := F
  obtain ⟨hr, htab, rfl, rfl⟩ := E
  intro H locs ls hP hD hS hl
  refine W.widen hk hm ?_
  refine zx_mono (fun t => zx_ofMQ) ?_
  exact W.vret hx hb hr (fun t ht hW => ⟨⟨ws, hp, by rw [ht]; exact hP, hD⟩, hS.F ht⟩) hS.2.2 d (hlocks := hlk)
theorem zj_iret (F : zf G l K rm own cc nl) (E : zq G (some .int) hh w0 mc ms tc ts post thr) {v : Int32} (d : decode cc pc = .ok (.ireturn, 1)) (hk : k ≤ mc) (hm : n ≤ ms) (hp : post (some (.int v)) ws) : zj G k n pc L [.int v] ws := by
  obtain ⟨p, l, e, R, s, m, args, below, meth, c, K, A, nL, Q⟩ := G
  obtain ⟨hx, hb, hml, hown, hts, hK, hA, hZ, hlk, hst, rfl, rfl, rfl, rfl⟩ := F
  obtain ⟨hr, htab, rfl, rfl⟩ := E
  intro H locs ls hP hD hS hl
  refine W.widen hk hm ?_
  refine zx_mono (fun t => zx_ofMQ) ?_
  exact W.iret (v := v) hx hb hr (fun t ht hW => ⟨⟨ws, hp, by rw [ht]; exact hP, hD⟩, hS.F ht⟩) hS.2.2 d (hlocks := hlk)
theorem zj_zret (F : zf G l K rm own cc nl) (E : zq G (some .boolean) hh w0 mc ms tc ts post thr) {v : Int32} (d : decode cc pc = .ok (.ireturn, 1)) (hv : narrow .boolean (.int v) = .int v) (hk : k ≤ mc) (hm : n ≤ ms) (hp : post (some (.int v)) ws) : zj G k n pc L [.int v] ws := by
  obtain ⟨p, l, e, R, s, m, args, below, meth, c, K, A, nL, Q⟩ := G
  obtain ⟨hx, hb, hml, hown, hts, hK, hA, hZ, hlk, hst, rfl, rfl, rfl, rfl⟩ := F
  obtain ⟨hr, htab, rfl, rfl⟩ := E
  intro H locs ls hP hD hS hl
  refine W.widen hk hm ?_
  refine zx_mono (fun t => zx_ofMQ) ?_
  exact W.zret (v := v) hx hb hr hv (fun t ht hW => ⟨⟨ws, hp, by rw [ht]; exact hP, hD⟩, hS.F ht⟩) hS.2.2 d (hlocks := hlk)
theorem zj_lret (F : zf G l K rm own cc nl) (E : zq G (some .long) hh w0 mc ms tc ts post thr) {v : Int64} (d : decode cc pc = .ok (.lreturn, 1)) (hk : k ≤ mc) (hm : n ≤ ms) (hp : post (some (.long v)) ws) : zj G k n pc L [.long v] ws := by
  obtain ⟨p, l, e, R, s, m, args, below, meth, c, K, A, nL, Q⟩ := G
  obtain ⟨hx, hb, hml, hown, hts, hK, hA, hZ, hlk, hst, rfl, rfl, rfl, rfl⟩ := F
  obtain ⟨hr, htab, rfl, rfl⟩ := E
  intro H locs ls hP hD hS hl
  refine W.widen hk hm ?_
  refine zx_mono (fun t => zx_ofMQ) ?_
  exact W.lret (v := v) hx hb hr (fun t ht hW => ⟨⟨ws, hp, by rw [ht]; exact hP, hD⟩, hS.F ht⟩) hS.2.2 d (hlocks := hlk)
/-- the call instruction itself: it comes to the invocation of y with the arguments av, the stack cut to 'rest' -/
def zi (G : zg) (pc : Nat) (st0 rest : List Value) (y : MethodName) (av : List Value) (ws : va_W) : Prop := match G with
  | (p, l, e, R, s, m, args, below, meth, c, K, A, nL, Q) => ∀ (H : Heap) (locs : List Loc) (ls : Array Slot) (k n : Nat) (T : State), va_P K.1 vwCl ws H → ls.size = nL → T.heap = H → Stand p l e R s m args below meth c T locs k n →
    ∃ (vm₁ : Vm) (mk : MethodId), Stand p l e R s m args below meth c (T.setVm vm₁) locs k n ∧ s.methodNamed? y = some mk ∧ ∀ target, Steps p.tables e below (doInvoke e ((T.setVm vm₁).setTop (F0 m pc ls rest)) [] mk av.toArray).1 target → Steps p.tables e below (T.setTop (F0 m pc ls st0)) target
theorem zi_hlen {y : MethodName} {nn : Nat} (hd : (parseMethodDescriptor y.desc).map (fun d => d.parameters.length) = some nn) : ∀ sig, parseMethodDescriptor y.desc = some sig → nn = sig.parameters.length := by
  intro sig h
  rw [h] at hd
  exact (Option.some.inj hd).symm
theorem zi_V (F : zf G l K rm own cc nl) {y : MethodName} {index ci b maxL : Nat} {q : vw_C} {fs As rest : List Value} (d : decode cc pc = .ok (.invokevirtual index, 3)) (q0 : Nat) (he : ws[q0]? = some (b, .inr (ci, fs))) (hc : vwCl[ci]? = some q) (hcls : q.1 = y.cls) (hw1 : Cond.methodLink own index y ∈ zT) (hw2 : Cond.instanceMethod y ∈ zT) (hw3 : Cond.selects y.cls y y ∈ zT) {cw : Cond} (hcw : cw ∈ zT) (hcode : zCW y maxL cw)
    (hy : y.cls ≠ "java/lang/invoke/MethodHandle" ∧ y.cls ≠ "java/lang/invoke/VarHandle") (hd : (parseMethodDescriptor y.desc).map (fun d => d.parameters.length) = some As.length) : zi G pc (As.reverse ++ .ref b :: rest) rest y (.ref b :: As) ws := by
  obtain ⟨p, l, e, R, s, m, args, below, meth, c, K, A, nL, Q⟩ := G
  obtain ⟨hx, hb, hml, hown, hts, hK, hA, hZ, hlk, hst, rfl, rfl, rfl, rfl⟩ := F
  intro H locs ls k n T hP hls hT X
  obtain ⟨cellB, hcB, hoB, hclB⟩ := va_recv hK hP hc he
  rw [hcls] at hclB
  obtain ⟨mk, methM, cM, hnamed, hmethM, -, -, hsigM⟩ := hcode.use (hts _ hcw)
  obtain ⟨mk', methM', hnamed', hmethM', hstM, habM⟩ := Cond.instanceMethod_spec (hts _ hw2)
  cases hnamed.symm.trans hnamed'
  cases hmethM.symm.trans hmethM'
  obtain ⟨c2, r2, m2, q1, q2, q3, q4, kP, hkP, hkPi⟩ := Cond.selects_spec (hts _ hw3)
  cases hclB.symm.trans q1
  cases (State.methodFound?_of_named hnamed hy).symm.trans q2
  cases hnamed.symm.trans q3
  have hselP : selectMethod e.platform s.vm cellB.cls mk = .method mk := by rw [Launch.admits_selectMethod X.admits]; exact q4
  obtain ⟨vm₁, X₁, hstep₁⟩ := X.invokevirtual hx hown (hts _ hw1) hnamed hmethM hstM hkP hkPi hy (a := b) (cell := cellB) (by rw [hT]; exact hcB)
    (fun z h => by rw [h] at hoB; cases hoB) hselP hmethM habM hkP hkPi (g := F0 m pc ls (As.reverse ++ .ref b :: rest)) rfl (argsL := As) (rest := rest) (zi_hlen hd _ hsigM) rfl (by rw [hb]; exact d)
  exact ⟨vm₁, mk, X₁, hnamed, fun target h => hstep₁ _ fun acts => by rw [doInvoke_state]; exact h⟩
theorem zi_VN (F : zf G l K rm own cc nl) {y : MethodName} {host : String} {index ci b maxL : Nat} {q : vw_C} {fs As rest : List Value} (d : decode cc pc = .ok (.invokevirtual index, 3)) (q0 : Nat) (he : ws[q0]? = some (b, .inr (ci, fs))) (hc : vwCl[ci]? = some q) (hcls : q.1 = y.cls) (hw1 : Cond.methodLinkNest own index y host ∈ zxW) (hw2 : Cond.instanceMethod y ∈ zT) (hw3 : Cond.selects y.cls y y ∈ zT) {cw : Cond} (hcw : cw ∈ zT) (hcode : zCW y maxL cw)
    (hy : y.cls ≠ "java/lang/invoke/MethodHandle" ∧ y.cls ≠ "java/lang/invoke/VarHandle") (hd : (parseMethodDescriptor y.desc).map (fun d => d.parameters.length) = some As.length) : zi G pc (As.reverse ++ .ref b :: rest) rest y (.ref b :: As) ws := by
  obtain ⟨p, l, e, R, s, m, args, below, meth, c, K, A, nL, Q⟩ := G
  obtain ⟨hx, hb, hml, hown, hts, hK, hA, hZ, hlk, hst, rfl, rfl, rfl, rfl⟩ := F
  intro H locs ls k n T hP hls hT X
  obtain ⟨cellB, hcB, hoB, hclB⟩ := va_recv hK hP hc he
  rw [hcls] at hclB
  obtain ⟨mk, methM, cM, hnamed, hmethM, -, -, hsigM⟩ := hcode.use (hts _ hcw)
  obtain ⟨mk', methM', hnamed', hmethM', hstM, habM⟩ := Cond.instanceMethod_spec (hts _ hw2)
  cases hnamed.symm.trans hnamed'
  cases hmethM.symm.trans hmethM'
  obtain ⟨c2, r2, m2, q1, q2, q3, q4, kP, hkP, hkPi⟩ := Cond.selects_spec (hts _ hw3)
  cases hclB.symm.trans q1
  cases (State.methodFound?_of_named hnamed hy).symm.trans q2
  cases hnamed.symm.trans q3
  have hselP : selectMethod e.platform s.vm cellB.cls mk = .method mk := by rw [Launch.admits_selectMethod X.admits]; exact q4
  obtain ⟨vm₁, X₁, hstep₁⟩ := X.invokevirtualNest hx hown (va_Nw.use rfl (hZ.2.2.2 _ hw1)) hnamed hmethM hstM hkP hkPi hy (a := b) (cell := cellB) (by rw [hT]; exact hcB)
    (fun z h => by rw [h] at hoB; cases hoB) hselP hmethM habM hkP hkPi (g := F0 m pc ls (As.reverse ++ .ref b :: rest)) rfl (argsL := As) (rest := rest) (zi_hlen hd _ hsigM) rfl (by rw [hb]; exact d)
  exact ⟨vm₁, mk, X₁, hnamed, fun target h => hstep₁ _ fun acts => by rw [doInvoke_state]; exact h⟩
theorem zi_S (F : zf G l K rm own cc nl) {y : MethodName} {index maxL : Nat} {As rest : List Value} (d : decode cc pc = .ok (.invokestatic index, 3)) (hw1 : Cond.methodLink own index y ∈ zT) (hw2 : Cond.static y ∈ zT) (hw3 : Cond.initialized y.cls ∈ zT) {cw : Cond} (hcw : cw ∈ zT) (hcode : zCW y maxL cw)
    (hy : y.cls ≠ "java/lang/invoke/MethodHandle" ∧ y.cls ≠ "java/lang/invoke/VarHandle") (hd : (parseMethodDescriptor y.desc).map (fun d => d.parameters.length) = some As.length) : zi G pc (As.reverse ++ rest) rest y As ws := by
  obtain ⟨p, l, e, R, s, m, args, below, meth, c, K, A, nL, Q⟩ := G
  obtain ⟨hx, hb, hml, hown, hts, hK, hA, hZ, hlk, hst, rfl, rfl, rfl, rfl⟩ := F
  intro H locs ls k n T hP hls hT X
  obtain ⟨mk, methM, cM, hnamed, hmethM, -, -, hsigM⟩ := hcode.use (hts _ hcw)
  have hstatic : methM.isStatic = true := Cond.static_spec hnamed hmethM (hts _ hw2)
  obtain ⟨kP, hkP, -⟩ := className_of_methodNamed hnamed
  have hinitP : kP.init = .initialized := Cond.initialized_spec (findClass_of_methodNamed hnamed) hkP (hts _ hw3)
  obtain ⟨vm₁, X₁, hstep₁⟩ := X.invokestatic hx hown (hts _ hw1) hnamed hmethM hstatic hkP hinitP hy (g := F0 m pc ls (As.reverse ++ rest)) rfl (argsL := As) (rest := rest) (zi_hlen hd _ hsigM) rfl (by rw [hb]; exact d)
  exact ⟨vm₁, mk, X₁, hnamed, fun target h => hstep₁ _ fun acts => by rw [doInvoke_state]; exact h⟩
theorem zi_SN (F : zf G l K rm own cc nl) {y : MethodName} {host : String} {index maxL : Nat} {As rest : List Value} (d : decode cc pc = .ok (.invokestatic index, 3)) (hw1 : Cond.methodLinkNest own index y host ∈ zxW) (hw2 : Cond.static y ∈ zT) (hw3 : Cond.initialized y.cls ∈ zT) {cw : Cond} (hcw : cw ∈ zT) (hcode : zCW y maxL cw)
    (hy : y.cls ≠ "java/lang/invoke/MethodHandle" ∧ y.cls ≠ "java/lang/invoke/VarHandle") (hd : (parseMethodDescriptor y.desc).map (fun d => d.parameters.length) = some As.length) : zi G pc (As.reverse ++ rest) rest y As ws := by
  obtain ⟨p, l, e, R, s, m, args, below, meth, c, K, A, nL, Q⟩ := G
  obtain ⟨hx, hb, hml, hown, hts, hK, hA, hZ, hlk, hst, rfl, rfl, rfl, rfl⟩ := F
  intro H locs ls k n T hP hls hT X
  obtain ⟨mk, methM, cM, hnamed, hmethM, -, -, hsigM⟩ := hcode.use (hts _ hcw)
  have hstatic : methM.isStatic = true := Cond.static_spec hnamed hmethM (hts _ hw2)
  obtain ⟨kP, hkP, -⟩ := className_of_methodNamed hnamed
  have hinitP : kP.init = .initialized := Cond.initialized_spec (findClass_of_methodNamed hnamed) hkP (hts _ hw3)
  obtain ⟨vm₁, X₁, hstep₁⟩ := X.invokestaticNest hx hown (va_Nw.use rfl (hZ.2.2.2 _ hw1)) hnamed hmethM hstatic hkP hinitP hy (g := F0 m pc ls (As.reverse ++ rest)) rfl (argsL := As) (rest := rest) (zi_hlen hd _ hsigM) rfl (by rw [hb]; exact d)
  exact ⟨vm₁, mk, X₁, hnamed, fun target h => hstep₁ _ fun acts => by rw [doInvoke_state]; exact h⟩
/-- a call by contract -/
theorem zj_call (F : zf G l K rm own cc nl) {ret : Option FieldType} (E : zq G ret hh w0 mc ms tc ts post thr) {y : MethodName} {cw : Cond} {rc : Room} {mc' ms' tc' ts' maxL : Nat} {av st0 rest : List Value} {wc wr : va_W} {post' : Option Value → va_W → Prop} {thr' : String → va_W → Prop} {ig : Instr}
    (hM : zc l K y cw rc mc' ms' tc' ts' av wc post' thr') (hi : zi G pc st0 rest y av ws) (d : decode cc pc = .ok (ig, 3)) (hcw : cw ∈ zT) (hcode : zCW y maxL cw) (hini : Cond.initialized y.cls ∈ zT)
    (isC isR : List Nat) (hC : isC.map (fun i => ws[i]?) = wc.map some) (hR : isR.map (fun i => ws[i]?) = wr.map some) (hnC : va_nd isC = true) (hnR : va_nd isR = true) (hdis : ∀ i ∈ isR, i ∉ isC)
    (hroom : rc.frames + 1 ≤ rm.frames ∧ 8 + (maxL + 11) + rc.locals ≤ rm.locals ∧ k + rc.cells ≤ rm.cells ∧ n + rc.slots ≤ rm.slots) (hrest : (rest.map fun v => v.category).sum ≤ 8)
    (kr : ∀ v w1, post' v w1 → zj G (k + mc') (n + ms') (pc + 3) L (v.toList ++ rest) (wr ++ w1))
    (kt : ∀ X w1, thr' X w1 → hh.all (fun h => !(decide (h.1 ≤ pc) && decide (pc < h.2.1))) = true ∧ k + tc' ≤ tc ∧ n + ts' ≤ ts ∧ ∃ (is : List Nat) (w2 : va_W), va_nd is = true ∧ is.map (fun i => (wr ++ w1)[i]?) = w2.map some ∧ thr X w2) : zj G k n pc L st0 ws := by
  obtain ⟨p, l, e, R, s, m, args, below, meth, c, K, A, nL, Q⟩ := G
  obtain ⟨hx, hb, hml, hown, hts, hK, hA, hZ, hlk, hst, rfl, rfl, rfl, rfl⟩ := F
  obtain ⟨hr, htab, rfl, rfl⟩ := E
  intro H locs ls hP hD hS hl T hT X
  obtain ⟨vm₁, mk, X₁, hn, hgo⟩ := hi H locs ls k n T hP hl.1 hT X
  have hC2 : isC.filterMap (fun i => ws[i]?) = wc := by
    have h1 : isC.filterMap (fun i => ws[i]?) = (isC.map (fun i => ws[i]?)).filterMap id := by rw [List.filterMap_map]; rfl
    rw [h1, hC, List.filterMap_map]
    simp
  have hFc := va_free (wc := wc) hD hS hA isC hC
  have hG : GoodIn zT (cw :: zT) := fun w hw => (List.mem_cons.mp hw).elim (fun e => e ▸ zT_good _ hcw) (zT_good w)
  have hws := pay_in hts hG
  have hPc : zc_P K av wc H.size av.toArray (T.setVm vm₁) :=
    ⟨rfl, by show T.heap.size = _; rw [hT], by show va_P _ _ _ T.heap; rw [hT]; exact hP.sub isC hC2, va_K.moved X₁.warmed.alike hK, (hD.sub isC hnC hC).weaken (fun _ _ _ _ => trivial),
      by show zst _ _ _ T.heap; rw [hT]; exact zst.warm X₁.warmed ((hZ.kept hS.2.1).narrow hFc)⟩
  have hpay := zx_pay (hM H.size) zc_blind (maxL := maxL) (len := 3) (g := F0 m pc ls rest) (ig := ig) (mk := mk) (a := av.toArray) X₁ rfl (hl.1.trans hml.symm) (by rw [hb]; exact d) (by simpa using hrest) (X₁.named hn) (hcode.use (hws _ List.mem_cons_self av.toArray _ X₁.warmed)) (fun w hw => hws w hw _ _ X₁.warmed)
    (word_at X₁.warmed (Or.inl (by first | rfl | simp [Cond.onTables, Cond.keeps, Cond.steady])) (hts _ hini)) hroom.1 hroom.2.1 hroom.2.2.1 hroom.2.2.2 hPc
  have step : ∀ (t T' : State) (L' : List Loc), T'.heap = t.heap → (∀ q ∈ L', va_A wc H.size q.base) → va_F (va_A wc H.size) ((T.setVm vm₁).calling (F0 m pc ls rest) mk av.toArray) t → ∀ w1, va_P K.1 vwCl w1 t.heap → va_D (va_A wc H.size) w1 →
      va_P K.1 vwCl (wr ++ w1) t.heap ∧ va_D (va_A w0 s.heap.size) (wr ++ w1) ∧ va_S (va_A w0 s.heap.size) s.heap t.heap (locs ++ L') := by
    intro t T' L' e1 hL hF w1 hP1 hD1
    have hz : H.size ≤ t.heap.size := by have := hF.1; rw [← hT]; exact this
    have hk : ∀ q : Nat, q < H.size → ¬ va_A wc H.size q → t.heap[q]? = H[q]? := fun q h1 h2 => by
      have := hF.2 q (by show q < T.heap.size; rw [hT]; exact h1) h2
      rw [this]; show T.heap[q]? = _; rw [hT]
    obtain ⟨g1, g2⟩ := va_join hP hD isC isR hC hR hnR hdis hk hFc hP1 hD1
    refine ⟨g1, g2, Nat.le_trans hS.1 hz, fun q h1 h2 => ?_, fun q hq => ?_⟩
    · rw [hk q (Nat.lt_of_lt_of_le h1 hS.1) (fun z => h2 (hFc q z))]
      exact hS.2.1 q h1 h2
    · rcases List.mem_append.mp hq with h | h
      · exact hS.2.2 q h
      · exact hFc _ (hL q h)
  rcases hpay with ⟨v, t, T', L', X', hL, e1, e2, ⟨⟨w1, hp, hP1, hD1⟩, hF⟩, hsteps⟩ | ⟨v, t, T', L', X', hL, e1, e2, ⟨⟨w1, ⟨Xn, hp, hx1, cellX, hx2, hx3, hx4⟩, hP1, hD1⟩, hF⟩, hsteps⟩
  · obtain ⟨g1, g2, g3⟩ := step t T' L' e1 hL hF w1 hP1 hD1
    obtain ⟨t2, a1, b1⟩ := kr v w1 hp t.heap (locs ++ L') ls g1 g2 g3 hl T' e1 X'
    exact ⟨t2, hgo _ (hsteps.trans a1), b1⟩
  · obtain ⟨g1, g2, g3⟩ := step t T' L' e1 hL hF w1 hP1 hD1
    obtain ⟨hcov, hc1, hc2, is, w2, hn2, hm2, hthr⟩ := kt Xn w1 hp
    have h22 : is.filterMap (fun i => (wr ++ w1)[i]?) = w2 := by
      have h1 : is.filterMap (fun i => (wr ++ w1)[i]?) = (is.map (fun i => (wr ++ w1)[i]?)).filterMap id := by rw [List.filterMap_map]; rfl
      rw [h1, hm2, List.filterMap_map]
      simp
    have hout : ∀ x ∈ c.exceptionTable.toList, covers x pc = false := by
      intro x hx9
      have h1 : (x.startPc, x.endPc, x.handlerPc, x.catchType) ∈ hh := by rw [← htab]; exact List.mem_map.mpr ⟨x, hx9, rfl⟩
      have h2 : (!(covers x pc)) = true := List.all_eq_true.mp hcov _ h1
      cases hc9 : covers x pc
      · rfl
      · rw [hc9] at h2; cases h2
    obtain ⟨t2, a1, b1⟩ := zx_leave (H := t.heap) (Qc := zc_Q K w0 s.heap.size post thr) (mc := mc) (ms := ms) (tc := tc) (ts := ts) (free := va_A w0 s.heap.size) e1 X' hlk (a := v) (g := F0 m pc ls rest) rfl rfl rfl hout hc1 hc2 g3.2.2 (fun t3 h3 hW3 => ⟨⟨w2, ⟨Xn, hthr, trivial, cellX, by rw [h3]; exact hx2, hx3, by
        have q1 : t.vm.Alike t3.vm := by
          have := X'.warmed.alike
          rw [e2] at this
          exact this.symm.trans hW3.alike
        rw [q1.findClass]; exact hx4⟩, by rw [h3]; exact g1.sub is h22, g2.sub is hn2 hm2⟩, by rw [h3]; exact g3.1, fun q h4 h5 => by rw [h3]; exact g3.2.1 q h4 h5⟩)
    exact ⟨t2, hgo _ (hsteps.trans a1), b1⟩
end ZE
end
section
/-! a method makes an exception and throws it -/
section ZT2
variable {G : zg} {l : Launch} {K : zk} {rm : Room} {own : String} {cc : ByteArray} {nl : Nat} {k n pc : Nat} {L : List (Nat × Value)} {st : List Value} {ws : va_W}
variable {hh : List (Nat × Nat × Nat × Nat)} {w0 : va_W} {mc ms tc ts : Nat} {post : Option Value → va_W → Prop} {thr : String → va_W → Prop}
/-- what vx_throwS leaves, in a contract's words -/
theorem zt_end {p : Program} {l : Launch} {e : Env} {R : Room} {s : State} {m : MethodId} {args : Array Value} {below : List Frame} {meth : Method} {c : Code} {H : Heap} {locs : List Loc} {k n : Nat} {g : JFrame} {X : String}
    (hP : va_P K.1 vwCl ws H) (hD : va_D (va_A w0 s.heap.size) ws) (hS : va_S (va_A w0 s.heap.size) s.heap H locs) (hp : thr X ws)
    (kk : W p l e R s m args below meth c H locs k n (vx_MQ below (fun _ _ _ _ => False) (fun E st t => E = X ∧ st = s ∧ s.vm.Alike t.vm ∧ H.size ≤ t.heap.size ∧ ∀ q : Nat, q < H.size → t.heap[q]? = H[q]?) args s tc ts (fun q => va_A w0 s.heap.size q ∨ False)) g) :
    W p l e R s m args below meth c H locs k n (zx_Q below (zc_Q K w0 s.heap.size post thr) args s mc ms tc ts (va_A w0 s.heap.size)) g := by
  refine zx_mono (fun t ht => ?_) kk
  obtain ⟨o, h1, h2, h3⟩ := ht
  rcases h3 with ⟨h3, -⟩ | ⟨q, rfl, E, ce, L', ⟨rfl, -, hal, hz, hq⟩, hc1, hc2, hc3, hW, hsm, hf⟩
  · exact h3.elim
  refine ⟨.threw q, h1, h2, ⟨⟨ws, ⟨E, hp, ?_, ce, hc1, by rw [hc2]; rfl, by rw [hW.alike.findClass]; exact hc3⟩, hP.kept (fun k q hk => hq q.1 (hP k q hk).lt), hD⟩, Nat.le_trans hS.1 hz, fun a h4 h5 => (hq a (Nat.lt_of_lt_of_le h4 hS.1)).trans (hS.2.1 a h4 h5)⟩, L', ⟨hW, Or.inr ⟨⟨q, rfl⟩, hsm⟩⟩, fun z hz => (hf z hz).elim id False.elim⟩
  trivial
def zt_good (own : String) (i0 : Nat) (X : String) (L : List Cond) : Prop := ∀ w ∈ Cond.classLink own i0 X :: Cond.initialized X :: L, vx_ot w = true ∧ (w ∈ zT ∨ (w ∈ zxW ∧ w.onTables = true))
theorem zj_throwS (F : zf G l K rm own cc nl) {ret : Option FieldType} (E : zq G ret hh w0 mc ms tc ts post thr) (hl : l.stackTraces = false) {X text : String} {names : List String} {i0 i1 i2 : Nat} (d0 : decode cc pc = .ok (.new i0, 3)) (d1 : decode cc (pc + 3) = .ok (.dup, 1)) (d2 : decode cc (pc + 4) = .ok (.ldc i1, 2)) (d3 : decode cc (pc + 6) = .ok (.invokespecial i2, 3)) (d4 : decode cc (pc + 9) = .ok (.athrow, 1))
    (hfit : Bundle.fit X = true) (hnames : ∀ n ∈ names, Bundle.fit n = true) (hw1 : Cond.stringRef own i1 text ∈ zxW) (hat : zt_good own i0 X (vx_atS own i2 X names))
    (hroom : names.length + 3 < rm.frames ∧ (st.map fun v => v.category).sum + (13 * (names.length + 1) + 43) ≤ rm.locals ∧ k + 1 ≤ rm.cells ∧ n + 6 ≤ rm.slots) (hcov : hh.all (fun h => !(decide (h.1 ≤ pc + 9) && decide (pc + 9 < h.2.1))) = true) (hk : k + 1 ≤ tc) (hn : n + 6 ≤ ts) (hp : thr X ws) : zj G k n pc L st ws := by
  obtain ⟨p, l, e, R, s, m, args, below, meth, c, K, A, nL, Q⟩ := G
  obtain ⟨hx, hb, hml, hown, hts, hK, hA, hZ, hlk, hst, rfl, rfl, rfl, rfl⟩ := F
  obtain ⟨hr, htab, rfl, rfl⟩ := E
  intro H locs ls hP hD hS hls
  have hall : ∀ w ∈ Cond.classLink own i0 X :: Cond.initialized X :: vx_atS own i2 X names, w.before args s = true := fun w hw => ((hat w hw).2).elim (hts w) (fun h => va_Nw.use h.2 (hZ.2.2.2 w h.1))
  have hout : ∀ x ∈ c.exceptionTable.toList, covers x (pc + 9) = false := by
    intro x hx9
    have h1 : (x.startPc, x.endPc, x.handlerPc, x.catchType) ∈ hh := by rw [← htab]; exact List.mem_map.mpr ⟨x, hx9, rfl⟩
    have h2 : (!(covers x (pc + 9))) = true := List.all_eq_true.mp hcov _ h1
    cases hc9 : covers x (pc + 9)
    · rfl
    · rw [hc9] at h2; cases h2
  have hsr : (Cond.stringRef own i1 text).before #[] s = true := hZ.2.2.2 _ hw1
  obtain ⟨-, -, -, sa, -, -, -, -, -, hev⟩ := Cond.stringRef_spec hown hsr
  refine zt_end (X := X) hP hD hS hp ?_
  exact vx_throwS hx hb hl hown hfit hnames (hall _ List.mem_cons_self) (hall _ (List.mem_cons_of_mem _ List.mem_cons_self)) (vk_R.of hsr hev) (fun w hw => hall w (List.mem_cons_of_mem _ (List.mem_cons_of_mem _ hw))) (fun w hw => (hat w hw).1) hZ.1 hZ.2.1 hS (hls.1.trans hml.symm) d0 d1 d2 d3 d4 hout hroom.1 hroom.2.1 hroom.2.2.1 hroom.2.2.2 hlk
    (fun t h1 h2 h3 => ⟨rfl, rfl, h1, h2, h3⟩) (fun z hz => Or.inl (hS.2.2 z hz)) hk hn
theorem zj_throw0 (F : zf G l K rm own cc nl) {ret : Option FieldType} (E : zq G ret hh w0 mc ms tc ts post thr) (hl : l.stackTraces = false) {X : String} {names : List String} {i0 i2 : Nat} (d0 : decode cc pc = .ok (.new i0, 3)) (d1 : decode cc (pc + 3) = .ok (.dup, 1)) (d3 : decode cc (pc + 4) = .ok (.invokespecial i2, 3)) (d4 : decode cc (pc + 7) = .ok (.athrow, 1))
    (hfit : Bundle.fit X = true) (hnames : ∀ n ∈ names, Bundle.fit n = true) (hat : zt_good own i0 X (vx_at0 own i2 X names))
    (hroom : names.length + 3 < rm.frames ∧ (st.map fun v => v.category).sum + (13 * (names.length + 1) + 43) ≤ rm.locals ∧ k + 1 ≤ rm.cells ∧ n + 6 ≤ rm.slots) (hcov : hh.all (fun h => !(decide (h.1 ≤ pc + 7) && decide (pc + 7 < h.2.1))) = true) (hk : k + 1 ≤ tc) (hn : n + 6 ≤ ts) (hp : thr X ws) : zj G k n pc L st ws := by
  obtain ⟨p, l, e, R, s, m, args, below, meth, c, K, A, nL, Q⟩ := G
  obtain ⟨hx, hb, hml, hown, hts, hK, hA, hZ, hlk, hst, rfl, rfl, rfl, rfl⟩ := F
  obtain ⟨hr, htab, rfl, rfl⟩ := E
  intro H locs ls hP hD hS hls
  have hall : ∀ w ∈ Cond.classLink own i0 X :: Cond.initialized X :: vx_at0 own i2 X names, w.before args s = true := fun w hw => ((hat w hw).2).elim (hts w) (fun h => va_Nw.use h.2 (hZ.2.2.2 w h.1))
  have hout : ∀ x ∈ c.exceptionTable.toList, covers x (pc + 7) = false := by
    intro x hx9
    have h1 : (x.startPc, x.endPc, x.handlerPc, x.catchType) ∈ hh := by rw [← htab]; exact List.mem_map.mpr ⟨x, hx9, rfl⟩
    have h2 : (!(covers x (pc + 7))) = true := List.all_eq_true.mp hcov _ h1
    cases hc9 : covers x (pc + 7)
    · rfl
    · rw [hc9] at h2; cases h2
  refine zt_end (X := X) hP hD hS hp ?_
  exact vx_throw0 hx hb hl hown hfit hnames (hall _ List.mem_cons_self) (hall _ (List.mem_cons_of_mem _ List.mem_cons_self)) (fun w hw => hall w (List.mem_cons_of_mem _ (List.mem_cons_of_mem _ hw))) (fun w hw => (hat w hw).1) hZ.1 hZ.2.1 hS (hls.1.trans hml.symm) d0 d1 d3 d4 hout hroom.1 (by have := hroom.2.1; omega) hroom.2.2.1 hroom.2.2.2 hlk
    (fun t h1 h2 h3 => ⟨rfl, rfl, h1, h2, h3⟩) (fun z hz => Or.inl (hS.2.2 z hz)) hk hn
end ZT2
theorem at_ZB_41 : zt_good "ZlibBox" 37 "java/lang/IndexOutOfBoundsException" (vx_atS "ZlibBox" 41 "java/lang/IndexOutOfBoundsException" zt_up) := by unfold zt_good; decide +kernel
theorem at_ZB_52 : zt_good "ZlibBox" 48 "java/lang/IllegalArgumentException" (vx_atS "ZlibBox" 52 "java/lang/IllegalArgumentException" zt_up) := by unfold zt_good; decide +kernel
theorem at_MO_55 : zt_good "ZlibBoxModel" 53 "java/lang/UnsupportedOperationException" (vx_at0 "ZlibBoxModel" 55 "java/lang/UnsupportedOperationException" zt_up) := by unfold zt_good; decide +kernel
theorem at_MO_95 : zt_good "ZlibBoxModel" 93 "java/lang/IndexOutOfBoundsException" (vx_at0 "ZlibBoxModel" 95 "java/lang/IndexOutOfBoundsException" zt_up) := by unfold zt_good; decide +kernel
theorem at_BR_24 : zt_good "ZlibBox$BitReader" 20 "java/lang/UnsupportedOperationException" (vx_atS "ZlibBox$BitReader" 24 "java/lang/UnsupportedOperationException" zt_up) := by unfold zt_good; decide +kernel
theorem at_CO_40 : zt_good "ZlibBox$Codes" 36 "java/lang/UnsupportedOperationException" (vx_atS "ZlibBox$Codes" 40 "java/lang/UnsupportedOperationException" zt_up) := by unfold zt_good; decide +kernel
theorem at_PA_127 : zt_good "ZlibBox$Packer" 123 "java/lang/IndexOutOfBoundsException" (vx_atS "ZlibBox$Packer" 127 "java/lang/IndexOutOfBoundsException" zt_up) := by unfold zt_good; decide +kernel
theorem at_UN_83 : zt_good "ZlibBox$Unpacker" 79 "java/lang/UnsupportedOperationException" (vx_atS "ZlibBox$Unpacker" 83 "java/lang/UnsupportedOperationException" zt_up) := by unfold zt_good; decide +kernel
theorem at_UN_184 : zt_good "ZlibBox$Unpacker" 180 "java/lang/IndexOutOfBoundsException" (vx_atS "ZlibBox$Unpacker" 184 "java/lang/IndexOutOfBoundsException" zt_up) := by unfold zt_good; decide +kernel
end
section
/-! numbers: bytes, bits, small laws of nI -/
theorem zI_eq0 {a : Nat} (h : a < 2 ^ 31) : nI a = 0 ↔ a = 0 := by rw [← nI_0]; exact nI_eq h (by decide)
theorem zI_lt0 {a : Nat} (h : a < 2 ^ 31) : nI a < 0 ↔ False := ⟨fun q => nI_pos h q, fun q => q.elim⟩
theorem zI_ge0 {a : Nat} (h : a < 2 ^ 31) : 0 ≤ nI a ↔ True := ⟨fun _ => trivial, fun _ => nI_pos' h⟩
theorem zI_gt0 {a : Nat} (h : a < 2 ^ 31) : 0 < nI a ↔ 0 < a := by rw [← nI_0]; exact nI_ltI (by decide) h
theorem zI_le0 {a : Nat} (h : a < 2 ^ 31) : nI a ≤ 0 ↔ a = 0 := by
  rw [← nI_0, nI_leI h (by decide)]
  omega
theorem zI_bv (a : Nat) : (nI a).toBitVec = BitVec.ofNat 32 a := rfl
theorem zI_inj {x y : Int32} (h : x.toBitVec = y.toBitVec) : x = y := Int32.toBitVec_inj.mp h
theorem zI_eq32 {a b : Nat} (ha : a < 2 ^ 32) (hb : b < 2 ^ 32) : nI a = nI b ↔ a = b := by
  constructor
  · intro h
    have this : (nI a).toBitVec.toNat = (nI b).toBitVec.toNat := by rw [h]
    rwa [pk_tn ha, pk_tn hb] at this
  · intro h; rw [h]
theorem zI_or (a b : Nat) : nI a ||| nI b = nI (a ||| b) := by
  apply zI_inj
  show (BitVec.ofNat 32 a ||| BitVec.ofNat 32 b) = BitVec.ofNat 32 (a ||| b)
  apply BitVec.eq_of_getLsbD_eq
  intro i hi
  simp [BitVec.getLsbD_or, BitVec.getLsbD_ofNat, hi, Nat.testBit_or]
theorem zI_orS {v i b : Nat} (hv : v < 2 ^ i) : v ||| b * 2 ^ i = v + b * 2 ^ i := by
  rw [Nat.or_comm, Nat.mul_comm, ← Nat.two_pow_add_eq_or_of_lt hv]
  omega
theorem zI_or2 {v b : Nat} (i : Nat) (hv : v < 2 ^ i) : nI v ||| nI (b * 2 ^ i) = nI (v + b * 2 ^ i) := by rw [zI_or, zI_orS hv]
theorem zI_or3 {v b : Nat} (i : Nat) (hv : v < 2 ^ i) : nI (b * 2 ^ i) ||| nI v = nI (b * 2 ^ i + v) := by rw [zI_or, Nat.or_comm, zI_orS hv, Nat.add_comm]
theorem zI_mod (a : Nat) : nI a = nI (a % 2 ^ 32) := by
  apply zI_inj
  show BitVec.ofNat 32 a = BitVec.ofNat 32 (a % 2 ^ 32)
  apply BitVec.eq_of_toNat_eq
  simp
theorem zI_sh : ∀ k, k < 32 → ((nI k &&& 31).toBitVec.smod 32).toNat = k := by decide +kernel
theorem zI_shl {a k : Nat} (hk : k < 32) : nI a <<< (nI k &&& 31) = nI (a * 2 ^ k) := by
  apply zI_inj
  apply BitVec.eq_of_toNat_eq
  rw [pk_shl _ _ k (zI_sh k hk)]
  simp [zI_bv, Nat.mod_mul_mod]
theorem zI_shr {a k : Nat} (ha : a < 2 ^ 31) (hk : k < 32) : nI a >>> (nI k &&& 31) = nI (a / 2 ^ k) := pk_shrN ha _ k (zI_sh k hk)
/-- bytes: an array of bytes that holds the numbers t -/
def zby (t : Nat → Nat) : Nat → Int32 := fun j => sb_b (t j)
def zlow (x : Int32) : Nat := x.toBitVec.toNat % 256
theorem zlow_lt (x : Int32) : zlow x < 256 := Nat.mod_lt _ (by decide)
theorem zlow_nI (a : Nat) : zlow (nI a) = a % 256 := by
  show (BitVec.ofNat 32 a).toNat % 256 = _
  rw [BitVec.toNat_ofNat]
  omega
theorem zby_nar (x : Int32) : vp_nar .byte x = sb_b (zlow x) := by
  rw [vp_nar_byte]
  show x.toInt8.toInt32 = (nI (zlow x)).toInt8.toInt32
  have h : x.toInt8 = (nI (zlow x)).toInt8 := by
    apply Int8.toBitVec_inj.mp
    show x.toBitVec.signExtend 8 = (nI (zlow x)).toBitVec.signExtend 8
    rw [BitVec.signExtend_eq_setWidth_of_le _ (by decide), BitVec.signExtend_eq_setWidth_of_le _ (by decide)]
    apply BitVec.eq_of_toNat_eq
    rw [BitVec.toNat_setWidth, BitVec.toNat_setWidth, zI_bv, BitVec.toNat_ofNat]
    show x.toBitVec.toNat % 2 ^ 8 = (x.toBitVec.toNat % 256 % 2 ^ 32) % 2 ^ 8
    omega
  rw [h]
theorem zby_upd (t : Nat → Nat) (k : Nat) (x : Int32) : upd (zby t) k (vp_nar .byte x) = zby (va_up t k (zlow x)) := by
  funext j
  unfold upd zby va_up
  by_cases h : j = k
  · simp only [h, if_true]; exact zby_nar x
  · simp only [h, if_false]
theorem zby_and {t : Nat → Nat} {j : Nat} (h : t j < 256) : zby t j &&& 255 = nI (t j) := (sb_byte _ h).1
theorem zby_lt {t : Nat → Nat} (h : ∀ j, t j < 256) (k : Nat) (x : Int32) : ∀ j, va_up t k (zlow x) j < 256 := by
  intro j
  unfold va_up
  by_cases hj : j = k
  · simp only [hj, if_true]; exact zlow_lt x
  · simp only [hj, if_false]; exact h j
theorem zbit_tab : ∀ c, c < 256 → ∀ r, r < 8 → (sb_b c >>> (nI r &&& 31)) &&& 1 = nI (c / 2 ^ r % 2) := by decide +kernel
/-- the bit with the number p -/
def zbit (t : Nat → Nat) (p : Nat) : Nat := t (p / 8) / 2 ^ (p % 8) % 2
theorem zbit_lt (t : Nat → Nat) (p : Nat) : zbit t p < 2 := Nat.mod_lt _ (by decide)
theorem zbit_and {t : Nat → Nat} {p : Nat} (h : t (p / 8) < 256) : (zby t (p / 8) >>> (nI (p % 8) &&& 31)) &&& 1 = nI (zbit t p) := zbit_tab _ h _ (Nat.mod_lt _ (by decide))
/-- n bits from p on, the lowest first -/
def znum (t : Nat → Nat) (p : Nat) : Nat → Nat
  | 0 => 0
  | n + 1 => znum t p n + zbit t (p + n) * 2 ^ n
theorem znum_lt (t : Nat → Nat) (p : Nat) : ∀ n, znum t p n < 2 ^ n
  | 0 => Nat.one_pos
  | n + 1 => by
    have h1 := znum_lt t p n
    have h2 := zbit_lt t (p + n)
    have h3 : zbit t (p + n) * 2 ^ n ≤ 1 * 2 ^ n := Nat.mul_le_mul_right _ (by omega)
    show znum t p n + zbit t (p + n) * 2 ^ n < 2 ^ (n + 1)
    rw [Nat.pow_succ]
    omega
theorem zI_and8 : ∀ a, a < 2 ^ 31 → nI a &&& (-8) = nI (a / 8 * 8) := by
  intro a ha
  apply zI_inj
  apply BitVec.eq_of_getLsbD_eq
  intro i hi
  show ((BitVec.ofNat 32 a) &&& (-8 : Int32).toBitVec).getLsbD i = (BitVec.ofNat 32 (a / 8 * 8)).getLsbD i
  have h8 : ∀ i, i < 32 → ((-8 : Int32).toBitVec).getLsbD i = decide (3 ≤ i) := by decide +kernel
  rw [BitVec.getLsbD_and, h8 i hi, BitVec.getLsbD_ofNat, BitVec.getLsbD_ofNat]
  have h1 : (a / 8 * 8).testBit i = (decide (3 ≤ i) && a.testBit i) := by
    have h2 : a / 8 * 8 = (a >>> 3) <<< 3 := by rw [Nat.shiftLeft_eq, Nat.shiftRight_eq_div_pow]
    rw [h2, Nat.testBit_shiftLeft, Nat.testBit_shiftRight]
    by_cases h3 : 3 ≤ i
    · rw [show 3 + (i - 3) = i by omega]
    · simp [h3]
  rw [h1]
  simp [hi]
  cases decide (3 ≤ i) <;> simp
theorem zdown {P : Nat → Prop} (N : Nat) (h0 : P N) (hs : ∀ i, i < N → P (i + 1) → P i) : ∀ i, i ≤ N → P i := by
  have key : ∀ d i, i + d = N → P i := by
    intro d
    induction d with
    | zero => intro i h; have : i = N := by omega
              subst this; exact h0
    | succ d ih => intro i h; exact hs i (by omega) (ih (i + 1) (by omega))
  intro i h
  exact key (N - i) i (by omega)
abbrev zU : String := "java/lang/UnsupportedOperationException"
abbrev zY : String := "java/lang/IndexOutOfBoundsException"
end
section
/-! more rows of the walk: tables, constructors, calls of the JDK's -/
/-- the tables by their numbers -/
def ztab (i j : Nat) : Nat := match zst_tabs[i]? with
  | some r => r.2.2.getD j 0
  | none => 0
theorem zby_updB (t : Nat → Nat) (k : Nat) (x : Int32) : upd (zby t) k (vp_nar .byte (x.toInt8.toInt32)) = zby (va_up t k (zlow x)) := by
  rw [pk_vb, ← vp_nar_byte]
  exact zby_upd t k x
theorem zlow_sb : ∀ c, c < 256 → zlow (sb_b c) = c := by decide +kernel
section ZM
variable {G : zg} {l : Launch} {K : zk} {rm : Room} {own : String} {cc : ByteArray} {nl : Nat} {k n pc : Nat} {L L' : List (Nat × Value)} {st : List Value} {ws ws' : va_W}
theorem zj_tlen (F : zf G l K rm own cc nl) {C nm : String} {xs : List Nat} (d : decode cc pc = .ok (.arraylength, 1)) (t : Nat) (hi : zst_tabs[t]? = some (C, nm, xs)) (kk : zj G k n (pc + 1) L (.int (nI xs.length) :: st) ws) : zj G k n pc L (.ref (K.2.2 t) :: st) ws := by
  obtain ⟨p, l, e, R, s, m, args, below, meth, c, K, A, nL, Q⟩ := G
  obtain ⟨hx, hb, hml, hown, hts, hK, hA, hZ, hlk, hst, rfl, rfl, rfl, rfl⟩ := F
  intro H locs ls hP hD hS hl
  obtain ⟨cell, h1, h2, h3, h4, h5, h6, h7⟩ := (hZ.2.2.1 t _ hi).2
  exact W.alen hx hb (by rw [hS.2.1 _ (Array.getElem?_eq_some_iff.mp h1).1 h7]; exact h1) h2 h5 rfl rfl d (kk H locs ls hP hD hS hl)
theorem zj_objInit (F : zf G l K rm own cc nl) {a idx : Nat} (d : decode cc pc = .ok (.invokespecial idx, 3)) (hw : Cond.methodLink own idx Lib.objectInit ∈ zT) (hf : 1 ≤ rm.frames) (hl : (st.map fun v => v.category).sum + 12 ≤ rm.locals) (kk : zj G k n (pc + 3) L st ws) : zj G k n pc L (.ref a :: st) ws := by
  obtain ⟨p, l, e, R, s, m, args, below, meth, c, K, A, nL, Q⟩ := G
  obtain ⟨hx, hb, hml, hown, hts, hK, hA, hZ, hlk, hst, rfl, rfl, rfl, rfl⟩ := F
  intro H locs ls hP hD hS hls
  refine W.objInit hx hb hown (hts _ hw) (hts _ q_23) (hts _ q_24) rfl (hls.1.trans hml.symm) rfl d hf (by show 2 * 0 + _ + _ ≤ _; omega) ?_
  exact kk H locs ls hP hD hS hls
theorem zj_copyB (F : zf G l K rm own cc nl) {a0 a1 n0 n1 m : Nat} {f g : Nat → Nat} {idx : Nat} (d : decode cc pc = .ok (.invokestatic idx, 3)) (hw : Cond.methodLink own idx arraycopyName ∈ zT) (q0 q1 : Nat) (ha0 : ws[q0]? = some (zB K a0 n0 (zby f))) (ha1 : ws[q1]? = some (zB K a1 n1 (zby g))) (h4 : m ≤ n0) (h5 : m ≤ n1) (hm : m < 2 ^ 31) (hf : 1 ≤ rm.frames) (hl : (st.map fun v => v.category).sum + (nativeFrameWords "java/lang/System" "arraycopy" 5 + 11) ≤ rm.locals)
    (hws : ws.set q1 (zB K a1 n1 (zby (va_cpy f g 0 0 m))) = ws') (kk : zj G k n (pc + 3) L st ws') : zj G k n pc L (.int (nI m) :: .int (nI 0) :: .ref a1 :: .int (nI 0) :: .ref a0 :: st) ws := by
  obtain ⟨p, l, e, R, s, mm, args, below, meth, c, K, A, nL, Q⟩ := G
  obtain ⟨hx, hb, hml, hown, hts, hK, hA, hZ, hlk, hst, rfl, rfl, rfl, rfl⟩ := F
  intro H locs ls hP hD hS hls
  subst hws
  have hc0 : (nI 0).toNatClampNeg = 0 := nI_clamp (by decide)
  have hcm : (nI m).toNatClampNeg = m := nI_clamp hm
  refine va_copyi hx hb (hml.trans hls.1.symm) hown (hts _ hw) (hts _ q_174) (hts _ q_173) (hts _ (by decide +kernel)) hK hP hD hS q0 q1 0 0 ha0 ha1 rfl rfl rfl (nI_pos (by decide)) (nI_pos (by decide)) (nI_pos hm) (by rw [hc0, hcm]; omega) (by rw [hc0, hcm]; omega) (fun i _ => sb_fitB _) hf hl d ?_
  intro H1 locs1 hP1 hD1 hS1
  have he : va_cpy (zby f) (zby g) (nI 0).toNatClampNeg (nI 0).toNatClampNeg (nI m).toNatClampNeg = zby (va_cpy f g 0 0 m) := by
    rw [hc0, hcm]
    funext j
    unfold va_cpy zby
    by_cases h : 0 ≤ j ∧ j < 0 + m
    · simp only [h, and_self, if_true]
    · simp only [h, if_false]
  rw [he] at hP1 hD1
  exact kk H1 locs1 ls hP1 hD1 hS1 hls
theorem zj_min (F : zf G l K rm own cc nl) {a b idx : Nat} (d : decode cc pc = .ok (.invokestatic idx, 3)) (hw : Cond.methodLink own idx Lib.Math.min.name ∈ zT) (ha : a < 2 ^ 31) (hb' : b < 2 ^ 31) (hf : 1 ≤ rm.frames) (hl : (st.map fun v => v.category).sum + 13 ≤ rm.locals) (hk : k ≤ rm.cells) (hn : n ≤ rm.slots) (kk : zj G k n (pc + 3) L (.int (nI (min a b)) :: st) ws) : zj G k n pc L (.int (nI b) :: .int (nI a) :: st) ws := by
  obtain ⟨p, l, e, R, s, m, args, below, meth, c, K, A, nL, Q⟩ := G
  obtain ⟨hx, hb, hml, hown, hts, hK, hA, hZ, hlk, hst, rfl, rfl, rfl, rfl⟩ := F
  intro H locs ls hP hD hS hls
  refine va_mmin hx hb (hml.trans hls.1.symm) hown (hts _ hw) (hts _ q_465) (hts _ q_16) (hts _ q_466) hf hl hk hn d ?_
  have he : (if nI b < nI a then nI b else nI a) = nI (min a b) := by
    by_cases h : b < a
    · rw [if_pos ((nI_ltI hb' ha).mpr h), Nat.min_eq_right (Nat.le_of_lt h)]
    · rw [if_neg (fun q => h ((nI_ltI hb' ha).mp q)), Nat.min_eq_left (Nat.le_of_not_lt h)]
  rw [he]
  exact kk H locs ls hP hD hS hls
theorem zj_max (F : zf G l K rm own cc nl) {x y z : Int32} {idx : Nat} (d : decode cc pc = .ok (.invokestatic idx, 3)) (hw : Cond.methodLink own idx Lib.Math.max.name ∈ zT) (hf : 1 ≤ rm.frames) (hl : (st.map fun v => v.category).sum + 13 ≤ rm.locals) (hk : k ≤ rm.cells) (hn : n ≤ rm.slots) (hz : (if x < y then y else x) = z) (kk : zj G k n (pc + 3) L (.int z :: st) ws) : zj G k n pc L (.int y :: .int x :: st) ws := by
  obtain ⟨p, l, e, R, s, m, args, below, meth, c, K, A, nL, Q⟩ := G
  obtain ⟨hx, hb, hml, hown, hts, hK, hA, hZ, hlk, hst, rfl, rfl, rfl, rfl⟩ := F
  intro H locs ls hP hD hS hls
  subst hz
  exact va_mmax hx hb (hml.trans hls.1.symm) hown (hts _ hw) (hts _ q_468) (hts _ q_16) (hts _ q_469) hf hl hk hn d (kk H locs ls hP hD hS hls)
theorem zj_new (F : zf G l K rm own cc nl) {C : String} {T : u_T} {N ci idx : Nat} {ty0 : Nat → FieldType} {fs : List Value} (d : decode cc pc = .ok (.new idx, 3)) (hc : vwCl[ci]? = some (C, T, N)) (hin : ∀ w ∈ u_ws C T N, w ∈ zT) (hty : ∀ k, k < N → parseFieldDescriptor (T k).2.2.1 = some (ty0 k)) (hw1 : Cond.classLink own idx C ∈ zT) (hw2 : Cond.instantiable C N ∈ zT) (hw3 : Cond.initialized C ∈ zT) (hfs : ∀ j, j < N → defaultValue (ty0 j) = vp_V fs j) (hk : k + 1 ≤ rm.cells) (hn : n + N ≤ rm.slots)
    (kk : ∀ q, zj G (k + 1) (n + N) (pc + 3) L (.ref q :: st) (ws ++ [(q, .inr (ci, fs))])) : zj G k n pc L st ws := by
  obtain ⟨p, l, e, R, s, m, args, below, meth, c, K, A, nL, Q⟩ := G
  obtain ⟨hx, hb, hml, hown, hts, hK, hA, hZ, hlk, hst, rfl, rfl, rfl, rfl⟩ := F
  intro H locs ls hP hD hS hls
  exact va_new hx hb hts hin ty0 hty hown (hts _ hw1) (hts _ hw2) (hts _ hw3) hK hP hD hS hA hc hfs hk hn d (fun q H1 hP1 hD1 hS1 => kk q H1 locs ls hP1 hD1 hS1 hls)
theorem zj_newa (F : zf G l K rm own cc nl) {atype : ArrayType} {ty : FieldType} {tc : ClassId} {m : Int32} {N' : Nat} {a0 : vp_A} (d : decode cc pc = .ok (.newarray atype, 2)) (t : Nat) (ht : (zty K)[t]? = some (tc, ty)) (hty : newarray.typeOf atype = ty) (hprim : ty = .byte ∨ ty = .int ∨ ty = .long) (harr : Cond.arrayClass ty ∈ zT) (ha : ∀ cA : ClassId, vp_cell cA a0 = arrV cA N' (fun _ => defaultValue ty)) (hm : m = nI N') (hN : N' < 2 ^ 26) (hk : k + 1 ≤ rm.cells) (hn : n + N' ≤ rm.slots)
    (kk : ∀ q, zj G (k + 1) (n + N') (pc + 2) L (.ref q :: st) (ws ++ [(q, .inl (tc, a0))])) : zj G k n pc L (.int m :: st) ws := by
  obtain ⟨p, l, e, R, s, mm, args, below, meth, c, K, A, nL, Q⟩ := G
  obtain ⟨hx, hb, hml, hown, hts, hK, hA, hZ, hlk, hst, rfl, rfl, rfl, rfl⟩ := F
  intro H locs ls hP hD hS hls
  subst hm
  refine va_newa hx hb (by rw [hty]; exact hts _ harr) hty hK hP hD hS hA ha (nI_pos (by omega)) (nI_clamp (by omega)) (by rcases hprim with rfl | rfl | rfl <;> simp only [componentBytes] <;> omega) hk hn d ?_
  intro q cA H1 hK1 hP1 hD1 hS1
  have h1 := (hK.2 t _ ht).2
  have h2 := (hK1.2 3 (cA, ty) rfl).2
  have hcA : cA = tc := by
    rcases hprim with rfl | rfl | rfl
    · exact Option.some.inj ((show s.vm.findClass _ = some cA from h2).symm.trans (show s.vm.findClass _ = some tc from h1))
    · exact Option.some.inj ((show s.vm.findClass _ = some cA from h2).symm.trans (show s.vm.findClass _ = some tc from h1))
    · exact Option.some.inj ((show s.vm.findClass _ = some cA from h2).symm.trans (show s.vm.findClass _ = some tc from h1))
  subst hcA
  exact kk q H1 locs ls hP1 hD1 hS1 hls
/-- the method's own name: a constructor may write its final fields -/
def zn (G : zg) (nm : String) : Prop := match G with
  | (p, l, e, R, s, m, args, below, meth, c, K, A, nL, Q) => meth.name = nm
theorem zj_putF (F : zf G l K rm own cc nl) (hnm0 : zn G "<init>") {C : String} {T : u_T} {N ci index a : Nat} {fs : List Value} {v : Value} {ty0 : Nat → FieldType} (d : decode cc pc = .ok (.putfield index, 3)) (q j : Nat) (he : ws[q]? = some (a, .inr (ci, fs))) (hc : vwCl[ci]? = some (C, T, N)) (hin : ∀ w ∈ u_ws C T N, w ∈ zT) (hty : ∀ k, k < N → parseFieldDescriptor (T k).2.2.1 = some (ty0 k)) (hnm : ∀ a, a < N → ∀ b, b < N → a ≠ b → (T a).2.1 ≠ (T b).2.1) (hj : j < N) (hw : Cond.fieldLink own index (T j).1 (T j).2.1 (T j).2.2.1 ∈ zT) (hfin : (T j).2.2.2 = true) (hdecl : (T j).1 = own) (hn : narrow (ty0 j) v = v) (hfit : fits (ty0 j) v = true) (hl : j < fs.length) (hws : ws.set q (a, .inr (ci, fs.set j v)) = ws') (kk : zj G k n (pc + 3) L st ws') : zj G k n pc L (v :: .ref a :: st) ws := by
  obtain ⟨p, l, e, R, s, m, args, below, meth, c, K, A, nL, Q⟩ := G
  obtain ⟨hx, hb, hml, hown, hts, hK, hA, hZ, hlk, hst, rfl, rfl, rfl, rfl⟩ := F
  intro H locs ls hP hD hS hL
  subst hws
  exact va_putF hx hb hts hin ty0 hty hnm hown hK hP hD hS q he hc j hj (hts _ hw) (fun _ h9 => h9) hfin hnm0 hdecl (hty j hj) hn hfit hl d (fun H1 locs1 hP1 hD1 hS1 => kk H1 locs1 ls hP1 hD1 hS1 hL)
theorem zi_I (F : zf G l K rm own cc nl) {y : MethodName} {index b maxL : Nat} {bytes : ByteArray} {As rest : List Value} (d : decode cc pc = .ok (.invokespecial index, 3)) (hw1 : Cond.methodLink own index y ∈ zT) (hw2 : Cond.instanceMethod y ∈ zT) {cw : Cond} (hcw : cw ∈ zT) (hcode : cw = .code y bytes maxL none) (hy1 : y.name = "<init>") (hy : y.cls ≠ "java/lang/invoke/MethodHandle" ∧ y.cls ≠ "java/lang/invoke/VarHandle") (hd : (parseMethodDescriptor y.desc).map (fun d => d.parameters.length) = some As.length) : zi G pc (As.reverse ++ .ref b :: rest) rest y (.ref b :: As) ws := by
  obtain ⟨p, l, e, R, s, m, args, below, meth, c, K, A, nL, Q⟩ := G
  obtain ⟨hx, hb, hml, hown, hts, hK, hA, hZ, hlk, hst, rfl, rfl, rfl, rfl⟩ := F
  subst hcode
  intro H locs ls k n T hP hls hT X
  have hpl : e.platform.magicAccessors = ({} : Platform).magicAccessors := by rw [X.admits.platform]
  obtain ⟨mk, methM, cM, kP, vm₁, hnamed, hmethM, hcodeM, -, hlocalsM, -, hkP, -, hW₁, hstep₁⟩ := Steps.initColdArgs (e := e) X.here hx X.warmed hpl hown hy1 hy (hts _ hw1) (hts _ hw2) (hts _ hcw) (f := F0 m pc ls (As.reverse ++ .ref b :: rest)) rfl (argsL := As) (rest := rest) (zi_hlen hd) rfl (by rw [hb]; exact d)
  exact ⟨vm₁, mk, X.noted hW₁, hnamed, fun target h => hstep₁ _ fun acts => by rw [doInvoke_state]; exact h⟩
theorem zi_IN (F : zf G l K rm own cc nl) {y : MethodName} {host : String} {index b maxL : Nat} {bytes : ByteArray} {As rest : List Value} (d : decode cc pc = .ok (.invokespecial index, 3)) (hw1 : Cond.methodLinkNest own index y host ∈ zxW) (hw2 : Cond.instanceMethod y ∈ zT) {cw : Cond} (hcw : cw ∈ zT) (hcode : cw = .code y bytes maxL none) (hy1 : y.name = "<init>") (hy : y.cls ≠ "java/lang/invoke/MethodHandle" ∧ y.cls ≠ "java/lang/invoke/VarHandle") (hd : (parseMethodDescriptor y.desc).map (fun d => d.parameters.length) = some As.length) : zi G pc (As.reverse ++ .ref b :: rest) rest y (.ref b :: As) ws := by
  obtain ⟨p, l, e, R, s, m, args, below, meth, c, K, A, nL, Q⟩ := G
  obtain ⟨hx, hb, hml, hown, hts, hK, hA, hZ, hlk, hst, rfl, rfl, rfl, rfl⟩ := F
  subst hcode
  intro H locs ls k n T hP hls hT X
  have hpl : e.platform.magicAccessors = ({} : Platform).magicAccessors := by rw [X.admits.platform]
  obtain ⟨mk, methM, cM, kP, vm₁, hnamed, hmethM, hcodeM, -, hlocalsM, -, hkP, -, hW₁, hstep₁⟩ := Steps.initColdArgsNest (e := e) X.here hx X.warmed hpl hown hy1 hy (va_Nw.use rfl (hZ.2.2.2 _ hw1)) (hts _ hw2) (hts _ hcw) (f := F0 m pc ls (As.reverse ++ .ref b :: rest)) rfl (argsL := As) (rest := rest) (zi_hlen hd) rfl (by rw [hb]; exact d)
  exact ⟨vm₁, mk, X.noted hW₁, hnamed, fun target h => hstep₁ _ fun acts => by rw [doInvoke_state]; exact h⟩
end ZM
theorem zc_ofN {l : Launch} {K : zk} {y : MethodName} {rm : Room} {mc ms tc ts : Nat} {av : List Value} {w0 : va_W} {post : Option Value → va_W → Prop} {thr : String → va_W → Prop} {cc : ByteArray} {nl : Nat} {ret : Option FieldType}
    (hy : plainName y.cls = true) (hlen : (lg_sl av).length ≤ nl)
    (body : ∀ G : zg, zf G l K rm y.cls cc nl → zq G ret [] w0 mc ms tc ts post thr → zn G y.name → zj G 0 0 0 (lv_args 0 av) [] w0) : zc l K y (.code y cc nl ret) rm mc ms tc ts av w0 post thr := by
  intro sz
  refine zx_ofW (cc := cc) (maxL := nl) (ret := ret) hy rfl ?_
  intro p e s m args below meth c s₁ B hml hv
  obtain ⟨rfl, hsz, hP, hK, hD0, hZ⟩ := hv
  subst hsz
  have hts := atoms_spec (ws := Cond.code y cc nl ret :: zT) B.pre
  have hl := lv_entry av (n := nl) hlen
  have htab : c.exceptionTable.toList.map (fun h => (h.startPc, h.endPc, h.handlerPc, h.catchType)) = [] := by
    have h1 := B.noHandlers (hts _ List.mem_cons_self)
    have h0 : c.exceptionTable.size = 0 := by simpa [Array.isEmpty] using h1
    have h2 : c.exceptionTable.toList = [] := List.eq_nil_of_length_eq_zero (by simpa using h0)
    rw [h2]; rfl
  rw [lg_entry_eq]
  exact body (p, l, e, rm, s, m, av.toArray, below, meth, c, K, va_A w0 s.heap.size, nl, _) ⟨B.exec, B.bytes, hml, findClass_of_methodNamed B.named, fun w h => hts w (List.mem_cons_of_mem _ h), hK, fun q h => Or.inr h, hZ, B.notSynchronized, zc_notStatics hP, rfl, rfl, rfl, rfl⟩ ⟨B.returns, htab, rfl, rfl⟩ (name_of_methodNamed B.named B.method).1 s.heap [] _ hP hD0.self va_S.rf hl
end
section
set_option maxHeartbeats 4000000 in
set_option maxRecDepth 100000 in
/-- open(source, length) -/
theorem m_BR_open (l : Launch) (K : zk) (r b b0 n : Nat) (x1 x2 : Int32)  : zc l K y_BR_open w_BR_open { frames := 0, cells := 0, slots := 0, locals := 0 } 0 0 0 0 [.ref r, .ref b, .int (nI n)] [zO r 0 [.ref b0, .int x1, .int x2]] (fun v w1 => v = none ∧ w1 = [zO r 0 [.ref b, .int (nI (8 * n)), .int (nI 0)]]) (fun _ _ => False) := by
  refine zc_of (cc := c_BR_open) (nl := 3) (ret := none) (by decide) (Nat.le_of_ble_eq_true rfl) (fun G F E => ?_)
  have F : zf G l K { frames := 0, cells := 0, slots := 0, locals := 0 } "ZlibBox$BitReader" c_BR_open 3 := F
  show zj G 0 0 0 [(0, .ref r), (1, .ref b), (2, .int (nI n))] [] [zO r 0 [.ref b0, .int x1, .int x2]]
  refine zj_aload_n F d_BR_open_0 0 rfl rfl ?_
  refine zj_aload_n F d_BR_open_1 1 rfl rfl ?_
  refine zj_put (ws' := [zO r 0 [.ref b, .int x1, .int x2]]) F d_BR_open_2 0 0 rfl rfl in_BR ty_BR nm_BR (by decide) q_37 rfl rfl rfl (Nat.le_of_ble_eq_true rfl) rfl ?_
  refine zj_aload_n F d_BR_open_5 0 rfl rfl ?_
  refine zj_bipush (v := nI 8) F d_BR_open_6 (by decide) ?_
  refine zj_iload_n F d_BR_open_8 2 rfl rfl ?_
  refine zj_imul F d_BR_open_9 (pk_mul _ _) ?_
  refine zj_put (ws' := [zO r 0 [.ref b, .int (nI (8 * n)), .int x2]]) F d_BR_open_10 0 1 rfl rfl in_BR ty_BR nm_BR (by decide) q_38 rfl rfl rfl (Nat.le_of_ble_eq_true rfl) rfl ?_
  refine zj_aload_n F d_BR_open_13 0 rfl rfl ?_
  refine zj_iconst (v := nI 0) F d_BR_open_14 (by decide) ?_
  refine zj_put (ws' := [zO r 0 [.ref b, .int (nI (8 * n)), .int (nI 0)]]) F d_BR_open_15 0 2 rfl rfl in_BR ty_BR nm_BR (by decide) q_39 rfl rfl rfl (Nat.le_of_ble_eq_true rfl) rfl ?_
  exact zj_vret F E d_BR_open_18 (Nat.le_refl _) (Nat.le_refl _) ⟨rfl, rfl⟩
set_option maxHeartbeats 4000000 in
set_option maxRecDepth 100000 in
/-- bit(): the next bit -/
theorem m_BR_bit (l : Launch) (hl : l.stackTraces = false) (K : zk) (r b Nb e p : Nat) (t : Nat → Nat) (hb : ∀ j, t j < 256) (hN : Nb < 2 ^ 24) (he : e ≤ 8 * Nb) (hp : p ≤ e) : zc l K y_BR_bit w_BR_bit { frames := 6, cells := 1, slots := 6, locals := 100 } 0 0 1 6 [.ref r] [zO r 0 [.ref b, .int (nI e), .int (nI p)], zB K b Nb (zby t)] (fun v w1 => p < e ∧ v = some (.int (nI (zbit t p))) ∧ w1 = [zO r 0 [.ref b, .int (nI e), .int (nI (p + 1))], zB K b Nb (zby t)]) (fun X w1 => ¬ p < e ∧ X = zU ∧ w1 = [zO r 0 [.ref b, .int (nI e), .int (nI p)], zB K b Nb (zby t)]) := by
  refine zc_of (cc := c_BR_bit) (nl := 2) (ret := (some .int)) (by decide) (Nat.le_of_ble_eq_true rfl) (fun G F E => ?_)
  have F : zf G l K { frames := 6, cells := 1, slots := 6, locals := 100 } "ZlibBox$BitReader" c_BR_bit 2 := F
  show zj G 0 0 0 [(0, .ref r)] [] [zO r 0 [.ref b, .int (nI e), .int (nI p)], zB K b Nb (zby t)]
  refine zj_aload_n F d_BR_bit_0 0 rfl rfl ?_
  refine zj_get F d_BR_bit_1 0 2 rfl rfl in_BR (by decide) q_39 rfl ?_
  refine zj_aload_n F d_BR_bit_4 0 rfl rfl ?_
  refine zj_get F d_BR_bit_5 0 1 rfl rfl in_BR (by decide) q_38 rfl ?_
  refine zj_icmp_lt (tgt := 21) F d_BR_bit_8 (by decide) (nI_ltI (by omega) (by omega)) (fun h8 => ?_) (fun h8 => ?_)
  · refine zj_aload_n F d_BR_bit_21 0 rfl rfl ?_
    refine zj_get F d_BR_bit_22 0 0 rfl rfl in_BR (by decide) q_37 rfl ?_
    refine zj_aload_n F d_BR_bit_25 0 rfl rfl ?_
    refine zj_get F d_BR_bit_26 0 2 rfl rfl in_BR (by decide) q_39 rfl ?_
    refine zj_iconst (v := nI 3) F d_BR_bit_29 (by decide) ?_
    refine zj_ishr F d_BR_bit_30 (zI_shr (by omega) (by decide)) ?_
    refine zj_bald F d_BR_bit_31 1 0 (p / 8) rfl rfl rfl (by omega) (by omega) rfl ?_
    refine zj_aload_n F d_BR_bit_32 0 rfl rfl ?_
    refine zj_get F d_BR_bit_33 0 2 rfl rfl in_BR (by decide) q_39 rfl ?_
    refine zj_bipush (v := nI 7) F d_BR_bit_36 (by decide) ?_
    refine zj_iand F d_BR_bit_38 (pk_andN (by omega) 3 (by decide)) ?_
    refine zj_ishr F d_BR_bit_39 rfl ?_
    refine zj_iconst (v := nI 1) F d_BR_bit_40 (by decide) ?_
    refine zj_iand F d_BR_bit_41 (zbit_and (hb _)) ?_
    refine zj_istore_n (L' := [(1, .int (nI (zbit t p))), (0, .ref r)]) F d_BR_bit_42 rfl (by decide) rfl ?_
    refine zj_aload_n F d_BR_bit_43 1 rfl rfl ?_
    refine zj_dup F d_BR_bit_44 rfl ?_
    refine zj_get F d_BR_bit_45 0 2 rfl rfl in_BR (by decide) q_39 rfl ?_
    refine zj_iconst (v := nI 1) F d_BR_bit_48 (by decide) ?_
    refine zj_iadd F d_BR_bit_49 (nI_add _ _) ?_
    refine zj_put (ws' := [zO r 0 [.ref b, .int (nI e), .int (nI (p + 1))], zB K b Nb (zby t)]) F d_BR_bit_50 0 2 rfl rfl in_BR ty_BR nm_BR (by decide) q_39 rfl rfl rfl (Nat.le_of_ble_eq_true rfl) rfl ?_
    refine zj_iload_n F d_BR_bit_53 0 rfl rfl ?_
    exact zj_iret F E d_BR_bit_54 (Nat.le_refl _) (Nat.le_refl _) ⟨h8, rfl, rfl⟩
  · exact zj_throwS (names := zt_up) F E hl d_BR_bit_11 d_BR_bit_14 d_BR_bit_15 d_BR_bit_17 d_BR_bit_20 (by decide +kernel) (by decide +kernel) q_319 (at_BR_24) ⟨by decide, by decide, by decide, by decide⟩ rfl (by decide) (by decide) ⟨h8, rfl, rfl⟩
set_option maxHeartbeats 4000000 in
set_option maxRecDepth 100000 in
/-- skipToByte() -/
theorem m_BR_skip (l : Launch) (K : zk) (r b Nb e p : Nat) (t : Nat → Nat) (hp : p < 2 ^ 30) : zc l K y_BR_skipToByte w_BR_skipToByte { frames := 0, cells := 0, slots := 0, locals := 0 } 0 0 0 0 [.ref r] [zO r 0 [.ref b, .int (nI e), .int (nI p)], zB K b Nb (zby t)] (fun v w1 => v = none ∧ w1 = [zO r 0 [.ref b, .int (nI e), .int (nI ((p + 7) / 8 * 8))], zB K b Nb (zby t)]) (fun _ _ => False) := by
  refine zc_of (cc := c_BR_skipToByte) (nl := 1) (ret := none) (by decide) (Nat.le_of_ble_eq_true rfl) (fun G F E => ?_)
  have F : zf G l K { frames := 0, cells := 0, slots := 0, locals := 0 } "ZlibBox$BitReader" c_BR_skipToByte 1 := F
  show zj G 0 0 0 [(0, .ref r)] [] [zO r 0 [.ref b, .int (nI e), .int (nI p)], zB K b Nb (zby t)]
  refine zj_aload_n F d_BR_skipToByte_0 0 rfl rfl ?_
  refine zj_aload_n F d_BR_skipToByte_1 0 rfl rfl ?_
  refine zj_get F d_BR_skipToByte_2 0 2 rfl rfl in_BR (by decide) q_39 rfl ?_
  refine zj_bipush (v := nI 7) F d_BR_skipToByte_5 (by decide) ?_
  refine zj_iadd F d_BR_skipToByte_7 (nI_add _ _) ?_
  refine zj_bipush (v := (-8)) F d_BR_skipToByte_8 (by decide) ?_
  refine zj_iand F d_BR_skipToByte_10 (zI_and8 _ (by omega)) ?_
  refine zj_put (ws' := [zO r 0 [.ref b, .int (nI e), .int (nI ((p + 7) / 8 * 8))], zB K b Nb (zby t)]) F d_BR_skipToByte_11 0 2 rfl rfl in_BR ty_BR nm_BR (by decide) q_39 rfl rfl rfl (Nat.le_of_ble_eq_true rfl) rfl ?_
  exact zj_vret F E d_BR_skipToByte_14 (Nat.le_refl _) (Nat.le_refl _) ⟨rfl, rfl⟩
set_option maxHeartbeats 4000000 in
set_option maxRecDepth 100000 in
/-- atEnd() -/
theorem m_BR_atEnd (l : Launch) (K : zk) (r b Nb e p : Nat) (t : Nat → Nat) (hp : p < 2 ^ 30) (he : e < 2 ^ 30) : zc l K y_BR_atEnd w_BR_atEnd { frames := 0, cells := 0, slots := 0, locals := 0 } 0 0 0 0 [.ref r] [zO r 0 [.ref b, .int (nI e), .int (nI p)], zB K b Nb (zby t)] (fun v w1 => v = some (.int (nI (if e ≤ p then 1 else 0))) ∧ w1 = [zO r 0 [.ref b, .int (nI e), .int (nI p)], zB K b Nb (zby t)]) (fun _ _ => False) := by
  refine zc_of (cc := c_BR_atEnd) (nl := 1) (ret := (some .boolean)) (by decide) (Nat.le_of_ble_eq_true rfl) (fun G F E => ?_)
  have F : zf G l K { frames := 0, cells := 0, slots := 0, locals := 0 } "ZlibBox$BitReader" c_BR_atEnd 1 := F
  show zj G 0 0 0 [(0, .ref r)] [] [zO r 0 [.ref b, .int (nI e), .int (nI p)], zB K b Nb (zby t)]
  refine zj_aload_n F d_BR_atEnd_0 0 rfl rfl ?_
  refine zj_get F d_BR_atEnd_1 0 2 rfl rfl in_BR (by decide) q_39 rfl ?_
  refine zj_aload_n F d_BR_atEnd_4 0 rfl rfl ?_
  refine zj_get F d_BR_atEnd_5 0 1 rfl rfl in_BR (by decide) q_38 rfl ?_
  refine zj_icmp_lt (tgt := 15) F d_BR_atEnd_8 (by decide) (nI_ltI (by omega) (by omega)) (fun h8 => ?_) (fun h8 => ?_)
  · refine zj_iconst (v := nI 0) F d_BR_atEnd_15 (by decide) ?_
    exact zj_zret F E d_BR_atEnd_16 (by decide) (Nat.le_refl _) (Nat.le_refl _) ⟨by rw [if_neg (by omega)], rfl⟩
  · refine zj_iconst (v := nI 1) F d_BR_atEnd_11 (by decide) ?_
    refine zj_goto F d_BR_atEnd_12 (tgt := 16) (by decide) ?_
    exact zj_zret F E d_BR_atEnd_16 (by decide) (Nat.le_refl _) (Nat.le_refl _) ⟨by rw [if_pos (by omega)], rfl⟩
set_option maxHeartbeats 4000000 in
set_option maxRecDepth 100000 in
/-- number(bits): the next c bits, the lowest first -/
theorem m_BR_number (l : Launch) (hl : l.stackTraces = false) (K : zk) (r b Nb e p c : Nat) (t : Nat → Nat) (hb : ∀ j, t j < 256) (hN : Nb < 2 ^ 24) (he : e ≤ 8 * Nb) (hc : c ≤ 16) (hp : p ≤ e) : zc l K y_BR_number w_BR_number { frames := 6, cells := 1, slots := 6, locals := 100 } 0 0 1 6 [.ref r, .int (nI c)] [zO r 0 [.ref b, .int (nI e), .int (nI p)], zB K b Nb (zby t)] (fun v w1 => p + c ≤ e ∧ v = some (.int (nI (znum t p c))) ∧ w1 = [zO r 0 [.ref b, .int (nI e), .int (nI (p + c))], zB K b Nb (zby t)]) (fun X w1 => ¬ p + c ≤ e ∧ X = zU ∧ w1 = [zO r 0 [.ref b, .int (nI e), .int (nI p)], zB K b Nb (zby t)]) := by
  refine zc_of (cc := c_BR_number) (nl := 4) (ret := (some .int)) (by decide) (Nat.le_of_ble_eq_true rfl) (fun G F E => ?_)
  have F : zf G l K { frames := 6, cells := 1, slots := 6, locals := 100 } "ZlibBox$BitReader" c_BR_number 4 := F
  show zj G 0 0 0 [(0, .ref r), (1, .int (nI c))] [] [zO r 0 [.ref b, .int (nI e), .int (nI p)], zB K b Nb (zby t)]
  refine zj_iload_n F d_BR_number_0 1 rfl rfl ?_
  refine zj_aload_n F d_BR_number_1 0 rfl rfl ?_
  refine zj_get F d_BR_number_2 0 1 rfl rfl in_BR (by decide) q_38 rfl ?_
  refine zj_aload_n F d_BR_number_5 0 rfl rfl ?_
  refine zj_get F d_BR_number_6 0 2 rfl rfl in_BR (by decide) q_39 rfl ?_
  refine zj_isub F d_BR_number_9 (pk_sub (by omega)) ?_
  refine zj_icmp_le (tgt := 23) F d_BR_number_10 (by decide) (nI_leI (by omega) (by omega)) (fun h10 => ?_) (fun h10 => ?_)
  · refine zj_iconst (v := nI 0) F d_BR_number_23 (by decide) ?_
    refine zj_istore_n (L' := [(2, .int (nI 0)), (0, .ref r), (1, .int (nI c))]) F d_BR_number_24 rfl (by decide) rfl ?_
    refine zj_iconst (v := nI 0) F d_BR_number_25 (by decide) ?_
    refine zj_istore_n (L' := [(3, .int (nI 0)), (2, .int (nI 0)), (0, .ref r), (1, .int (nI c))]) F d_BR_number_26 rfl (by decide) rfl ?_
    have key : ∀ i, i ≤ c → zj G 0 0 27 [(0, .ref r), (1, .int (nI c)), (2, .int (nI (znum t p i))), (3, .int (nI i))] [] [zO r 0 [.ref b, .int (nI e), .int (nI (p + i))], zB K b Nb (zby t)] := by
      refine zdown c ?_ ?_
      · show zj G 0 0 27 [(0, .ref r), (1, .int (nI c)), (2, .int (nI (znum t p c))), (3, .int (nI c))] [] [zO r 0 [.ref b, .int (nI e), .int (nI (p + c))], zB K b Nb (zby t)]
        refine zj_iload_n F d_BR_number_27 3 rfl rfl ?_
        refine zj_iload_n F d_BR_number_28 1 rfl rfl ?_
        refine zj_icmp_ge (tgt := 74) F d_BR_number_29 (by decide) (nI_leI (by omega) (by omega)) (fun h29 => ?_) (fun h29 => ?_)
        · refine zj_iload_n F d_BR_number_74 2 rfl rfl ?_
          exact zj_iret F E d_BR_number_75 (Nat.le_refl _) (Nat.le_refl _) ⟨by omega, rfl, rfl⟩
        · exact absurd (Nat.le_refl c) h29
      · intro i hi ih
        show zj G 0 0 27 [(0, .ref r), (1, .int (nI c)), (2, .int (nI (znum t p i))), (3, .int (nI i))] [] [zO r 0 [.ref b, .int (nI e), .int (nI (p + i))], zB K b Nb (zby t)]
        refine zj_iload_n F d_BR_number_27 3 rfl rfl ?_
        refine zj_iload_n F d_BR_number_28 1 rfl rfl ?_
        refine zj_icmp_ge (tgt := 74) F d_BR_number_29 (by decide) (nI_leI (by omega) (by omega)) (fun h29 => ?_) (fun h29 => ?_)
        · exact absurd h29 (by omega)
        · refine zj_iload_n F d_BR_number_32 2 rfl rfl ?_
          refine zj_aload_n F d_BR_number_33 0 rfl rfl ?_
          refine zj_get F d_BR_number_34 0 0 rfl rfl in_BR (by decide) q_37 rfl ?_
          refine zj_aload_n F d_BR_number_37 0 rfl rfl ?_
          refine zj_get F d_BR_number_38 0 2 rfl rfl in_BR (by decide) q_39 rfl ?_
          refine zj_iconst (v := nI 3) F d_BR_number_41 (by decide) ?_
          refine zj_ishr F d_BR_number_42 (zI_shr (by omega) (by decide)) ?_
          refine zj_bald F d_BR_number_43 1 0 ((p + i) / 8) rfl rfl rfl (by omega) (by omega) rfl ?_
          refine zj_aload_n F d_BR_number_44 0 rfl rfl ?_
          refine zj_get F d_BR_number_45 0 2 rfl rfl in_BR (by decide) q_39 rfl ?_
          refine zj_bipush (v := nI 7) F d_BR_number_48 (by decide) ?_
          refine zj_iand F d_BR_number_50 (pk_andN (by omega) 3 (by decide)) ?_
          refine zj_ishr F d_BR_number_51 rfl ?_
          refine zj_iconst (v := nI 1) F d_BR_number_52 (by decide) ?_
          refine zj_iand F d_BR_number_53 (zbit_and (hb _)) ?_
          refine zj_iload_n F d_BR_number_54 3 rfl rfl ?_
          refine zj_ishl F d_BR_number_55 (zI_shl (by omega)) ?_
          refine zj_ior F d_BR_number_56 (zI_or2 i (znum_lt t p i)) ?_
          refine zj_istore_n (L' := [(2, .int (nI (znum t p (i + 1)))), (0, .ref r), (1, .int (nI c)), (3, .int (nI i))]) F d_BR_number_57 rfl (by decide) rfl ?_
          refine zj_aload_n F d_BR_number_58 1 rfl rfl ?_
          refine zj_dup F d_BR_number_59 rfl ?_
          refine zj_get F d_BR_number_60 0 2 rfl rfl in_BR (by decide) q_39 rfl ?_
          refine zj_iconst (v := nI 1) F d_BR_number_63 (by decide) ?_
          refine zj_iadd F d_BR_number_64 (nI_add _ _) ?_
          refine zj_put (ws' := [zO r 0 [.ref b, .int (nI e), .int (nI ((p + i) + 1))], zB K b Nb (zby t)]) F d_BR_number_65 0 2 rfl rfl in_BR ty_BR nm_BR (by decide) q_39 rfl rfl rfl (Nat.le_of_ble_eq_true rfl) rfl ?_
          refine zj_iinc (L' := [(3, .int (nI (i + 1))), (2, .int (nI (znum t p (i + 1)))), (0, .ref r), (1, .int (nI c))]) F d_BR_number_68 3 rfl (nI_add _ _) (by decide) rfl ?_
          refine zj_goto F d_BR_number_71 (tgt := 27) (by decide) ?_
          exact zj_sub [2, 3, 1, 0] rfl ih
    exact zj_sub [2, 3, 1, 0] rfl (key 0 (Nat.zero_le _))
  · exact zj_throwS (names := zt_up) F E hl d_BR_number_13 d_BR_number_16 d_BR_number_17 d_BR_number_19 d_BR_number_22 (by decide +kernel) (by decide +kernel) q_319 (at_BR_24) ⟨by decide, by decide, by decide, by decide⟩ rfl (by decide) (by decide) ⟨by omega, rfl, rfl⟩
end
section
/-- an array of ints that holds the numbers g -/
def zna (g : Nat → Nat) : Nat → Int32 := fun j => nI (g j)
theorem zna_upd (g : Nat → Nat) (k v : Nat) : upd (zna g) k (nI v) = zna (va_up g k v) := by
  funext j
  unfold upd zna va_up
  by_cases h : j = k
  · simp only [h, if_true]
  · simp only [h, if_false]
/-- how many codes are shorter than l bits -/
def zbas (cn : Nat → Nat) : Nat → Nat
  | 0 => 0
  | l + 1 => zbas cn l + if l = 0 then 0 else cn l
theorem zbas_mono (cn : Nat → Nat) : ∀ d l, zbas cn l ≤ zbas cn (l + d)
  | 0, l => Nat.le_refl _
  | d + 1, l => Nat.le_trans (zbas_mono cn d l) (Nat.le_add_right _ _)
theorem zbas_le (cn : Nat → Nat) {l : Nat} (h0 : 1 ≤ l) (h : l ≤ 15) : zbas cn (l + 1) = zbas cn l + cn l ∧ zbas cn (l + 1) ≤ zbas cn 16 := by
  refine ⟨?_, ?_⟩
  · show zbas cn l + (if l = 0 then 0 else cn l) = _
    rw [if_neg (by omega)]
  · have := zbas_mono cn (15 - l) (l + 1)
    rwa [show l + 1 + (15 - l) = 16 by omega] at this
/-- one code is read: the lengths len, len + 1 .. are tried, 'fuel' of them -/
def zdec (t : Nat → Nat) (e : Nat) (cn : Nat → Nat) (mf : Nat → Nat → Nat) : Nat → Nat → Nat → Nat → Nat → Option (Nat × Nat)
  | 0, _, _, _, _ => none
  | fuel + 1, len, code, first, p =>
    if p < e then
      if 2 * code + zbit t p < first + cn len then some (mf len (2 * code + zbit t p - first), p + 1)
      else zdec t e cn mf fuel (len + 1) (2 * code + zbit t p) (2 * (first + cn len)) (p + 1)
    else none
theorem zdec_le {t : Nat → Nat} {e : Nat} {cn : Nat → Nat} {mf : Nat → Nat → Nat} : ∀ (fuel len code first p x p' : Nat), zdec t e cn mf fuel len code first p = some (x, p') → p < p' ∧ p' ≤ e
  | 0, _, _, _, _, _, _, h => by cases h
  | fuel + 1, len, code, first, p, x, p', h => by
    unfold zdec at h
    by_cases h1 : p < e
    · rw [if_pos h1] at h
      by_cases h2 : 2 * code + zbit t p < first + cn len
      · rw [if_pos h2] at h; cases h; omega
      · rw [if_neg h2] at h
        have := zdec_le fuel _ _ _ _ _ _ h
        omega
    · rw [if_neg h1] at h; cases h
set_option maxHeartbeats 4000000 in
set_option maxRecDepth 100000 in
/-- useAllWords() -/
theorem m_CO_useAll (l : Launch) (K : zk) (c ca ma pa u : Nat) (hu : u < 2 ^ 31) : zc l K y_CO_useAllWords w_CO_useAllWords { frames := 0, cells := 0, slots := 0, locals := 0 } 0 0 0 0 [.ref c] [zO c 1 [.ref ca, .ref ma, .ref pa, .int (nI u)]] (fun v w1 => v = some (.int (nI (if u = 32768 then 1 else 0))) ∧ w1 = [zO c 1 [.ref ca, .ref ma, .ref pa, .int (nI u)]]) (fun _ _ => False) := by
  refine zc_of (cc := c_CO_useAllWords) (nl := 1) (ret := (some .boolean)) (by decide) (Nat.le_of_ble_eq_true rfl) (fun G F E => ?_)
  have F : zf G l K { frames := 0, cells := 0, slots := 0, locals := 0 } "ZlibBox$Codes" c_CO_useAllWords 1 := F
  show zj G 0 0 0 [(0, .ref c)] [] [zO c 1 [.ref ca, .ref ma, .ref pa, .int (nI u)]]
  refine zj_aload_n F d_CO_useAllWords_0 0 rfl rfl ?_
  refine zj_get F d_CO_useAllWords_1 0 3 rfl rfl in_CO (by decide) q_57 rfl ?_
  refine zj_ldc (v := nI 32768) F d_CO_useAllWords_4 q_79 ?_
  refine zj_icmp_ne (tgt := 13) F d_CO_useAllWords_6 (by decide) (nI_eq (by omega) (by omega)) (fun h6 => ?_) (fun h6 => ?_)
  · refine zj_iconst (v := nI 0) F d_CO_useAllWords_13 (by decide) ?_
    exact zj_zret F E d_CO_useAllWords_14 (by decide) (Nat.le_refl _) (Nat.le_refl _) ⟨by rw [if_neg h6], rfl⟩
  · refine zj_iconst (v := nI 1) F d_CO_useAllWords_9 (by decide) ?_
    refine zj_goto F d_CO_useAllWords_10 (tgt := 14) (by decide) ?_
    exact zj_zret F E d_CO_useAllWords_14 (by decide) (Nat.le_refl _) (Nat.le_refl _) ⟨by rw [if_pos h6], rfl⟩
set_option maxHeartbeats 4000000 in
set_option maxRecDepth 100000 in
/-- read(in): one code -/
theorem m_CO_read (l : Launch) (hl : l.stackTraces = false) (K : zk) (c ca ma pa u r b Nb e p : Nat) (t cn mg : Nat → Nat) (mf : Nat → Nat → Nat) (hb : ∀ j, t j < 256) (hN : Nb < 2 ^ 24) (he : e ≤ 8 * Nb) (hp : p ≤ e) (hB : zbas cn 16 ≤ 288) (hm : ∀ l, 1 ≤ l → l ≤ 15 → ∀ r, r < cn l → mg (zbas cn l + r) = mf l r) : zc l K y_CO_read w_CO_read { frames := 7, cells := 1, slots := 6, locals := 121 } 0 0 1 6 [.ref c, .ref r] [zO c 1 [.ref ca, .ref ma, .ref pa, .int (nI u)], zI K ca 16 (zna cn), zI K ma 288 (zna mg), zO r 0 [.ref b, .int (nI e), .int (nI p)], zB K b Nb (zby t)] (fun v w1 => ∃ x p', zdec t e cn mf 15 1 0 0 p = some (x, p') ∧ v = some (.int (nI x)) ∧ w1 = [zO c 1 [.ref ca, .ref ma, .ref pa, .int (nI u)], zI K ca 16 (zna cn), zI K ma 288 (zna mg), zO r 0 [.ref b, .int (nI e), .int (nI p')], zB K b Nb (zby t)]) (fun X w1 => zdec t e cn mf 15 1 0 0 p = none ∧ X = zU ∧ ∃ p', w1 = [zO c 1 [.ref ca, .ref ma, .ref pa, .int (nI u)], zI K ca 16 (zna cn), zI K ma 288 (zna mg), zO r 0 [.ref b, .int (nI e), .int (nI p')], zB K b Nb (zby t)]) := by
  refine zc_of (cc := c_CO_read) (nl := 7) (ret := (some .int)) (by decide) (Nat.le_of_ble_eq_true rfl) (fun G F E => ?_)
  have F : zf G l K { frames := 7, cells := 1, slots := 6, locals := 121 } "ZlibBox$Codes" c_CO_read 7 := F
  show zj G 0 0 0 [(0, .ref c), (1, .ref r)] [] [zO c 1 [.ref ca, .ref ma, .ref pa, .int (nI u)], zI K ca 16 (zna cn), zI K ma 288 (zna mg), zO r 0 [.ref b, .int (nI e), .int (nI p)], zB K b Nb (zby t)]
  refine zj_iconst (v := nI 0) F d_CO_read_0 (by decide) ?_
  refine zj_istore_n (L' := [(2, .int (nI 0)), (0, .ref c), (1, .ref r)]) F d_CO_read_1 rfl (by decide) rfl ?_
  refine zj_iconst (v := nI 0) F d_CO_read_2 (by decide) ?_
  refine zj_istore_n (L' := [(3, .int (nI 0)), (2, .int (nI 0)), (0, .ref c), (1, .ref r)]) F d_CO_read_3 rfl (by decide) rfl ?_
  refine zj_iconst (v := nI 0) F d_CO_read_4 (by decide) ?_
  refine zj_istore (L' := [(4, .int (nI 0)), (3, .int (nI 0)), (2, .int (nI 0)), (0, .ref c), (1, .ref r)]) F d_CO_read_5 (by decide) rfl ?_
  refine zj_iconst (v := nI 1) F d_CO_read_7 (by decide) ?_
  refine zj_istore (L' := [(5, .int (nI 1)), (4, .int (nI 0)), (3, .int (nI 0)), (2, .int (nI 0)), (0, .ref c), (1, .ref r)]) F d_CO_read_8 (by decide) rfl ?_
  have key : ∀ fuel len code first p1, fuel + len = 16 → 1 ≤ len → p1 ≤ e → first ≤ 2 * code → (code + 1) * 2 ^ fuel ≤ 32768 → zdec t e cn mf fuel len code first p1 = zdec t e cn mf 15 1 0 0 p → zj G 0 0 10 [(0, .ref c), (1, .ref r), (2, .int (nI code)), (3, .int (nI first)), (4, .int (nI (zbas cn len))), (5, .int (nI len))] [] [zO c 1 [.ref ca, .ref ma, .ref pa, .int (nI u)], zI K ca 16 (zna cn), zI K ma 288 (zna mg), zO r 0 [.ref b, .int (nI e), .int (nI p1)], zB K b Nb (zby t)] := by
    intro fuel
    induction fuel with
    | zero =>
      intro len code first p1 h1 h2 h3 h4 h5 h6
      have hlen : len = 16 := by omega
      show zj G 0 0 10 [(0, .ref c), (1, .ref r), (2, .int (nI code)), (3, .int (nI first)), (4, .int (nI (zbas cn len))), (5, .int (nI len))] [] [zO c 1 [.ref ca, .ref ma, .ref pa, .int (nI u)], zI K ca 16 (zna cn), zI K ma 288 (zna mg), zO r 0 [.ref b, .int (nI e), .int (nI p1)], zB K b Nb (zby t)]
      refine zj_iload F d_CO_read_10 5 rfl ?_
      refine zj_bipush (v := nI 15) F d_CO_read_12 (by decide) ?_
      refine zj_icmp_gt (tgt := 75) F d_CO_read_14 (by decide) (nI_ltI (by omega) (by omega)) (fun h14 => ?_) (fun h14 => ?_)
      · exact zj_throwS (names := zt_up) F E hl d_CO_read_75 d_CO_read_78 d_CO_read_79 d_CO_read_81 d_CO_read_84 (by decide +kernel) (by decide +kernel) q_365 (at_CO_40) ⟨by decide, by decide, by decide, by decide⟩ rfl (by decide) (by decide) ⟨h6.symm, rfl, p1, rfl⟩
      · exact absurd hlen (by omega)
    | succ fuel ih =>
      intro len code first p1 h1 h2 h3 h4 h5 h6
      have hcb : code + 1 ≤ 32768 := Nat.le_trans (Nat.le_mul_of_pos_right _ (Nat.two_pow_pos _)) h5
      have hcb2 : 2 * code + 2 ≤ 32768 := by have := Nat.le_trans (Nat.mul_le_mul_left (code + 1) (show 2 ≤ 2 ^ (fuel + 1) from by rw [Nat.pow_succ]; have := Nat.two_pow_pos fuel; omega)) h5; omega
      have hbit := zbit_lt t p1
      obtain ⟨hz1, hz2⟩ := zbas_le cn h2 (show len ≤ 15 by omega)
      show zj G 0 0 10 [(0, .ref c), (1, .ref r), (2, .int (nI code)), (3, .int (nI first)), (4, .int (nI (zbas cn len))), (5, .int (nI len))] [] [zO c 1 [.ref ca, .ref ma, .ref pa, .int (nI u)], zI K ca 16 (zna cn), zI K ma 288 (zna mg), zO r 0 [.ref b, .int (nI e), .int (nI p1)], zB K b Nb (zby t)]
      refine zj_iload F d_CO_read_10 5 rfl ?_
      refine zj_bipush (v := nI 15) F d_CO_read_12 (by decide) ?_
      refine zj_icmp_gt (tgt := 75) F d_CO_read_14 (by decide) (nI_ltI (by omega) (by omega)) (fun h14 => ?_) (fun h14 => ?_)
      · exact absurd h14 (by omega)
      · refine zj_iconst (v := nI 2) F d_CO_read_17 (by decide) ?_
        refine zj_iload_n F d_CO_read_18 2 rfl rfl ?_
        refine zj_imul F d_CO_read_19 (pk_mul _ _) ?_
        refine zj_aload_n F d_CO_read_20 1 rfl rfl ?_
        refine zj_call (maxL := 2) (wr := [zO c 1 [.ref ca, .ref ma, .ref pa, .int (nI u)], zI K ca 16 (zna cn), zI K ma 288 (zna mg)]) F E (m_BR_bit l hl K r b Nb e p1 t hb hN he h3) (zi_V (As := []) (rest := [.int (nI (2 * code))]) F d_CO_read_21 3 rfl rfl rfl q_363 q_335 q_336 q_337 (Or.inl ⟨_, _, rfl⟩) (by decide) (show Option.map (fun d => d.parameters.length) (parseMethodDescriptor y_BR_bit.desc) = some 0 from by decide +kernel)) d_CO_read_21 q_337 (Or.inl ⟨_, _, rfl⟩) q_3 [3, 4] [0, 1, 2] rfl rfl rfl rfl (by decide) ⟨by decide, by decide, by decide, by decide⟩ (Nat.le_of_ble_eq_true rfl) (fun v w1 hq => ?_) (fun X w1 hq => ?_)
        · obtain ⟨hq1, rfl, rfl⟩ := hq
          show zj G 0 0 24 [(0, .ref c), (1, .ref r), (2, .int (nI code)), (3, .int (nI first)), (4, .int (nI (zbas cn len))), (5, .int (nI len))] [.int (nI (zbit t p1)), .int (nI (2 * code))] [zO c 1 [.ref ca, .ref ma, .ref pa, .int (nI u)], zI K ca 16 (zna cn), zI K ma 288 (zna mg), zO r 0 [.ref b, .int (nI e), .int (nI (p1 + 1))], zB K b Nb (zby t)]
          have h6' : (if 2 * code + zbit t p1 < first + cn len then some (mf len (2 * code + zbit t p1 - first), p1 + 1) else zdec t e cn mf fuel (len + 1) (2 * code + zbit t p1) (2 * (first + cn len)) (p1 + 1)) = zdec t e cn mf 15 1 0 0 p := by rw [← h6]; conv => rhs; unfold zdec; rw [if_pos hq1]
          refine zj_iadd F d_CO_read_24 (nI_add _ _) ?_
          refine zj_istore_n (L' := [(2, .int (nI ((2 * code) + (zbit t p1)))), (0, .ref c), (1, .ref r), (3, .int (nI first)), (4, .int (nI (zbas cn len))), (5, .int (nI len))]) F d_CO_read_25 rfl (by decide) rfl ?_
          refine zj_aload_n F d_CO_read_26 1 rfl rfl ?_
          refine zj_get F d_CO_read_27 0 0 rfl rfl in_CO (by decide) q_54 rfl ?_
          refine zj_iload F d_CO_read_30 5 rfl ?_
          refine zj_iald (z := nI (cn len)) F d_CO_read_32 1 1 len rfl rfl rfl (by omega) (by omega) rfl ?_
          refine zj_istore (L' := [(6, .int (nI (cn len))), (2, .int (nI ((2 * code) + (zbit t p1)))), (0, .ref c), (1, .ref r), (3, .int (nI first)), (4, .int (nI (zbas cn len))), (5, .int (nI len))]) F d_CO_read_33 (by decide) rfl ?_
          refine zj_iload_n F d_CO_read_35 1 rfl rfl ?_
          refine zj_iload_n F d_CO_read_36 4 rfl rfl ?_
          refine zj_isub F d_CO_read_37 (pk_sub (by omega)) ?_
          refine zj_iload F d_CO_read_38 0 rfl ?_
          refine zj_icmp_ge (tgt := 55) F d_CO_read_40 (by decide) (nI_leI (by omega) (by omega)) (fun h40 => ?_) (fun h40 => ?_)
          · refine zj_iload F d_CO_read_55 5 rfl ?_
            refine zj_iload F d_CO_read_57 0 rfl ?_
            refine zj_iadd (z := nI (zbas cn (len + 1))) F d_CO_read_59 (by rw [nI_add, hz1]) ?_
            refine zj_istore (L' := [(4, .int (nI (zbas cn (len + 1)))), (6, .int (nI (cn len))), (2, .int (nI ((2 * code) + (zbit t p1)))), (0, .ref c), (1, .ref r), (3, .int (nI first)), (5, .int (nI len))]) F d_CO_read_60 (by decide) rfl ?_
            refine zj_iconst (v := nI 2) F d_CO_read_62 (by decide) ?_
            refine zj_iload_n F d_CO_read_63 5 rfl rfl ?_
            refine zj_iload F d_CO_read_64 1 rfl ?_
            refine zj_iadd F d_CO_read_66 (nI_add _ _) ?_
            refine zj_imul F d_CO_read_67 (pk_mul _ _) ?_
            refine zj_istore_n (L' := [(3, .int (nI (2 * (first + (cn len))))), (4, .int (nI (zbas cn (len + 1)))), (6, .int (nI (cn len))), (2, .int (nI ((2 * code) + (zbit t p1)))), (0, .ref c), (1, .ref r), (5, .int (nI len))]) F d_CO_read_68 rfl (by decide) rfl ?_
            refine zj_iinc (v := nI (len + 1)) (L' := [(5, .int (nI (len + 1))), (3, .int (nI (2 * (first + (cn len))))), (4, .int (nI (zbas cn (len + 1)))), (6, .int (nI (cn len))), (2, .int (nI ((2 * code) + (zbit t p1)))), (0, .ref c), (1, .ref r)]) F d_CO_read_69 6 rfl (nI_add _ _) (by decide) rfl ?_
            refine zj_goto F d_CO_read_72 (tgt := 10) (by decide) ?_
            rw [if_neg (by omega)] at h6'
            exact zj_sub [5, 6, 4, 1, 2, 0] rfl (ih (len + 1) _ _ _ (by omega) (by omega) (by omega) (by omega) (by rw [Nat.pow_succ] at h5; calc _ ≤ (2 * (code + 1)) * 2 ^ fuel := Nat.mul_le_mul_right _ (by omega)
                    _ = (code + 1) * (2 ^ fuel * 2) := by rw [Nat.mul_comm 2 (code + 1), Nat.mul_assoc, Nat.mul_comm 2]
                    _ ≤ _ := h5) h6')
          · rw [if_pos (by omega)] at h6'
            refine zj_aload_n F d_CO_read_43 2 rfl rfl ?_
            refine zj_get F d_CO_read_44 0 1 rfl rfl in_CO (by decide) q_55 rfl ?_
            refine zj_iload F d_CO_read_47 5 rfl ?_
            refine zj_iload_n F d_CO_read_49 1 rfl rfl ?_
            refine zj_iadd F d_CO_read_50 (nI_add _ _) ?_
            refine zj_iload_n F d_CO_read_51 4 rfl rfl ?_
            refine zj_isub F d_CO_read_52 (pk_sub (by omega)) ?_
            refine zj_iald (z := nI (mf len (2 * code + zbit t p1 - first))) F d_CO_read_53 2 1 (((zbas cn len) + ((2 * code) + (zbit t p1))) - first) rfl rfl rfl (by omega) (by omega) (by unfold zna; rw [← hm len h2 (by omega) _ (by omega)]; congr 2; omega) ?_
            exact zj_iret F E d_CO_read_54 (Nat.le_refl _) (Nat.le_refl _) ⟨_, _, h6'.symm, rfl, rfl⟩
        · obtain ⟨hx1, rfl, rfl⟩ := hq
          exact ⟨rfl, by decide, by decide, [0, 1, 2, 3, 4], [zO c 1 [.ref ca, .ref ma, .ref pa, .int (nI u)], zI K ca 16 (zna cn), zI K ma 288 (zna mg), zO r 0 [.ref b, .int (nI e), .int (nI p1)], zB K b Nb (zby t)], rfl, rfl, ⟨h6.symm.trans (by unfold zdec; rw [if_neg hx1]), rfl, p1, rfl⟩⟩
  exact zj_sub [4, 5, 3, 2, 1, 0] rfl (key 15 1 0 0 p (by omega) (by omega) hp (by omega) (by decide) rfl)
end
section
/-- ADLER of the first n bytes -/
def zadA (t : Nat → Nat) : Nat → Nat
  | 0 => 1
  | n + 1 => (zadA t n + t n) % 65521
def zadB (t : Nat → Nat) : Nat → Nat
  | 0 => 0
  | n + 1 => (zadB t n + zadA t (n + 1)) % 65521
theorem zadA_lt (t : Nat → Nat) : ∀ n, zadA t n < 65521
  | 0 => (by decide : 1 < 65521)
  | n + 1 => Nat.mod_lt _ (by decide)
theorem zadB_lt (t : Nat → Nat) : ∀ n, zadB t n < 65521
  | 0 => (by decide : 0 < 65521)
  | n + 1 => Nat.mod_lt _ (by decide)
def zadl (t : Nat → Nat) (n : Nat) : Nat := zadB t n * 65536 + zadA t n
theorem zadl_lt (t : Nat → Nat) (n : Nat) : zadl t n < 2 ^ 32 := by
  have h1 := zadA_lt t n
  have h2 := zadB_lt t n
  unfold zadl
  omega
/-- four bytes of an int, the highest first -/
def zint (t : Nat → Nat) (p : Nat) (x : Int32) : Nat → Nat :=
  va_up (va_up (va_up (va_up t p (zlow (x >>> (nI 24 &&& 31)))) (p + 1) (zlow (x >>> (nI 16 &&& 31)))) (p + 2) (zlow (x >>> (nI 8 &&& 31)))) (p + 3) (zlow x)
theorem zint_lt {t : Nat → Nat} (h : ∀ j, t j < 256) (p : Nat) (x : Int32) : ∀ j, zint t p x j < 256 := zby_lt (zby_lt (zby_lt (zby_lt h _ _) _ _) _ _) _ _
set_option maxHeartbeats 4000000 in
set_option maxRecDepth 100000 in
/-- adlerOf(bytes, length) -/
theorem m_adlerOf (l : Launch) (K : zk) (b Nb n : Nat) (t : Nat → Nat) (hb : ∀ j, t j < 256) (hN : Nb < 2 ^ 24) (hn : n ≤ Nb) : zc l K y_ZB_adlerOf w_ZB_adlerOf { frames := 0, cells := 0, slots := 0, locals := 0 } 0 0 0 0 [.ref b, .int (nI n)] [zB K b Nb (zby t)] (fun v w1 => v = some (.int (nI (zadl t n))) ∧ w1 = [zB K b Nb (zby t)]) (fun _ _ => False) := by
  refine zc_of (cc := c_ZB_adlerOf) (nl := 5) (ret := (some .int)) (by decide) (Nat.le_of_ble_eq_true rfl) (fun G F E => ?_)
  have F : zf G l K { frames := 0, cells := 0, slots := 0, locals := 0 } "ZlibBox" c_ZB_adlerOf 5 := F
  show zj G 0 0 0 [(0, .ref b), (1, .int (nI n))] [] [zB K b Nb (zby t)]
  refine zj_iconst (v := nI 1) F d_ZB_adlerOf_0 (by decide) ?_
  refine zj_istore_n (L' := [(2, .int (nI 1)), (0, .ref b), (1, .int (nI n))]) F d_ZB_adlerOf_1 rfl (by decide) rfl ?_
  refine zj_iconst (v := nI 0) F d_ZB_adlerOf_2 (by decide) ?_
  refine zj_istore_n (L' := [(3, .int (nI 0)), (2, .int (nI 1)), (0, .ref b), (1, .int (nI n))]) F d_ZB_adlerOf_3 rfl (by decide) rfl ?_
  refine zj_iconst (v := nI 0) F d_ZB_adlerOf_4 (by decide) ?_
  refine zj_istore (L' := [(4, .int (nI 0)), (3, .int (nI 0)), (2, .int (nI 1)), (0, .ref b), (1, .int (nI n))]) F d_ZB_adlerOf_5 (by decide) rfl ?_
  have key : ∀ i, i ≤ n → zj G 0 0 7 [(0, .ref b), (1, .int (nI n)), (2, .int (nI (zadA t i))), (3, .int (nI (zadB t i))), (4, .int (nI i))] [] [zB K b Nb (zby t)] := by
    refine zdown n ?_ ?_
    · have h1 := zadA_lt t n
      show zj G 0 0 7 [(0, .ref b), (1, .int (nI n)), (2, .int (nI (zadA t n))), (3, .int (nI (zadB t n))), (4, .int (nI n))] [] [zB K b Nb (zby t)]
      refine zj_iload F d_ZB_adlerOf_7 4 rfl ?_
      refine zj_iload_n F d_ZB_adlerOf_9 1 rfl rfl ?_
      refine zj_icmp_ge (tgt := 40) F d_ZB_adlerOf_10 (by decide) (nI_leI (by omega) (by omega)) (fun h10 => ?_) (fun h10 => ?_)
      · refine zj_iload_n F d_ZB_adlerOf_40 3 rfl rfl ?_
        refine zj_bipush (v := nI 16) F d_ZB_adlerOf_41 (by decide) ?_
        refine zj_ishl (z := nI (zadB t n * 2 ^ 16)) F d_ZB_adlerOf_43 (zI_shl (by decide)) ?_
        refine zj_iload_n F d_ZB_adlerOf_44 2 rfl rfl ?_
        refine zj_ior (z := nI (zadl t n)) F d_ZB_adlerOf_45 (zI_or3 16 (by omega)) ?_
        exact zj_iret F E d_ZB_adlerOf_46 (Nat.le_refl _) (Nat.le_refl _) ⟨rfl, rfl⟩
      · exact absurd (Nat.le_refl n) h10
    · intro i hi ih
      have h1 := zadA_lt t i
      have h2 := zadB_lt t i
      have h3 := hb i
      have h4 := zadA_lt t (i + 1)
      show zj G 0 0 7 [(0, .ref b), (1, .int (nI n)), (2, .int (nI (zadA t i))), (3, .int (nI (zadB t i))), (4, .int (nI i))] [] [zB K b Nb (zby t)]
      refine zj_iload F d_ZB_adlerOf_7 4 rfl ?_
      refine zj_iload_n F d_ZB_adlerOf_9 1 rfl rfl ?_
      refine zj_icmp_ge (tgt := 40) F d_ZB_adlerOf_10 (by decide) (nI_leI (by omega) (by omega)) (fun h10 => ?_) (fun h10 => ?_)
      · exact absurd h10 (by omega)
      · refine zj_iload_n F d_ZB_adlerOf_13 2 rfl rfl ?_
        refine zj_aload_n F d_ZB_adlerOf_14 0 rfl rfl ?_
        refine zj_iload F d_ZB_adlerOf_15 4 rfl ?_
        refine zj_bald (z := zby t i) F d_ZB_adlerOf_17 0 0 i rfl rfl rfl (by omega) (by omega) rfl ?_
        refine zj_sipush (v := nI 255) F d_ZB_adlerOf_18 (by decide) ?_
        refine zj_iand (z := nI (t i)) F d_ZB_adlerOf_21 (zby_and (hb i)) ?_
        refine zj_iadd F d_ZB_adlerOf_22 (nI_add _ _) ?_
        refine zj_ldc (v := nI 65521) F d_ZB_adlerOf_23 q_182 ?_
        refine zj_irem (z := nI (zadA t (i + 1))) F d_ZB_adlerOf_25 (by decide) (pk_rem (by omega) (by decide) (by decide)) ?_
        refine zj_istore_n (L' := [(2, .int (nI (zadA t (i + 1)))), (0, .ref b), (1, .int (nI n)), (3, .int (nI (zadB t i))), (4, .int (nI i))]) F d_ZB_adlerOf_26 rfl (by decide) rfl ?_
        refine zj_iload_n F d_ZB_adlerOf_27 3 rfl rfl ?_
        refine zj_iload_n F d_ZB_adlerOf_28 0 rfl rfl ?_
        refine zj_iadd F d_ZB_adlerOf_29 (nI_add _ _) ?_
        refine zj_ldc (v := nI 65521) F d_ZB_adlerOf_30 q_182 ?_
        refine zj_irem (z := nI (zadB t (i + 1))) F d_ZB_adlerOf_32 (by decide) (pk_rem (by omega) (by decide) (by decide)) ?_
        refine zj_istore_n (L' := [(3, .int (nI (zadB t (i + 1)))), (2, .int (nI (zadA t (i + 1)))), (0, .ref b), (1, .int (nI n)), (4, .int (nI i))]) F d_ZB_adlerOf_33 rfl (by decide) rfl ?_
        refine zj_iinc (v := nI (i + 1)) (L' := [(4, .int (nI (i + 1))), (3, .int (nI (zadB t (i + 1)))), (2, .int (nI (zadA t (i + 1)))), (0, .ref b), (1, .int (nI n))]) F d_ZB_adlerOf_34 4 rfl (nI_add _ _) (by decide) rfl ?_
        refine zj_goto F d_ZB_adlerOf_37 (tgt := 7) (by decide) ?_
        exact zj_sub [3, 4, 2, 1, 0] rfl ih
  exact zj_sub [3, 4, 2, 1, 0] rfl (key 0 (Nat.zero_le _))
set_option maxHeartbeats 4000000 in
set_option maxRecDepth 100000 in
/-- putInt(place, value) -/
theorem m_putInt (l : Launch) (K : zk) (x tb n rb rl db un pk p : Nat) (t : Nat → Nat) (v : Int32) (hp : p + 4 ≤ 16384) : zc l K y_ZB_putInt w_ZB_putInt { frames := 0, cells := 0, slots := 0, locals := 0 } 0 0 0 0 [.ref x, .int (nI p), .int v] [zO x 4 [.ref tb, .int (nI n), .ref rb, .int (nI rl), .ref db, .ref un, .ref pk], zB K tb 16384 (zby t)] (fun r w1 => r = none ∧ w1 = [zO x 4 [.ref tb, .int (nI n), .ref rb, .int (nI rl), .ref db, .ref un, .ref pk], zB K tb 16384 (zby (zint t p v))]) (fun _ _ => False) := by
  refine zc_of (cc := c_ZB_putInt) (nl := 3) (ret := none) (by decide) (Nat.le_of_ble_eq_true rfl) (fun G F E => ?_)
  have F : zf G l K { frames := 0, cells := 0, slots := 0, locals := 0 } "ZlibBox" c_ZB_putInt 3 := F
  show zj G 0 0 0 [(0, .ref x), (1, .int (nI p)), (2, .int v)] [] [zO x 4 [.ref tb, .int (nI n), .ref rb, .int (nI rl), .ref db, .ref un, .ref pk], zB K tb 16384 (zby t)]
  refine zj_aload_n F d_ZB_putInt_0 0 rfl rfl ?_
  refine zj_get F d_ZB_putInt_1 0 0 rfl rfl in_ZB (by decide) q_146 rfl ?_
  refine zj_iload_n F d_ZB_putInt_4 1 rfl rfl ?_
  refine zj_iload_n F d_ZB_putInt_5 2 rfl rfl ?_
  refine zj_bipush (v := nI 24) F d_ZB_putInt_6 (by decide) ?_
  refine zj_ishr F d_ZB_putInt_8 rfl ?_
  refine zj_i2b F d_ZB_putInt_9 rfl ?_
  refine zj_bast (ws' := [zO x 4 [.ref tb, .int (nI n), .ref rb, .int (nI rl), .ref db, .ref un, .ref pk], zB K tb 16384 (zby (va_up t p (zlow (v >>> ((nI 24) &&& 31)))))]) F d_ZB_putInt_10 1 0 p rfl rfl rfl (by omega) (by omega) (by rw [zby_updB]; rfl) ?_
  refine zj_aload_n F d_ZB_putInt_11 0 rfl rfl ?_
  refine zj_get F d_ZB_putInt_12 0 0 rfl rfl in_ZB (by decide) q_146 rfl ?_
  refine zj_iload_n F d_ZB_putInt_15 1 rfl rfl ?_
  refine zj_iconst (v := nI 1) F d_ZB_putInt_16 (by decide) ?_
  refine zj_iadd F d_ZB_putInt_17 (nI_add _ _) ?_
  refine zj_iload_n F d_ZB_putInt_18 2 rfl rfl ?_
  refine zj_bipush (v := nI 16) F d_ZB_putInt_19 (by decide) ?_
  refine zj_ishr F d_ZB_putInt_21 rfl ?_
  refine zj_i2b F d_ZB_putInt_22 rfl ?_
  refine zj_bast (ws' := [zO x 4 [.ref tb, .int (nI n), .ref rb, .int (nI rl), .ref db, .ref un, .ref pk], zB K tb 16384 (zby (va_up (va_up t p (zlow (v >>> ((nI 24) &&& 31)))) (p + 1) (zlow (v >>> ((nI 16) &&& 31)))))]) F d_ZB_putInt_23 1 0 (p + 1) rfl rfl rfl (by omega) (by omega) (by rw [zby_updB]; rfl) ?_
  refine zj_aload_n F d_ZB_putInt_24 0 rfl rfl ?_
  refine zj_get F d_ZB_putInt_25 0 0 rfl rfl in_ZB (by decide) q_146 rfl ?_
  refine zj_iload_n F d_ZB_putInt_28 1 rfl rfl ?_
  refine zj_iconst (v := nI 2) F d_ZB_putInt_29 (by decide) ?_
  refine zj_iadd F d_ZB_putInt_30 (nI_add _ _) ?_
  refine zj_iload_n F d_ZB_putInt_31 2 rfl rfl ?_
  refine zj_bipush (v := nI 8) F d_ZB_putInt_32 (by decide) ?_
  refine zj_ishr F d_ZB_putInt_34 rfl ?_
  refine zj_i2b F d_ZB_putInt_35 rfl ?_
  refine zj_bast (ws' := [zO x 4 [.ref tb, .int (nI n), .ref rb, .int (nI rl), .ref db, .ref un, .ref pk], zB K tb 16384 (zby (va_up (va_up (va_up t p (zlow (v >>> ((nI 24) &&& 31)))) (p + 1) (zlow (v >>> ((nI 16) &&& 31)))) (p + 2) (zlow (v >>> ((nI 8) &&& 31)))))]) F d_ZB_putInt_36 1 0 (p + 2) rfl rfl rfl (by omega) (by omega) (by rw [zby_updB]; rfl) ?_
  refine zj_aload_n F d_ZB_putInt_37 0 rfl rfl ?_
  refine zj_get F d_ZB_putInt_38 0 0 rfl rfl in_ZB (by decide) q_146 rfl ?_
  refine zj_iload_n F d_ZB_putInt_41 1 rfl rfl ?_
  refine zj_iconst (v := nI 3) F d_ZB_putInt_42 (by decide) ?_
  refine zj_iadd F d_ZB_putInt_43 (nI_add _ _) ?_
  refine zj_iload_n F d_ZB_putInt_44 2 rfl rfl ?_
  refine zj_i2b F d_ZB_putInt_45 rfl ?_
  refine zj_bast (ws' := [zO x 4 [.ref tb, .int (nI n), .ref rb, .int (nI rl), .ref db, .ref un, .ref pk], zB K tb 16384 (zby (va_up (va_up (va_up (va_up t p (zlow (v >>> ((nI 24) &&& 31)))) (p + 1) (zlow (v >>> ((nI 16) &&& 31)))) (p + 2) (zlow (v >>> ((nI 8) &&& 31)))) (p + 3) (zlow (v))))]) F d_ZB_putInt_46 1 0 (p + 3) rfl rfl rfl (by omega) (by omega) (by rw [zby_updB]; rfl) ?_
  exact zj_vret F E d_ZB_putInt_47 (Nat.le_refl _) (Nat.le_refl _) ⟨rfl, rfl⟩
set_option maxHeartbeats 4000000 in
set_option maxRecDepth 100000 in
/-- keepDraft(length) -/
theorem m_keepDraft (l : Launch) (K : zk) (x tb n rb rl db un pk c : Nat)  : zc l K y_ZB_keepDraft w_ZB_keepDraft { frames := 0, cells := 0, slots := 0, locals := 0 } 0 0 0 0 [.ref x, .int (nI c)] [zO x 4 [.ref tb, .int (nI n), .ref rb, .int (nI rl), .ref db, .ref un, .ref pk]] (fun r w1 => r = some (.int (nI c)) ∧ w1 = [zO x 4 [.ref tb, .int (nI n), .ref db, .int (nI c), .ref rb, .ref un, .ref pk]]) (fun _ _ => False) := by
  refine zc_of (cc := c_ZB_keepDraft) (nl := 3) (ret := (some .int)) (by decide) (Nat.le_of_ble_eq_true rfl) (fun G F E => ?_)
  have F : zf G l K { frames := 0, cells := 0, slots := 0, locals := 0 } "ZlibBox" c_ZB_keepDraft 3 := F
  show zj G 0 0 0 [(0, .ref x), (1, .int (nI c))] [] [zO x 4 [.ref tb, .int (nI n), .ref rb, .int (nI rl), .ref db, .ref un, .ref pk]]
  refine zj_aload_n F d_ZB_keepDraft_0 0 rfl rfl ?_
  refine zj_get F d_ZB_keepDraft_1 0 2 rfl rfl in_ZB (by decide) q_148 rfl ?_
  refine zj_astore_n (L' := [(2, .ref rb), (0, .ref x), (1, .int (nI c))]) F d_ZB_keepDraft_4 rfl (by decide) rfl ?_
  refine zj_aload_n F d_ZB_keepDraft_5 1 rfl rfl ?_
  refine zj_aload_n F d_ZB_keepDraft_6 1 rfl rfl ?_
  refine zj_get F d_ZB_keepDraft_7 0 4 rfl rfl in_ZB (by decide) q_150 rfl ?_
  refine zj_put (ws' := [zO x 4 [.ref tb, .int (nI n), .ref db, .int (nI rl), .ref db, .ref un, .ref pk]]) F d_ZB_keepDraft_10 0 2 rfl rfl in_ZB ty_ZB nm_ZB (by decide) q_148 rfl rfl rfl (Nat.le_of_ble_eq_true rfl) rfl ?_
  refine zj_aload_n F d_ZB_keepDraft_13 1 rfl rfl ?_
  refine zj_aload_n F d_ZB_keepDraft_14 0 rfl rfl ?_
  refine zj_put (ws' := [zO x 4 [.ref tb, .int (nI n), .ref db, .int (nI rl), .ref rb, .ref un, .ref pk]]) F d_ZB_keepDraft_15 0 4 rfl rfl in_ZB ty_ZB nm_ZB (by decide) q_150 rfl rfl rfl (Nat.le_of_ble_eq_true rfl) rfl ?_
  refine zj_aload_n F d_ZB_keepDraft_18 1 rfl rfl ?_
  refine zj_iload_n F d_ZB_keepDraft_19 2 rfl rfl ?_
  refine zj_put (ws' := [zO x 4 [.ref tb, .int (nI n), .ref db, .int (nI c), .ref rb, .ref un, .ref pk]]) F d_ZB_keepDraft_20 0 3 rfl rfl in_ZB ty_ZB nm_ZB (by decide) q_149 rfl rfl rfl (Nat.le_of_ble_eq_true rfl) rfl ?_
  refine zj_iload_n F d_ZB_keepDraft_23 2 rfl rfl ?_
  exact zj_iret F E d_ZB_keepDraft_24 (Nat.le_refl _) (Nat.le_refl _) ⟨rfl, rfl⟩
set_option maxHeartbeats 4000000 in
set_option maxRecDepth 100000 in
/-- count(what) -/
theorem m_count (l : Launch) (hl : l.stackTraces = false) (K : zk) (x tb n rb rl db un pk : Nat) (v : Int32)  : zc l K y_ZB_count w_ZB_count { frames := 6, cells := 1, slots := 6, locals := 100 } 0 0 1 6 [.ref x, .int v] [zO x 4 [.ref tb, .int (nI n), .ref rb, .int (nI rl), .ref db, .ref un, .ref pk]] (fun r w1 => ((v = 0 ∧ r = some (.int (nI n))) ∨ (¬ v = 0 ∧ v = nI 1 ∧ r = some (.int (nI rl)))) ∧ w1 = [zO x 4 [.ref tb, .int (nI n), .ref rb, .int (nI rl), .ref db, .ref un, .ref pk]]) (fun X w1 => (¬ v = 0 ∧ ¬ v = nI 1) ∧ X = "java/lang/IllegalArgumentException" ∧ w1 = [zO x 4 [.ref tb, .int (nI n), .ref rb, .int (nI rl), .ref db, .ref un, .ref pk]]) := by
  refine zc_of (cc := c_ZB_count) (nl := 2) (ret := (some .int)) (by decide) (Nat.le_of_ble_eq_true rfl) (fun G F E => ?_)
  have F : zf G l K { frames := 6, cells := 1, slots := 6, locals := 100 } "ZlibBox" c_ZB_count 2 := F
  show zj G 0 0 0 [(0, .ref x), (1, .int v)] [] [zO x 4 [.ref tb, .int (nI n), .ref rb, .int (nI rl), .ref db, .ref un, .ref pk]]
  refine zj_iload_n F d_ZB_count_0 1 rfl rfl ?_
  refine zj_if_ne (tgt := 9) F d_ZB_count_1 (by decide) Iff.rfl (fun h1 => ?_) (fun h1 => ?_)
  · refine zj_iload_n F d_ZB_count_9 1 rfl rfl ?_
    refine zj_iconst (v := nI 1) F d_ZB_count_10 (by decide) ?_
    refine zj_icmp_ne (tgt := 19) F d_ZB_count_11 (by decide) Iff.rfl (fun h11 => ?_) (fun h11 => ?_)
    · exact zj_throwS (names := zt_up) F E hl d_ZB_count_19 d_ZB_count_22 d_ZB_count_23 d_ZB_count_25 d_ZB_count_28 (by decide +kernel) (by decide +kernel) q_524 (at_ZB_52) ⟨by decide, by decide, by decide, by decide⟩ rfl (by decide) (by decide) ⟨⟨h1, h11⟩, rfl, rfl⟩
    · refine zj_aload_n F d_ZB_count_14 0 rfl rfl ?_
      refine zj_get F d_ZB_count_15 0 3 rfl rfl in_ZB (by decide) q_149 rfl ?_
      exact zj_iret F E d_ZB_count_18 (Nat.le_refl _) (Nat.le_refl _) ⟨Or.inr ⟨h1, h11, rfl⟩, rfl⟩
  · refine zj_aload_n F d_ZB_count_4 0 rfl rfl ?_
    refine zj_get F d_ZB_count_5 0 1 rfl rfl in_ZB (by decide) q_147 rfl ?_
    exact zj_iret F E d_ZB_count_8 (Nat.le_refl _) (Nat.le_refl _) ⟨Or.inl ⟨h1, rfl⟩, rfl⟩
set_option maxHeartbeats 4000000 in
set_option maxRecDepth 100000 in
/-- end(n) -/
theorem m_end (l : Launch) (hl : l.stackTraces = false) (K : zk) (x tb n rb rl db un pk : Nat) (v : Int32) (hn : n ≤ 16384) : zc l K y_ZB_end w_ZB_end { frames := 6, cells := 1, slots := 6, locals := 100 } 0 0 1 6 [.ref x, .int v] [zO x 4 [.ref tb, .int (nI n), .ref rb, .int (nI rl), .ref db, .ref un, .ref pk]] (fun r w1 => ∃ c, v = nI c ∧ c ≤ n ∧ r = some (.int (nI c)) ∧ w1 = [zO x 4 [.ref tb, .int (nI c), .ref rb, .int (nI rl), .ref db, .ref un, .ref pk]]) (fun X w1 => (v < 0 ∨ nI n < v) ∧ X = "java/lang/IllegalArgumentException" ∧ w1 = [zO x 4 [.ref tb, .int (nI n), .ref rb, .int (nI rl), .ref db, .ref un, .ref pk]]) := by
  refine zc_of (cc := c_ZB_end) (nl := 2) (ret := (some .int)) (by decide) (Nat.le_of_ble_eq_true rfl) (fun G F E => ?_)
  have F : zf G l K { frames := 6, cells := 1, slots := 6, locals := 100 } "ZlibBox" c_ZB_end 2 := F
  show zj G 0 0 0 [(0, .ref x), (1, .int v)] [] [zO x 4 [.ref tb, .int (nI n), .ref rb, .int (nI rl), .ref db, .ref un, .ref pk]]
  refine zj_iload_n F d_ZB_end_0 1 rfl rfl ?_
  refine zj_if_lt (tgt := 12) F d_ZB_end_1 (by decide) Iff.rfl (fun h1 => ?_) (fun h1 => ?_)
  · exact zj_throwS (names := zt_up) F E hl d_ZB_end_12 d_ZB_end_15 d_ZB_end_16 d_ZB_end_18 d_ZB_end_21 (by decide +kernel) (by decide +kernel) q_279 (at_ZB_52) ⟨by decide, by decide, by decide, by decide⟩ rfl (by decide) (by decide) ⟨Or.inl h1, rfl, rfl⟩
  · obtain ⟨c, hc, rfl⟩ := nI_of h1
    refine zj_iload_n F d_ZB_end_4 1 rfl rfl ?_
    refine zj_aload_n F d_ZB_end_5 0 rfl rfl ?_
    refine zj_get F d_ZB_end_6 0 1 rfl rfl in_ZB (by decide) q_147 rfl ?_
    refine zj_icmp_le (tgt := 22) F d_ZB_end_9 (by decide) (nI_leI (by omega) (by omega)) (fun h9 => ?_) (fun h9 => ?_)
    · refine zj_aload_n F d_ZB_end_22 0 rfl rfl ?_
      refine zj_iload_n F d_ZB_end_23 1 rfl rfl ?_
      refine zj_put (ws' := [zO x 4 [.ref tb, .int (nI c), .ref rb, .int (nI rl), .ref db, .ref un, .ref pk]]) F d_ZB_end_24 0 1 rfl rfl in_ZB ty_ZB nm_ZB (by decide) q_147 rfl rfl rfl (Nat.le_of_ble_eq_true rfl) rfl ?_
      refine zj_iload_n F d_ZB_end_27 1 rfl rfl ?_
      exact zj_iret F E d_ZB_end_28 (Nat.le_refl _) (Nat.le_refl _) ⟨c, rfl, h9, rfl, rfl⟩
    · exact zj_throwS (names := zt_up) F E hl d_ZB_end_12 d_ZB_end_15 d_ZB_end_16 d_ZB_end_18 d_ZB_end_21 (by decide +kernel) (by decide +kernel) q_279 (at_ZB_52) ⟨by decide, by decide, by decide, by decide⟩ rfl (by decide) (by decide) ⟨Or.inr (nI_lt (by omega) hc), rfl, rfl⟩
set_option maxHeartbeats 4000000 in
set_option maxRecDepth 100000 in
/-- feed(a, b, c, d, e) -/
theorem m_feed (l : Launch) (hl : l.stackTraces = false) (K : zk) (x tb n rb rl db un pk : Nat) (t : Nat → Nat) (v1 v2 v3 v4 v5 : Int32) (hn : n ≤ 16384) : zc l K y_ZB_feed w_ZB_feed { frames := 6, cells := 1, slots := 6, locals := 120 } 0 0 1 6 [.ref x, .int v1, .int v2, .int v3, .int v4, .int v5] [zO x 4 [.ref tb, .int (nI n), .ref rb, .int (nI rl), .ref db, .ref un, .ref pk], zB K tb 16384 (zby t)] (fun r w1 => n + 20 ≤ 16384 ∧ r = some (.int (nI (n + 20))) ∧ w1 = [zO x 4 [.ref tb, .int (nI (n + 20)), .ref rb, .int (nI rl), .ref db, .ref un, .ref pk], zB K tb 16384 (zby (zint (zint (zint (zint (zint t n v1) (n + 4) v2) (n + 8) v3) (n + 12) v4) (n + 16) v5))]) (fun X w1 => ¬ n + 20 ≤ 16384 ∧ X = zY ∧ w1 = [zO x 4 [.ref tb, .int (nI n), .ref rb, .int (nI rl), .ref db, .ref un, .ref pk], zB K tb 16384 (zby t)]) := by
  refine zc_of (cc := c_ZB_feed) (nl := 6) (ret := (some .int)) (by decide) (Nat.le_of_ble_eq_true rfl) (fun G F E => ?_)
  have F : zf G l K { frames := 6, cells := 1, slots := 6, locals := 120 } "ZlibBox" c_ZB_feed 6 := F
  show zj G 0 0 0 [(0, .ref x), (1, .int v1), (2, .int v2), (3, .int v3), (4, .int v4), (5, .int v5)] [] [zO x 4 [.ref tb, .int (nI n), .ref rb, .int (nI rl), .ref db, .ref un, .ref pk], zB K tb 16384 (zby t)]
  refine zj_aload_n F d_ZB_feed_0 0 rfl rfl ?_
  refine zj_get F d_ZB_feed_1 0 1 rfl rfl in_ZB (by decide) q_147 rfl ?_
  refine zj_bipush (v := nI 20) F d_ZB_feed_4 (by decide) ?_
  refine zj_iadd F d_ZB_feed_6 (nI_add _ _) ?_
  refine zj_sipush (v := nI 16384) F d_ZB_feed_7 (by decide) ?_
  refine zj_icmp_le (tgt := 23) F d_ZB_feed_10 (by decide) (nI_leI (by omega) (by omega)) (fun h10 => ?_) (fun h10 => ?_)
  · refine zj_aload_n F d_ZB_feed_23 0 rfl rfl ?_
    refine zj_aload_n F d_ZB_feed_24 0 rfl rfl ?_
    refine zj_get F d_ZB_feed_25 0 1 rfl rfl in_ZB (by decide) q_147 rfl ?_
    refine zj_iload_n F d_ZB_feed_28 1 rfl rfl ?_
    refine zj_call (maxL := 3) (wr := []) F E (m_putInt l K x tb n rb rl db un pk n t v1 (by omega)) (zi_V (As := [.int (nI n), .int v1]) (rest := []) F d_ZB_feed_29 0 rfl rfl rfl q_258 q_260 sel_ZB_putInt q_261 (Or.inl ⟨_, _, rfl⟩) (by decide) (show Option.map (fun d => d.parameters.length) (parseMethodDescriptor y_ZB_putInt.desc) = some 2 from by decide +kernel)) d_ZB_feed_29 q_261 (Or.inl ⟨_, _, rfl⟩) q_1 [0, 1] [] rfl rfl rfl rfl (by decide) ⟨by decide, by decide, by decide, by decide⟩ (Nat.le_of_ble_eq_true rfl) (fun v w1 hq => ?_) (fun X w1 hq => ?_)
    · obtain ⟨rfl, rfl⟩ := hq
      show zj G 0 0 32 [(0, .ref x), (1, .int v1), (2, .int v2), (3, .int v3), (4, .int v4), (5, .int v5)] [] [zO x 4 [.ref tb, .int (nI n), .ref rb, .int (nI rl), .ref db, .ref un, .ref pk], zB K tb 16384 (zby (zint t n v1))]
      refine zj_aload_n F d_ZB_feed_32 0 rfl rfl ?_
      refine zj_aload_n F d_ZB_feed_33 0 rfl rfl ?_
      refine zj_get F d_ZB_feed_34 0 1 rfl rfl in_ZB (by decide) q_147 rfl ?_
      refine zj_iconst (v := nI 4) F d_ZB_feed_37 (by decide) ?_
      refine zj_iadd F d_ZB_feed_38 (nI_add _ _) ?_
      refine zj_iload_n F d_ZB_feed_39 2 rfl rfl ?_
      refine zj_call (maxL := 3) (wr := []) F E (m_putInt l K x tb n rb rl db un pk (n + 4) (zint t n v1) v2 (by omega)) (zi_V (As := [.int (nI (n + 4)), .int v2]) (rest := []) F d_ZB_feed_40 0 rfl rfl rfl q_258 q_260 sel_ZB_putInt q_261 (Or.inl ⟨_, _, rfl⟩) (by decide) (show Option.map (fun d => d.parameters.length) (parseMethodDescriptor y_ZB_putInt.desc) = some 2 from by decide +kernel)) d_ZB_feed_40 q_261 (Or.inl ⟨_, _, rfl⟩) q_1 [0, 1] [] rfl rfl rfl rfl (by decide) ⟨by decide, by decide, by decide, by decide⟩ (Nat.le_of_ble_eq_true rfl) (fun v w1 hq => ?_) (fun X w1 hq => ?_)
      · obtain ⟨rfl, rfl⟩ := hq
        show zj G 0 0 43 [(0, .ref x), (1, .int v1), (2, .int v2), (3, .int v3), (4, .int v4), (5, .int v5)] [] [zO x 4 [.ref tb, .int (nI n), .ref rb, .int (nI rl), .ref db, .ref un, .ref pk], zB K tb 16384 (zby (zint (zint t n v1) (n + 4) v2))]
        refine zj_aload_n F d_ZB_feed_43 0 rfl rfl ?_
        refine zj_aload_n F d_ZB_feed_44 0 rfl rfl ?_
        refine zj_get F d_ZB_feed_45 0 1 rfl rfl in_ZB (by decide) q_147 rfl ?_
        refine zj_bipush (v := nI 8) F d_ZB_feed_48 (by decide) ?_
        refine zj_iadd F d_ZB_feed_50 (nI_add _ _) ?_
        refine zj_iload_n F d_ZB_feed_51 3 rfl rfl ?_
        refine zj_call (maxL := 3) (wr := []) F E (m_putInt l K x tb n rb rl db un pk (n + 8) (zint (zint t n v1) (n + 4) v2) v3 (by omega)) (zi_V (As := [.int (nI (n + 8)), .int v3]) (rest := []) F d_ZB_feed_52 0 rfl rfl rfl q_258 q_260 sel_ZB_putInt q_261 (Or.inl ⟨_, _, rfl⟩) (by decide) (show Option.map (fun d => d.parameters.length) (parseMethodDescriptor y_ZB_putInt.desc) = some 2 from by decide +kernel)) d_ZB_feed_52 q_261 (Or.inl ⟨_, _, rfl⟩) q_1 [0, 1] [] rfl rfl rfl rfl (by decide) ⟨by decide, by decide, by decide, by decide⟩ (Nat.le_of_ble_eq_true rfl) (fun v w1 hq => ?_) (fun X w1 hq => ?_)
        · obtain ⟨rfl, rfl⟩ := hq
          show zj G 0 0 55 [(0, .ref x), (1, .int v1), (2, .int v2), (3, .int v3), (4, .int v4), (5, .int v5)] [] [zO x 4 [.ref tb, .int (nI n), .ref rb, .int (nI rl), .ref db, .ref un, .ref pk], zB K tb 16384 (zby (zint (zint (zint t n v1) (n + 4) v2) (n + 8) v3))]
          refine zj_aload_n F d_ZB_feed_55 0 rfl rfl ?_
          refine zj_aload_n F d_ZB_feed_56 0 rfl rfl ?_
          refine zj_get F d_ZB_feed_57 0 1 rfl rfl in_ZB (by decide) q_147 rfl ?_
          refine zj_bipush (v := nI 12) F d_ZB_feed_60 (by decide) ?_
          refine zj_iadd F d_ZB_feed_62 (nI_add _ _) ?_
          refine zj_iload F d_ZB_feed_63 4 rfl ?_
          refine zj_call (maxL := 3) (wr := []) F E (m_putInt l K x tb n rb rl db un pk (n + 12) (zint (zint (zint t n v1) (n + 4) v2) (n + 8) v3) v4 (by omega)) (zi_V (As := [.int (nI (n + 12)), .int v4]) (rest := []) F d_ZB_feed_65 0 rfl rfl rfl q_258 q_260 sel_ZB_putInt q_261 (Or.inl ⟨_, _, rfl⟩) (by decide) (show Option.map (fun d => d.parameters.length) (parseMethodDescriptor y_ZB_putInt.desc) = some 2 from by decide +kernel)) d_ZB_feed_65 q_261 (Or.inl ⟨_, _, rfl⟩) q_1 [0, 1] [] rfl rfl rfl rfl (by decide) ⟨by decide, by decide, by decide, by decide⟩ (Nat.le_of_ble_eq_true rfl) (fun v w1 hq => ?_) (fun X w1 hq => ?_)
          · obtain ⟨rfl, rfl⟩ := hq
            show zj G 0 0 68 [(0, .ref x), (1, .int v1), (2, .int v2), (3, .int v3), (4, .int v4), (5, .int v5)] [] [zO x 4 [.ref tb, .int (nI n), .ref rb, .int (nI rl), .ref db, .ref un, .ref pk], zB K tb 16384 (zby (zint (zint (zint (zint t n v1) (n + 4) v2) (n + 8) v3) (n + 12) v4))]
            refine zj_aload_n F d_ZB_feed_68 0 rfl rfl ?_
            refine zj_aload_n F d_ZB_feed_69 0 rfl rfl ?_
            refine zj_get F d_ZB_feed_70 0 1 rfl rfl in_ZB (by decide) q_147 rfl ?_
            refine zj_bipush (v := nI 16) F d_ZB_feed_73 (by decide) ?_
            refine zj_iadd F d_ZB_feed_75 (nI_add _ _) ?_
            refine zj_iload F d_ZB_feed_76 5 rfl ?_
            refine zj_call (maxL := 3) (wr := []) F E (m_putInt l K x tb n rb rl db un pk (n + 16) (zint (zint (zint (zint t n v1) (n + 4) v2) (n + 8) v3) (n + 12) v4) v5 (by omega)) (zi_V (As := [.int (nI (n + 16)), .int v5]) (rest := []) F d_ZB_feed_78 0 rfl rfl rfl q_258 q_260 sel_ZB_putInt q_261 (Or.inl ⟨_, _, rfl⟩) (by decide) (show Option.map (fun d => d.parameters.length) (parseMethodDescriptor y_ZB_putInt.desc) = some 2 from by decide +kernel)) d_ZB_feed_78 q_261 (Or.inl ⟨_, _, rfl⟩) q_1 [0, 1] [] rfl rfl rfl rfl (by decide) ⟨by decide, by decide, by decide, by decide⟩ (Nat.le_of_ble_eq_true rfl) (fun v w1 hq => ?_) (fun X w1 hq => ?_)
            · obtain ⟨rfl, rfl⟩ := hq
              show zj G 0 0 81 [(0, .ref x), (1, .int v1), (2, .int v2), (3, .int v3), (4, .int v4), (5, .int v5)] [] [zO x 4 [.ref tb, .int (nI n), .ref rb, .int (nI rl), .ref db, .ref un, .ref pk], zB K tb 16384 (zby (zint (zint (zint (zint (zint t n v1) (n + 4) v2) (n + 8) v3) (n + 12) v4) (n + 16) v5))]
              refine zj_aload_n F d_ZB_feed_81 0 rfl rfl ?_
              refine zj_dup F d_ZB_feed_82 rfl ?_
              refine zj_get F d_ZB_feed_83 0 1 rfl rfl in_ZB (by decide) q_147 rfl ?_
              refine zj_bipush (v := nI 20) F d_ZB_feed_86 (by decide) ?_
              refine zj_iadd F d_ZB_feed_88 (nI_add _ _) ?_
              refine zj_put (ws' := [zO x 4 [.ref tb, .int (nI (n + 20)), .ref rb, .int (nI rl), .ref db, .ref un, .ref pk], zB K tb 16384 (zby (zint (zint (zint (zint (zint t n v1) (n + 4) v2) (n + 8) v3) (n + 12) v4) (n + 16) v5))]) F d_ZB_feed_89 0 1 rfl rfl in_ZB ty_ZB nm_ZB (by decide) q_147 rfl rfl rfl (Nat.le_of_ble_eq_true rfl) rfl ?_
              refine zj_aload_n F d_ZB_feed_92 0 rfl rfl ?_
              refine zj_get F d_ZB_feed_93 0 1 rfl rfl in_ZB (by decide) q_147 rfl ?_
              exact zj_iret F E d_ZB_feed_96 (Nat.le_refl _) (Nat.le_refl _) ⟨h10, rfl, rfl⟩
            · exact hq.elim
          · exact hq.elim
        · exact hq.elim
      · exact hq.elim
    · exact hq.elim
  · exact zj_throwS (names := zt_up) F E hl d_ZB_feed_13 d_ZB_feed_16 d_ZB_feed_17 d_ZB_feed_19 d_ZB_feed_22 (by decide +kernel) (by decide +kernel) q_232 (at_ZB_41) ⟨by decide, by decide, by decide, by decide⟩ rfl (by decide) (by decide) ⟨h10, rfl, rfl⟩
set_option maxHeartbeats 4000000 in
set_option maxRecDepth 100000 in
/-- adler() -/
theorem m_adler (l : Launch) (K : zk) (x tb n rb rl db un pk : Nat) (t : Nat → Nat) (hb : ∀ j, t j < 256) (hn : n ≤ 16384) : zc l K y_ZB_adler w_ZB_adler { frames := 1, cells := 0, slots := 0, locals := 24 } 0 0 0 0 [.ref x] [zO x 4 [.ref tb, .int (nI n), .ref rb, .int (nI rl), .ref db, .ref un, .ref pk], zB K tb 16384 (zby t)] (fun r w1 => r = some (.int (nI (zadl t n))) ∧ w1 = [zO x 4 [.ref tb, .int (nI n), .ref rb, .int (nI rl), .ref db, .ref un, .ref pk], zB K tb 16384 (zby t)]) (fun _ _ => False) := by
  refine zc_of (cc := c_ZB_adler) (nl := 1) (ret := (some .int)) (by decide) (Nat.le_of_ble_eq_true rfl) (fun G F E => ?_)
  have F : zf G l K { frames := 1, cells := 0, slots := 0, locals := 24 } "ZlibBox" c_ZB_adler 1 := F
  show zj G 0 0 0 [(0, .ref x)] [] [zO x 4 [.ref tb, .int (nI n), .ref rb, .int (nI rl), .ref db, .ref un, .ref pk], zB K tb 16384 (zby t)]
  refine zj_aload_n F d_ZB_adler_0 0 rfl rfl ?_
  refine zj_get F d_ZB_adler_1 0 0 rfl rfl in_ZB (by decide) q_146 rfl ?_
  refine zj_aload_n F d_ZB_adler_4 0 rfl rfl ?_
  refine zj_get F d_ZB_adler_5 0 1 rfl rfl in_ZB (by decide) q_147 rfl ?_
  refine zj_call (maxL := 5) (wr := [zO x 4 [.ref tb, .int (nI n), .ref rb, .int (nI rl), .ref db, .ref un, .ref pk]]) F E (m_adlerOf l K tb 16384 n t hb (by decide) hn) (zi_S (As := [.ref tb, .int (nI n)]) (rest := []) F d_ZB_adler_8 q_179 q_180 q_1 q_181 (Or.inl ⟨_, _, rfl⟩) (by decide) (show Option.map (fun d => d.parameters.length) (parseMethodDescriptor y_ZB_adlerOf.desc) = some 2 from by decide +kernel)) d_ZB_adler_8 q_181 (Or.inl ⟨_, _, rfl⟩) q_1 [1] [0] rfl rfl rfl rfl (by decide) ⟨by decide, by decide, by decide, by decide⟩ (Nat.le_of_ble_eq_true rfl) (fun v w1 hq => ?_) (fun X w1 hq => ?_)
  · obtain ⟨rfl, rfl⟩ := hq
    show zj G 0 0 11 [(0, .ref x)] [.int (nI (zadl t n))] [zO x 4 [.ref tb, .int (nI n), .ref rb, .int (nI rl), .ref db, .ref un, .ref pk], zB K tb 16384 (zby t)]
    exact zj_iret F E d_ZB_adler_11 (Nat.le_refl _) (Nat.le_refl _) ⟨rfl, rfl⟩
  · exact hq.elim
def zfil (f : Nat → Int32) (v : Int32) : Nat → (Nat → Int32)
  | 0 => f
  | i + 1 => upd (zfil f v i) i v
theorem zfil_eq (f : Nat → Int32) (v : Int32) : ∀ i j, zfil f v i j = if j < i then v else f j
  | 0, j => by rw [if_neg (by omega)]; rfl
  | i + 1, j => by
    show upd (zfil f v i) i v j = _
    unfold upd
    by_cases h : j = i
    · rw [if_pos h, if_pos (by omega)]
    · rw [if_neg h, zfil_eq f v i j]
      by_cases h2 : j < i
      · rw [if_pos h2, if_pos (by omega)]
      · rw [if_neg h2, if_neg (by omega)]
set_option maxHeartbeats 4000000 in
set_option maxRecDepth 100000 in
/-- Arrays.fill(int[], int) -/
theorem m_fill (l : Launch) (K : zk) (a n : Nat) (f : Nat → Int32) (v : Int32) (hn : n < 2 ^ 24) : zc l K y_AR_fill w_AR_fill { frames := 0, cells := 0, slots := 0, locals := 0 } 0 0 0 0 [.ref a, .int v] [zI K a n f] (fun r w1 => r = none ∧ w1 = [zI K a n (zfil f v n)]) (fun _ _ => False) := by
  refine zc_of (cc := c_AR_fill) (nl := 4) (ret := none) (by decide) (Nat.le_of_ble_eq_true rfl) (fun G F E => ?_)
  have F : zf G l K { frames := 0, cells := 0, slots := 0, locals := 0 } "java/util/Arrays" c_AR_fill 4 := F
  show zj G 0 0 0 [(0, .ref a), (1, .int v)] [] [zI K a n f]
  refine zj_iconst (v := nI 0) F d_AR_fill_0 (by decide) ?_
  refine zj_istore_n (L' := [(2, .int (nI 0)), (0, .ref a), (1, .int v)]) F d_AR_fill_1 rfl (by decide) rfl ?_
  refine zj_aload_n F d_AR_fill_2 1 rfl rfl ?_
  refine zj_alen F d_AR_fill_3 0 1 rfl rfl ?_
  refine zj_istore_n (L' := [(3, .int (nI n)), (2, .int (nI 0)), (0, .ref a), (1, .int v)]) F d_AR_fill_4 rfl (by decide) rfl ?_
  have key : ∀ i, i ≤ n → zj G 0 0 5 [(0, .ref a), (1, .int v), (2, .int (nI i)), (3, .int (nI n))] [] [zI K a n (zfil f v i)] := by
    refine zdown n ?_ ?_
    · show zj G 0 0 5 [(0, .ref a), (1, .int v), (2, .int (nI n)), (3, .int (nI n))] [] [zI K a n (zfil f v n)]
      refine zj_iload_n F d_AR_fill_5 2 rfl rfl ?_
      refine zj_iload_n F d_AR_fill_6 3 rfl rfl ?_
      refine zj_icmp_ge (tgt := 20) F d_AR_fill_7 (by decide) (nI_leI (by omega) (by omega)) (fun h7 => ?_) (fun h7 => ?_)
      · exact zj_vret F E d_AR_fill_20 (Nat.le_refl _) (Nat.le_refl _) ⟨rfl, rfl⟩
      · exact absurd (Nat.le_refl n) h7
    · intro i hi ih
      show zj G 0 0 5 [(0, .ref a), (1, .int v), (2, .int (nI i)), (3, .int (nI n))] [] [zI K a n (zfil f v i)]
      refine zj_iload_n F d_AR_fill_5 2 rfl rfl ?_
      refine zj_iload_n F d_AR_fill_6 3 rfl rfl ?_
      refine zj_icmp_ge (tgt := 20) F d_AR_fill_7 (by decide) (nI_leI (by omega) (by omega)) (fun h7 => ?_) (fun h7 => ?_)
      · exact absurd h7 (by omega)
      · refine zj_aload_n F d_AR_fill_10 0 rfl rfl ?_
        refine zj_iload_n F d_AR_fill_11 2 rfl rfl ?_
        refine zj_iload_n F d_AR_fill_12 1 rfl rfl ?_
        refine zj_iast (ws' := [zI K a n (zfil f v (i + 1))]) F d_AR_fill_13 0 1 i rfl rfl rfl (by omega) (by omega) rfl ?_
        refine zj_iinc (v := nI (i + 1)) (L' := [(2, .int (nI (i + 1))), (0, .ref a), (1, .int v), (3, .int (nI n))]) F d_AR_fill_14 2 rfl (nI_add _ _) (by decide) rfl ?_
        refine zj_goto F d_AR_fill_17 (tgt := 5) (by decide) ?_
        exact zj_sub [1, 2, 0, 3] rfl ih
  exact zj_sub [2, 3, 1, 0] rfl (key 0 (Nat.zero_le _))
end
section
theorem zby_low {o : Nat → Nat} {j : Nat} (h : o j < 256) : zlow (zby o j) = o j := zlow_sb _ h
theorem zup_lt {o : Nat → Nat} (h : ∀ j, o j < 256) (k : Nat) {v : Nat} (hv : v < 256) : ∀ j, va_up o k v j < 256 := by
  intro j
  unfold va_up
  by_cases hj : j = k
  · simp only [hj, if_true]; exact hv
  · simp only [hj, if_false]; exact h j
theorem ztab_len : ∀ k, k < 29 → ztab 1 k ≤ 5 ∧ ztab 0 k ≤ 258 ∧ 3 ≤ ztab 0 k := by decide +kernel
theorem ztab_dis : ∀ k, k < 30 → ztab 3 k ≤ 13 ∧ ztab 2 k ≤ 24577 ∧ 1 ≤ ztab 2 k := by decide +kernel
/-- a set of codes: how many of each length, and what they mean, as the arrays hold it -/
def zCS (cn mg : Nat → Nat) (mf : Nat → Nat → Nat) : Prop := zbas cn 16 ≤ 288 ∧ (∀ l, 1 ≤ l → l ≤ 15 → ∀ r, r < cn l → mg (zbas cn l + r) = mf l r) ∧ ∀ l r, mf l r < 288
theorem zdec_val {t : Nat → Nat} {e : Nat} {cn : Nat → Nat} {mf : Nat → Nat → Nat} (hm : ∀ l r, mf l r < 288) : ∀ (fuel len code first p x p' : Nat), zdec t e cn mf fuel len code first p = some (x, p') → x < 288
  | 0, _, _, _, _, _, _, h => by cases h
  | fuel + 1, len, code, first, p, x, p', h => by
    unfold zdec at h
    by_cases h1 : p < e
    · rw [if_pos h1] at h
      by_cases h2 : 2 * code + zbit t p < first + cn len
      · rw [if_pos h2] at h; cases h; exact hm _ _
      · rw [if_neg h2] at h
        exact zdec_val hm fuel _ _ _ _ _ _ h
    · rw [if_neg h1] at h; cases h
/-- stored bytes -/
def zsto (t : Nat → Nat) (e : Nat) : Nat → Nat → (Nat → Nat) → Nat → Except String (Nat × (Nat → Nat) × Nat)
  | 0, p, o, w => .ok (p, o, w)
  | n + 1, p, o, w => if p + 8 ≤ e then (if w < 16384 then zsto t e n (p + 8) (va_up o w (znum t p 8)) (w + 1) else .error zY) else .error zU
/-- a stored block -/
def zstb (t : Nat → Nat) (e p : Nat) (o : Nat → Nat) (w : Nat) : Except String (Nat × (Nat → Nat) × Nat) :=
  if (p + 7) / 8 * 8 + 16 ≤ e then
    if (p + 7) / 8 * 8 + 16 + 16 ≤ e then
      if znum t ((p + 7) / 8 * 8 + 16) 16 = 65535 - znum t ((p + 7) / 8 * 8) 16 then zsto t e (znum t ((p + 7) / 8 * 8) 16) ((p + 7) / 8 * 8 + 16 + 16) o w
      else .error zU
    else .error zU
  else .error zU
/-- bytes copied out of the result -/
def zcpy (dist : Nat) : Nat → (Nat → Nat) → Nat → Except String ((Nat → Nat) × Nat)
  | 0, o, w => .ok (o, w)
  | n + 1, o, w => if w < 16384 then zcpy dist n (va_up o w (o (w - dist))) (w + 1) else .error zY
def zcop (t : Nat → Nat) (e : Nat) (cd : Nat → Nat) (md : Nat → Nat → Nat) (kind p : Nat) (o : Nat → Nat) (w : Nat) : Except String (Nat × (Nat → Nat) × Nat) :=
  if kind < 29 then
    if p + ztab 1 kind ≤ e then
      match zdec t e cd md 15 1 0 0 (p + ztab 1 kind) with
      | none => .error zU
      | some (far, p2) =>
        if far < 30 then
          if p2 + ztab 3 far ≤ e then
            if ztab 2 far + znum t p2 (ztab 3 far) ≤ w then
              match zcpy (ztab 2 far + znum t p2 (ztab 3 far)) (ztab 0 kind + znum t p (ztab 1 kind)) o w with
              | .error X => .error X
              | .ok (o', w') => .ok (p2 + ztab 3 far, o', w')
            else .error zU
          else .error zU
        else .error zU
    else .error zU
  else .error zU
/-- a coded block: one symbol, then k -/
def zcodS (t : Nat → Nat) (e : Nat) (cl : Nat → Nat) (ml : Nat → Nat → Nat) (cd : Nat → Nat) (md : Nat → Nat → Nat) (k : Nat → (Nat → Nat) → Nat → Except String (Nat × (Nat → Nat) × Nat)) (p : Nat) (o : Nat → Nat) (w : Nat) : Except String (Nat × (Nat → Nat) × Nat) :=
  match zdec t e cl ml 15 1 0 0 p with
  | none => .error zU
  | some (sym, p1) =>
    if sym = 256 then .ok (p1, o, w)
    else if sym < 256 then (if w < 16384 then k p1 (va_up o w sym) (w + 1) else .error zY)
    else match zcop t e cd md (sym - 257) p1 o w with
      | .error X => .error X
      | .ok (p2, o2, w2) => k p2 o2 w2
def zcod (t : Nat → Nat) (e : Nat) (cl : Nat → Nat) (ml : Nat → Nat → Nat) (cd : Nat → Nat) (md : Nat → Nat → Nat) : Nat → Nat → (Nat → Nat) → Nat → Except String (Nat × (Nat → Nat) × Nat)
  | 0 => fun p o w => .ok (p, o, w)
  | f + 1 => zcodS t e cl ml cd md (zcod t e cl ml cd md f)
theorem zcod_s (t : Nat → Nat) (e : Nat) (cl : Nat → Nat) (ml : Nat → Nat → Nat) (cd : Nat → Nat) (md : Nat → Nat → Nat) (f p : Nat) (o : Nat → Nat) (w : Nat) : zcod t e cl ml cd md (f + 1) p o w = zcodS t e cl ml cd md (zcod t e cl ml cd md f) p o w := rfl
/-- more than all bits of a tape -/
def zfu : Nat := 131072
theorem zfu_eq : zfu = 131072 := rfl
set_option maxHeartbeats 4000000 in
set_option maxRecDepth 100000 in
/-- put(value) -/
theorem m_UN_put (l : Launch) (hl : l.stackTraces = false) (K : zk) (u r fl fd li di lc la ob : Nat) (w : Nat) (o : Nat → Nat) (x : Int32) (hw : w ≤ 16384) : zc l K y_UN_put w_UN_put { frames := 6, cells := 1, slots := 6, locals := 100 } 0 0 1 6 [.ref u, .int x] [zO u 3 [.ref r, .ref fl, .ref fd, .ref li, .ref di, .ref lc, .ref la, .ref ob, .int (nI w)], zB K ob 16384 (zby o)] (fun v w1 => w < 16384 ∧ v = none ∧ w1 = [zO u 3 [.ref r, .ref fl, .ref fd, .ref li, .ref di, .ref lc, .ref la, .ref ob, .int (nI (w + 1))], zB K ob 16384 (zby (va_up o w (zlow x)))]) (fun X w1 => ¬ w < 16384 ∧ X = zY ∧ w1 = [zO u 3 [.ref r, .ref fl, .ref fd, .ref li, .ref di, .ref lc, .ref la, .ref ob, .int (nI w)], zB K ob 16384 (zby o)]) := by
  refine zc_of (cc := c_UN_put) (nl := 2) (ret := none) (by decide) (Nat.le_of_ble_eq_true rfl) (fun G F E => ?_)
  have F : zf G l K { frames := 6, cells := 1, slots := 6, locals := 100 } "ZlibBox$Unpacker" c_UN_put 2 := F
  show zj G 0 0 0 [(0, .ref u), (1, .int x)] [] [zO u 3 [.ref r, .ref fl, .ref fd, .ref li, .ref di, .ref lc, .ref la, .ref ob, .int (nI w)], zB K ob 16384 (zby o)]
  refine zj_aload_n F d_UN_put_0 0 rfl rfl ?_
  refine zj_get F d_UN_put_1 0 8 rfl rfl in_UN (by decide) q_89 rfl ?_
  refine zj_sipush (v := nI 16384) F d_UN_put_4 (by decide) ?_
  refine zj_icmp_lt (tgt := 20) F d_UN_put_7 (by decide) (nI_ltI (by omega) (by omega)) (fun h7 => ?_) (fun h7 => ?_)
  · refine zj_aload_n F d_UN_put_20 0 rfl rfl ?_
    refine zj_get F d_UN_put_21 0 7 rfl rfl in_UN (by decide) q_88 rfl ?_
    refine zj_aload_n F d_UN_put_24 0 rfl rfl ?_
    refine zj_get F d_UN_put_25 0 8 rfl rfl in_UN (by decide) q_89 rfl ?_
    refine zj_iload_n F d_UN_put_28 1 rfl rfl ?_
    refine zj_i2b F d_UN_put_29 rfl ?_
    refine zj_bast (ws' := [zO u 3 [.ref r, .ref fl, .ref fd, .ref li, .ref di, .ref lc, .ref la, .ref ob, .int (nI w)], zB K ob 16384 (zby (va_up o w (zlow (x))))]) F d_UN_put_30 1 0 w rfl rfl rfl (by omega) (by omega) (by rw [zby_updB]; rfl) ?_
    refine zj_aload_n F d_UN_put_31 0 rfl rfl ?_
    refine zj_dup F d_UN_put_32 rfl ?_
    refine zj_get F d_UN_put_33 0 8 rfl rfl in_UN (by decide) q_89 rfl ?_
    refine zj_iconst (v := nI 1) F d_UN_put_36 (by decide) ?_
    refine zj_iadd F d_UN_put_37 (nI_add _ _) ?_
    refine zj_put (ws' := [zO u 3 [.ref r, .ref fl, .ref fd, .ref li, .ref di, .ref lc, .ref la, .ref ob, .int (nI (w + 1))], zB K ob 16384 (zby (va_up o w (zlow (x))))]) F d_UN_put_38 0 8 rfl rfl in_UN ty_UN nm_UN (by decide) q_89 rfl rfl rfl (Nat.le_of_ble_eq_true rfl) rfl ?_
    exact zj_vret F E d_UN_put_41 (Nat.le_refl _) (Nat.le_refl _) ⟨h7, rfl, rfl⟩
  · exact zj_throwS (names := zt_up) F E hl d_UN_put_10 d_UN_put_13 d_UN_put_14 d_UN_put_16 d_UN_put_19 (by decide +kernel) (by decide +kernel) q_353 (at_UN_184) ⟨by decide, by decide, by decide, by decide⟩ rfl (by decide) (by decide) ⟨h7, rfl, rfl⟩
set_option maxHeartbeats 4000000 in
set_option maxRecDepth 100000 in
/-- readStored() -/
theorem m_UN_stored (l : Launch) (hl : l.stackTraces = false) (K : zk) (u r fl fd li di lc la ob : Nat) (b Nb e p w : Nat) (t o : Nat → Nat) (R : Except String (Nat × (Nat → Nat) × Nat)) (hb : ∀ j, t j < 256) (hN : Nb ≤ 16384) (he : e = 8 * Nb) (hp : p ≤ e) (ho : ∀ j, o j < 256) (hw : w ≤ 16384) (hR : zstb t e p o w = R) : zc l K y_UN_readStored w_UN_readStored { frames := 7, cells := 1, slots := 6, locals := 123 } 0 0 1 6 [.ref u] [zO u 3 [.ref r, .ref fl, .ref fd, .ref li, .ref di, .ref lc, .ref la, .ref ob, .int (nI w)], zO r 0 [.ref b, .int (nI e), .int (nI p)], zB K b Nb (zby t), zB K ob 16384 (zby o)] (fun v w1 => ∃ p' o' w', R = .ok (p', o', w') ∧ p' ≤ e ∧ w' ≤ 16384 ∧ (∀ j, o' j < 256) ∧ v = none ∧ w1 = [zO u 3 [.ref r, .ref fl, .ref fd, .ref li, .ref di, .ref lc, .ref la, .ref ob, .int (nI w')], zO r 0 [.ref b, .int (nI e), .int (nI p')], zB K b Nb (zby t), zB K ob 16384 (zby o')]) (fun X w1 => R = .error X ∧ ∃ p' o' w', w' ≤ 16384 ∧ (∀ j, o' j < 256) ∧ w1 = [zO u 3 [.ref r, .ref fl, .ref fd, .ref li, .ref di, .ref lc, .ref la, .ref ob, .int (nI w')], zO r 0 [.ref b, .int (nI e), .int (nI p')], zB K b Nb (zby t), zB K ob 16384 (zby o')]) := by
  refine zc_of (cc := c_UN_readStored) (nl := 3) (ret := none) (by decide) (Nat.le_of_ble_eq_true rfl) (fun G F E => ?_)
  have F : zf G l K { frames := 7, cells := 1, slots := 6, locals := 123 } "ZlibBox$Unpacker" c_UN_readStored 3 := F
  show zj G 0 0 0 [(0, .ref u)] [] [zO u 3 [.ref r, .ref fl, .ref fd, .ref li, .ref di, .ref lc, .ref la, .ref ob, .int (nI w)], zO r 0 [.ref b, .int (nI e), .int (nI p)], zB K b Nb (zby t), zB K ob 16384 (zby o)]
  have hN2 : Nb < 2 ^ 24 := by omega
  have he2 : e ≤ 8 * Nb := by omega
  refine zj_aload_n F d_UN_readStored_0 0 rfl rfl ?_
  refine zj_get F d_UN_readStored_1 0 0 rfl rfl in_UN (by decide) q_81 rfl ?_
  refine zj_call (maxL := 1) (wr := [zO u 3 [.ref r, .ref fl, .ref fd, .ref li, .ref di, .ref lc, .ref la, .ref ob, .int (nI w)], zB K ob 16384 (zby o)]) F E (m_BR_skip l K r b Nb e p t (by omega)) (zi_V (As := []) (rest := []) F d_UN_readStored_4 1 rfl rfl rfl q_342 q_343 q_344 q_345 (Or.inl ⟨_, _, rfl⟩) (by decide) (show Option.map (fun d => d.parameters.length) (parseMethodDescriptor y_BR_skipToByte.desc) = some 0 from by decide +kernel)) d_UN_readStored_4 q_345 (Or.inl ⟨_, _, rfl⟩) q_3 [1, 2] [0, 3] rfl rfl rfl rfl (by decide) ⟨by decide, by decide, by decide, by decide⟩ (Nat.le_of_ble_eq_true rfl) (fun v w1 hq => ?_) (fun X w1 hq => ?_)
  · obtain ⟨rfl, rfl⟩ := hq
    show zj G 0 0 7 [(0, .ref u)] [] [zO u 3 [.ref r, .ref fl, .ref fd, .ref li, .ref di, .ref lc, .ref la, .ref ob, .int (nI w)], zB K ob 16384 (zby o), zO r 0 [.ref b, .int (nI e), .int (nI ((p + 7) / 8 * 8))], zB K b Nb (zby t)]
    refine zj_aload_n F d_UN_readStored_7 0 rfl rfl ?_
    refine zj_get F d_UN_readStored_8 0 0 rfl rfl in_UN (by decide) q_81 rfl ?_
    refine zj_bipush (v := nI 16) F d_UN_readStored_11 (by decide) ?_
    refine zj_call (maxL := 4) (wr := [zO u 3 [.ref r, .ref fl, .ref fd, .ref li, .ref di, .ref lc, .ref la, .ref ob, .int (nI w)], zB K ob 16384 (zby o)]) F E (m_BR_number l hl K r b Nb e ((p + 7) / 8 * 8) 16 t hb hN2 he2 (by decide) (by omega)) (zi_V (As := [.int (nI 16)]) (rest := []) F d_UN_readStored_13 2 rfl rfl rfl q_306 q_307 q_308 q_309 (Or.inl ⟨_, _, rfl⟩) (by decide) (show Option.map (fun d => d.parameters.length) (parseMethodDescriptor y_BR_number.desc) = some 1 from by decide +kernel)) d_UN_readStored_13 q_309 (Or.inl ⟨_, _, rfl⟩) q_3 [2, 3] [0, 1] rfl rfl rfl rfl (by decide) ⟨by decide, by decide, by decide, by decide⟩ (Nat.le_of_ble_eq_true rfl) (fun v w1 hq => ?_) (fun X w1 hq => ?_)
    · obtain ⟨hq1, rfl, rfl⟩ := hq
      show zj G 0 0 16 [(0, .ref u)] [.int (nI (znum t ((p + 7) / 8 * 8) 16))] [zO u 3 [.ref r, .ref fl, .ref fd, .ref li, .ref di, .ref lc, .ref la, .ref ob, .int (nI w)], zB K ob 16384 (zby o), zO r 0 [.ref b, .int (nI e), .int (nI ((p + 7) / 8 * 8 + 16))], zB K b Nb (zby t)]
      have hq1a := hq1
      refine zj_istore_n (L' := [(1, .int (nI (znum t ((p + 7) / 8 * 8) 16))), (0, .ref u)]) F d_UN_readStored_16 rfl (by decide) rfl ?_
      refine zj_aload_n F d_UN_readStored_17 1 rfl rfl ?_
      refine zj_get F d_UN_readStored_18 0 0 rfl rfl in_UN (by decide) q_81 rfl ?_
      refine zj_bipush (v := nI 16) F d_UN_readStored_21 (by decide) ?_
      refine zj_call (maxL := 4) (wr := [zO u 3 [.ref r, .ref fl, .ref fd, .ref li, .ref di, .ref lc, .ref la, .ref ob, .int (nI w)], zB K ob 16384 (zby o)]) F E (m_BR_number l hl K r b Nb e ((p + 7) / 8 * 8 + 16) 16 t hb hN2 he2 (by decide) hq1) (zi_V (As := [.int (nI 16)]) (rest := []) F d_UN_readStored_23 2 rfl rfl rfl q_306 q_307 q_308 q_309 (Or.inl ⟨_, _, rfl⟩) (by decide) (show Option.map (fun d => d.parameters.length) (parseMethodDescriptor y_BR_number.desc) = some 1 from by decide +kernel)) d_UN_readStored_23 q_309 (Or.inl ⟨_, _, rfl⟩) q_3 [2, 3] [0, 1] rfl rfl rfl rfl (by decide) ⟨by decide, by decide, by decide, by decide⟩ (Nat.le_of_ble_eq_true rfl) (fun v w1 hq => ?_) (fun X w1 hq => ?_)
      · obtain ⟨hq1, rfl, rfl⟩ := hq
        show zj G 0 0 26 [(1, .int (nI (znum t ((p + 7) / 8 * 8) 16))), (0, .ref u)] [.int (nI (znum t ((p + 7) / 8 * 8 + 16) 16))] [zO u 3 [.ref r, .ref fl, .ref fd, .ref li, .ref di, .ref lc, .ref la, .ref ob, .int (nI w)], zB K ob 16384 (zby o), zO r 0 [.ref b, .int (nI e), .int (nI ((p + 7) / 8 * 8 + 16 + 16))], zB K b Nb (zby t)]
        have hn1 := znum_lt t ((p + 7) / 8 * 8) 16
        have hn2 := znum_lt t ((p + 7) / 8 * 8 + 16) 16
        refine zj_ldc (v := nI 65535) F d_UN_readStored_26 q_346 ?_
        refine zj_iload_n F d_UN_readStored_28 0 rfl rfl ?_
        refine zj_isub F d_UN_readStored_29 (pk_sub (by omega)) ?_
        refine zj_icmp_eq (tgt := 43) F d_UN_readStored_30 (by decide) (nI_eq (by omega) (by omega)) (fun h30 => ?_) (fun h30 => ?_)
        · unfold zstb at hR
          rw [if_pos hq1a, if_pos hq1, if_pos h30] at hR
          generalize hnn : znum t ((p + 7) / 8 * 8) 16 = nn at hR hn1 h30 ⊢
          refine zj_iconst (v := nI 0) F d_UN_readStored_43 (by decide) ?_
          refine zj_istore_n (L' := [(2, .int (nI 0)), (1, .int (nI nn)), (0, .ref u)]) F d_UN_readStored_44 rfl (by decide) rfl ?_
          refine zj_wsub (ws' := [zO u 3 [.ref r, .ref fl, .ref fd, .ref li, .ref di, .ref lc, .ref la, .ref ob, .int (nI w)], zO r 0 [.ref b, .int (nI e), .int (nI ((p + 7) / 8 * 8 + 16 + 16))], zB K b Nb (zby t), zB K ob 16384 (zby o)]) [0, 2, 3, 1] rfl rfl rfl ?_
          have key : ∀ d i p1 o1 w1, i + d = nn → p1 ≤ e → w1 ≤ 16384 → (∀ j, o1 j < 256) → zsto t e d p1 o1 w1 = R → zj G 0 0 45 [(0, .ref u), (1, .int (nI nn)), (2, .int (nI i))] [] [zO u 3 [.ref r, .ref fl, .ref fd, .ref li, .ref di, .ref lc, .ref la, .ref ob, .int (nI w1)], zO r 0 [.ref b, .int (nI e), .int (nI p1)], zB K b Nb (zby t), zB K ob 16384 (zby o1)] := by
            intro d
            induction d with
            | zero =>
              intro i p1 o1 w1 h1 hp1 hw1 ho1 h6
              show zj G 0 0 45 [(0, .ref u), (1, .int (nI nn)), (2, .int (nI i))] [] [zO u 3 [.ref r, .ref fl, .ref fd, .ref li, .ref di, .ref lc, .ref la, .ref ob, .int (nI w1)], zO r 0 [.ref b, .int (nI e), .int (nI p1)], zB K b Nb (zby t), zB K ob 16384 (zby o1)]
              refine zj_iload_n F d_UN_readStored_45 2 rfl rfl ?_
              refine zj_iload_n F d_UN_readStored_46 1 rfl rfl ?_
              refine zj_icmp_ge (tgt := 69) F d_UN_readStored_47 (by decide) (nI_leI (by omega) (by omega)) (fun h47 => ?_) (fun h47 => ?_)
              · exact zj_vret F E d_UN_readStored_69 (Nat.le_refl _) (Nat.le_refl _) ⟨_, _, _, h6.symm, hp1, hw1, ho1, rfl, rfl⟩
              · exact absurd h47 (by omega)
            | succ d ih =>
              intro i p1 o1 w1 h1 hp1 hw1 ho1 h6
              show zj G 0 0 45 [(0, .ref u), (1, .int (nI nn)), (2, .int (nI i))] [] [zO u 3 [.ref r, .ref fl, .ref fd, .ref li, .ref di, .ref lc, .ref la, .ref ob, .int (nI w1)], zO r 0 [.ref b, .int (nI e), .int (nI p1)], zB K b Nb (zby t), zB K ob 16384 (zby o1)]
              refine zj_iload_n F d_UN_readStored_45 2 rfl rfl ?_
              refine zj_iload_n F d_UN_readStored_46 1 rfl rfl ?_
              refine zj_icmp_ge (tgt := 69) F d_UN_readStored_47 (by decide) (nI_leI (by omega) (by omega)) (fun h47 => ?_) (fun h47 => ?_)
              · exact absurd h47 (by omega)
              · refine zj_aload_n F d_UN_readStored_50 0 rfl rfl ?_
                refine zj_aload_n F d_UN_readStored_51 0 rfl rfl ?_
                refine zj_get F d_UN_readStored_52 0 0 rfl rfl in_UN (by decide) q_81 rfl ?_
                refine zj_bipush (v := nI 8) F d_UN_readStored_55 (by decide) ?_
                refine zj_call (maxL := 4) (wr := [zO u 3 [.ref r, .ref fl, .ref fd, .ref li, .ref di, .ref lc, .ref la, .ref ob, .int (nI w1)], zB K ob 16384 (zby o1)]) F E (m_BR_number l hl K r b Nb e p1 8 t hb hN2 he2 (by decide) hp1) (zi_V (As := [.int (nI 8)]) (rest := [.ref u]) F d_UN_readStored_57 1 rfl rfl rfl q_306 q_307 q_308 q_309 (Or.inl ⟨_, _, rfl⟩) (by decide) (show Option.map (fun d => d.parameters.length) (parseMethodDescriptor y_BR_number.desc) = some 1 from by decide +kernel)) d_UN_readStored_57 q_309 (Or.inl ⟨_, _, rfl⟩) q_3 [1, 2] [0, 3] rfl rfl rfl rfl (by decide) ⟨by decide, by decide, by decide, by decide⟩ (Nat.le_of_ble_eq_true rfl) (fun v w1 hq => ?_) (fun X w1 hq => ?_)
                · obtain ⟨hq2, rfl, rfl⟩ := hq
                  show zj G 0 0 60 [(0, .ref u), (1, .int (nI nn)), (2, .int (nI i))] [.int (nI (znum t p1 8)), .ref u] [zO u 3 [.ref r, .ref fl, .ref fd, .ref li, .ref di, .ref lc, .ref la, .ref ob, .int (nI w1)], zB K ob 16384 (zby o1), zO r 0 [.ref b, .int (nI e), .int (nI (p1 + 8))], zB K b Nb (zby t)]
                  have hn3 := znum_lt t p1 8
                  refine zj_call (maxL := 2) (wr := [zO r 0 [.ref b, .int (nI e), .int (nI (p1 + 8))], zB K b Nb (zby t)]) F E (m_UN_put l hl K u r fl fd li di lc la ob w1 o1 (nI (znum t p1 8)) hw1) (zi_V (As := [.int (nI (znum t p1 8))]) (rest := []) F d_UN_readStored_60 0 rfl rfl rfl q_348 q_350 sel_UN_put q_351 (Or.inl ⟨_, _, rfl⟩) (by decide) (show Option.map (fun d => d.parameters.length) (parseMethodDescriptor y_UN_put.desc) = some 1 from by decide +kernel)) d_UN_readStored_60 q_351 (Or.inl ⟨_, _, rfl⟩) q_2 [0, 1] [2, 3] rfl rfl rfl rfl (by decide) ⟨by decide, by decide, by decide, by decide⟩ (Nat.le_of_ble_eq_true rfl) (fun v w1 hq => ?_) (fun X w1 hq => ?_)
                  · obtain ⟨hq3, rfl, rfl⟩ := hq
                    rw [zlow_nI, Nat.mod_eq_of_lt (show znum t p1 8 < 256 from hn3)]
                    show zj G 0 0 63 [(0, .ref u), (1, .int (nI nn)), (2, .int (nI i))] [] [zO r 0 [.ref b, .int (nI e), .int (nI (p1 + 8))], zB K b Nb (zby t), zO u 3 [.ref r, .ref fl, .ref fd, .ref li, .ref di, .ref lc, .ref la, .ref ob, .int (nI (w1 + 1))], zB K ob 16384 (zby (va_up o1 w1 (znum t p1 8)))]
                    refine zj_iinc (v := nI (i + 1)) (L' := [(2, .int (nI (i + 1))), (0, .ref u), (1, .int (nI nn))]) F d_UN_readStored_63 2 rfl (nI_add _ _) (by decide) rfl ?_
                    refine zj_goto F d_UN_readStored_66 (tgt := 45) (by decide) ?_
                    unfold zsto at h6
                    rw [if_pos hq2, if_pos hq3] at h6
                    refine zj_wsub (ws' := [zO u 3 [.ref r, .ref fl, .ref fd, .ref li, .ref di, .ref lc, .ref la, .ref ob, .int (nI (w1 + 1))], zO r 0 [.ref b, .int (nI e), .int (nI (p1 + 8))], zB K b Nb (zby t), zB K ob 16384 (zby (va_up o1 w1 (znum t p1 8)))]) [2, 0, 1, 3] rfl rfl rfl ?_
                    exact zj_sub [1, 2, 0] rfl (ih (i + 1) _ _ _ (by omega) (by omega) (by omega) (zup_lt ho1 _ hn3) h6)
                  · obtain ⟨hx1, rfl, rfl⟩ := hq
                    exact ⟨rfl, by decide, by decide, [2, 0, 1, 3], [zO u 3 [.ref r, .ref fl, .ref fd, .ref li, .ref di, .ref lc, .ref la, .ref ob, .int (nI w1)], zO r 0 [.ref b, .int (nI e), .int (nI (p1 + 8))], zB K b Nb (zby t), zB K ob 16384 (zby o1)], rfl, rfl, ⟨h6.symm.trans (by unfold zsto; rw [if_pos hq2, if_neg hx1]), _, _, _, hw1, ho1, rfl⟩⟩
                · obtain ⟨hx1, rfl, rfl⟩ := hq
                  exact ⟨rfl, by decide, by decide, [0, 2, 3, 1], [zO u 3 [.ref r, .ref fl, .ref fd, .ref li, .ref di, .ref lc, .ref la, .ref ob, .int (nI w1)], zO r 0 [.ref b, .int (nI e), .int (nI p1)], zB K b Nb (zby t), zB K ob 16384 (zby o1)], rfl, rfl, ⟨h6.symm.trans (by unfold zsto; rw [if_neg hx1]), _, _, _, hw1, ho1, rfl⟩⟩
          exact zj_sub [2, 1, 0] rfl (key nn 0 _ _ _ (by omega) hq1 hw ho hR)
        · refine zj_wsub (ws' := [zO u 3 [.ref r, .ref fl, .ref fd, .ref li, .ref di, .ref lc, .ref la, .ref ob, .int (nI w)], zO r 0 [.ref b, .int (nI e), .int (nI ((p + 7) / 8 * 8 + 16 + 16))], zB K b Nb (zby t), zB K ob 16384 (zby o)]) [0, 2, 3, 1] rfl rfl rfl ?_
          exact zj_throwS (names := zt_up) F E hl d_UN_readStored_33 d_UN_readStored_36 d_UN_readStored_37 d_UN_readStored_39 d_UN_readStored_42 (by decide +kernel) (by decide +kernel) q_347 (at_UN_83) ⟨by decide, by decide, by decide, by decide⟩ rfl (by decide) (by decide) ⟨hR.symm.trans (by unfold zstb; rw [if_pos hq1a, if_pos hq1, if_neg h30]), _, _, _, hw, ho, rfl⟩
      · obtain ⟨hx1, rfl, rfl⟩ := hq
        exact ⟨rfl, by decide, by decide, [0, 2, 3, 1], [zO u 3 [.ref r, .ref fl, .ref fd, .ref li, .ref di, .ref lc, .ref la, .ref ob, .int (nI w)], zO r 0 [.ref b, .int (nI e), .int (nI ((p + 7) / 8 * 8 + 16))], zB K b Nb (zby t), zB K ob 16384 (zby o)], rfl, rfl, ⟨hR.symm.trans (by unfold zstb; rw [if_pos hq1a, if_neg hx1]), _, _, _, hw, ho, rfl⟩⟩
    · obtain ⟨hx1, rfl, rfl⟩ := hq
      exact ⟨rfl, by decide, by decide, [0, 2, 3, 1], [zO u 3 [.ref r, .ref fl, .ref fd, .ref li, .ref di, .ref lc, .ref la, .ref ob, .int (nI w)], zO r 0 [.ref b, .int (nI e), .int (nI ((p + 7) / 8 * 8))], zB K b Nb (zby t), zB K ob 16384 (zby o)], rfl, rfl, ⟨hR.symm.trans (by unfold zstb; rw [if_neg hx1]), _, _, _, hw, ho, rfl⟩⟩
  · exact hq.elim
set_option maxHeartbeats 4000000 in
set_option maxRecDepth 100000 in
/-- readCopy(kind, forDistances) -/
theorem m_UN_copy (l : Launch) (hl : l.stackTraces = false) (K : zk) (u r fl fd li di lc la ob : Nat) (b Nb e p w : Nat) (t o : Nat → Nat) (d dca dma dpa du : Nat) (cd gd : Nat → Nat) (md : Nat → Nat → Nat) (kind : Nat) (R : Except String (Nat × (Nat → Nat) × Nat)) (hb : ∀ j, t j < 256) (hN : Nb ≤ 16384) (he : e = 8 * Nb) (hp : p ≤ e) (ho : ∀ j, o j < 256) (hw : w ≤ 16384) (hD : zCS cd gd md) (hkd : kind < 2 ^ 30) (hR : zcop t e cd md kind p o w = R) : zc l K y_UN_readCopy w_UN_readCopy { frames := 8, cells := 1, slots := 6, locals := 147 } 0 0 1 6 [.ref u, .int (nI kind), .ref d] [zO u 3 [.ref r, .ref fl, .ref fd, .ref li, .ref di, .ref lc, .ref la, .ref ob, .int (nI w)], zO r 0 [.ref b, .int (nI e), .int (nI p)], zB K b Nb (zby t), zB K ob 16384 (zby o), zO d 1 [.ref dca, .ref dma, .ref dpa, .int (nI du)], zI K dca 16 (zna cd), zI K dma 288 (zna gd)] (fun v w1 => ∃ p' o' w', R = .ok (p', o', w') ∧ p' ≤ e ∧ w' ≤ 16384 ∧ (∀ j, o' j < 256) ∧ v = none ∧ w1 = [zO u 3 [.ref r, .ref fl, .ref fd, .ref li, .ref di, .ref lc, .ref la, .ref ob, .int (nI w')], zO r 0 [.ref b, .int (nI e), .int (nI p')], zB K b Nb (zby t), zB K ob 16384 (zby o'), zO d 1 [.ref dca, .ref dma, .ref dpa, .int (nI du)], zI K dca 16 (zna cd), zI K dma 288 (zna gd)]) (fun X w1 => R = .error X ∧ ∃ p' o' w', w' ≤ 16384 ∧ (∀ j, o' j < 256) ∧ w1 = [zO u 3 [.ref r, .ref fl, .ref fd, .ref li, .ref di, .ref lc, .ref la, .ref ob, .int (nI w')], zO r 0 [.ref b, .int (nI e), .int (nI p')], zB K b Nb (zby t), zB K ob 16384 (zby o'), zO d 1 [.ref dca, .ref dma, .ref dpa, .int (nI du)], zI K dca 16 (zna cd), zI K dma 288 (zna gd)]) := by
  refine zc_of (cc := c_UN_readCopy) (nl := 7) (ret := none) (by decide) (Nat.le_of_ble_eq_true rfl) (fun G F E => ?_)
  have F : zf G l K { frames := 8, cells := 1, slots := 6, locals := 147 } "ZlibBox$Unpacker" c_UN_readCopy 7 := F
  show zj G 0 0 0 [(0, .ref u), (1, .int (nI kind)), (2, .ref d)] [] [zO u 3 [.ref r, .ref fl, .ref fd, .ref li, .ref di, .ref lc, .ref la, .ref ob, .int (nI w)], zO r 0 [.ref b, .int (nI e), .int (nI p)], zB K b Nb (zby t), zB K ob 16384 (zby o), zO d 1 [.ref dca, .ref dma, .ref dpa, .int (nI du)], zI K dca 16 (zna cd), zI K dma 288 (zna gd)]
  have hN2 : Nb < 2 ^ 24 := by omega
  have he2 : e ≤ 8 * Nb := by omega
  refine zj_iload_n F d_UN_readCopy_0 1 rfl rfl ?_
  refine zj_getsN F d_UN_readCopy_1 0 rfl q_371 ?_
  refine zj_tlen F d_UN_readCopy_4 0 rfl ?_
  change zj G 0 0 5 [(0, .ref u), (1, .int (nI kind)), (2, .ref d)] [.int (nI 29), .int (nI kind)] [zO u 3 [.ref r, .ref fl, .ref fd, .ref li, .ref di, .ref lc, .ref la, .ref ob, .int (nI w)], zO r 0 [.ref b, .int (nI e), .int (nI p)], zB K b Nb (zby t), zB K ob 16384 (zby o), zO d 1 [.ref dca, .ref dma, .ref dpa, .int (nI du)], zI K dca 16 (zna cd), zI K dma 288 (zna gd)]
  refine zj_icmp_lt (tgt := 18) F d_UN_readCopy_5 (by decide) (nI_ltI (by omega) (by omega)) (fun h5 => ?_) (fun h5 => ?_)
  · obtain ⟨ht1, ht2, ht3⟩ := ztab_len kind h5
    refine zj_getsN F d_UN_readCopy_18 0 rfl q_371 ?_
    refine zj_iload_n F d_UN_readCopy_21 1 rfl rfl ?_
    refine zj_tald F d_UN_readCopy_22 0 kind rfl rfl (show kind < 29 by omega) (by decide) ?_
    change zj G 0 0 23 [(0, .ref u), (1, .int (nI kind)), (2, .ref d)] [.int (nI (ztab 0 kind))] [zO u 3 [.ref r, .ref fl, .ref fd, .ref li, .ref di, .ref lc, .ref la, .ref ob, .int (nI w)], zO r 0 [.ref b, .int (nI e), .int (nI p)], zB K b Nb (zby t), zB K ob 16384 (zby o), zO d 1 [.ref dca, .ref dma, .ref dpa, .int (nI du)], zI K dca 16 (zna cd), zI K dma 288 (zna gd)]
    refine zj_aload_n F d_UN_readCopy_23 0 rfl rfl ?_
    refine zj_get F d_UN_readCopy_24 0 0 rfl rfl in_UN (by decide) q_81 rfl ?_
    refine zj_getsN F d_UN_readCopy_27 1 rfl q_374 ?_
    refine zj_iload_n F d_UN_readCopy_30 1 rfl rfl ?_
    refine zj_tald F d_UN_readCopy_31 1 kind rfl rfl (show kind < 29 by omega) (by decide) ?_
    change zj G 0 0 32 [(0, .ref u), (1, .int (nI kind)), (2, .ref d)] [.int (nI (ztab 1 kind)), .ref r, .int (nI (ztab 0 kind))] [zO u 3 [.ref r, .ref fl, .ref fd, .ref li, .ref di, .ref lc, .ref la, .ref ob, .int (nI w)], zO r 0 [.ref b, .int (nI e), .int (nI p)], zB K b Nb (zby t), zB K ob 16384 (zby o), zO d 1 [.ref dca, .ref dma, .ref dpa, .int (nI du)], zI K dca 16 (zna cd), zI K dma 288 (zna gd)]
    refine zj_call (maxL := 4) (wr := [zO u 3 [.ref r, .ref fl, .ref fd, .ref li, .ref di, .ref lc, .ref la, .ref ob, .int (nI w)], zB K ob 16384 (zby o), zO d 1 [.ref dca, .ref dma, .ref dpa, .int (nI du)], zI K dca 16 (zna cd), zI K dma 288 (zna gd)]) F E (m_BR_number l hl K r b Nb e p (ztab 1 kind) t hb hN2 he2 (by omega) hp) (zi_V (As := [.int (nI (ztab 1 kind))]) (rest := [.int (nI (ztab 0 kind))]) F d_UN_readCopy_32 1 rfl rfl rfl q_306 q_307 q_308 q_309 (Or.inl ⟨_, _, rfl⟩) (by decide) (show Option.map (fun d => d.parameters.length) (parseMethodDescriptor y_BR_number.desc) = some 1 from by decide +kernel)) d_UN_readCopy_32 q_309 (Or.inl ⟨_, _, rfl⟩) q_3 [1, 2] [0, 3, 4, 5, 6] rfl rfl rfl rfl (by decide) ⟨by decide, by decide, by decide, by decide⟩ (Nat.le_of_ble_eq_true rfl) (fun v w1 hq => ?_) (fun X w1 hq => ?_)
    · obtain ⟨hq1, rfl, rfl⟩ := hq
      show zj G 0 0 35 [(0, .ref u), (1, .int (nI kind)), (2, .ref d)] [.int (nI (znum t p (ztab 1 kind))), .int (nI (ztab 0 kind))] [zO u 3 [.ref r, .ref fl, .ref fd, .ref li, .ref di, .ref lc, .ref la, .ref ob, .int (nI w)], zB K ob 16384 (zby o), zO d 1 [.ref dca, .ref dma, .ref dpa, .int (nI du)], zI K dca 16 (zna cd), zI K dma 288 (zna gd), zO r 0 [.ref b, .int (nI e), .int (nI (p + ztab 1 kind))], zB K b Nb (zby t)]
      have hn1 := znum_lt t p (ztab 1 kind)
      have hn1b : znum t p (ztab 1 kind) < 2 ^ 5 := Nat.lt_of_lt_of_le hn1 (Nat.pow_le_pow_right (by decide) ht1)
      refine zj_iadd F d_UN_readCopy_35 (nI_add _ _) ?_
      refine zj_istore_n (L' := [(3, .int (nI ((ztab 0 kind) + (znum t p (ztab 1 kind))))), (0, .ref u), (1, .int (nI kind)), (2, .ref d)]) F d_UN_readCopy_36 rfl (by decide) rfl ?_
      refine zj_aload_n F d_UN_readCopy_37 3 rfl rfl ?_
      refine zj_aload_n F d_UN_readCopy_38 1 rfl rfl ?_
      refine zj_get F d_UN_readCopy_39 0 0 rfl rfl in_UN (by decide) q_81 rfl ?_
      refine zj_call (maxL := 7) (wr := [zO u 3 [.ref r, .ref fl, .ref fd, .ref li, .ref di, .ref lc, .ref la, .ref ob, .int (nI w)], zB K ob 16384 (zby o)]) F E (m_CO_read l hl K d dca dma dpa du r b Nb e (p + ztab 1 kind) t cd gd md hb hN2 he2 hq1 hD.1 hD.2.1) (zi_V (As := [.ref r]) (rest := []) F d_UN_readCopy_42 2 rfl rfl rfl q_359 q_360 q_361 q_362 (Or.inl ⟨_, _, rfl⟩) (by decide) (show Option.map (fun d => d.parameters.length) (parseMethodDescriptor y_CO_read.desc) = some 1 from by decide +kernel)) d_UN_readCopy_42 q_362 (Or.inl ⟨_, _, rfl⟩) q_4 [2, 3, 4, 5, 6] [0, 1] rfl rfl rfl rfl (by decide) ⟨by decide, by decide, by decide, by decide⟩ (Nat.le_of_ble_eq_true rfl) (fun v w1 hq => ?_) (fun X w1 hq => ?_)
      · obtain ⟨far, p2, hq2, rfl, rfl⟩ := hq
        show zj G 0 0 45 [(3, .int (nI ((ztab 0 kind) + (znum t p (ztab 1 kind))))), (0, .ref u), (1, .int (nI kind)), (2, .ref d)] [.int (nI far)] [zO u 3 [.ref r, .ref fl, .ref fd, .ref li, .ref di, .ref lc, .ref la, .ref ob, .int (nI w)], zB K ob 16384 (zby o), zO d 1 [.ref dca, .ref dma, .ref dpa, .int (nI du)], zI K dca 16 (zna cd), zI K dma 288 (zna gd), zO r 0 [.ref b, .int (nI e), .int (nI p2)], zB K b Nb (zby t)]
        obtain ⟨hp2a, hp2b⟩ := zdec_le _ _ _ _ _ _ _ hq2
        have hfar := zdec_val hD.2.2 _ _ _ _ _ _ _ hq2
        refine zj_istore (L' := [(4, .int (nI far)), (3, .int (nI ((ztab 0 kind) + (znum t p (ztab 1 kind))))), (0, .ref u), (1, .int (nI kind)), (2, .ref d)]) F d_UN_readCopy_45 (by decide) rfl ?_
        refine zj_iload F d_UN_readCopy_47 0 rfl ?_
        refine zj_getsN F d_UN_readCopy_49 2 rfl q_376 ?_
        refine zj_tlen F d_UN_readCopy_52 2 rfl ?_
        change zj G 0 0 53 [(4, .int (nI far)), (3, .int (nI ((ztab 0 kind) + (znum t p (ztab 1 kind))))), (0, .ref u), (1, .int (nI kind)), (2, .ref d)] [.int (nI 30), .int (nI far)] [zO u 3 [.ref r, .ref fl, .ref fd, .ref li, .ref di, .ref lc, .ref la, .ref ob, .int (nI w)], zB K ob 16384 (zby o), zO d 1 [.ref dca, .ref dma, .ref dpa, .int (nI du)], zI K dca 16 (zna cd), zI K dma 288 (zna gd), zO r 0 [.ref b, .int (nI e), .int (nI p2)], zB K b Nb (zby t)]
        refine zj_icmp_lt (tgt := 66) F d_UN_readCopy_53 (by decide) (nI_ltI (by omega) (by omega)) (fun h53 => ?_) (fun h53 => ?_)
        · obtain ⟨hd1, hd2, hd3⟩ := ztab_dis far h53
          refine zj_getsN F d_UN_readCopy_66 2 rfl q_376 ?_
          refine zj_iload F d_UN_readCopy_69 0 rfl ?_
          refine zj_tald F d_UN_readCopy_71 2 far rfl rfl (show far < 30 by omega) (by decide) ?_
          change zj G 0 0 72 [(4, .int (nI far)), (3, .int (nI ((ztab 0 kind) + (znum t p (ztab 1 kind))))), (0, .ref u), (1, .int (nI kind)), (2, .ref d)] [.int (nI (ztab 2 far))] [zO u 3 [.ref r, .ref fl, .ref fd, .ref li, .ref di, .ref lc, .ref la, .ref ob, .int (nI w)], zB K ob 16384 (zby o), zO d 1 [.ref dca, .ref dma, .ref dpa, .int (nI du)], zI K dca 16 (zna cd), zI K dma 288 (zna gd), zO r 0 [.ref b, .int (nI e), .int (nI p2)], zB K b Nb (zby t)]
          refine zj_aload_n F d_UN_readCopy_72 2 rfl rfl ?_
          refine zj_get F d_UN_readCopy_73 0 0 rfl rfl in_UN (by decide) q_81 rfl ?_
          refine zj_getsN F d_UN_readCopy_76 3 rfl q_379 ?_
          refine zj_iload F d_UN_readCopy_79 0 rfl ?_
          refine zj_tald F d_UN_readCopy_81 3 far rfl rfl (show far < 30 by omega) (by decide) ?_
          change zj G 0 0 82 [(4, .int (nI far)), (3, .int (nI ((ztab 0 kind) + (znum t p (ztab 1 kind))))), (0, .ref u), (1, .int (nI kind)), (2, .ref d)] [.int (nI (ztab 3 far)), .ref r, .int (nI (ztab 2 far))] [zO u 3 [.ref r, .ref fl, .ref fd, .ref li, .ref di, .ref lc, .ref la, .ref ob, .int (nI w)], zB K ob 16384 (zby o), zO d 1 [.ref dca, .ref dma, .ref dpa, .int (nI du)], zI K dca 16 (zna cd), zI K dma 288 (zna gd), zO r 0 [.ref b, .int (nI e), .int (nI p2)], zB K b Nb (zby t)]
          refine zj_call (maxL := 4) (wr := [zO u 3 [.ref r, .ref fl, .ref fd, .ref li, .ref di, .ref lc, .ref la, .ref ob, .int (nI w)], zB K ob 16384 (zby o), zO d 1 [.ref dca, .ref dma, .ref dpa, .int (nI du)], zI K dca 16 (zna cd), zI K dma 288 (zna gd)]) F E (m_BR_number l hl K r b Nb e p2 (ztab 3 far) t hb hN2 he2 (by omega) hp2b) (zi_V (As := [.int (nI (ztab 3 far))]) (rest := [.int (nI (ztab 2 far))]) F d_UN_readCopy_82 5 rfl rfl rfl q_306 q_307 q_308 q_309 (Or.inl ⟨_, _, rfl⟩) (by decide) (show Option.map (fun d => d.parameters.length) (parseMethodDescriptor y_BR_number.desc) = some 1 from by decide +kernel)) d_UN_readCopy_82 q_309 (Or.inl ⟨_, _, rfl⟩) q_3 [5, 6] [0, 1, 2, 3, 4] rfl rfl rfl rfl (by decide) ⟨by decide, by decide, by decide, by decide⟩ (Nat.le_of_ble_eq_true rfl) (fun v w1 hq => ?_) (fun X w1 hq => ?_)
          · obtain ⟨hq3, rfl, rfl⟩ := hq
            show zj G 0 0 85 [(4, .int (nI far)), (3, .int (nI ((ztab 0 kind) + (znum t p (ztab 1 kind))))), (0, .ref u), (1, .int (nI kind)), (2, .ref d)] [.int (nI (znum t p2 (ztab 3 far))), .int (nI (ztab 2 far))] [zO u 3 [.ref r, .ref fl, .ref fd, .ref li, .ref di, .ref lc, .ref la, .ref ob, .int (nI w)], zB K ob 16384 (zby o), zO d 1 [.ref dca, .ref dma, .ref dpa, .int (nI du)], zI K dca 16 (zna cd), zI K dma 288 (zna gd), zO r 0 [.ref b, .int (nI e), .int (nI (p2 + ztab 3 far))], zB K b Nb (zby t)]
            have hn2 := znum_lt t p2 (ztab 3 far)
            have hn2b : znum t p2 (ztab 3 far) < 2 ^ 13 := Nat.lt_of_lt_of_le hn2 (Nat.pow_le_pow_right (by decide) hd1)
            refine zj_iadd F d_UN_readCopy_85 (nI_add _ _) ?_
            refine zj_istore (L' := [(5, .int (nI ((ztab 2 far) + (znum t p2 (ztab 3 far))))), (4, .int (nI far)), (3, .int (nI ((ztab 0 kind) + (znum t p (ztab 1 kind))))), (0, .ref u), (1, .int (nI kind)), (2, .ref d)]) F d_UN_readCopy_86 (by decide) rfl ?_
            refine zj_iload F d_UN_readCopy_88 0 rfl ?_
            refine zj_aload_n F d_UN_readCopy_90 3 rfl rfl ?_
            refine zj_get F d_UN_readCopy_91 0 8 rfl rfl in_UN (by decide) q_89 rfl ?_
            refine zj_icmp_le (tgt := 107) F d_UN_readCopy_94 (by decide) (nI_leI (by omega) (by omega)) (fun h94 => ?_) (fun h94 => ?_)
            · unfold zcop at hR
              rw [if_pos h5, if_pos hq1, hq2] at hR
              dsimp only at hR
              rw [if_pos h53, if_pos hq3, if_pos h94] at hR
              generalize hdist : ztab 2 far + znum t p2 (ztab 3 far) = dist at hR h94 ⊢
              generalize hlen : ztab 0 kind + znum t p (ztab 1 kind) = len at hR ⊢
              have hdb : 1 ≤ dist ∧ dist < 2 ^ 20 := by omega
              have hlb : len < 2 ^ 20 := by omega
              refine zj_iconst (v := nI 0) F d_UN_readCopy_107 (by decide) ?_
              refine zj_istore (L' := [(6, .int (nI 0)), (5, .int (nI dist)), (4, .int (nI far)), (3, .int (nI len)), (0, .ref u), (1, .int (nI kind)), (2, .ref d)]) F d_UN_readCopy_108 (by decide) rfl ?_
              refine zj_wsub (ws' := [zO u 3 [.ref r, .ref fl, .ref fd, .ref li, .ref di, .ref lc, .ref la, .ref ob, .int (nI w)], zO r 0 [.ref b, .int (nI e), .int (nI (p2 + ztab 3 far))], zB K b Nb (zby t), zB K ob 16384 (zby o), zO d 1 [.ref dca, .ref dma, .ref dpa, .int (nI du)], zI K dca 16 (zna cd), zI K dma 288 (zna gd)]) [0, 5, 6, 1, 2, 3, 4] rfl rfl rfl ?_
              have key : ∀ q i o1 w1, i + q = len → dist ≤ w1 → w1 ≤ 16384 → (∀ j, o1 j < 256) → (match zcpy dist q o1 w1 with | .error X => .error X | .ok (o', w') => .ok (p2 + ztab 3 far, o', w')) = R → zj G 0 0 110 [(0, .ref u), (3, .int (nI len)), (5, .int (nI dist)), (6, .int (nI i))] [] [zO u 3 [.ref r, .ref fl, .ref fd, .ref li, .ref di, .ref lc, .ref la, .ref ob, .int (nI w1)], zO r 0 [.ref b, .int (nI e), .int (nI (p2 + ztab 3 far))], zB K b Nb (zby t), zB K ob 16384 (zby o1), zO d 1 [.ref dca, .ref dma, .ref dpa, .int (nI du)], zI K dca 16 (zna cd), zI K dma 288 (zna gd)] := by
                intro q
                induction q with
                | zero =>
                  intro i o1 w1 h1 hdw hw1 ho1 h6
                  show zj G 0 0 110 [(0, .ref u), (3, .int (nI len)), (5, .int (nI dist)), (6, .int (nI i))] [] [zO u 3 [.ref r, .ref fl, .ref fd, .ref li, .ref di, .ref lc, .ref la, .ref ob, .int (nI w1)], zO r 0 [.ref b, .int (nI e), .int (nI (p2 + ztab 3 far))], zB K b Nb (zby t), zB K ob 16384 (zby o1), zO d 1 [.ref dca, .ref dma, .ref dpa, .int (nI du)], zI K dca 16 (zna cd), zI K dma 288 (zna gd)]
                  refine zj_iload F d_UN_readCopy_110 3 rfl ?_
                  refine zj_iload_n F d_UN_readCopy_112 1 rfl rfl ?_
                  refine zj_icmp_ge (tgt := 138) F d_UN_readCopy_113 (by decide) (nI_leI (by omega) (by omega)) (fun h113 => ?_) (fun h113 => ?_)
                  · exact zj_vret F E d_UN_readCopy_138 (Nat.le_refl _) (Nat.le_refl _) ⟨_, _, _, h6.symm, hq3, hw1, ho1, rfl, rfl⟩
                  · exact absurd h113 (by omega)
                | succ q ih =>
                  intro i o1 w1 h1 hdw hw1 ho1 h6
                  show zj G 0 0 110 [(0, .ref u), (3, .int (nI len)), (5, .int (nI dist)), (6, .int (nI i))] [] [zO u 3 [.ref r, .ref fl, .ref fd, .ref li, .ref di, .ref lc, .ref la, .ref ob, .int (nI w1)], zO r 0 [.ref b, .int (nI e), .int (nI (p2 + ztab 3 far))], zB K b Nb (zby t), zB K ob 16384 (zby o1), zO d 1 [.ref dca, .ref dma, .ref dpa, .int (nI du)], zI K dca 16 (zna cd), zI K dma 288 (zna gd)]
                  refine zj_iload F d_UN_readCopy_110 3 rfl ?_
                  refine zj_iload_n F d_UN_readCopy_112 1 rfl rfl ?_
                  refine zj_icmp_ge (tgt := 138) F d_UN_readCopy_113 (by decide) (nI_leI (by omega) (by omega)) (fun h113 => ?_) (fun h113 => ?_)
                  · exact absurd h113 (by omega)
                  · refine zj_aload_n F d_UN_readCopy_116 0 rfl rfl ?_
                    refine zj_aload_n F d_UN_readCopy_117 0 rfl rfl ?_
                    refine zj_get F d_UN_readCopy_118 0 7 rfl rfl in_UN (by decide) q_88 rfl ?_
                    refine zj_aload_n F d_UN_readCopy_121 0 rfl rfl ?_
                    refine zj_get F d_UN_readCopy_122 0 8 rfl rfl in_UN (by decide) q_89 rfl ?_
                    refine zj_iload F d_UN_readCopy_125 2 rfl ?_
                    refine zj_isub F d_UN_readCopy_127 (pk_sub (by omega)) ?_
                    refine zj_bald (z := zby o1 (w1 - dist)) F d_UN_readCopy_128 3 0 (w1 - dist) rfl rfl rfl (by omega) (by omega) rfl ?_
                    refine zj_call (maxL := 2) (wr := [zO r 0 [.ref b, .int (nI e), .int (nI (p2 + ztab 3 far))], zB K b Nb (zby t), zO d 1 [.ref dca, .ref dma, .ref dpa, .int (nI du)], zI K dca 16 (zna cd), zI K dma 288 (zna gd)]) F E (m_UN_put l hl K u r fl fd li di lc la ob w1 o1 (zby o1 (w1 - dist)) hw1) (zi_V (As := [.int (zby o1 (w1 - dist))]) (rest := []) F d_UN_readCopy_129 0 rfl rfl rfl q_348 q_350 sel_UN_put q_351 (Or.inl ⟨_, _, rfl⟩) (by decide) (show Option.map (fun d => d.parameters.length) (parseMethodDescriptor y_UN_put.desc) = some 1 from by decide +kernel)) d_UN_readCopy_129 q_351 (Or.inl ⟨_, _, rfl⟩) q_2 [0, 3] [1, 2, 4, 5, 6] rfl rfl rfl rfl (by decide) ⟨by decide, by decide, by decide, by decide⟩ (Nat.le_of_ble_eq_true rfl) (fun v w1 hq => ?_) (fun X w1 hq => ?_)
                    · obtain ⟨hq4, rfl, rfl⟩ := hq
                      rw [zby_low (ho1 _)]
                      show zj G 0 0 132 [(0, .ref u), (3, .int (nI len)), (5, .int (nI dist)), (6, .int (nI i))] [] [zO r 0 [.ref b, .int (nI e), .int (nI (p2 + ztab 3 far))], zB K b Nb (zby t), zO d 1 [.ref dca, .ref dma, .ref dpa, .int (nI du)], zI K dca 16 (zna cd), zI K dma 288 (zna gd), zO u 3 [.ref r, .ref fl, .ref fd, .ref li, .ref di, .ref lc, .ref la, .ref ob, .int (nI (w1 + 1))], zB K ob 16384 (zby (va_up o1 w1 (o1 (w1 - dist))))]
                      refine zj_iinc (v := nI (i + 1)) (L' := [(6, .int (nI (i + 1))), (0, .ref u), (3, .int (nI len)), (5, .int (nI dist))]) F d_UN_readCopy_132 3 rfl (nI_add _ _) (by decide) rfl ?_
                      refine zj_goto F d_UN_readCopy_135 (tgt := 110) (by decide) ?_
                      unfold zcpy at h6
                      rw [if_pos hq4] at h6
                      refine zj_wsub (ws' := [zO u 3 [.ref r, .ref fl, .ref fd, .ref li, .ref di, .ref lc, .ref la, .ref ob, .int (nI (w1 + 1))], zO r 0 [.ref b, .int (nI e), .int (nI (p2 + ztab 3 far))], zB K b Nb (zby t), zB K ob 16384 (zby (va_up o1 w1 (o1 (w1 - dist)))), zO d 1 [.ref dca, .ref dma, .ref dpa, .int (nI du)], zI K dca 16 (zna cd), zI K dma 288 (zna gd)]) [5, 0, 1, 6, 2, 3, 4] rfl rfl rfl ?_
                      exact zj_sub [1, 2, 3, 0] rfl (ih (i + 1) _ _ (by omega) (by omega) (by omega) (zup_lt ho1 _ (ho1 _)) h6)
                    · obtain ⟨hx1, rfl, rfl⟩ := hq
                      exact ⟨rfl, by decide, by decide, [5, 0, 1, 6, 2, 3, 4], [zO u 3 [.ref r, .ref fl, .ref fd, .ref li, .ref di, .ref lc, .ref la, .ref ob, .int (nI w1)], zO r 0 [.ref b, .int (nI e), .int (nI (p2 + ztab 3 far))], zB K b Nb (zby t), zB K ob 16384 (zby o1), zO d 1 [.ref dca, .ref dma, .ref dpa, .int (nI du)], zI K dca 16 (zna cd), zI K dma 288 (zna gd)], rfl, rfl, ⟨h6.symm.trans (by unfold zcpy; rw [if_neg hx1]), _, _, _, hw1, ho1, rfl⟩⟩
              exact zj_sub [4, 3, 1, 0] rfl (key len 0 _ _ (by omega) h94 hw ho hR)
            · refine zj_wsub (ws' := [zO u 3 [.ref r, .ref fl, .ref fd, .ref li, .ref di, .ref lc, .ref la, .ref ob, .int (nI w)], zO r 0 [.ref b, .int (nI e), .int (nI (p2 + ztab 3 far))], zB K b Nb (zby t), zB K ob 16384 (zby o), zO d 1 [.ref dca, .ref dma, .ref dpa, .int (nI du)], zI K dca 16 (zna cd), zI K dma 288 (zna gd)]) [0, 5, 6, 1, 2, 3, 4] rfl rfl rfl ?_
              exact zj_throwS (names := zt_up) F E hl d_UN_readCopy_97 d_UN_readCopy_100 d_UN_readCopy_101 d_UN_readCopy_103 d_UN_readCopy_106 (by decide +kernel) (by decide +kernel) q_381 (at_UN_83) ⟨by decide, by decide, by decide, by decide⟩ rfl (by decide) (by decide) ⟨hR.symm.trans (by unfold zcop; rw [if_pos h5, if_pos hq1, hq2]; dsimp only; rw [if_pos h53, if_pos hq3, if_neg h94]), _, _, _, hw, ho, rfl⟩
          · obtain ⟨hx1, rfl, rfl⟩ := hq
            exact ⟨rfl, by decide, by decide, [0, 5, 6, 1, 2, 3, 4], [zO u 3 [.ref r, .ref fl, .ref fd, .ref li, .ref di, .ref lc, .ref la, .ref ob, .int (nI w)], zO r 0 [.ref b, .int (nI e), .int (nI p2)], zB K b Nb (zby t), zB K ob 16384 (zby o), zO d 1 [.ref dca, .ref dma, .ref dpa, .int (nI du)], zI K dca 16 (zna cd), zI K dma 288 (zna gd)], rfl, rfl, ⟨hR.symm.trans (by unfold zcop; rw [if_pos h5, if_pos hq1, hq2]; dsimp only; rw [if_pos h53, if_neg hx1]), _, _, _, hw, ho, rfl⟩⟩
        · refine zj_wsub (ws' := [zO u 3 [.ref r, .ref fl, .ref fd, .ref li, .ref di, .ref lc, .ref la, .ref ob, .int (nI w)], zO r 0 [.ref b, .int (nI e), .int (nI p2)], zB K b Nb (zby t), zB K ob 16384 (zby o), zO d 1 [.ref dca, .ref dma, .ref dpa, .int (nI du)], zI K dca 16 (zna cd), zI K dma 288 (zna gd)]) [0, 5, 6, 1, 2, 3, 4] rfl rfl rfl ?_
          exact zj_throwS (names := zt_up) F E hl d_UN_readCopy_56 d_UN_readCopy_59 d_UN_readCopy_60 d_UN_readCopy_62 d_UN_readCopy_65 (by decide +kernel) (by decide +kernel) q_378 (at_UN_83) ⟨by decide, by decide, by decide, by decide⟩ rfl (by decide) (by decide) ⟨hR.symm.trans (by unfold zcop; rw [if_pos h5, if_pos hq1, hq2]; dsimp only; rw [if_neg h53]), _, _, _, hw, ho, rfl⟩
      · obtain ⟨hx1, rfl, p9, rfl⟩ := hq
        exact ⟨rfl, by decide, by decide, [0, 5, 6, 1, 2, 3, 4], [zO u 3 [.ref r, .ref fl, .ref fd, .ref li, .ref di, .ref lc, .ref la, .ref ob, .int (nI w)], zO r 0 [.ref b, .int (nI e), .int (nI p9)], zB K b Nb (zby t), zB K ob 16384 (zby o), zO d 1 [.ref dca, .ref dma, .ref dpa, .int (nI du)], zI K dca 16 (zna cd), zI K dma 288 (zna gd)], rfl, rfl, ⟨hR.symm.trans (by unfold zcop; rw [if_pos h5, if_pos hq1, hx1]), _, _, _, hw, ho, rfl⟩⟩
    · obtain ⟨hx1, rfl, rfl⟩ := hq
      exact ⟨rfl, by decide, by decide, [0, 5, 6, 1, 2, 3, 4], [zO u 3 [.ref r, .ref fl, .ref fd, .ref li, .ref di, .ref lc, .ref la, .ref ob, .int (nI w)], zO r 0 [.ref b, .int (nI e), .int (nI p)], zB K b Nb (zby t), zB K ob 16384 (zby o), zO d 1 [.ref dca, .ref dma, .ref dpa, .int (nI du)], zI K dca 16 (zna cd), zI K dma 288 (zna gd)], rfl, rfl, ⟨hR.symm.trans (by unfold zcop; rw [if_pos h5, if_neg hx1]), _, _, _, hw, ho, rfl⟩⟩
  · exact zj_throwS (names := zt_up) F E hl d_UN_readCopy_8 d_UN_readCopy_11 d_UN_readCopy_12 d_UN_readCopy_14 d_UN_readCopy_17 (by decide +kernel) (by decide +kernel) q_373 (at_UN_83) ⟨by decide, by decide, by decide, by decide⟩ rfl (by decide) (by decide) ⟨hR.symm.trans (by unfold zcop; rw [if_neg h5]), _, _, _, hw, ho, rfl⟩
set_option maxHeartbeats 4000000 in
set_option maxRecDepth 100000 in
/-- readCoded(forLiterals, forDistances) -/
theorem m_UN_coded (l : Launch) (hl : l.stackTraces = false) (K : zk) (u r fl fd li di lc la ob : Nat) (b Nb e p w : Nat) (t o : Nat → Nat) (d dca dma dpa du : Nat) (cd gd : Nat → Nat) (md : Nat → Nat → Nat) (c ca ma pa cu : Nat) (cl gl : Nat → Nat) (ml : Nat → Nat → Nat) (R : Except String (Nat × (Nat → Nat) × Nat)) (hb : ∀ j, t j < 256) (hN : Nb ≤ 16384) (he : e = 8 * Nb) (hp : p ≤ e) (ho : ∀ j, o j < 256) (hw : w ≤ 16384) (hD : zCS cd gd md) (hL : zCS cl gl ml) (hR : zcod t e cl ml cd md zfu p o w = R) : zc l K y_UN_readCoded w_UN_readCoded { frames := 9, cells := 1, slots := 6, locals := 173 } 0 0 1 6 [.ref u, .ref c, .ref d] [zO u 3 [.ref r, .ref fl, .ref fd, .ref li, .ref di, .ref lc, .ref la, .ref ob, .int (nI w)], zO r 0 [.ref b, .int (nI e), .int (nI p)], zB K b Nb (zby t), zB K ob 16384 (zby o), zO d 1 [.ref dca, .ref dma, .ref dpa, .int (nI du)], zI K dca 16 (zna cd), zI K dma 288 (zna gd), zO c 1 [.ref ca, .ref ma, .ref pa, .int (nI cu)], zI K ca 16 (zna cl), zI K ma 288 (zna gl)] (fun v w1 => ∃ p' o' w', R = .ok (p', o', w') ∧ p' ≤ e ∧ w' ≤ 16384 ∧ (∀ j, o' j < 256) ∧ v = none ∧ w1 = [zO u 3 [.ref r, .ref fl, .ref fd, .ref li, .ref di, .ref lc, .ref la, .ref ob, .int (nI w')], zO r 0 [.ref b, .int (nI e), .int (nI p')], zB K b Nb (zby t), zB K ob 16384 (zby o'), zO d 1 [.ref dca, .ref dma, .ref dpa, .int (nI du)], zI K dca 16 (zna cd), zI K dma 288 (zna gd), zO c 1 [.ref ca, .ref ma, .ref pa, .int (nI cu)], zI K ca 16 (zna cl), zI K ma 288 (zna gl)]) (fun X w1 => R = .error X ∧ ∃ p' o' w', w' ≤ 16384 ∧ (∀ j, o' j < 256) ∧ w1 = [zO u 3 [.ref r, .ref fl, .ref fd, .ref li, .ref di, .ref lc, .ref la, .ref ob, .int (nI w')], zO r 0 [.ref b, .int (nI e), .int (nI p')], zB K b Nb (zby t), zB K ob 16384 (zby o'), zO d 1 [.ref dca, .ref dma, .ref dpa, .int (nI du)], zI K dca 16 (zna cd), zI K dma 288 (zna gd), zO c 1 [.ref ca, .ref ma, .ref pa, .int (nI cu)], zI K ca 16 (zna cl), zI K ma 288 (zna gl)]) := by
  refine zc_of (cc := c_UN_readCoded) (nl := 5) (ret := none) (by decide) (Nat.le_of_ble_eq_true rfl) (fun G F E => ?_)
  have F : zf G l K { frames := 9, cells := 1, slots := 6, locals := 173 } "ZlibBox$Unpacker" c_UN_readCoded 5 := F
  show zj G 0 0 0 [(0, .ref u), (1, .ref c), (2, .ref d)] [] [zO u 3 [.ref r, .ref fl, .ref fd, .ref li, .ref di, .ref lc, .ref la, .ref ob, .int (nI w)], zO r 0 [.ref b, .int (nI e), .int (nI p)], zB K b Nb (zby t), zB K ob 16384 (zby o), zO d 1 [.ref dca, .ref dma, .ref dpa, .int (nI du)], zI K dca 16 (zna cd), zI K dma 288 (zna gd), zO c 1 [.ref ca, .ref ma, .ref pa, .int (nI cu)], zI K ca 16 (zna cl), zI K ma 288 (zna gl)]
  have hzf := zfu_eq
  have hN2 : Nb < 2 ^ 24 := by omega
  have he2 : e ≤ 8 * Nb := by omega
  refine zj_iconst (v := nI 0) F d_UN_readCoded_0 (by decide) ?_
  refine zj_istore_n (L' := [(3, .int (nI 0)), (0, .ref u), (1, .ref c), (2, .ref d)]) F d_UN_readCoded_1 rfl (by decide) rfl ?_
  have key : ∀ q i p1 o1 w1, i + q = zfu → p1 ≤ e → w1 ≤ 16384 → (∀ j, o1 j < 256) → zcod t e cl ml cd md q p1 o1 w1 = R → zj G 0 0 2 [(0, .ref u), (1, .ref c), (2, .ref d), (3, .int (nI i))] [] [zO u 3 [.ref r, .ref fl, .ref fd, .ref li, .ref di, .ref lc, .ref la, .ref ob, .int (nI w1)], zO r 0 [.ref b, .int (nI e), .int (nI p1)], zB K b Nb (zby t), zB K ob 16384 (zby o1), zO d 1 [.ref dca, .ref dma, .ref dpa, .int (nI du)], zI K dca 16 (zna cd), zI K dma 288 (zna gd), zO c 1 [.ref ca, .ref ma, .ref pa, .int (nI cu)], zI K ca 16 (zna cl), zI K ma 288 (zna gl)] := by
    clear hR
    intro q
    induction q with
    | zero =>
      intro i p1 o1 w1 h1 hp1 hw1 ho1 h6
      show zj G 0 0 2 [(0, .ref u), (1, .ref c), (2, .ref d), (3, .int (nI i))] [] [zO u 3 [.ref r, .ref fl, .ref fd, .ref li, .ref di, .ref lc, .ref la, .ref ob, .int (nI w1)], zO r 0 [.ref b, .int (nI e), .int (nI p1)], zB K b Nb (zby t), zB K ob 16384 (zby o1), zO d 1 [.ref dca, .ref dma, .ref dpa, .int (nI du)], zI K dca 16 (zna cd), zI K dma 288 (zna gd), zO c 1 [.ref ca, .ref ma, .ref pa, .int (nI cu)], zI K ca 16 (zna cl), zI K ma 288 (zna gl)]
      refine zj_iload_n F d_UN_readCoded_2 3 rfl rfl ?_
      refine zj_ldc (v := nI 131072) F d_UN_readCoded_3 q_333 ?_
      refine zj_icmp_ge (tgt := 61) F d_UN_readCoded_5 (by decide) (nI_leI (by omega) (by omega)) (fun h5 => ?_) (fun h5 => ?_)
      · exact zj_vret F E d_UN_readCoded_61 (Nat.le_refl _) (Nat.le_refl _) ⟨_, _, _, h6.symm, hp1, hw1, ho1, rfl, rfl⟩
      · exact absurd h5 (by omega)
    | succ q ih =>
      intro i p1 o1 w1 h1 hp1 hw1 ho1 h6
      show zj G 0 0 2 [(0, .ref u), (1, .ref c), (2, .ref d), (3, .int (nI i))] [] [zO u 3 [.ref r, .ref fl, .ref fd, .ref li, .ref di, .ref lc, .ref la, .ref ob, .int (nI w1)], zO r 0 [.ref b, .int (nI e), .int (nI p1)], zB K b Nb (zby t), zB K ob 16384 (zby o1), zO d 1 [.ref dca, .ref dma, .ref dpa, .int (nI du)], zI K dca 16 (zna cd), zI K dma 288 (zna gd), zO c 1 [.ref ca, .ref ma, .ref pa, .int (nI cu)], zI K ca 16 (zna cl), zI K ma 288 (zna gl)]
      refine zj_iload_n F d_UN_readCoded_2 3 rfl rfl ?_
      refine zj_ldc (v := nI 131072) F d_UN_readCoded_3 q_333 ?_
      refine zj_icmp_ge (tgt := 61) F d_UN_readCoded_5 (by decide) (nI_leI (by omega) (by omega)) (fun h5 => ?_) (fun h5 => ?_)
      · exact absurd h5 (by omega)
      · refine zj_aload_n F d_UN_readCoded_8 1 rfl rfl ?_
        refine zj_aload_n F d_UN_readCoded_9 0 rfl rfl ?_
        refine zj_get F d_UN_readCoded_10 0 0 rfl rfl in_UN (by decide) q_81 rfl ?_
        refine zj_call (maxL := 7) (wr := [zO u 3 [.ref r, .ref fl, .ref fd, .ref li, .ref di, .ref lc, .ref la, .ref ob, .int (nI w1)], zB K ob 16384 (zby o1), zO d 1 [.ref dca, .ref dma, .ref dpa, .int (nI du)], zI K dca 16 (zna cd), zI K dma 288 (zna gd)]) F E (m_CO_read l hl K c ca ma pa cu r b Nb e p1 t cl gl ml hb hN2 he2 hp1 hL.1 hL.2.1) (zi_V (As := [.ref r]) (rest := []) F d_UN_readCoded_13 7 rfl rfl rfl q_359 q_360 q_361 q_362 (Or.inl ⟨_, _, rfl⟩) (by decide) (show Option.map (fun d => d.parameters.length) (parseMethodDescriptor y_CO_read.desc) = some 1 from by decide +kernel)) d_UN_readCoded_13 q_362 (Or.inl ⟨_, _, rfl⟩) q_4 [7, 8, 9, 1, 2] [0, 3, 4, 5, 6] rfl rfl rfl rfl (by decide) ⟨by decide, by decide, by decide, by decide⟩ (Nat.le_of_ble_eq_true rfl) (fun v w1 hq => ?_) (fun X w1 hq => ?_)
        · obtain ⟨sym, p2, hq2, rfl, rfl⟩ := hq
          show zj G 0 0 16 [(0, .ref u), (1, .ref c), (2, .ref d), (3, .int (nI i))] [.int (nI sym)] [zO u 3 [.ref r, .ref fl, .ref fd, .ref li, .ref di, .ref lc, .ref la, .ref ob, .int (nI w1)], zB K ob 16384 (zby o1), zO d 1 [.ref dca, .ref dma, .ref dpa, .int (nI du)], zI K dca 16 (zna cd), zI K dma 288 (zna gd), zO c 1 [.ref ca, .ref ma, .ref pa, .int (nI cu)], zI K ca 16 (zna cl), zI K ma 288 (zna gl), zO r 0 [.ref b, .int (nI e), .int (nI p2)], zB K b Nb (zby t)]
          obtain ⟨hp2a, hp2b⟩ := zdec_le _ _ _ _ _ _ _ hq2
          have hsym := zdec_val hL.2.2 _ _ _ _ _ _ _ hq2
          rw [zcod_s] at h6
          unfold zcodS at h6
          rw [hq2] at h6
          dsimp only at h6
          refine zj_istore (L' := [(4, .int (nI sym)), (0, .ref u), (1, .ref c), (2, .ref d), (3, .int (nI i))]) F d_UN_readCoded_16 (by decide) rfl ?_
          refine zj_iload F d_UN_readCoded_18 0 rfl ?_
          refine zj_sipush (v := nI 256) F d_UN_readCoded_20 (by decide) ?_
          refine zj_icmp_ne (tgt := 27) F d_UN_readCoded_23 (by decide) (nI_eq (by omega) (by omega)) (fun h23 => ?_) (fun h23 => ?_)
          · rw [if_neg h23] at h6
            refine zj_iload F d_UN_readCoded_27 0 rfl ?_
            refine zj_sipush (v := nI 256) F d_UN_readCoded_29 (by decide) ?_
            refine zj_icmp_ge (tgt := 44) F d_UN_readCoded_32 (by decide) (nI_leI (by omega) (by omega)) (fun h32 => ?_) (fun h32 => ?_)
            · rw [if_neg (by omega)] at h6
              refine zj_aload_n F d_UN_readCoded_44 1 rfl rfl ?_
              refine zj_iload F d_UN_readCoded_45 0 rfl ?_
              refine zj_sipush (v := nI 257) F d_UN_readCoded_47 (by decide) ?_
              refine zj_isub (z := nI (sym - 257)) F d_UN_readCoded_50 (pk_sub (by omega)) ?_
              refine zj_aload_n F d_UN_readCoded_51 3 rfl rfl ?_
              refine zj_call (maxL := 7) (wr := [zO c 1 [.ref ca, .ref ma, .ref pa, .int (nI cu)], zI K ca 16 (zna cl), zI K ma 288 (zna gl)]) F E (m_UN_copy l hl K u r fl fd li di lc la ob b Nb e p2 w1 t o1 d dca dma dpa du cd gd md (sym - 257) _ hb hN he hp2b ho1 hw1 hD (by omega) rfl) (zi_V (As := [.int (nI (sym - 257)), .ref d]) (rest := []) F d_UN_readCoded_52 0 rfl rfl rfl q_367 q_369 sel_UN_readCopy q_370 (Or.inl ⟨_, _, rfl⟩) (by decide) (show Option.map (fun d => d.parameters.length) (parseMethodDescriptor y_UN_readCopy.desc) = some 2 from by decide +kernel)) d_UN_readCoded_52 q_370 (Or.inl ⟨_, _, rfl⟩) q_2 [0, 8, 9, 1, 2, 3, 4] [5, 6, 7] rfl rfl rfl rfl (by decide) ⟨by decide, by decide, by decide, by decide⟩ (Nat.le_of_ble_eq_true rfl) (fun v w1 hq => ?_) (fun X w1 hq => ?_)
              · obtain ⟨p3, o3, w3, hq3, hp3, hw3, ho3, rfl, rfl⟩ := hq
                show zj G 0 0 55 [(4, .int (nI sym)), (0, .ref u), (1, .ref c), (2, .ref d), (3, .int (nI i))] [] [zO c 1 [.ref ca, .ref ma, .ref pa, .int (nI cu)], zI K ca 16 (zna cl), zI K ma 288 (zna gl), zO u 3 [.ref r, .ref fl, .ref fd, .ref li, .ref di, .ref lc, .ref la, .ref ob, .int (nI w3)], zO r 0 [.ref b, .int (nI e), .int (nI p3)], zB K b Nb (zby t), zB K ob 16384 (zby o3), zO d 1 [.ref dca, .ref dma, .ref dpa, .int (nI du)], zI K dca 16 (zna cd), zI K dma 288 (zna gd)]
                rw [hq3] at h6
                dsimp only at h6
                refine zj_iinc (v := nI (i + 1)) (L' := [(3, .int (nI (i + 1))), (4, .int (nI sym)), (0, .ref u), (1, .ref c), (2, .ref d)]) F d_UN_readCoded_55 4 rfl (nI_add _ _) (by decide) rfl ?_
                refine zj_goto F d_UN_readCoded_58 (tgt := 2) (by decide) ?_
                refine zj_wsub (ws' := [zO u 3 [.ref r, .ref fl, .ref fd, .ref li, .ref di, .ref lc, .ref la, .ref ob, .int (nI w3)], zO r 0 [.ref b, .int (nI e), .int (nI p3)], zB K b Nb (zby t), zB K ob 16384 (zby o3), zO d 1 [.ref dca, .ref dma, .ref dpa, .int (nI du)], zI K dca 16 (zna cd), zI K dma 288 (zna gd), zO c 1 [.ref ca, .ref ma, .ref pa, .int (nI cu)], zI K ca 16 (zna cl), zI K ma 288 (zna gl)]) [3, 4, 5, 6, 7, 8, 9, 0, 1, 2] rfl rfl rfl ?_
                exact zj_sub [2, 3, 4, 0] rfl (ih (i + 1) _ _ _ (by omega) hp3 hw3 ho3 h6)
              · obtain ⟨hx1, p9, o9, w9, hw9, ho9, rfl⟩ := hq
                exact ⟨rfl, by decide, by decide, [3, 4, 5, 6, 7, 8, 9, 0, 1, 2], [zO u 3 [.ref r, .ref fl, .ref fd, .ref li, .ref di, .ref lc, .ref la, .ref ob, .int (nI w9)], zO r 0 [.ref b, .int (nI e), .int (nI p9)], zB K b Nb (zby t), zB K ob 16384 (zby o9), zO d 1 [.ref dca, .ref dma, .ref dpa, .int (nI du)], zI K dca 16 (zna cd), zI K dma 288 (zna gd), zO c 1 [.ref ca, .ref ma, .ref pa, .int (nI cu)], zI K ca 16 (zna cl), zI K ma 288 (zna gl)], rfl, rfl, ⟨h6.symm.trans (by rw [hx1]), _, _, _, hw9, ho9, rfl⟩⟩
            · rw [if_pos (by omega)] at h6
              refine zj_aload_n F d_UN_readCoded_35 1 rfl rfl ?_
              refine zj_iload F d_UN_readCoded_36 0 rfl ?_
              refine zj_call (maxL := 2) (wr := [zO d 1 [.ref dca, .ref dma, .ref dpa, .int (nI du)], zI K dca 16 (zna cd), zI K dma 288 (zna gd), zO c 1 [.ref ca, .ref ma, .ref pa, .int (nI cu)], zI K ca 16 (zna cl), zI K ma 288 (zna gl), zO r 0 [.ref b, .int (nI e), .int (nI p2)], zB K b Nb (zby t)]) F E (m_UN_put l hl K u r fl fd li di lc la ob w1 o1 (nI sym) hw1) (zi_V (As := [.int (nI sym)]) (rest := []) F d_UN_readCoded_38 0 rfl rfl rfl q_348 q_350 sel_UN_put q_351 (Or.inl ⟨_, _, rfl⟩) (by decide) (show Option.map (fun d => d.parameters.length) (parseMethodDescriptor y_UN_put.desc) = some 1 from by decide +kernel)) d_UN_readCoded_38 q_351 (Or.inl ⟨_, _, rfl⟩) q_2 [0, 1] [2, 3, 4, 5, 6, 7, 8, 9] rfl rfl rfl rfl (by decide) ⟨by decide, by decide, by decide, by decide⟩ (Nat.le_of_ble_eq_true rfl) (fun v w1 hq => ?_) (fun X w1 hq => ?_)
              · obtain ⟨hq4, rfl, rfl⟩ := hq
                rw [zlow_nI, Nat.mod_eq_of_lt (show sym < 256 by omega)]
                show zj G 0 0 41 [(4, .int (nI sym)), (0, .ref u), (1, .ref c), (2, .ref d), (3, .int (nI i))] [] [zO d 1 [.ref dca, .ref dma, .ref dpa, .int (nI du)], zI K dca 16 (zna cd), zI K dma 288 (zna gd), zO c 1 [.ref ca, .ref ma, .ref pa, .int (nI cu)], zI K ca 16 (zna cl), zI K ma 288 (zna gl), zO r 0 [.ref b, .int (nI e), .int (nI p2)], zB K b Nb (zby t), zO u 3 [.ref r, .ref fl, .ref fd, .ref li, .ref di, .ref lc, .ref la, .ref ob, .int (nI (w1 + 1))], zB K ob 16384 (zby (va_up o1 w1 sym))]
                rw [if_pos hq4] at h6
                refine zj_goto F d_UN_readCoded_41 (tgt := 55) (by decide) ?_
                refine zj_iinc (v := nI (i + 1)) (L' := [(3, .int (nI (i + 1))), (4, .int (nI sym)), (0, .ref u), (1, .ref c), (2, .ref d)]) F d_UN_readCoded_55 4 rfl (nI_add _ _) (by decide) rfl ?_
                refine zj_goto F d_UN_readCoded_58 (tgt := 2) (by decide) ?_
                refine zj_wsub (ws' := [zO u 3 [.ref r, .ref fl, .ref fd, .ref li, .ref di, .ref lc, .ref la, .ref ob, .int (nI (w1 + 1))], zO r 0 [.ref b, .int (nI e), .int (nI p2)], zB K b Nb (zby t), zB K ob 16384 (zby (va_up o1 w1 sym)), zO d 1 [.ref dca, .ref dma, .ref dpa, .int (nI du)], zI K dca 16 (zna cd), zI K dma 288 (zna gd), zO c 1 [.ref ca, .ref ma, .ref pa, .int (nI cu)], zI K ca 16 (zna cl), zI K ma 288 (zna gl)]) [8, 6, 7, 9, 0, 1, 2, 3, 4, 5] rfl rfl rfl ?_
                exact zj_sub [2, 3, 4, 0] rfl (ih (i + 1) _ _ _ (by omega) hp2b (by omega) (zup_lt ho1 _ (by omega)) h6)
              · obtain ⟨hx1, rfl, rfl⟩ := hq
                exact ⟨rfl, by decide, by decide, [8, 6, 7, 9, 0, 1, 2, 3, 4, 5], [zO u 3 [.ref r, .ref fl, .ref fd, .ref li, .ref di, .ref lc, .ref la, .ref ob, .int (nI w1)], zO r 0 [.ref b, .int (nI e), .int (nI p2)], zB K b Nb (zby t), zB K ob 16384 (zby o1), zO d 1 [.ref dca, .ref dma, .ref dpa, .int (nI du)], zI K dca 16 (zna cd), zI K dma 288 (zna gd), zO c 1 [.ref ca, .ref ma, .ref pa, .int (nI cu)], zI K ca 16 (zna cl), zI K ma 288 (zna gl)], rfl, rfl, ⟨h6.symm.trans (by rw [if_neg hx1]), _, _, _, hw1, ho1, rfl⟩⟩
          · rw [if_pos h23] at h6
            refine zj_wsub (ws' := [zO u 3 [.ref r, .ref fl, .ref fd, .ref li, .ref di, .ref lc, .ref la, .ref ob, .int (nI w1)], zO r 0 [.ref b, .int (nI e), .int (nI p2)], zB K b Nb (zby t), zB K ob 16384 (zby o1), zO d 1 [.ref dca, .ref dma, .ref dpa, .int (nI du)], zI K dca 16 (zna cd), zI K dma 288 (zna gd), zO c 1 [.ref ca, .ref ma, .ref pa, .int (nI cu)], zI K ca 16 (zna cl), zI K ma 288 (zna gl)]) [0, 8, 9, 1, 2, 3, 4, 5, 6, 7] rfl rfl rfl ?_
            exact zj_vret F E d_UN_readCoded_26 (Nat.le_refl _) (Nat.le_refl _) ⟨_, _, _, h6.symm, hp2b, hw1, ho1, rfl, rfl⟩
        · obtain ⟨hx1, rfl, p9, rfl⟩ := hq
          exact ⟨rfl, by decide, by decide, [0, 8, 9, 1, 2, 3, 4, 5, 6, 7], [zO u 3 [.ref r, .ref fl, .ref fd, .ref li, .ref di, .ref lc, .ref la, .ref ob, .int (nI w1)], zO r 0 [.ref b, .int (nI e), .int (nI p9)], zB K b Nb (zby t), zB K ob 16384 (zby o1), zO d 1 [.ref dca, .ref dma, .ref dpa, .int (nI du)], zI K dca 16 (zna cd), zI K dma 288 (zna gd), zO c 1 [.ref ca, .ref ma, .ref pa, .int (nI cu)], zI K ca 16 (zna cl), zI K ma 288 (zna gl)], rfl, rfl, ⟨h6.symm.trans (by rw [zcod_s]; unfold zcodS; rw [hx1]), _, _, _, hw1, ho1, rfl⟩⟩
  exact zj_sub [1, 2, 3, 0] rfl (key zfu 0 _ _ _ (Nat.zero_add _) hp hw ho hR)
end
section
/-- how many of the first n lengths (from 'a' on) are l -/
def zcnt (g : Nat → Nat) (a l : Nat) : Nat → Nat
  | 0 => 0
  | n + 1 => zcnt g a l n + if g (a + n) = l then 1 else 0
/-- the r-th of the first n places whose length is l -/
def zth (g : Nat → Nat) (a l : Nat) : Nat → Nat → Nat
  | 0, _ => 0
  | n + 1, r => if g (a + n) = l ∧ zcnt g a l n = r then n else zth g a l n r
/-- how many words of 15 bits begin with one of the codes -/
def zuse (g : Nat → Nat) (a : Nat) : Nat → Nat
  | 0 => 0
  | n + 1 => zuse g a n + if g (a + n) = 0 then 0 else 32768 / 2 ^ g (a + n)
theorem zth_lt (g : Nat → Nat) (a l : Nat) : ∀ n r, 0 < n → zth g a l n r < n
  | 0, _, h => absurd h (by decide)
  | n + 1, r, _ => by
    unfold zth
    by_cases h : g (a + n) = l ∧ zcnt g a l n = r
    · rw [if_pos h]; omega
    · rw [if_neg h]
      by_cases h0 : 0 < n
      · have := zth_lt g a l n r h0; omega
      · have : n = 0 := by omega
        subst this
        show (0 : Nat) < 0 + 1
        decide
theorem zcnt_mono (g : Nat → Nat) (a l : Nat) : ∀ d n, zcnt g a l n ≤ zcnt g a l (n + d)
  | 0, n => Nat.le_refl _
  | d + 1, n => Nat.le_trans (zcnt_mono g a l d n) (Nat.le_add_right _ _)
theorem zcnt_le (g : Nat → Nat) (a l : Nat) : ∀ n, zcnt g a l n ≤ n
  | 0 => Nat.le_refl _
  | n + 1 => by
    have := zcnt_le g a l n
    show zcnt g a l n + (if g (a + n) = l then 1 else 0) ≤ n + 1
    by_cases h : g (a + n) = l
    · rw [if_pos h]; omega
    · rw [if_neg h]; omega
theorem zuse_le (g : Nat → Nat) (a : Nat) : ∀ n, zuse g a n ≤ n * 32768
  | 0 => Nat.le_refl _
  | n + 1 => by
    have h1 := zuse_le g a n
    have h2 : (if g (a + n) = 0 then 0 else 32768 / 2 ^ g (a + n)) ≤ 32768 := by
      by_cases h : g (a + n) = 0
      · rw [if_pos h]; omega
      · rw [if_neg h]; exact Nat.div_le_self _ _
    show zuse g a n + (if g (a + n) = 0 then 0 else 32768 / 2 ^ g (a + n)) ≤ (n + 1) * 32768
    omega
theorem zbas_congr {cn cn' : Nat → Nat} : ∀ k, (∀ l, 1 ≤ l → l < k → cn l = cn' l) → zbas cn k = zbas cn' k
  | 0, _ => rfl
  | k + 1, h => by
    show zbas cn k + (if k = 0 then 0 else cn k) = zbas cn' k + (if k = 0 then 0 else cn' k)
    rw [zbas_congr k (fun l h1 h2 => h l h1 (by omega))]
    by_cases h0 : k = 0
    · rw [if_pos h0, if_pos h0]
    · rw [if_neg h0, if_neg h0, h k (by omega) (by omega)]
theorem zbas_add (g : Nat → Nat) (a n : Nat) : ∀ k, zbas (fun l => zcnt g a l (n + 1)) k = zbas (fun l => zcnt g a l n) k + if 1 ≤ g (a + n) ∧ g (a + n) < k then 1 else 0
  | 0 => by rw [if_neg (by omega)]; rfl
  | k + 1 => by
    show zbas (fun l => zcnt g a l (n + 1)) k + (if k = 0 then 0 else zcnt g a k (n + 1)) = zbas (fun l => zcnt g a l n) k + (if k = 0 then 0 else zcnt g a k n) + _
    rw [zbas_add g a n k]
    show _ + (if k = 0 then 0 else zcnt g a k n + if g (a + n) = k then 1 else 0) = _
    by_cases h0 : k = 0
    · subst h0
      rw [if_pos rfl, if_pos rfl, if_neg (by omega), if_neg (by omega)]
    · rw [if_neg h0, if_neg h0]
      by_cases h1 : g (a + n) = k
      · rw [if_pos h1, if_neg (by omega), if_pos (by omega)]; omega
      · rw [if_neg h1]
        by_cases h2 : 1 ≤ g (a + n) ∧ g (a + n) < k
        · rw [if_pos h2, if_pos (by omega)]; omega
        · rw [if_neg h2, if_neg (by omega)]; omega
theorem zbas_size (g : Nat → Nat) (a k : Nat) : ∀ n, zbas (fun l => zcnt g a l n) k ≤ n
  | 0 => by
    have : ∀ k, zbas (fun l => zcnt g a l 0) k = 0 := by
      intro k
      induction k with
      | zero => rfl
      | succ k ih =>
        show zbas (fun l => zcnt g a l 0) k + (if k = 0 then 0 else zcnt g a k 0) = 0
        rw [ih]
        show 0 + (if k = 0 then 0 else 0) = 0
        simp
    rw [this]
    exact Nat.le_refl _
  | n + 1 => by
    have h1 := zbas_size g a k n
    rw [zbas_add]
    by_cases h : 1 ≤ g (a + n) ∧ g (a + n) < k
    · rw [if_pos h]; omega
    · rw [if_neg h]; omega
theorem zbas_dis {cn : Nat → Nat} {l l' r : Nat} (h1 : 1 ≤ l) (h : l < l') (hr : r < cn l) : zbas cn l + r < zbas cn l' := by
  have h2 : zbas cn (l + 1) = zbas cn l + cn l := by
    show zbas cn l + (if l = 0 then 0 else cn l) = _
    rw [if_neg (by omega)]
  have h3 := zbas_mono cn (l' - (l + 1)) (l + 1)
  rw [show l + 1 + (l' - (l + 1)) = l' by omega] at h3
  omega
theorem zfil_na (g : Nat → Nat) (v n : Nat) : zfil (zna g) (nI v) n = zna (fun j => if j < n then v else g j) := by
  funext j
  rw [zfil_eq]
  show _ = nI (if j < n then v else g j)
  by_cases h : j < n
  · rw [if_pos h, if_pos h]
  · rw [if_neg h, if_neg h]; rfl
set_option maxHeartbeats 4000000 in
set_option maxRecDepth 100000 in
/-- areOneOfOneBitOrNone() -/
theorem m_CO_one (l : Launch) (K : zk) (c ca ma pa u : Nat) (cn : Nat → Nat) (hu : u < 2 ^ 31) (hc : cn 1 < 2 ^ 31) : zc l K y_CO_areOneOfOneBitOrNone w_CO_areOneOfOneBitOrNone { frames := 0, cells := 0, slots := 0, locals := 0 } 0 0 0 0 [.ref c] [zO c 1 [.ref ca, .ref ma, .ref pa, .int (nI u)], zI K ca 16 (zna cn)] (fun v w1 => v = some (.int (nI (if u = 0 ∨ (u = 16384 ∧ cn 1 = 1) then 1 else 0))) ∧ w1 = [zO c 1 [.ref ca, .ref ma, .ref pa, .int (nI u)], zI K ca 16 (zna cn)]) (fun _ _ => False) := by
  refine zc_of (cc := c_CO_areOneOfOneBitOrNone) (nl := 1) (ret := (some .boolean)) (by decide) (Nat.le_of_ble_eq_true rfl) (fun G F E => ?_)
  have F : zf G l K { frames := 0, cells := 0, slots := 0, locals := 0 } "ZlibBox$Codes" c_CO_areOneOfOneBitOrNone 1 := F
  show zj G 0 0 0 [(0, .ref c)] [] [zO c 1 [.ref ca, .ref ma, .ref pa, .int (nI u)], zI K ca 16 (zna cn)]
  refine zj_aload_n F d_CO_areOneOfOneBitOrNone_0 0 rfl rfl ?_
  refine zj_get F d_CO_areOneOfOneBitOrNone_1 0 3 rfl rfl in_CO (by decide) q_57 rfl ?_
  refine zj_if_eq (tgt := 27) F d_CO_areOneOfOneBitOrNone_4 (by decide) (zI_eq0 (by omega)) (fun h4 => ?_) (fun h4 => ?_)
  · refine zj_iconst (v := nI 1) F d_CO_areOneOfOneBitOrNone_27 (by decide) ?_
    refine zj_goto F d_CO_areOneOfOneBitOrNone_28 (tgt := 32) (by decide) ?_
    exact zj_zret F E d_CO_areOneOfOneBitOrNone_32 (by decide) (Nat.le_refl _) (Nat.le_refl _) ⟨by rw [if_pos (Or.inl h4)], rfl⟩
  · refine zj_aload_n F d_CO_areOneOfOneBitOrNone_7 0 rfl rfl ?_
    refine zj_get F d_CO_areOneOfOneBitOrNone_8 0 3 rfl rfl in_CO (by decide) q_57 rfl ?_
    refine zj_sipush (v := nI 16384) F d_CO_areOneOfOneBitOrNone_11 (by decide) ?_
    refine zj_icmp_ne (tgt := 31) F d_CO_areOneOfOneBitOrNone_14 (by decide) (nI_eq (by omega) (by omega)) (fun h14 => ?_) (fun h14 => ?_)
    · refine zj_iconst (v := nI 0) F d_CO_areOneOfOneBitOrNone_31 (by decide) ?_
      exact zj_zret F E d_CO_areOneOfOneBitOrNone_32 (by decide) (Nat.le_refl _) (Nat.le_refl _) ⟨by rw [if_neg (fun q => q.elim h4 (fun q => h14 q.1))], rfl⟩
    · refine zj_aload_n F d_CO_areOneOfOneBitOrNone_17 0 rfl rfl ?_
      refine zj_get F d_CO_areOneOfOneBitOrNone_18 0 0 rfl rfl in_CO (by decide) q_54 rfl ?_
      refine zj_iconst (v := nI 1) F d_CO_areOneOfOneBitOrNone_21 (by decide) ?_
      refine zj_iald (z := nI (cn 1)) F d_CO_areOneOfOneBitOrNone_22 1 1 1 rfl rfl rfl (by omega) (by omega) rfl ?_
      refine zj_iconst (v := nI 1) F d_CO_areOneOfOneBitOrNone_23 (by decide) ?_
      refine zj_icmp_ne (tgt := 31) F d_CO_areOneOfOneBitOrNone_24 (by decide) (nI_eq (by omega) (by omega)) (fun h24 => ?_) (fun h24 => ?_)
      · refine zj_iconst (v := nI 0) F d_CO_areOneOfOneBitOrNone_31 (by decide) ?_
        exact zj_zret F E d_CO_areOneOfOneBitOrNone_32 (by decide) (Nat.le_refl _) (Nat.le_refl _) ⟨by rw [if_neg (fun q => q.elim h4 (fun q => h24 q.2))], rfl⟩
      · refine zj_iconst (v := nI 1) F d_CO_areOneOfOneBitOrNone_27 (by decide) ?_
        refine zj_goto F d_CO_areOneOfOneBitOrNone_28 (tgt := 32) (by decide) ?_
        exact zj_zret F E d_CO_areOneOfOneBitOrNone_32 (by decide) (Nat.le_refl _) (Nat.le_refl _) ⟨by rw [if_pos (Or.inr ⟨h14, h24⟩)], rfl⟩
set_option maxHeartbeats 4000000 in
set_option maxRecDepth 100000 in
/-- make(lengths, from, size) -/
theorem m_CO_make (l : Launch) (K : zk) (c ca ma pa la NL u a n : Nat) (g cn mg pg : Nat → Nat) (hNL : NL < 2 ^ 20) (ha : a + n ≤ NL) (hn : n ≤ 288) (hg : ∀ i, i < n → g (a + i) ≤ 15) : zc l K y_CO_make w_CO_make { frames := 1, cells := 0, slots := 0, locals := 23 } 0 0 0 0 [.ref c, .ref la, .int (nI a), .int (nI n)] [zO c 1 [.ref ca, .ref ma, .ref pa, .int (nI u)], zI K ca 16 (zna cn), zI K ma 288 (zna mg), zI K pa 16 (zna pg), zI K la NL (zna g)] (fun v w1 => v = none ∧ ∃ cn' mg' pg', (∀ l, l ≤ 15 → cn' l = zcnt g a l n) ∧ zbas cn' 16 ≤ n ∧ (∀ l, 1 ≤ l → l ≤ 15 → ∀ r, r < cn' l → mg' (zbas cn' l + r) = zth g a l n r) ∧ w1 = [zO c 1 [.ref ca, .ref ma, .ref pa, .int (nI (zuse g a n))], zI K ca 16 (zna cn'), zI K ma 288 (zna mg'), zI K pa 16 (zna pg'), zI K la NL (zna g)]) (fun _ _ => False) := by
  refine zc_of (cc := c_CO_make) (nl := 6) (ret := none) (by decide) (Nat.le_of_ble_eq_true rfl) (fun G F E => ?_)
  have F : zf G l K { frames := 1, cells := 0, slots := 0, locals := 23 } "ZlibBox$Codes" c_CO_make 6 := F
  show zj G 0 0 0 [(0, .ref c), (1, .ref la), (2, .int (nI a)), (3, .int (nI n))] [] [zO c 1 [.ref ca, .ref ma, .ref pa, .int (nI u)], zI K ca 16 (zna cn), zI K ma 288 (zna mg), zI K pa 16 (zna pg), zI K la NL (zna g)]
  refine zj_aload_n F d_CO_make_0 0 rfl rfl ?_
  refine zj_get F d_CO_make_1 0 0 rfl rfl in_CO (by decide) q_54 rfl ?_
  refine zj_iconst (v := nI 0) F d_CO_make_4 (by decide) ?_
  refine zj_call (maxL := 4) (wr := [zO c 1 [.ref ca, .ref ma, .ref pa, .int (nI u)], zI K ma 288 (zna mg), zI K pa 16 (zna pg), zI K la NL (zna g)]) F E (m_fill l K ca 16 (zna cn) (nI 0) (by decide)) (zi_S (As := [.ref ca, .int (nI 0)]) (rest := []) F d_CO_make_5 q_76 q_77 q_5 q_78 (Or.inl ⟨_, _, rfl⟩) (by decide) (show Option.map (fun d => d.parameters.length) (parseMethodDescriptor y_AR_fill.desc) = some 2 from by decide +kernel)) d_CO_make_5 q_78 (Or.inl ⟨_, _, rfl⟩) q_5 [1] [0, 2, 3, 4] rfl rfl rfl rfl (by decide) ⟨by decide, by decide, by decide, by decide⟩ (Nat.le_of_ble_eq_true rfl) (fun v w1 hq => ?_) (fun X w1 hq => ?_)
  · obtain ⟨rfl, rfl⟩ := hq
    rw [zfil_na]
    show zj G 0 0 8 [(0, .ref c), (1, .ref la), (2, .int (nI a)), (3, .int (nI n))] [] [zO c 1 [.ref ca, .ref ma, .ref pa, .int (nI u)], zI K ma 288 (zna mg), zI K pa 16 (zna pg), zI K la NL (zna g), zI K ca 16 (zna (fun j => if j < 16 then 0 else cn j))]
    refine zj_aload_n F d_CO_make_8 0 rfl rfl ?_
    refine zj_iconst (v := nI 0) F d_CO_make_9 (by decide) ?_
    refine zj_put (ws' := [zO c 1 [.ref ca, .ref ma, .ref pa, .int (nI 0)], zI K ma 288 (zna mg), zI K pa 16 (zna pg), zI K la NL (zna g), zI K ca 16 (zna (fun j => if j < 16 then 0 else cn j))]) F d_CO_make_10 0 3 rfl rfl in_CO ty_CO nm_CO (by decide) q_57 rfl rfl rfl (Nat.le_of_ble_eq_true rfl) rfl ?_
    refine zj_iconst (v := nI 0) F d_CO_make_13 (by decide) ?_
    refine zj_istore (L' := [(4, .int (nI 0)), (0, .ref c), (1, .ref la), (2, .int (nI a)), (3, .int (nI n))]) F d_CO_make_14 (by decide) rfl ?_
    refine zj_wsub (ws' := [zO c 1 [.ref ca, .ref ma, .ref pa, .int (nI 0)], zI K ca 16 (zna (fun j => if j < 16 then 0 else cn j)), zI K ma 288 (zna mg), zI K pa 16 (zna pg), zI K la NL (zna g)]) [0, 4, 1, 2, 3] rfl rfl rfl ?_
    have key3 : ∀ cn1 : Nat → Nat, (∀ l, l ≤ 15 → cn1 l = zcnt g a l n) → ∀ d i mg1 pg1, i + d = n → (∀ l, 1 ≤ l → l ≤ 15 → pg1 l = zbas cn1 l + zcnt g a l i) → (∀ l, 1 ≤ l → l ≤ 15 → ∀ r, r < zcnt g a l i → mg1 (zbas cn1 l + r) = zth g a l i r) → zj G 0 0 122 [(0, .ref c), (1, .ref la), (2, .int (nI a)), (3, .int (nI n)), (4, .int (nI i))] [] [zO c 1 [.ref ca, .ref ma, .ref pa, .int (nI (zuse g a n))], zI K ca 16 (zna cn1), zI K ma 288 (zna mg1), zI K pa 16 (zna pg1), zI K la NL (zna g)] := by
      intro cn1 hcn
      have hbn : zbas cn1 16 ≤ n := by rw [zbas_congr 16 (fun l h1 h2 => hcn l (by omega))]; exact zbas_size g a 16 n
      intro d
      induction d with
      | zero =>
        intro i mg1 pg1 h1 hpg hmg
        have hi : i = n := by omega
        subst hi
        show zj G 0 0 122 [(0, .ref c), (1, .ref la), (2, .int (nI a)), (3, .int (nI i)), (4, .int (nI i))] [] [zO c 1 [.ref ca, .ref ma, .ref pa, .int (nI (zuse g a i))], zI K ca 16 (zna cn1), zI K ma 288 (zna mg1), zI K pa 16 (zna pg1), zI K la NL (zna g)]
        refine zj_iload F d_CO_make_122 4 rfl ?_
        refine zj_iload_n F d_CO_make_124 3 rfl rfl ?_
        refine zj_icmp_ge (tgt := 172) F d_CO_make_125 (by decide) (nI_leI (by omega) (by omega)) (fun h125 => ?_) (fun h125 => ?_)
        · exact zj_vret F E d_CO_make_172 (Nat.le_refl _) (Nat.le_refl _) ⟨rfl, cn1, mg1, pg1, hcn, hbn, fun l h2 h3 r hr => hmg l h2 h3 r (by rw [← hcn l h3]; exact hr), rfl⟩
        · exact absurd (Nat.le_refl i) h125
      | succ d ih =>
        intro i mg1 pg1 h1 hpg hmg
        have hgi := hg i (by omega)
        show zj G 0 0 122 [(0, .ref c), (1, .ref la), (2, .int (nI a)), (3, .int (nI n)), (4, .int (nI i))] [] [zO c 1 [.ref ca, .ref ma, .ref pa, .int (nI (zuse g a n))], zI K ca 16 (zna cn1), zI K ma 288 (zna mg1), zI K pa 16 (zna pg1), zI K la NL (zna g)]
        refine zj_iload F d_CO_make_122 4 rfl ?_
        refine zj_iload_n F d_CO_make_124 3 rfl rfl ?_
        refine zj_icmp_ge (tgt := 172) F d_CO_make_125 (by decide) (nI_leI (by omega) (by omega)) (fun h125 => ?_) (fun h125 => ?_)
        · exact absurd h125 (by omega)
        · refine zj_aload_n F d_CO_make_128 1 rfl rfl ?_
          refine zj_iload_n F d_CO_make_129 2 rfl rfl ?_
          refine zj_iload F d_CO_make_130 4 rfl ?_
          refine zj_iadd F d_CO_make_132 (nI_add _ _) ?_
          refine zj_iald (z := nI (g (a + i))) F d_CO_make_133 4 1 (a + i) rfl rfl rfl (by omega) (by omega) rfl ?_
          refine zj_istore (L' := [(5, .int (nI (g (a + i)))), (0, .ref c), (1, .ref la), (2, .int (nI a)), (3, .int (nI n)), (4, .int (nI i))]) F d_CO_make_134 (by decide) rfl ?_
          refine zj_iload F d_CO_make_136 0 rfl ?_
          refine zj_if_eq (tgt := 166) F d_CO_make_138 (by decide) (zI_eq0 (by omega)) (fun h138 => ?_) (fun h138 => ?_)
          · refine zj_iinc (v := nI (i + 1)) (L' := [(4, .int (nI (i + 1))), (5, .int (nI (g (a + i)))), (0, .ref c), (1, .ref la), (2, .int (nI a)), (3, .int (nI n))]) F d_CO_make_166 5 rfl (nI_add _ _) (by decide) rfl ?_
            refine zj_goto F d_CO_make_169 (tgt := 122) (by decide) ?_
            exact zj_sub [2, 3, 4, 5, 0] rfl (ih (i + 1) mg1 pg1 (by omega) (fun l h2 h3 => by show _ = _ + (zcnt g a l i + if g (a + i) = l then 1 else 0); rw [if_neg (by omega)]; exact hpg l h2 h3) (fun l h2 h3 r hr => by
                have hr2 : r < zcnt g a l i + if g (a + i) = l then 1 else 0 := hr
                rw [if_neg (by omega)] at hr2
                show _ = if g (a + i) = l ∧ zcnt g a l i = r then i else zth g a l i r
                rw [if_neg (by omega)]; exact hmg l h2 h3 r hr2))
          · have hl1 : 1 ≤ g (a + i) := by omega
            have hct : zcnt g a (g (a + i)) (i + 1) = zcnt g a (g (a + i)) i + 1 := by show _ + (if g (a + i) = g (a + i) then 1 else 0) = _; rw [if_pos rfl]
            have hcm := zcnt_mono g a (g (a + i)) (n - (i + 1)) (i + 1)
            rw [show i + 1 + (n - (i + 1)) = n by omega, hct, ← hcn _ hgi] at hcm
            obtain ⟨hz1, hz2⟩ := zbas_le cn1 hl1 hgi
            have hpgi := hpg _ hl1 hgi
            refine zj_aload_n F d_CO_make_141 1 rfl rfl ?_
            refine zj_get F d_CO_make_142 0 1 rfl rfl in_CO (by decide) q_55 rfl ?_
            refine zj_aload_n F d_CO_make_145 1 rfl rfl ?_
            refine zj_get F d_CO_make_146 0 2 rfl rfl in_CO (by decide) q_56 rfl ?_
            refine zj_iload F d_CO_make_149 0 rfl ?_
            refine zj_iald (z := nI (pg1 (g (a + i)))) F d_CO_make_151 3 1 (g (a + i)) rfl rfl rfl (by omega) (by omega) rfl ?_
            refine zj_iload F d_CO_make_152 5 rfl ?_
            refine zj_iast (ws' := [zO c 1 [.ref ca, .ref ma, .ref pa, .int (nI (zuse g a n))], zI K ca 16 (zna cn1), zI K ma 288 (zna (va_up mg1 (pg1 (g (a + i))) i)), zI K pa 16 (zna pg1), zI K la NL (zna g)]) F d_CO_make_154 2 1 (pg1 (g (a + i))) rfl rfl rfl (by omega) (by omega) (by rw [zna_upd]; rfl) ?_
            refine zj_aload_n F d_CO_make_155 1 rfl rfl ?_
            refine zj_get F d_CO_make_156 0 2 rfl rfl in_CO (by decide) q_56 rfl ?_
            refine zj_iload F d_CO_make_159 0 rfl ?_
            refine zj_dup2 F d_CO_make_161 rfl rfl ?_
            refine zj_iald (z := nI (pg1 (g (a + i)))) F d_CO_make_162 3 1 (g (a + i)) rfl rfl rfl (by omega) (by omega) rfl ?_
            refine zj_iconst (v := nI 1) F d_CO_make_163 (by decide) ?_
            refine zj_iadd F d_CO_make_164 (nI_add _ _) ?_
            refine zj_iast (ws' := [zO c 1 [.ref ca, .ref ma, .ref pa, .int (nI (zuse g a n))], zI K ca 16 (zna cn1), zI K ma 288 (zna (va_up mg1 (pg1 (g (a + i))) i)), zI K pa 16 (zna (va_up pg1 (g (a + i)) (pg1 (g (a + i)) + 1))), zI K la NL (zna g)]) F d_CO_make_165 3 1 (g (a + i)) rfl rfl rfl (by omega) (by omega) (by rw [zna_upd]; rfl) ?_
            refine zj_iinc (v := nI (i + 1)) (L' := [(4, .int (nI (i + 1))), (5, .int (nI (g (a + i)))), (0, .ref c), (1, .ref la), (2, .int (nI a)), (3, .int (nI n))]) F d_CO_make_166 5 rfl (nI_add _ _) (by decide) rfl ?_
            refine zj_goto F d_CO_make_169 (tgt := 122) (by decide) ?_
            exact zj_sub [2, 3, 4, 5, 0] rfl (ih (i + 1) _ _ (by omega) (fun l h2 h3 => by
                show (if l = g (a + i) then pg1 (g (a + i)) + 1 else pg1 l) = zbas cn1 l + (zcnt g a l i + if g (a + i) = l then 1 else 0)
                by_cases hl : l = g (a + i)
                · rw [if_pos hl, if_pos hl.symm, hpgi, hl]; omega
                · rw [if_neg hl, if_neg (fun q => hl q.symm)]; exact hpg l h2 h3) (fun l h2 h3 r hr => by
                have hr2 : r < zcnt g a l i + if g (a + i) = l then 1 else 0 := hr
                show (if zbas cn1 l + r = pg1 (g (a + i)) then i else mg1 (zbas cn1 l + r)) = if g (a + i) = l ∧ zcnt g a l i = r then i else zth g a l i r
                by_cases hl : g (a + i) = l
                · rw [if_pos hl] at hr2
                  by_cases hr3 : zcnt g a l i = r
                  · rw [if_pos (show zbas cn1 l + r = pg1 (g (a + i)) by rw [hpgi, hl, hr3]), if_pos ⟨hl, hr3⟩]
                  · rw [if_neg (show ¬ (zbas cn1 l + r = pg1 (g (a + i))) by rw [hpgi, hl]; omega), if_neg (fun q => hr3 q.2)]; exact hmg l h2 h3 r (by omega)
                · rw [if_neg hl] at hr2
                  have hrl : r < cn1 l := by
                    have h9 := zcnt_mono g a l (n - i) i
                    rw [show i + (n - i) = n by omega, ← hcn l h3] at h9
                    omega
                  rw [if_neg (show ¬ (zbas cn1 l + r = pg1 (g (a + i))) by
                    rw [hpgi]
                    rcases Nat.lt_or_ge l (g (a + i)) with h9 | h9
                    · have := zbas_dis h2 h9 hrl; omega
                    · have := zbas_dis (cn := cn1) (r := zcnt g a (g (a + i)) i) hl1 (show g (a + i) < l by omega) (by omega); omega), if_neg (fun q => hl q.1)]
                  exact hmg l h2 h3 r hr2))
    have key2 : ∀ (cn1 mg1 : Nat → Nat), (∀ l, l ≤ 15 → cn1 l = zcnt g a l n) → ∀ d j pg1, j + d = 16 → 2 ≤ j → (∀ l, 1 ≤ l → l < j → pg1 l = zbas cn1 l) → zj G 0 0 80 [(0, .ref c), (1, .ref la), (2, .int (nI a)), (3, .int (nI n)), (4, .int (nI j))] [] [zO c 1 [.ref ca, .ref ma, .ref pa, .int (nI (zuse g a n))], zI K ca 16 (zna cn1), zI K ma 288 (zna mg1), zI K pa 16 (zna pg1), zI K la NL (zna g)] := by
      intro cn1 mg1 hcn d
      induction d with
      | zero =>
        intro j pg1 h1 h2 hpg
        show zj G 0 0 80 [(0, .ref c), (1, .ref la), (2, .int (nI a)), (3, .int (nI n)), (4, .int (nI j))] [] [zO c 1 [.ref ca, .ref ma, .ref pa, .int (nI (zuse g a n))], zI K ca 16 (zna cn1), zI K ma 288 (zna mg1), zI K pa 16 (zna pg1), zI K la NL (zna g)]
        refine zj_iload F d_CO_make_80 4 rfl ?_
        refine zj_bipush (v := nI 15) F d_CO_make_82 (by decide) ?_
        refine zj_icmp_gt (tgt := 119) F d_CO_make_84 (by decide) (nI_ltI (by omega) (by omega)) (fun h84 => ?_) (fun h84 => ?_)
        · refine zj_iconst (v := nI 0) F d_CO_make_119 (by decide) ?_
          refine zj_istore (L' := [(4, .int (nI 0)), (0, .ref c), (1, .ref la), (2, .int (nI a)), (3, .int (nI n))]) F d_CO_make_120 (by decide) rfl ?_
          exact zj_sub [1, 2, 3, 4, 0] rfl (key3 cn1 hcn n 0 mg1 pg1 (by omega) (fun l h3 h4 => hpg l h3 (by omega)) (fun l _ _ r hr => absurd hr (Nat.not_lt_zero r)))
        · exact absurd h84 (by omega)
      | succ d ih =>
        intro j pg1 h1 h2 hpg
        show zj G 0 0 80 [(0, .ref c), (1, .ref la), (2, .int (nI a)), (3, .int (nI n)), (4, .int (nI j))] [] [zO c 1 [.ref ca, .ref ma, .ref pa, .int (nI (zuse g a n))], zI K ca 16 (zna cn1), zI K ma 288 (zna mg1), zI K pa 16 (zna pg1), zI K la NL (zna g)]
        refine zj_iload F d_CO_make_80 4 rfl ?_
        refine zj_bipush (v := nI 15) F d_CO_make_82 (by decide) ?_
        refine zj_icmp_gt (tgt := 119) F d_CO_make_84 (by decide) (nI_ltI (by omega) (by omega)) (fun h84 => ?_) (fun h84 => ?_)
        · exact absurd h84 (by omega)
        · refine zj_aload_n F d_CO_make_87 0 rfl rfl ?_
          refine zj_get F d_CO_make_88 0 2 rfl rfl in_CO (by decide) q_56 rfl ?_
          refine zj_iload F d_CO_make_91 4 rfl ?_
          refine zj_aload_n F d_CO_make_93 0 rfl rfl ?_
          refine zj_get F d_CO_make_94 0 2 rfl rfl in_CO (by decide) q_56 rfl ?_
          refine zj_iload F d_CO_make_97 4 rfl ?_
          refine zj_iconst (v := nI 1) F d_CO_make_99 (by decide) ?_
          refine zj_isub F d_CO_make_100 (pk_sub (by omega)) ?_
          refine zj_iald (z := nI (pg1 (j - 1))) F d_CO_make_101 3 1 (j - 1) rfl rfl rfl (by omega) (by omega) rfl ?_
          refine zj_aload_n F d_CO_make_102 0 rfl rfl ?_
          refine zj_get F d_CO_make_103 0 0 rfl rfl in_CO (by decide) q_54 rfl ?_
          refine zj_iload F d_CO_make_106 4 rfl ?_
          refine zj_iconst (v := nI 1) F d_CO_make_108 (by decide) ?_
          refine zj_isub F d_CO_make_109 (pk_sub (by omega)) ?_
          refine zj_iald (z := nI (cn1 (j - 1))) F d_CO_make_110 1 1 (j - 1) rfl rfl rfl (by omega) (by omega) rfl ?_
          refine zj_iadd F d_CO_make_111 (nI_add _ _) ?_
          refine zj_iast (ws' := [zO c 1 [.ref ca, .ref ma, .ref pa, .int (nI (zuse g a n))], zI K ca 16 (zna cn1), zI K ma 288 (zna mg1), zI K pa 16 (zna (va_up pg1 j (pg1 (j - 1) + cn1 (j - 1)))), zI K la NL (zna g)]) F d_CO_make_112 3 1 j rfl rfl rfl (by omega) (by omega) (by rw [zna_upd]; rfl) ?_
          refine zj_iinc (v := nI (j + 1)) (L' := [(4, .int (nI (j + 1))), (0, .ref c), (1, .ref la), (2, .int (nI a)), (3, .int (nI n))]) F d_CO_make_113 4 rfl (nI_add _ _) (by decide) rfl ?_
          refine zj_goto F d_CO_make_116 (tgt := 80) (by decide) ?_
          exact zj_sub [1, 2, 3, 4, 0] rfl (ih (j + 1) _ (by omega) (by omega) (fun l h3 h4 => by
              show (if l = j then pg1 (j - 1) + cn1 (j - 1) else pg1 l) = zbas cn1 l
              by_cases hl : l = j
              · rw [if_pos hl, hl, hpg (j - 1) (by omega) (by omega)]
                have := (zbas_le cn1 (l := j - 1) (by omega) (by omega)).1
                rw [show j - 1 + 1 = j by omega] at this
                exact this.symm
              · rw [if_neg hl]; exact hpg l h3 (by omega)))
    have key1 : ∀ d i cn1, i + d = n → (∀ l, l ≤ 15 → cn1 l = zcnt g a l i) → zj G 0 0 16 [(0, .ref c), (1, .ref la), (2, .int (nI a)), (3, .int (nI n)), (4, .int (nI i))] [] [zO c 1 [.ref ca, .ref ma, .ref pa, .int (nI (zuse g a i))], zI K ca 16 (zna cn1), zI K ma 288 (zna mg), zI K pa 16 (zna pg), zI K la NL (zna g)] := by
      intro d
      induction d with
      | zero =>
        intro i cn1 h1 hcn
        have hi : i = n := by omega
        subst hi
        show zj G 0 0 16 [(0, .ref c), (1, .ref la), (2, .int (nI a)), (3, .int (nI i)), (4, .int (nI i))] [] [zO c 1 [.ref ca, .ref ma, .ref pa, .int (nI (zuse g a i))], zI K ca 16 (zna cn1), zI K ma 288 (zna mg), zI K pa 16 (zna pg), zI K la NL (zna g)]
        refine zj_iload F d_CO_make_16 4 rfl ?_
        refine zj_iload_n F d_CO_make_18 3 rfl rfl ?_
        refine zj_icmp_ge (tgt := 70) F d_CO_make_19 (by decide) (nI_leI (by omega) (by omega)) (fun h19 => ?_) (fun h19 => ?_)
        · refine zj_aload_n F d_CO_make_70 0 rfl rfl ?_
          refine zj_get F d_CO_make_71 0 2 rfl rfl in_CO (by decide) q_56 rfl ?_
          refine zj_iconst (v := nI 1) F d_CO_make_74 (by decide) ?_
          refine zj_iconst (v := nI 0) F d_CO_make_75 (by decide) ?_
          refine zj_iast (ws' := [zO c 1 [.ref ca, .ref ma, .ref pa, .int (nI (zuse g a i))], zI K ca 16 (zna cn1), zI K ma 288 (zna mg), zI K pa 16 (zna (va_up pg 1 0)), zI K la NL (zna g)]) F d_CO_make_76 3 1 1 rfl rfl rfl (by omega) (by omega) (by rw [zna_upd]; rfl) ?_
          refine zj_iconst (v := nI 2) F d_CO_make_77 (by decide) ?_
          refine zj_istore (L' := [(4, .int (nI 2)), (0, .ref c), (1, .ref la), (2, .int (nI a)), (3, .int (nI i))]) F d_CO_make_78 (by decide) rfl ?_
          exact zj_sub [1, 2, 3, 4, 0] rfl (key2 cn1 mg hcn 14 2 _ (by omega) (by omega) (fun l h2 h3 => by rw [show l = 1 by omega]; rfl))
        · exact absurd (Nat.le_refl i) h19
      | succ d ih =>
        intro i cn1 h1 hcn
        have hgi := hg i (by omega)
        have hcl := zcnt_le g a (g (a + i)) i
        have hul := zuse_le g a i
        rw [← hcn _ hgi] at hcl
        show zj G 0 0 16 [(0, .ref c), (1, .ref la), (2, .int (nI a)), (3, .int (nI n)), (4, .int (nI i))] [] [zO c 1 [.ref ca, .ref ma, .ref pa, .int (nI (zuse g a i))], zI K ca 16 (zna cn1), zI K ma 288 (zna mg), zI K pa 16 (zna pg), zI K la NL (zna g)]
        refine zj_iload F d_CO_make_16 4 rfl ?_
        refine zj_iload_n F d_CO_make_18 3 rfl rfl ?_
        refine zj_icmp_ge (tgt := 70) F d_CO_make_19 (by decide) (nI_leI (by omega) (by omega)) (fun h19 => ?_) (fun h19 => ?_)
        · exact absurd h19 (by omega)
        · refine zj_aload_n F d_CO_make_22 1 rfl rfl ?_
          refine zj_iload_n F d_CO_make_23 2 rfl rfl ?_
          refine zj_iload F d_CO_make_24 4 rfl ?_
          refine zj_iadd F d_CO_make_26 (nI_add _ _) ?_
          refine zj_iald (z := nI (g (a + i))) F d_CO_make_27 4 1 (a + i) rfl rfl rfl (by omega) (by omega) rfl ?_
          refine zj_istore (L' := [(5, .int (nI (g (a + i)))), (0, .ref c), (1, .ref la), (2, .int (nI a)), (3, .int (nI n)), (4, .int (nI i))]) F d_CO_make_28 (by decide) rfl ?_
          refine zj_aload_n F d_CO_make_30 1 rfl rfl ?_
          refine zj_get F d_CO_make_31 0 0 rfl rfl in_CO (by decide) q_54 rfl ?_
          refine zj_iload F d_CO_make_34 0 rfl ?_
          refine zj_dup2 F d_CO_make_36 rfl rfl ?_
          refine zj_iald (z := nI (cn1 (g (a + i)))) F d_CO_make_37 1 1 (g (a + i)) rfl rfl rfl (by omega) (by omega) rfl ?_
          refine zj_iconst (v := nI 1) F d_CO_make_38 (by decide) ?_
          refine zj_iadd F d_CO_make_39 (nI_add _ _) ?_
          refine zj_iast (ws' := [zO c 1 [.ref ca, .ref ma, .ref pa, .int (nI (zuse g a i))], zI K ca 16 (zna (va_up cn1 (g (a + i)) (cn1 (g (a + i)) + 1))), zI K ma 288 (zna mg), zI K pa 16 (zna pg), zI K la NL (zna g)]) F d_CO_make_40 1 1 (g (a + i)) rfl rfl rfl (by omega) (by omega) (by rw [zna_upd]; rfl) ?_
          refine zj_aload_n F d_CO_make_41 1 rfl rfl ?_
          refine zj_dup F d_CO_make_42 rfl ?_
          refine zj_get F d_CO_make_43 0 3 rfl rfl in_CO (by decide) q_57 rfl ?_
          refine zj_iload F d_CO_make_46 0 rfl ?_
          refine zj_if_ne (tgt := 55) F d_CO_make_48 (by decide) (zI_eq0 (by omega)) (fun h48 => ?_) (fun h48 => ?_)
          · refine zj_ldc (v := nI 32768) F d_CO_make_55 q_79 ?_
            refine zj_iload F d_CO_make_57 0 rfl ?_
            refine zj_ishr (z := nI (32768 / 2 ^ g (a + i))) F d_CO_make_59 (zI_shr (by decide) (by omega)) ?_
            refine zj_iadd (z := nI (zuse g a (i + 1))) F d_CO_make_60 (by rw [nI_add]; show _ = nI (zuse g a i + if g (a + i) = 0 then 0 else 32768 / 2 ^ g (a + i)); rw [if_neg h48]) ?_
            refine zj_put (ws' := [zO c 1 [.ref ca, .ref ma, .ref pa, .int (nI (zuse g a (i + 1)))], zI K ca 16 (zna (va_up cn1 (g (a + i)) (cn1 (g (a + i)) + 1))), zI K ma 288 (zna mg), zI K pa 16 (zna pg), zI K la NL (zna g)]) F d_CO_make_61 0 3 rfl rfl in_CO ty_CO nm_CO (by decide) q_57 rfl rfl rfl (Nat.le_of_ble_eq_true rfl) rfl ?_
            refine zj_iinc (v := nI (i + 1)) (L' := [(4, .int (nI (i + 1))), (5, .int (nI (g (a + i)))), (0, .ref c), (1, .ref la), (2, .int (nI a)), (3, .int (nI n))]) F d_CO_make_64 5 rfl (nI_add _ _) (by decide) rfl ?_
            refine zj_goto F d_CO_make_67 (tgt := 16) (by decide) ?_
            exact zj_sub [2, 3, 4, 5, 0] rfl (ih (i + 1) _ (by omega) (fun l h2 => by
                show (if l = g (a + i) then cn1 (g (a + i)) + 1 else cn1 l) = zcnt g a l i + if g (a + i) = l then 1 else 0
                by_cases hl : l = g (a + i)
                · rw [if_pos hl, if_pos hl.symm, hl, hcn _ hgi]
                · rw [if_neg hl, if_neg (fun q => hl q.symm), hcn l h2]; rfl))
          · refine zj_iconst (v := nI 0) F d_CO_make_51 (by decide) ?_
            refine zj_goto F d_CO_make_52 (tgt := 60) (by decide) ?_
            refine zj_iadd (z := nI (zuse g a (i + 1))) F d_CO_make_60 (by rw [nI_add]; show _ = nI (zuse g a i + if g (a + i) = 0 then 0 else 32768 / 2 ^ g (a + i)); rw [if_pos h48]) ?_
            refine zj_put (ws' := [zO c 1 [.ref ca, .ref ma, .ref pa, .int (nI (zuse g a (i + 1)))], zI K ca 16 (zna (va_up cn1 (g (a + i)) (cn1 (g (a + i)) + 1))), zI K ma 288 (zna mg), zI K pa 16 (zna pg), zI K la NL (zna g)]) F d_CO_make_61 0 3 rfl rfl in_CO ty_CO nm_CO (by decide) q_57 rfl rfl rfl (Nat.le_of_ble_eq_true rfl) rfl ?_
            refine zj_iinc (v := nI (i + 1)) (L' := [(4, .int (nI (i + 1))), (5, .int (nI (g (a + i)))), (0, .ref c), (1, .ref la), (2, .int (nI a)), (3, .int (nI n))]) F d_CO_make_64 5 rfl (nI_add _ _) (by decide) rfl ?_
            refine zj_goto F d_CO_make_67 (tgt := 16) (by decide) ?_
            exact zj_sub [2, 3, 4, 5, 0] rfl (ih (i + 1) _ (by omega) (fun l h2 => by
                show (if l = g (a + i) then cn1 (g (a + i)) + 1 else cn1 l) = zcnt g a l i + if g (a + i) = l then 1 else 0
                by_cases hl : l = g (a + i)
                · rw [if_pos hl, if_pos hl.symm, hl, hcn _ hgi]
                · rw [if_neg hl, if_neg (fun q => hl q.symm), hcn l h2]; rfl))
    exact zj_sub [1, 2, 3, 4, 0] rfl (key1 n 0 _ (by omega) (fun l h => by show (if l < 16 then 0 else cn l) = 0; rw [if_pos (by omega)]))
  · exact hq.elim
end
section
theorem zcnt_congr {g g' : Nat → Nat} {a l : Nat} : ∀ n, (∀ i, i < n → g (a + i) = g' (a + i)) → zcnt g a l n = zcnt g' a l n
  | 0, _ => rfl
  | n + 1, h => by
    show zcnt g a l n + _ = zcnt g' a l n + _
    rw [zcnt_congr n (fun i hi => h i (by omega)), h n (by omega)]
theorem zth_congr {g g' : Nat → Nat} {a l : Nat} : ∀ n, (∀ i, i < n → g (a + i) = g' (a + i)) → ∀ r, zth g a l n r = zth g' a l n r
  | 0, _, _ => rfl
  | n + 1, h, r => by
    show (if g (a + n) = l ∧ zcnt g a l n = r then n else zth g a l n r) = (if g' (a + n) = l ∧ zcnt g' a l n = r then n else zth g' a l n r)
    rw [zth_congr n (fun i hi => h i (by omega)) r, zcnt_congr n (fun i hi => h i (by omega)), h n (by omega)]
theorem zuse_congr {g g' : Nat → Nat} {a : Nat} : ∀ n, (∀ i, i < n → g (a + i) = g' (a + i)) → zuse g a n = zuse g' a n
  | 0, _ => rfl
  | n + 1, h => by
    show zuse g a n + _ = zuse g' a n + _
    rw [zuse_congr n (fun i hi => h i (by omega)), h n (by omega)]
/-- the value v at the places a, a + 1 .. -/
def zset (c : Nat → Nat) (a v : Nat) : Nat → (Nat → Nat)
  | 0 => c
  | i + 1 => va_up (zset c a v i) (a + i) v
theorem zset_at (c : Nat → Nat) (a v : Nat) : ∀ n j, zset c a v n j = if a ≤ j ∧ j < a + n then v else c j
  | 0, j => by rw [if_neg (by omega)]; rfl
  | n + 1, j => by
    show (if j = a + n then v else zset c a v n j) = _
    by_cases h : j = a + n
    · rw [if_pos h, if_pos (by omega)]
    · rw [if_neg h, zset_at c a v n j]
      by_cases h2 : a ≤ j ∧ j < a + n
      · rw [if_pos h2, if_pos (by omega)]
      · rw [if_neg h2, if_neg (by omega)]
/-- a run of lengths -/
def zrunT (total h p : Nat) (c : Nat → Nat) (v times : Nat) : Except String (Nat × (Nat → Nat) × Nat) := if times ≤ total - h then .ok (p, zset c h v times, h + times) else .error zU
def zrunF (t : Nat → Nat) (e sym h total p : Nat) (c : Nat → Nat) : Except String (Nat × (Nat → Nat) × Nat) :=
  if sym = 16 ∧ h = 0 then .error zU
  else if sym = 16 then (if p + 2 ≤ e then zrunT total h (p + 2) c (c (h - 1)) (3 + znum t p 2) else .error zU)
  else if sym = 17 then (if p + 3 ≤ e then zrunT total h (p + 3) c 0 (3 + znum t p 3) else .error zU)
  else (if p + 7 ≤ e then zrunT total h (p + 7) c 0 (11 + znum t p 7) else .error zU)
/-- both rows of lengths: one symbol, then k -/
def zlenS (t : Nat → Nat) (e : Nat) (cc : Nat → Nat) (mc : Nat → Nat → Nat) (total : Nat) (k : Nat → (Nat → Nat) → Nat → Except String (Nat × (Nat → Nat) × Nat)) (p : Nat) (c : Nat → Nat) (h : Nat) : Except String (Nat × (Nat → Nat) × Nat) :=
  if h < total then
    match zdec t e cc mc 15 1 0 0 p with
    | none => .error zU
    | some (sym, p1) =>
      if sym < 16 then k p1 (va_up c h sym) (h + 1)
      else match zrunF t e sym h total p1 c with
        | .error X => .error X
        | .ok (p2, c2, h2) => k p2 c2 h2
  else .ok (p, c, h)
def zlen (t : Nat → Nat) (e : Nat) (cc : Nat → Nat) (mc : Nat → Nat → Nat) (total : Nat) : Nat → Nat → (Nat → Nat) → Nat → Except String (Nat × (Nat → Nat) × Nat)
  | 0 => fun p c h => .ok (p, c, h)
  | f + 1 => zlenS t e cc mc total (zlen t e cc mc total f)
theorem zlen_s (t : Nat → Nat) (e : Nat) (cc : Nat → Nat) (mc : Nat → Nat → Nat) (total f p : Nat) (c : Nat → Nat) (h : Nat) : zlen t e cc mc total (f + 1) p c h = zlenS t e cc mc total (zlen t e cc mc total f) p c h := rfl
/-- the lengths of the codes for lengths -/
def zlc (t : Nat → Nat) (e : Nat) : Nat → Nat → Nat → (Nat → Nat) → Option (Nat × (Nat → Nat))
  | 0, _, p, c => some (p, c)
  | k + 1, i, p, c => if p + 3 ≤ e then zlc t e k (i + 1) (p + 3) (va_up c (ztab 4 i) (znum t p 3)) else none
def zlcF (t : Nat → Nat) (e told p : Nat) : Except String (Nat × (Nat → Nat)) :=
  match zlc t e told 0 p (fun _ => 0) with
  | none => .error zU
  | some (p', c) => if zuse c 0 19 = 32768 then .ok (p', c) else .error zU
theorem ztab_ord : ∀ k, k < 19 → ztab 4 k < 19 := by decide +kernel
set_option maxHeartbeats 4000000 in
set_option maxRecDepth 100000 in
/-- readRun(symbol, have, total) -/
theorem m_UN_run (l : Launch) (hl : l.stackTraces = false) (K : zk) (u r fl fd li di lc la ob w : Nat) (b Nb e p : Nat) (t : Nat → Nat) (sym h total : Nat) (g c : Nat → Nat) (R : Except String (Nat × (Nat → Nat) × Nat)) (hb : ∀ j, t j < 256) (hN : Nb ≤ 16384) (he : e = 8 * Nb) (hp : p ≤ e) (hs : 16 ≤ sym) (hs2 : sym < 288) (hh : h < total) (ht : total ≤ 316) (hgc : ∀ j, j < h → g j = c j) (hc15 : ∀ j, j < h → c j ≤ 15) (hR : zrunF t e sym h total p c = R) : zc l K y_UN_readRun w_UN_readRun { frames := 7, cells := 1, slots := 6, locals := 123 } 0 0 1 6 [.ref u, .int (nI sym), .int (nI h), .int (nI total)] [zO u 3 [.ref r, .ref fl, .ref fd, .ref li, .ref di, .ref lc, .ref la, .ref ob, .int (nI w)], zO r 0 [.ref b, .int (nI e), .int (nI p)], zB K b Nb (zby t), zI K la 316 (zna g)] (fun v w1 => ∃ p' c' h' g', R = .ok (p', c', h') ∧ p' ≤ e ∧ h < h' ∧ h' ≤ total ∧ (∀ j, j < h' → g' j = c' j) ∧ (∀ j, j < h' → c' j ≤ 15) ∧ v = some (.int (nI h')) ∧ w1 = [zO u 3 [.ref r, .ref fl, .ref fd, .ref li, .ref di, .ref lc, .ref la, .ref ob, .int (nI w)], zO r 0 [.ref b, .int (nI e), .int (nI p')], zB K b Nb (zby t), zI K la 316 (zna g')]) (fun X w1 => R = .error X ∧ ∃ p' g', w1 = [zO u 3 [.ref r, .ref fl, .ref fd, .ref li, .ref di, .ref lc, .ref la, .ref ob, .int (nI w)], zO r 0 [.ref b, .int (nI e), .int (nI p')], zB K b Nb (zby t), zI K la 316 (zna g')]) := by
  refine zc_of (cc := c_UN_readRun) (nl := 7) (ret := (some .int)) (by decide) (Nat.le_of_ble_eq_true rfl) (fun G F E => ?_)
  have F : zf G l K { frames := 7, cells := 1, slots := 6, locals := 123 } "ZlibBox$Unpacker" c_UN_readRun 7 := F
  show zj G 0 0 0 [(0, .ref u), (1, .int (nI sym)), (2, .int (nI h)), (3, .int (nI total))] [] [zO u 3 [.ref r, .ref fl, .ref fd, .ref li, .ref di, .ref lc, .ref la, .ref ob, .int (nI w)], zO r 0 [.ref b, .int (nI e), .int (nI p)], zB K b Nb (zby t), zI K la 316 (zna g)]
  have hN2 : Nb < 2 ^ 24 := by omega
  have he2 : e ≤ 8 * Nb := by omega
  have tail : ∀ p1 v times, p1 ≤ e → v ≤ 15 → 1 ≤ times → times < 2 ^ 20 → zrunT total h p1 c v times = R → zj G 0 0 89 [(0, .ref u), (2, .int (nI h)), (3, .int (nI total)), (4, .int (nI v)), (5, .int (nI times))] [] [zO u 3 [.ref r, .ref fl, .ref fd, .ref li, .ref di, .ref lc, .ref la, .ref ob, .int (nI w)], zO r 0 [.ref b, .int (nI e), .int (nI p1)], zB K b Nb (zby t), zI K la 316 (zna g)] := by
    intro p1 v times hp1 hv ht1 ht2 h6
    show zj G 0 0 89 [(0, .ref u), (2, .int (nI h)), (3, .int (nI total)), (4, .int (nI v)), (5, .int (nI times))] [] [zO u 3 [.ref r, .ref fl, .ref fd, .ref li, .ref di, .ref lc, .ref la, .ref ob, .int (nI w)], zO r 0 [.ref b, .int (nI e), .int (nI p1)], zB K b Nb (zby t), zI K la 316 (zna g)]
    refine zj_iload F d_UN_readRun_89 4 rfl ?_
    refine zj_iload_n F d_UN_readRun_91 2 rfl rfl ?_
    refine zj_iload_n F d_UN_readRun_92 1 rfl rfl ?_
    refine zj_isub F d_UN_readRun_93 (pk_sub (by omega)) ?_
    refine zj_icmp_le (tgt := 107) F d_UN_readRun_94 (by decide) (nI_leI (by omega) (by omega)) (fun h94 => ?_) (fun h94 => ?_)
    · unfold zrunT at h6
      rw [if_pos h94] at h6
      refine zj_iconst (v := nI 0) F d_UN_readRun_107 (by decide) ?_
      refine zj_istore (L' := [(6, .int (nI 0)), (0, .ref u), (2, .int (nI h)), (3, .int (nI total)), (4, .int (nI v)), (5, .int (nI times))]) F d_UN_readRun_108 (by decide) rfl ?_
      have key : ∀ i, i ≤ times → zj G 0 0 110 [(0, .ref u), (2, .int (nI h)), (4, .int (nI v)), (5, .int (nI times)), (6, .int (nI i))] [] [zO u 3 [.ref r, .ref fl, .ref fd, .ref li, .ref di, .ref lc, .ref la, .ref ob, .int (nI w)], zO r 0 [.ref b, .int (nI e), .int (nI p1)], zB K b Nb (zby t), zI K la 316 (zna (zset g h v i))] := by
        refine zdown times ?_ ?_
        · show zj G 0 0 110 [(0, .ref u), (2, .int (nI h)), (4, .int (nI v)), (5, .int (nI times)), (6, .int (nI times))] [] [zO u 3 [.ref r, .ref fl, .ref fd, .ref li, .ref di, .ref lc, .ref la, .ref ob, .int (nI w)], zO r 0 [.ref b, .int (nI e), .int (nI p1)], zB K b Nb (zby t), zI K la 316 (zna (zset g h v times))]
          refine zj_iload F d_UN_readRun_110 4 rfl ?_
          refine zj_iload F d_UN_readRun_112 3 rfl ?_
          refine zj_icmp_ge (tgt := 134) F d_UN_readRun_114 (by decide) (nI_leI (by omega) (by omega)) (fun h114 => ?_) (fun h114 => ?_)
          · refine zj_iload_n F d_UN_readRun_134 1 rfl rfl ?_
            refine zj_iload F d_UN_readRun_135 3 rfl ?_
            refine zj_iadd F d_UN_readRun_137 (nI_add _ _) ?_
            exact zj_iret F E d_UN_readRun_138 (Nat.le_refl _) (Nat.le_refl _) ⟨_, _, _, _, h6.symm, hp1, by omega, by omega, fun j hj => by
                rw [zset_at, zset_at]
                by_cases hq : h ≤ j ∧ j < h + times
                · rw [if_pos hq, if_pos hq]
                · rw [if_neg hq, if_neg hq]; exact hgc j (by omega), fun j hj => by
                rw [zset_at]
                by_cases hq : h ≤ j ∧ j < h + times
                · rw [if_pos hq]; exact hv
                · rw [if_neg hq]; exact hc15 j (by omega), rfl, rfl⟩
          · exact absurd (Nat.le_refl times) h114
        · intro i hi ih
          show zj G 0 0 110 [(0, .ref u), (2, .int (nI h)), (4, .int (nI v)), (5, .int (nI times)), (6, .int (nI i))] [] [zO u 3 [.ref r, .ref fl, .ref fd, .ref li, .ref di, .ref lc, .ref la, .ref ob, .int (nI w)], zO r 0 [.ref b, .int (nI e), .int (nI p1)], zB K b Nb (zby t), zI K la 316 (zna (zset g h v i))]
          refine zj_iload F d_UN_readRun_110 4 rfl ?_
          refine zj_iload F d_UN_readRun_112 3 rfl ?_
          refine zj_icmp_ge (tgt := 134) F d_UN_readRun_114 (by decide) (nI_leI (by omega) (by omega)) (fun h114 => ?_) (fun h114 => ?_)
          · exact absurd h114 (by omega)
          · refine zj_aload_n F d_UN_readRun_117 0 rfl rfl ?_
            refine zj_get F d_UN_readRun_118 0 6 rfl rfl in_UN (by decide) q_87 rfl ?_
            refine zj_iload_n F d_UN_readRun_121 1 rfl rfl ?_
            refine zj_iload F d_UN_readRun_122 4 rfl ?_
            refine zj_iadd F d_UN_readRun_124 (nI_add _ _) ?_
            refine zj_iload F d_UN_readRun_125 2 rfl ?_
            refine zj_iast (ws' := [zO u 3 [.ref r, .ref fl, .ref fd, .ref li, .ref di, .ref lc, .ref la, .ref ob, .int (nI w)], zO r 0 [.ref b, .int (nI e), .int (nI p1)], zB K b Nb (zby t), zI K la 316 (zna (zset g h v (i + 1)))]) F d_UN_readRun_127 3 1 (h + i) rfl rfl rfl (by omega) (by omega) (by rw [zna_upd]; rfl) ?_
            refine zj_iinc (v := nI (i + 1)) (L' := [(6, .int (nI (i + 1))), (0, .ref u), (2, .int (nI h)), (4, .int (nI v)), (5, .int (nI times))]) F d_UN_readRun_128 4 rfl (nI_add _ _) (by decide) rfl ?_
            refine zj_goto F d_UN_readRun_131 (tgt := 110) (by decide) ?_
            exact zj_sub [1, 2, 3, 4, 0] rfl ih
      exact zj_sub [1, 2, 4, 5, 0] rfl (key 0 (Nat.zero_le _))
    · exact zj_throwS (names := zt_up) F E hl d_UN_readRun_97 d_UN_readRun_100 d_UN_readRun_101 d_UN_readRun_103 d_UN_readRun_106 (by decide +kernel) (by decide +kernel) q_407 (at_UN_83) ⟨by decide, by decide, by decide, by decide⟩ rfl (by decide) (by decide) ⟨h6.symm.trans (by unfold zrunT; rw [if_neg h94]), _, _, rfl⟩
  refine zj_iload_n F d_UN_readRun_0 1 rfl rfl ?_
  refine zj_bipush (v := nI 16) F d_UN_readRun_1 (by decide) ?_
  refine zj_icmp_ne (tgt := 20) F d_UN_readRun_3 (by decide) (nI_eq (by omega) (by omega)) (fun h3 => ?_) (fun h3 => ?_)
  · refine zj_iconst (v := nI 0) F d_UN_readRun_20 (by decide) ?_
    refine zj_istore (L' := [(4, .int (nI 0)), (0, .ref u), (1, .int (nI sym)), (2, .int (nI h)), (3, .int (nI total))]) F d_UN_readRun_21 (by decide) rfl ?_
    refine zj_iload_n F d_UN_readRun_23 2 rfl rfl ?_
    refine zj_bipush (v := nI 16) F d_UN_readRun_24 (by decide) ?_
    refine zj_icmp_ne (tgt := 54) F d_UN_readRun_26 (by decide) (nI_eq (by omega) (by omega)) (fun k16 => ?_) (fun k16 => ?_)
    · refine zj_iload_n F d_UN_readRun_54 2 rfl rfl ?_
      refine zj_bipush (v := nI 17) F d_UN_readRun_55 (by decide) ?_
      refine zj_icmp_ne (tgt := 75) F d_UN_readRun_57 (by decide) (nI_eq (by omega) (by omega)) (fun k17 => ?_) (fun k17 => ?_)
      · refine zj_bipush (v := nI 11) F d_UN_readRun_75 (by decide) ?_
        refine zj_aload_n F d_UN_readRun_77 1 rfl rfl ?_
        refine zj_get F d_UN_readRun_78 0 0 rfl rfl in_UN (by decide) q_81 rfl ?_
        refine zj_bipush (v := nI 7) F d_UN_readRun_81 (by decide) ?_
        refine zj_call (maxL := 4) (wr := [zO u 3 [.ref r, .ref fl, .ref fd, .ref li, .ref di, .ref lc, .ref la, .ref ob, .int (nI w)], zI K la 316 (zna g)]) F E (m_BR_number l hl K r b Nb e p 7 t hb hN2 he2 (by decide) hp) (zi_V (As := [.int (nI 7)]) (rest := [.int (nI 11)]) F d_UN_readRun_83 1 rfl rfl rfl q_306 q_307 q_308 q_309 (Or.inl ⟨_, _, rfl⟩) (by decide) (show Option.map (fun d => d.parameters.length) (parseMethodDescriptor y_BR_number.desc) = some 1 from by decide +kernel)) d_UN_readRun_83 q_309 (Or.inl ⟨_, _, rfl⟩) q_3 [1, 2] [0, 3] rfl rfl rfl rfl (by decide) ⟨by decide, by decide, by decide, by decide⟩ (Nat.le_of_ble_eq_true rfl) (fun v w1 hq => ?_) (fun X w1 hq => ?_)
        · obtain ⟨hq1, rfl, rfl⟩ := hq
          show zj G 0 0 86 [(4, .int (nI 0)), (0, .ref u), (1, .int (nI sym)), (2, .int (nI h)), (3, .int (nI total))] [.int (nI (znum t p 7)), .int (nI 11)] [zO u 3 [.ref r, .ref fl, .ref fd, .ref li, .ref di, .ref lc, .ref la, .ref ob, .int (nI w)], zI K la 316 (zna g), zO r 0 [.ref b, .int (nI e), .int (nI (p + 7))], zB K b Nb (zby t)]
          have hn := znum_lt t p 7
          refine zj_iadd F d_UN_readRun_86 (nI_add _ _) ?_
          refine zj_istore (L' := [(5, .int (nI (11 + (znum t p 7)))), (4, .int (nI 0)), (0, .ref u), (1, .int (nI sym)), (2, .int (nI h)), (3, .int (nI total))]) F d_UN_readRun_87 (by decide) rfl ?_
          refine zj_wsub (ws' := [zO u 3 [.ref r, .ref fl, .ref fd, .ref li, .ref di, .ref lc, .ref la, .ref ob, .int (nI w)], zO r 0 [.ref b, .int (nI e), .int (nI (p + 7))], zB K b Nb (zby t), zI K la 316 (zna g)]) [0, 2, 3, 1] rfl rfl rfl ?_
          exact zj_sub [2, 4, 5, 1, 0] rfl (tail _ _ _ hq1 (by decide) (by omega) (by omega) (by rw [← hR]; unfold zrunF; rw [if_neg (fun q => k16 q.1), if_neg k16, if_neg k17, if_pos hq1]))
        · obtain ⟨hx1, rfl, rfl⟩ := hq
          exact ⟨rfl, by decide, by decide, [0, 2, 3, 1], [zO u 3 [.ref r, .ref fl, .ref fd, .ref li, .ref di, .ref lc, .ref la, .ref ob, .int (nI w)], zO r 0 [.ref b, .int (nI e), .int (nI p)], zB K b Nb (zby t), zI K la 316 (zna g)], rfl, rfl, ⟨hR.symm.trans (by unfold zrunF; rw [if_neg (fun q => k16 q.1), if_neg k16, if_neg k17, if_neg hx1]), _, _, rfl⟩⟩
      · refine zj_iconst (v := nI 3) F d_UN_readRun_60 (by decide) ?_
        refine zj_aload_n F d_UN_readRun_61 1 rfl rfl ?_
        refine zj_get F d_UN_readRun_62 0 0 rfl rfl in_UN (by decide) q_81 rfl ?_
        refine zj_iconst (v := nI 3) F d_UN_readRun_65 (by decide) ?_
        refine zj_call (maxL := 4) (wr := [zO u 3 [.ref r, .ref fl, .ref fd, .ref li, .ref di, .ref lc, .ref la, .ref ob, .int (nI w)], zI K la 316 (zna g)]) F E (m_BR_number l hl K r b Nb e p 3 t hb hN2 he2 (by decide) hp) (zi_V (As := [.int (nI 3)]) (rest := [.int (nI 3)]) F d_UN_readRun_66 1 rfl rfl rfl q_306 q_307 q_308 q_309 (Or.inl ⟨_, _, rfl⟩) (by decide) (show Option.map (fun d => d.parameters.length) (parseMethodDescriptor y_BR_number.desc) = some 1 from by decide +kernel)) d_UN_readRun_66 q_309 (Or.inl ⟨_, _, rfl⟩) q_3 [1, 2] [0, 3] rfl rfl rfl rfl (by decide) ⟨by decide, by decide, by decide, by decide⟩ (Nat.le_of_ble_eq_true rfl) (fun v w1 hq => ?_) (fun X w1 hq => ?_)
        · obtain ⟨hq1, rfl, rfl⟩ := hq
          show zj G 0 0 69 [(4, .int (nI 0)), (0, .ref u), (1, .int (nI sym)), (2, .int (nI h)), (3, .int (nI total))] [.int (nI (znum t p 3)), .int (nI 3)] [zO u 3 [.ref r, .ref fl, .ref fd, .ref li, .ref di, .ref lc, .ref la, .ref ob, .int (nI w)], zI K la 316 (zna g), zO r 0 [.ref b, .int (nI e), .int (nI (p + 3))], zB K b Nb (zby t)]
          have hn := znum_lt t p 3
          refine zj_iadd F d_UN_readRun_69 (nI_add _ _) ?_
          refine zj_istore (L' := [(5, .int (nI (3 + (znum t p 3)))), (4, .int (nI 0)), (0, .ref u), (1, .int (nI sym)), (2, .int (nI h)), (3, .int (nI total))]) F d_UN_readRun_70 (by decide) rfl ?_
          refine zj_goto F d_UN_readRun_72 (tgt := 89) (by decide) ?_
          refine zj_wsub (ws' := [zO u 3 [.ref r, .ref fl, .ref fd, .ref li, .ref di, .ref lc, .ref la, .ref ob, .int (nI w)], zO r 0 [.ref b, .int (nI e), .int (nI (p + 3))], zB K b Nb (zby t), zI K la 316 (zna g)]) [0, 2, 3, 1] rfl rfl rfl ?_
          exact zj_sub [2, 4, 5, 1, 0] rfl (tail _ _ _ hq1 (by decide) (by omega) (by omega) (by rw [← hR]; unfold zrunF; rw [if_neg (fun q => k16 q.1), if_neg k16, if_pos k17, if_pos hq1]))
        · obtain ⟨hx1, rfl, rfl⟩ := hq
          exact ⟨rfl, by decide, by decide, [0, 2, 3, 1], [zO u 3 [.ref r, .ref fl, .ref fd, .ref li, .ref di, .ref lc, .ref la, .ref ob, .int (nI w)], zO r 0 [.ref b, .int (nI e), .int (nI p)], zB K b Nb (zby t), zI K la 316 (zna g)], rfl, rfl, ⟨hR.symm.trans (by unfold zrunF; rw [if_neg (fun q => k16 q.1), if_neg k16, if_pos k17, if_neg hx1]), _, _, rfl⟩⟩
    · exact absurd k16 h3
  · refine zj_iload_n F d_UN_readRun_6 2 rfl rfl ?_
    refine zj_if_ne (tgt := 20) F d_UN_readRun_7 (by decide) (zI_eq0 (by omega)) (fun h7 => ?_) (fun h7 => ?_)
    · refine zj_iconst (v := nI 0) F d_UN_readRun_20 (by decide) ?_
      refine zj_istore (L' := [(4, .int (nI 0)), (0, .ref u), (1, .int (nI sym)), (2, .int (nI h)), (3, .int (nI total))]) F d_UN_readRun_21 (by decide) rfl ?_
      refine zj_iload_n F d_UN_readRun_23 2 rfl rfl ?_
      refine zj_bipush (v := nI 16) F d_UN_readRun_24 (by decide) ?_
      refine zj_icmp_ne (tgt := 54) F d_UN_readRun_26 (by decide) (nI_eq (by omega) (by omega)) (fun k16 => ?_) (fun k16 => ?_)
      · exact absurd h3 k16
      · have hv15 := hc15 (h - 1) (by omega)
        have hgv := hgc (h - 1) (by omega)
        refine zj_aload_n F d_UN_readRun_29 1 rfl rfl ?_
        refine zj_get F d_UN_readRun_30 0 6 rfl rfl in_UN (by decide) q_87 rfl ?_
        refine zj_iload_n F d_UN_readRun_33 3 rfl rfl ?_
        refine zj_iconst (v := nI 1) F d_UN_readRun_34 (by decide) ?_
        refine zj_isub F d_UN_readRun_35 (pk_sub (by omega)) ?_
        refine zj_iald (z := nI (c (h - 1))) F d_UN_readRun_36 3 1 (h - 1) rfl rfl rfl (by omega) (by omega) (by unfold zna; rw [hgv]) ?_
        refine zj_istore (L' := [(4, .int (nI (c (h - 1)))), (0, .ref u), (1, .int (nI sym)), (2, .int (nI h)), (3, .int (nI total))]) F d_UN_readRun_37 (by decide) rfl ?_
        refine zj_iconst (v := nI 3) F d_UN_readRun_39 (by decide) ?_
        refine zj_aload_n F d_UN_readRun_40 1 rfl rfl ?_
        refine zj_get F d_UN_readRun_41 0 0 rfl rfl in_UN (by decide) q_81 rfl ?_
        refine zj_iconst (v := nI 2) F d_UN_readRun_44 (by decide) ?_
        refine zj_call (maxL := 4) (wr := [zO u 3 [.ref r, .ref fl, .ref fd, .ref li, .ref di, .ref lc, .ref la, .ref ob, .int (nI w)], zI K la 316 (zna g)]) F E (m_BR_number l hl K r b Nb e p 2 t hb hN2 he2 (by decide) hp) (zi_V (As := [.int (nI 2)]) (rest := [.int (nI 3)]) F d_UN_readRun_45 1 rfl rfl rfl q_306 q_307 q_308 q_309 (Or.inl ⟨_, _, rfl⟩) (by decide) (show Option.map (fun d => d.parameters.length) (parseMethodDescriptor y_BR_number.desc) = some 1 from by decide +kernel)) d_UN_readRun_45 q_309 (Or.inl ⟨_, _, rfl⟩) q_3 [1, 2] [0, 3] rfl rfl rfl rfl (by decide) ⟨by decide, by decide, by decide, by decide⟩ (Nat.le_of_ble_eq_true rfl) (fun v w1 hq => ?_) (fun X w1 hq => ?_)
        · obtain ⟨hq1, rfl, rfl⟩ := hq
          show zj G 0 0 48 [(4, .int (nI (c (h - 1)))), (0, .ref u), (1, .int (nI sym)), (2, .int (nI h)), (3, .int (nI total))] [.int (nI (znum t p 2)), .int (nI 3)] [zO u 3 [.ref r, .ref fl, .ref fd, .ref li, .ref di, .ref lc, .ref la, .ref ob, .int (nI w)], zI K la 316 (zna g), zO r 0 [.ref b, .int (nI e), .int (nI (p + 2))], zB K b Nb (zby t)]
          have hn := znum_lt t p 2
          refine zj_iadd F d_UN_readRun_48 (nI_add _ _) ?_
          refine zj_istore (L' := [(5, .int (nI (3 + (znum t p 2)))), (4, .int (nI (c (h - 1)))), (0, .ref u), (1, .int (nI sym)), (2, .int (nI h)), (3, .int (nI total))]) F d_UN_readRun_49 (by decide) rfl ?_
          refine zj_goto F d_UN_readRun_51 (tgt := 89) (by decide) ?_
          refine zj_wsub (ws' := [zO u 3 [.ref r, .ref fl, .ref fd, .ref li, .ref di, .ref lc, .ref la, .ref ob, .int (nI w)], zO r 0 [.ref b, .int (nI e), .int (nI (p + 2))], zB K b Nb (zby t), zI K la 316 (zna g)]) [0, 2, 3, 1] rfl rfl rfl ?_
          exact zj_sub [2, 4, 5, 1, 0] rfl (tail _ _ _ hq1 hv15 (by omega) (by omega) (by rw [← hR]; unfold zrunF; rw [if_neg (fun q => h7 q.2), if_pos h3, if_pos hq1]))
        · obtain ⟨hx1, rfl, rfl⟩ := hq
          exact ⟨rfl, by decide, by decide, [0, 2, 3, 1], [zO u 3 [.ref r, .ref fl, .ref fd, .ref li, .ref di, .ref lc, .ref la, .ref ob, .int (nI w)], zO r 0 [.ref b, .int (nI e), .int (nI p)], zB K b Nb (zby t), zI K la 316 (zna g)], rfl, rfl, ⟨hR.symm.trans (by unfold zrunF; rw [if_neg (fun q => h7 q.2), if_pos h3, if_neg hx1]), _, _, rfl⟩⟩
    · exact zj_throwS (names := zt_up) F E hl d_UN_readRun_10 d_UN_readRun_13 d_UN_readRun_14 d_UN_readRun_16 d_UN_readRun_19 (by decide +kernel) (by decide +kernel) q_406 (at_UN_83) ⟨by decide, by decide, by decide, by decide⟩ rfl (by decide) (by decide) ⟨hR.symm.trans (by unfold zrunF; rw [if_pos ⟨h3, h7⟩]), _, _, rfl⟩
set_option maxHeartbeats 4000000 in
set_option maxRecDepth 100000 in
/-- readLengths(total) -/
theorem m_UN_lengths (l : Launch) (hl : l.stackTraces = false) (K : zk) (u r fl fd li di lc la ob w : Nat) (b Nb e p : Nat) (t : Nat → Nat) (lca lma lpa lu total : Nat) (g cc gc : Nat → Nat) (mc : Nat → Nat → Nat) (R : Except String (Nat × (Nat → Nat) × Nat)) (hb : ∀ j, t j < 256) (hN : Nb ≤ 16384) (he : e = 8 * Nb) (hp : p ≤ e) (hC : zCS cc gc mc) (ht : total ≤ 316) (hR : zlen t e cc mc total total p (fun _ => 0) 0 = R) : zc l K y_UN_readLengths w_UN_readLengths { frames := 8, cells := 1, slots := 6, locals := 149 } 0 0 1 6 [.ref u, .int (nI total)] [zO u 3 [.ref r, .ref fl, .ref fd, .ref li, .ref di, .ref lc, .ref la, .ref ob, .int (nI w)], zO r 0 [.ref b, .int (nI e), .int (nI p)], zB K b Nb (zby t), zI K la 316 (zna g), zO lc 1 [.ref lca, .ref lma, .ref lpa, .int (nI lu)], zI K lca 16 (zna cc), zI K lma 288 (zna gc)] (fun v w1 => ∃ p' c' g', R = .ok (p', c', total) ∧ p' ≤ e ∧ (∀ j, j < total → g' j = c' j) ∧ (∀ j, j < total → c' j ≤ 15) ∧ v = none ∧ w1 = [zO u 3 [.ref r, .ref fl, .ref fd, .ref li, .ref di, .ref lc, .ref la, .ref ob, .int (nI w)], zO r 0 [.ref b, .int (nI e), .int (nI p')], zB K b Nb (zby t), zI K la 316 (zna g'), zO lc 1 [.ref lca, .ref lma, .ref lpa, .int (nI lu)], zI K lca 16 (zna cc), zI K lma 288 (zna gc)]) (fun X w1 => R = .error X ∧ ∃ p' g', w1 = [zO u 3 [.ref r, .ref fl, .ref fd, .ref li, .ref di, .ref lc, .ref la, .ref ob, .int (nI w)], zO r 0 [.ref b, .int (nI e), .int (nI p')], zB K b Nb (zby t), zI K la 316 (zna g'), zO lc 1 [.ref lca, .ref lma, .ref lpa, .int (nI lu)], zI K lca 16 (zna cc), zI K lma 288 (zna gc)]) := by
  refine zc_of (cc := c_UN_readLengths) (nl := 5) (ret := none) (by decide) (Nat.le_of_ble_eq_true rfl) (fun G F E => ?_)
  have F : zf G l K { frames := 8, cells := 1, slots := 6, locals := 149 } "ZlibBox$Unpacker" c_UN_readLengths 5 := F
  show zj G 0 0 0 [(0, .ref u), (1, .int (nI total))] [] [zO u 3 [.ref r, .ref fl, .ref fd, .ref li, .ref di, .ref lc, .ref la, .ref ob, .int (nI w)], zO r 0 [.ref b, .int (nI e), .int (nI p)], zB K b Nb (zby t), zI K la 316 (zna g), zO lc 1 [.ref lca, .ref lma, .ref lpa, .int (nI lu)], zI K lca 16 (zna cc), zI K lma 288 (zna gc)]
  have hN2 : Nb < 2 ^ 24 := by omega
  have he2 : e ≤ 8 * Nb := by omega
  refine zj_iconst (v := nI 0) F d_UN_readLengths_0 (by decide) ?_
  refine zj_istore_n (L' := [(2, .int (nI 0)), (0, .ref u), (1, .int (nI total))]) F d_UN_readLengths_1 rfl (by decide) rfl ?_
  refine zj_iconst (v := nI 0) F d_UN_readLengths_2 (by decide) ?_
  refine zj_istore_n (L' := [(3, .int (nI 0)), (2, .int (nI 0)), (0, .ref u), (1, .int (nI total))]) F d_UN_readLengths_3 rfl (by decide) rfl ?_
  have key : ∀ q i p1 c1 h g1, i + q = total → i ≤ h → h ≤ total → p1 ≤ e → (∀ j, j < h → g1 j = c1 j) → (∀ j, j < h → c1 j ≤ 15) → zlen t e cc mc total q p1 c1 h = R → zj G 0 0 4 [(0, .ref u), (1, .int (nI total)), (2, .int (nI h)), (3, .int (nI i))] [] [zO u 3 [.ref r, .ref fl, .ref fd, .ref li, .ref di, .ref lc, .ref la, .ref ob, .int (nI w)], zO r 0 [.ref b, .int (nI e), .int (nI p1)], zB K b Nb (zby t), zI K la 316 (zna g1), zO lc 1 [.ref lca, .ref lma, .ref lpa, .int (nI lu)], zI K lca 16 (zna cc), zI K lma 288 (zna gc)] := by
    clear hR
    intro q
    induction q with
    | zero =>
      intro i p1 c1 h g1 h1 hih hht hp1 hgc hc15 hz
      have hhT : h = total := by omega
      subst hhT
      show zj G 0 0 4 [(0, .ref u), (1, .int (nI h)), (2, .int (nI h)), (3, .int (nI i))] [] [zO u 3 [.ref r, .ref fl, .ref fd, .ref li, .ref di, .ref lc, .ref la, .ref ob, .int (nI w)], zO r 0 [.ref b, .int (nI e), .int (nI p1)], zB K b Nb (zby t), zI K la 316 (zna g1), zO lc 1 [.ref lca, .ref lma, .ref lpa, .int (nI lu)], zI K lca 16 (zna cc), zI K lma 288 (zna gc)]
      refine zj_iload_n F d_UN_readLengths_4 3 rfl rfl ?_
      refine zj_iload_n F d_UN_readLengths_5 1 rfl rfl ?_
      refine zj_icmp_ge (tgt := 63) F d_UN_readLengths_6 (by decide) (nI_leI (by omega) (by omega)) (fun h6 => ?_) (fun h6 => ?_)
      · exact zj_vret F E d_UN_readLengths_63 (Nat.le_refl _) (Nat.le_refl _) ⟨_, _, _, hz.symm, hp1, hgc, hc15, rfl, rfl⟩
      · exact absurd (show h ≤ i by omega) h6
    | succ q ih =>
      intro i p1 c1 h g1 h1 hih hht hp1 hgc hc15 hz
      show zj G 0 0 4 [(0, .ref u), (1, .int (nI total)), (2, .int (nI h)), (3, .int (nI i))] [] [zO u 3 [.ref r, .ref fl, .ref fd, .ref li, .ref di, .ref lc, .ref la, .ref ob, .int (nI w)], zO r 0 [.ref b, .int (nI e), .int (nI p1)], zB K b Nb (zby t), zI K la 316 (zna g1), zO lc 1 [.ref lca, .ref lma, .ref lpa, .int (nI lu)], zI K lca 16 (zna cc), zI K lma 288 (zna gc)]
      refine zj_iload_n F d_UN_readLengths_4 3 rfl rfl ?_
      refine zj_iload_n F d_UN_readLengths_5 1 rfl rfl ?_
      refine zj_icmp_ge (tgt := 63) F d_UN_readLengths_6 (by decide) (nI_leI (by omega) (by omega)) (fun h6 => ?_) (fun h6 => ?_)
      · exact absurd h6 (by omega)
      · refine zj_iload_n F d_UN_readLengths_9 2 rfl rfl ?_
        refine zj_iload_n F d_UN_readLengths_10 1 rfl rfl ?_
        refine zj_icmp_ge (tgt := 63) F d_UN_readLengths_11 (by decide) (nI_leI (by omega) (by omega)) (fun h11 => ?_) (fun h11 => ?_)
        · have hhT : h = total := by omega
          rw [zlen_s] at hz
          unfold zlenS at hz
          rw [if_neg (by omega), hhT] at hz
          exact zj_vret F E d_UN_readLengths_63 (Nat.le_refl _) (Nat.le_refl _) ⟨_, _, _, hz.symm, hp1, fun j hj => hgc j (by omega), fun j hj => hc15 j (by omega), rfl, rfl⟩
        · rw [zlen_s] at hz
          unfold zlenS at hz
          rw [if_pos (by omega)] at hz
          refine zj_aload_n F d_UN_readLengths_14 0 rfl rfl ?_
          refine zj_get F d_UN_readLengths_15 0 5 rfl rfl in_UN (by decide) q_86 rfl ?_
          refine zj_aload_n F d_UN_readLengths_18 0 rfl rfl ?_
          refine zj_get F d_UN_readLengths_19 0 0 rfl rfl in_UN (by decide) q_81 rfl ?_
          refine zj_call (maxL := 7) (wr := [zO u 3 [.ref r, .ref fl, .ref fd, .ref li, .ref di, .ref lc, .ref la, .ref ob, .int (nI w)], zI K la 316 (zna g1)]) F E (m_CO_read l hl K lc lca lma lpa lu r b Nb e p1 t cc gc mc hb hN2 he2 hp1 hC.1 hC.2.1) (zi_V (As := [.ref r]) (rest := []) F d_UN_readLengths_22 4 rfl rfl rfl q_359 q_360 q_361 q_362 (Or.inl ⟨_, _, rfl⟩) (by decide) (show Option.map (fun d => d.parameters.length) (parseMethodDescriptor y_CO_read.desc) = some 1 from by decide +kernel)) d_UN_readLengths_22 q_362 (Or.inl ⟨_, _, rfl⟩) q_4 [4, 5, 6, 1, 2] [0, 3] rfl rfl rfl rfl (by decide) ⟨by decide, by decide, by decide, by decide⟩ (Nat.le_of_ble_eq_true rfl) (fun v w1 hq => ?_) (fun X w1 hq => ?_)
          · obtain ⟨sym, p2, hq2, rfl, rfl⟩ := hq
            show zj G 0 0 25 [(0, .ref u), (1, .int (nI total)), (2, .int (nI h)), (3, .int (nI i))] [.int (nI sym)] [zO u 3 [.ref r, .ref fl, .ref fd, .ref li, .ref di, .ref lc, .ref la, .ref ob, .int (nI w)], zI K la 316 (zna g1), zO lc 1 [.ref lca, .ref lma, .ref lpa, .int (nI lu)], zI K lca 16 (zna cc), zI K lma 288 (zna gc), zO r 0 [.ref b, .int (nI e), .int (nI p2)], zB K b Nb (zby t)]
            obtain ⟨hp2a, hp2b⟩ := zdec_le _ _ _ _ _ _ _ hq2
            have hsym := zdec_val hC.2.2 _ _ _ _ _ _ _ hq2
            rw [hq2] at hz
            dsimp only at hz
            refine zj_istore (L' := [(4, .int (nI sym)), (0, .ref u), (1, .int (nI total)), (2, .int (nI h)), (3, .int (nI i))]) F d_UN_readLengths_25 (by decide) rfl ?_
            refine zj_iload F d_UN_readLengths_27 0 rfl ?_
            refine zj_bipush (v := nI 16) F d_UN_readLengths_29 (by decide) ?_
            refine zj_icmp_ge (tgt := 48) F d_UN_readLengths_31 (by decide) (nI_leI (by omega) (by omega)) (fun h31 => ?_) (fun h31 => ?_)
            · rw [if_neg (by omega)] at hz
              refine zj_aload_n F d_UN_readLengths_48 1 rfl rfl ?_
              refine zj_iload F d_UN_readLengths_49 0 rfl ?_
              refine zj_iload_n F d_UN_readLengths_51 3 rfl rfl ?_
              refine zj_iload_n F d_UN_readLengths_52 2 rfl rfl ?_
              refine zj_call (maxL := 7) (wr := [zO lc 1 [.ref lca, .ref lma, .ref lpa, .int (nI lu)], zI K lca 16 (zna cc), zI K lma 288 (zna gc)]) F E (m_UN_run l hl K u r fl fd li di lc la ob w b Nb e p2 t sym h total g1 c1 _ hb hN he hp2b h31 hsym (by omega) ht hgc hc15 rfl) (zi_V (As := [.int (nI sym), .int (nI h), .int (nI total)]) (rest := []) F d_UN_readLengths_53 0 rfl rfl rfl q_402 q_404 sel_UN_readRun q_405 (Or.inl ⟨_, _, rfl⟩) (by decide) (show Option.map (fun d => d.parameters.length) (parseMethodDescriptor y_UN_readRun.desc) = some 3 from by decide +kernel)) d_UN_readLengths_53 q_405 (Or.inl ⟨_, _, rfl⟩) q_2 [0, 5, 6, 1] [2, 3, 4] rfl rfl rfl rfl (by decide) ⟨by decide, by decide, by decide, by decide⟩ (Nat.le_of_ble_eq_true rfl) (fun v w1 hq => ?_) (fun X w1 hq => ?_)
              · obtain ⟨p3, c3, h3, g3, hq3, hp3, hh3, hh4, hgc3, hc3, rfl, rfl⟩ := hq
                show zj G 0 0 56 [(4, .int (nI sym)), (0, .ref u), (1, .int (nI total)), (2, .int (nI h)), (3, .int (nI i))] [.int (nI h3)] [zO lc 1 [.ref lca, .ref lma, .ref lpa, .int (nI lu)], zI K lca 16 (zna cc), zI K lma 288 (zna gc), zO u 3 [.ref r, .ref fl, .ref fd, .ref li, .ref di, .ref lc, .ref la, .ref ob, .int (nI w)], zO r 0 [.ref b, .int (nI e), .int (nI p3)], zB K b Nb (zby t), zI K la 316 (zna g3)]
                rw [hq3] at hz
                dsimp only at hz
                refine zj_istore_n (L' := [(2, .int (nI h3)), (4, .int (nI sym)), (0, .ref u), (1, .int (nI total)), (3, .int (nI i))]) F d_UN_readLengths_56 rfl (by decide) rfl ?_
                refine zj_iinc (v := nI (i + 1)) (L' := [(3, .int (nI (i + 1))), (2, .int (nI h3)), (4, .int (nI sym)), (0, .ref u), (1, .int (nI total))]) F d_UN_readLengths_57 4 rfl (nI_add _ _) (by decide) rfl ?_
                refine zj_goto F d_UN_readLengths_60 (tgt := 4) (by decide) ?_
                refine zj_wsub (ws' := [zO u 3 [.ref r, .ref fl, .ref fd, .ref li, .ref di, .ref lc, .ref la, .ref ob, .int (nI w)], zO r 0 [.ref b, .int (nI e), .int (nI p3)], zB K b Nb (zby t), zI K la 316 (zna g3), zO lc 1 [.ref lca, .ref lma, .ref lpa, .int (nI lu)], zI K lca 16 (zna cc), zI K lma 288 (zna gc)]) [3, 4, 5, 6, 0, 1, 2] rfl rfl rfl ?_
                exact zj_sub [3, 4, 1, 0] rfl (ih (i + 1) _ _ _ _ (by omega) (by omega) hh4 hp3 hgc3 hc3 hz)
              · obtain ⟨hx1, p9, g9, rfl⟩ := hq
                exact ⟨rfl, by decide, by decide, [3, 4, 5, 6, 0, 1, 2], [zO u 3 [.ref r, .ref fl, .ref fd, .ref li, .ref di, .ref lc, .ref la, .ref ob, .int (nI w)], zO r 0 [.ref b, .int (nI e), .int (nI p9)], zB K b Nb (zby t), zI K la 316 (zna g9), zO lc 1 [.ref lca, .ref lma, .ref lpa, .int (nI lu)], zI K lca 16 (zna cc), zI K lma 288 (zna gc)], rfl, rfl, ⟨hz.symm.trans (by rw [hx1]), _, _, rfl⟩⟩
            · rw [if_pos (by omega)] at hz
              refine zj_aload_n F d_UN_readLengths_34 1 rfl rfl ?_
              refine zj_get F d_UN_readLengths_35 0 6 rfl rfl in_UN (by decide) q_87 rfl ?_
              refine zj_iload_n F d_UN_readLengths_38 3 rfl rfl ?_
              refine zj_iload F d_UN_readLengths_39 0 rfl ?_
              refine zj_iast (ws' := [zO u 3 [.ref r, .ref fl, .ref fd, .ref li, .ref di, .ref lc, .ref la, .ref ob, .int (nI w)], zI K la 316 (zna (va_up g1 h sym)), zO lc 1 [.ref lca, .ref lma, .ref lpa, .int (nI lu)], zI K lca 16 (zna cc), zI K lma 288 (zna gc), zO r 0 [.ref b, .int (nI e), .int (nI p2)], zB K b Nb (zby t)]) F d_UN_readLengths_41 1 1 h rfl rfl rfl (by omega) (by omega) (by rw [zna_upd]; rfl) ?_
              refine zj_iinc (v := nI (h + 1)) (L' := [(2, .int (nI (h + 1))), (4, .int (nI sym)), (0, .ref u), (1, .int (nI total)), (3, .int (nI i))]) F d_UN_readLengths_42 3 rfl (nI_add _ _) (by decide) rfl ?_
              refine zj_goto F d_UN_readLengths_45 (tgt := 57) (by decide) ?_
              refine zj_iinc (v := nI (i + 1)) (L' := [(3, .int (nI (i + 1))), (2, .int (nI (h + 1))), (4, .int (nI sym)), (0, .ref u), (1, .int (nI total))]) F d_UN_readLengths_57 4 rfl (nI_add _ _) (by decide) rfl ?_
              refine zj_goto F d_UN_readLengths_60 (tgt := 4) (by decide) ?_
              refine zj_wsub (ws' := [zO u 3 [.ref r, .ref fl, .ref fd, .ref li, .ref di, .ref lc, .ref la, .ref ob, .int (nI w)], zO r 0 [.ref b, .int (nI e), .int (nI p2)], zB K b Nb (zby t), zI K la 316 (zna (va_up g1 h sym)), zO lc 1 [.ref lca, .ref lma, .ref lpa, .int (nI lu)], zI K lca 16 (zna cc), zI K lma 288 (zna gc)]) [0, 5, 6, 1, 2, 3, 4] rfl rfl rfl ?_
              exact zj_sub [3, 4, 1, 0] rfl (ih (i + 1) _ _ _ _ (by omega) (by omega) (by omega) hp2b (fun j hj => by
                  show (if j = h then sym else g1 j) = (if j = h then sym else c1 j)
                  by_cases hq : j = h
                  · rw [if_pos hq, if_pos hq]
                  · rw [if_neg hq, if_neg hq]; exact hgc j (by omega)) (fun j hj => by
                  show (if j = h then sym else c1 j) ≤ 15
                  by_cases hq : j = h
                  · rw [if_pos hq]; omega
                  · rw [if_neg hq]; exact hc15 j (by omega)) hz)
          · obtain ⟨hx1, rfl, p9, rfl⟩ := hq
            exact ⟨rfl, by decide, by decide, [0, 5, 6, 1, 2, 3, 4], [zO u 3 [.ref r, .ref fl, .ref fd, .ref li, .ref di, .ref lc, .ref la, .ref ob, .int (nI w)], zO r 0 [.ref b, .int (nI e), .int (nI p9)], zB K b Nb (zby t), zI K la 316 (zna g1), zO lc 1 [.ref lca, .ref lma, .ref lpa, .int (nI lu)], zI K lca 16 (zna cc), zI K lma 288 (zna gc)], rfl, rfl, ⟨hz.symm.trans (by rw [hx1]), _, _, rfl⟩⟩
  exact zj_sub [2, 3, 1, 0] rfl (key total 0 _ _ _ _ (Nat.zero_add _) (by omega) (by omega) hp (fun j hj => absurd hj (Nat.not_lt_zero j)) (fun j hj => absurd hj (Nat.not_lt_zero j)) hR)
set_option maxHeartbeats 4000000 in
set_option maxRecDepth 100000 in
/-- readLengthCodes(told) -/
theorem m_UN_lengthCodes (l : Launch) (hl : l.stackTraces = false) (K : zk) (u r fl fd li di lc la ob w : Nat) (b Nb e p : Nat) (t : Nat → Nat) (lca lma lpa lu told : Nat) (g cc gc pc : Nat → Nat) (R : Except String (Nat × (Nat → Nat))) (hb : ∀ j, t j < 256) (hN : Nb ≤ 16384) (he : e = 8 * Nb) (hp : p ≤ e) (hlu : lu < 2 ^ 31) (ht : told ≤ 19) (hR : zlcF t e told p = R) : zc l K y_UN_readLengthCodes w_UN_readLengthCodes { frames := 7, cells := 1, slots := 6, locals := 123 } 0 0 1 6 [.ref u, .int (nI told)] [zO u 3 [.ref r, .ref fl, .ref fd, .ref li, .ref di, .ref lc, .ref la, .ref ob, .int (nI w)], zO r 0 [.ref b, .int (nI e), .int (nI p)], zB K b Nb (zby t), zI K la 316 (zna g), zO lc 1 [.ref lca, .ref lma, .ref lpa, .int (nI lu)], zI K lca 16 (zna cc), zI K lma 288 (zna gc), zI K lpa 16 (zna pc)] (fun v w1 => ∃ p' c' g' cc' gc' pc', R = .ok (p', c') ∧ p' ≤ e ∧ zCS cc' gc' (fun l r => zth c' 0 l 19 r) ∧ (∀ l, l ≤ 15 → cc' l = zcnt c' 0 l 19) ∧ v = none ∧ w1 = [zO u 3 [.ref r, .ref fl, .ref fd, .ref li, .ref di, .ref lc, .ref la, .ref ob, .int (nI w)], zO r 0 [.ref b, .int (nI e), .int (nI p')], zB K b Nb (zby t), zI K la 316 (zna g'), zO lc 1 [.ref lca, .ref lma, .ref lpa, .int (nI 32768)], zI K lca 16 (zna cc'), zI K lma 288 (zna gc'), zI K lpa 16 (zna pc')]) (fun X w1 => R = .error X ∧ ∃ p' g' lu' cc' gc' pc', lu' < 2 ^ 31 ∧ w1 = [zO u 3 [.ref r, .ref fl, .ref fd, .ref li, .ref di, .ref lc, .ref la, .ref ob, .int (nI w)], zO r 0 [.ref b, .int (nI e), .int (nI p')], zB K b Nb (zby t), zI K la 316 (zna g'), zO lc 1 [.ref lca, .ref lma, .ref lpa, .int (nI lu')], zI K lca 16 (zna cc'), zI K lma 288 (zna gc'), zI K lpa 16 (zna pc')]) := by
  refine zc_of (cc := c_UN_readLengthCodes) (nl := 3) (ret := none) (by decide) (Nat.le_of_ble_eq_true rfl) (fun G F E => ?_)
  have F : zf G l K { frames := 7, cells := 1, slots := 6, locals := 123 } "ZlibBox$Unpacker" c_UN_readLengthCodes 3 := F
  show zj G 0 0 0 [(0, .ref u), (1, .int (nI told))] [] [zO u 3 [.ref r, .ref fl, .ref fd, .ref li, .ref di, .ref lc, .ref la, .ref ob, .int (nI w)], zO r 0 [.ref b, .int (nI e), .int (nI p)], zB K b Nb (zby t), zI K la 316 (zna g), zO lc 1 [.ref lca, .ref lma, .ref lpa, .int (nI lu)], zI K lca 16 (zna cc), zI K lma 288 (zna gc), zI K lpa 16 (zna pc)]
  have hN2 : Nb < 2 ^ 24 := by omega
  have he2 : e ≤ 8 * Nb := by omega
  refine zj_aload_n F d_UN_readLengthCodes_0 0 rfl rfl ?_
  refine zj_get F d_UN_readLengthCodes_1 0 6 rfl rfl in_UN (by decide) q_87 rfl ?_
  refine zj_iconst (v := nI 0) F d_UN_readLengthCodes_4 (by decide) ?_
  refine zj_call (maxL := 4) (wr := [zO u 3 [.ref r, .ref fl, .ref fd, .ref li, .ref di, .ref lc, .ref la, .ref ob, .int (nI w)], zO r 0 [.ref b, .int (nI e), .int (nI p)], zB K b Nb (zby t), zO lc 1 [.ref lca, .ref lma, .ref lpa, .int (nI lu)], zI K lca 16 (zna cc), zI K lma 288 (zna gc), zI K lpa 16 (zna pc)]) F E (m_fill l K la 316 (zna g) (nI 0) (by decide)) (zi_S (As := [.ref la, .int (nI 0)]) (rest := []) F d_UN_readLengthCodes_5 q_80 q_77 q_5 q_78 (Or.inl ⟨_, _, rfl⟩) (by decide) (show Option.map (fun d => d.parameters.length) (parseMethodDescriptor y_AR_fill.desc) = some 2 from by decide +kernel)) d_UN_readLengthCodes_5 q_78 (Or.inl ⟨_, _, rfl⟩) q_5 [3] [0, 1, 2, 4, 5, 6, 7] rfl rfl rfl rfl (by decide) ⟨by decide, by decide, by decide, by decide⟩ (Nat.le_of_ble_eq_true rfl) (fun v w1 hq => ?_) (fun X w1 hq => ?_)
  · obtain ⟨rfl, rfl⟩ := hq
    rw [zfil_na]
    show zj G 0 0 8 [(0, .ref u), (1, .int (nI told))] [] [zO u 3 [.ref r, .ref fl, .ref fd, .ref li, .ref di, .ref lc, .ref la, .ref ob, .int (nI w)], zO r 0 [.ref b, .int (nI e), .int (nI p)], zB K b Nb (zby t), zO lc 1 [.ref lca, .ref lma, .ref lpa, .int (nI lu)], zI K lca 16 (zna cc), zI K lma 288 (zna gc), zI K lpa 16 (zna pc), zI K la 316 (zna (fun j => if j < 316 then 0 else g j))]
    refine zj_iconst (v := nI 0) F d_UN_readLengthCodes_8 (by decide) ?_
    refine zj_istore_n (L' := [(2, .int (nI 0)), (0, .ref u), (1, .int (nI told))]) F d_UN_readLengthCodes_9 rfl (by decide) rfl ?_
    refine zj_wsub (ws' := [zO u 3 [.ref r, .ref fl, .ref fd, .ref li, .ref di, .ref lc, .ref la, .ref ob, .int (nI w)], zO r 0 [.ref b, .int (nI e), .int (nI p)], zB K b Nb (zby t), zI K la 316 (zna (fun j => if j < 316 then 0 else g j)), zO lc 1 [.ref lca, .ref lma, .ref lpa, .int (nI lu)], zI K lca 16 (zna cc), zI K lma 288 (zna gc), zI K lpa 16 (zna pc)]) [0, 1, 2, 7, 3, 4, 5, 6] rfl rfl rfl ?_
    have fin : ∀ p1 c1 g1, p1 ≤ e → (∀ j, j < 19 → g1 j = c1 j) → (∀ j, j < 19 → c1 j ≤ 15) → (if zuse c1 0 19 = 32768 then .ok (p1, c1) else .error zU) = R → zj G 0 0 39 [(0, .ref u)] [] [zO u 3 [.ref r, .ref fl, .ref fd, .ref li, .ref di, .ref lc, .ref la, .ref ob, .int (nI w)], zO r 0 [.ref b, .int (nI e), .int (nI p1)], zB K b Nb (zby t), zI K la 316 (zna g1), zO lc 1 [.ref lca, .ref lma, .ref lpa, .int (nI lu)], zI K lca 16 (zna cc), zI K lma 288 (zna gc), zI K lpa 16 (zna pc)] := by
      intro p1 c1 g1 hp1 hgc hc15 h6
      show zj G 0 0 39 [(0, .ref u)] [] [zO u 3 [.ref r, .ref fl, .ref fd, .ref li, .ref di, .ref lc, .ref la, .ref ob, .int (nI w)], zO r 0 [.ref b, .int (nI e), .int (nI p1)], zB K b Nb (zby t), zI K la 316 (zna g1), zO lc 1 [.ref lca, .ref lma, .ref lpa, .int (nI lu)], zI K lca 16 (zna cc), zI K lma 288 (zna gc), zI K lpa 16 (zna pc)]
      refine zj_aload_n F d_UN_readLengthCodes_39 0 rfl rfl ?_
      refine zj_get F d_UN_readLengthCodes_40 0 5 rfl rfl in_UN (by decide) q_86 rfl ?_
      refine zj_aload_n F d_UN_readLengthCodes_43 0 rfl rfl ?_
      refine zj_get F d_UN_readLengthCodes_44 0 6 rfl rfl in_UN (by decide) q_87 rfl ?_
      refine zj_iconst (v := nI 0) F d_UN_readLengthCodes_47 (by decide) ?_
      refine zj_bipush (v := nI 19) F d_UN_readLengthCodes_48 (by decide) ?_
      refine zj_call (maxL := 6) (wr := [zO u 3 [.ref r, .ref fl, .ref fd, .ref li, .ref di, .ref lc, .ref la, .ref ob, .int (nI w)], zO r 0 [.ref b, .int (nI e), .int (nI p1)], zB K b Nb (zby t)]) F E (m_CO_make l K lc lca lma lpa la 316 lu 0 19 g1 cc gc pc (by decide) (by decide) (by decide) (fun i hi => by rw [Nat.zero_add, hgc i hi]; exact hc15 i hi)) (zi_V (As := [.ref la, .int (nI 0), .int (nI 19)]) (rest := []) F d_UN_readLengthCodes_50 4 rfl rfl rfl q_72 q_73 q_74 q_75 (Or.inl ⟨_, _, rfl⟩) (by decide) (show Option.map (fun d => d.parameters.length) (parseMethodDescriptor y_CO_make.desc) = some 3 from by decide +kernel)) d_UN_readLengthCodes_50 q_75 (Or.inl ⟨_, _, rfl⟩) q_4 [4, 5, 6, 7, 3] [0, 1, 2] rfl rfl rfl rfl (by decide) ⟨by decide, by decide, by decide, by decide⟩ (Nat.le_of_ble_eq_true rfl) (fun v w1 hq => ?_) (fun X w1 hq => ?_)
      · obtain ⟨rfl, cc', gc', pc', hm1, hm2, hm3, rfl⟩ := hq
        show zj G 0 0 53 [(0, .ref u)] [] [zO u 3 [.ref r, .ref fl, .ref fd, .ref li, .ref di, .ref lc, .ref la, .ref ob, .int (nI w)], zO r 0 [.ref b, .int (nI e), .int (nI p1)], zB K b Nb (zby t), zO lc 1 [.ref lca, .ref lma, .ref lpa, .int (nI (zuse g1 0 19))], zI K lca 16 (zna cc'), zI K lma 288 (zna gc'), zI K lpa 16 (zna pc'), zI K la 316 (zna g1)]
        have hgz : ∀ i, i < 19 → g1 (0 + i) = c1 (0 + i) := fun i hi => by rw [Nat.zero_add]; exact hgc i hi
        have hus := zuse_congr 19 hgz
        have hul := zuse_le g1 0 19
        refine zj_aload_n F d_UN_readLengthCodes_53 0 rfl rfl ?_
        refine zj_get F d_UN_readLengthCodes_54 0 5 rfl rfl in_UN (by decide) q_86 rfl ?_
        refine zj_call (maxL := 1) (wr := [zO u 3 [.ref r, .ref fl, .ref fd, .ref li, .ref di, .ref lc, .ref la, .ref ob, .int (nI w)], zO r 0 [.ref b, .int (nI e), .int (nI p1)], zB K b Nb (zby t), zI K lca 16 (zna cc'), zI K lma 288 (zna gc'), zI K lpa 16 (zna pc'), zI K la 316 (zna g1)]) F E (m_CO_useAll l K lc lca lma lpa (zuse g1 0 19) (by omega)) (zi_V (As := []) (rest := []) F d_UN_readLengthCodes_57 3 rfl rfl rfl q_393 q_394 q_395 q_396 (Or.inl ⟨_, _, rfl⟩) (by decide) (show Option.map (fun d => d.parameters.length) (parseMethodDescriptor y_CO_useAllWords.desc) = some 0 from by decide +kernel)) d_UN_readLengthCodes_57 q_396 (Or.inl ⟨_, _, rfl⟩) q_4 [3] [0, 1, 2, 4, 5, 6, 7] rfl rfl rfl rfl (by decide) ⟨by decide, by decide, by decide, by decide⟩ (Nat.le_of_ble_eq_true rfl) (fun v w1 hq => ?_) (fun X w1 hq => ?_)
        · obtain ⟨rfl, rfl⟩ := hq
          show zj G 0 0 60 [(0, .ref u)] [.int (nI (if zuse g1 0 19 = 32768 then 1 else 0))] [zO u 3 [.ref r, .ref fl, .ref fd, .ref li, .ref di, .ref lc, .ref la, .ref ob, .int (nI w)], zO r 0 [.ref b, .int (nI e), .int (nI p1)], zB K b Nb (zby t), zI K lca 16 (zna cc'), zI K lma 288 (zna gc'), zI K lpa 16 (zna pc'), zI K la 316 (zna g1), zO lc 1 [.ref lca, .ref lma, .ref lpa, .int (nI (zuse g1 0 19))]]
          have hi2 : (if zuse g1 0 19 = 32768 then 1 else 0) < 2 ^ 31 := by by_cases hq : zuse g1 0 19 = 32768 <;> simp [hq]
          refine zj_if_ne (tgt := 73) F d_UN_readLengthCodes_60 (by decide) (zI_eq0 hi2) (fun h60 => ?_) (fun h60 => ?_)
          · have hq : zuse g1 0 19 = 32768 := Decidable.byContradiction (fun q => h60 (if_neg q))
            rw [if_pos (by rw [← hus]; exact hq)] at h6
            refine zj_wsub (ws' := [zO u 3 [.ref r, .ref fl, .ref fd, .ref li, .ref di, .ref lc, .ref la, .ref ob, .int (nI w)], zO r 0 [.ref b, .int (nI e), .int (nI p1)], zB K b Nb (zby t), zI K la 316 (zna g1), zO lc 1 [.ref lca, .ref lma, .ref lpa, .int (nI (zuse g1 0 19))], zI K lca 16 (zna cc'), zI K lma 288 (zna gc'), zI K lpa 16 (zna pc')]) [0, 1, 2, 6, 7, 3, 4, 5] rfl rfl rfl ?_
            refine zj_vret F E d_UN_readLengthCodes_73 (Nat.le_refl _) (Nat.le_refl _) ⟨_, _, _, _, _, _, h6.symm, hp1, ⟨Nat.le_trans hm2 (by decide), fun l h1 h2 r hr => (hm3 l h1 h2 r hr).trans (zth_congr 19 hgz r), fun l r => Nat.lt_of_lt_of_le (zth_lt c1 0 l 19 r (by decide)) (by decide)⟩, fun l hl => (hm1 l hl).trans (zcnt_congr 19 hgz), rfl, by rw [hq]⟩
          · have hq : ¬ zuse g1 0 19 = 32768 := fun q => by rw [if_pos q] at h60; cases h60
            rw [if_neg (by rw [← hus]; exact hq)] at h6
            refine zj_wsub (ws' := [zO u 3 [.ref r, .ref fl, .ref fd, .ref li, .ref di, .ref lc, .ref la, .ref ob, .int (nI w)], zO r 0 [.ref b, .int (nI e), .int (nI p1)], zB K b Nb (zby t), zI K la 316 (zna g1), zO lc 1 [.ref lca, .ref lma, .ref lpa, .int (nI (zuse g1 0 19))], zI K lca 16 (zna cc'), zI K lma 288 (zna gc'), zI K lpa 16 (zna pc')]) [0, 1, 2, 6, 7, 3, 4, 5] rfl rfl rfl ?_
            exact zj_throwS (names := zt_up) F E hl d_UN_readLengthCodes_63 d_UN_readLengthCodes_66 d_UN_readLengthCodes_67 d_UN_readLengthCodes_69 d_UN_readLengthCodes_72 (by decide +kernel) (by decide +kernel) q_397 (at_UN_83) ⟨by decide, by decide, by decide, by decide⟩ rfl (by decide) (by decide) ⟨h6.symm, _, _, _, _, _, _, by omega, rfl⟩
        · exact hq.elim
      · exact hq.elim
    have key : ∀ q i p1 c1 g1, i + q = told → p1 ≤ e → (∀ j, j < 19 → g1 j = c1 j) → (∀ j, j < 19 → c1 j ≤ 15) → (match zlc t e q i p1 c1 with | none => .error zU | some (p', c) => if zuse c 0 19 = 32768 then .ok (p', c) else .error zU) = R → zj G 0 0 10 [(0, .ref u), (1, .int (nI told)), (2, .int (nI i))] [] [zO u 3 [.ref r, .ref fl, .ref fd, .ref li, .ref di, .ref lc, .ref la, .ref ob, .int (nI w)], zO r 0 [.ref b, .int (nI e), .int (nI p1)], zB K b Nb (zby t), zI K la 316 (zna g1), zO lc 1 [.ref lca, .ref lma, .ref lpa, .int (nI lu)], zI K lca 16 (zna cc), zI K lma 288 (zna gc), zI K lpa 16 (zna pc)] := by
      clear hR
      intro q
      induction q with
      | zero =>
        intro i p1 c1 g1 h1 hp1 hgc hc15 h6
        show zj G 0 0 10 [(0, .ref u), (1, .int (nI told)), (2, .int (nI i))] [] [zO u 3 [.ref r, .ref fl, .ref fd, .ref li, .ref di, .ref lc, .ref la, .ref ob, .int (nI w)], zO r 0 [.ref b, .int (nI e), .int (nI p1)], zB K b Nb (zby t), zI K la 316 (zna g1), zO lc 1 [.ref lca, .ref lma, .ref lpa, .int (nI lu)], zI K lca 16 (zna cc), zI K lma 288 (zna gc), zI K lpa 16 (zna pc)]
        refine zj_iload_n F d_UN_readLengthCodes_10 2 rfl rfl ?_
        refine zj_iload_n F d_UN_readLengthCodes_11 1 rfl rfl ?_
        refine zj_icmp_ge (tgt := 39) F d_UN_readLengthCodes_12 (by decide) (nI_leI (by omega) (by omega)) (fun h12 => ?_) (fun h12 => ?_)
        · exact zj_sub [0] rfl (fin p1 c1 g1 hp1 hgc hc15 h6)
        · exact absurd h12 (by omega)
      | succ q ih =>
        intro i p1 c1 g1 h1 hp1 hgc hc15 h6
        have hor := ztab_ord i (by omega)
        show zj G 0 0 10 [(0, .ref u), (1, .int (nI told)), (2, .int (nI i))] [] [zO u 3 [.ref r, .ref fl, .ref fd, .ref li, .ref di, .ref lc, .ref la, .ref ob, .int (nI w)], zO r 0 [.ref b, .int (nI e), .int (nI p1)], zB K b Nb (zby t), zI K la 316 (zna g1), zO lc 1 [.ref lca, .ref lma, .ref lpa, .int (nI lu)], zI K lca 16 (zna cc), zI K lma 288 (zna gc), zI K lpa 16 (zna pc)]
        refine zj_iload_n F d_UN_readLengthCodes_10 2 rfl rfl ?_
        refine zj_iload_n F d_UN_readLengthCodes_11 1 rfl rfl ?_
        refine zj_icmp_ge (tgt := 39) F d_UN_readLengthCodes_12 (by decide) (nI_leI (by omega) (by omega)) (fun h12 => ?_) (fun h12 => ?_)
        · exact absurd h12 (by omega)
        · refine zj_aload_n F d_UN_readLengthCodes_15 0 rfl rfl ?_
          refine zj_get F d_UN_readLengthCodes_16 0 6 rfl rfl in_UN (by decide) q_87 rfl ?_
          refine zj_gets F d_UN_readLengthCodes_19 4 rfl q_391 ?_
          refine zj_iload_n F d_UN_readLengthCodes_22 2 rfl rfl ?_
          refine zj_tald F d_UN_readLengthCodes_23 4 i rfl rfl (show i < 19 by omega) (by decide) ?_
          change zj G 0 0 24 [(0, .ref u), (1, .int (nI told)), (2, .int (nI i))] [.int (nI (ztab 4 i)), .ref la] [zO u 3 [.ref r, .ref fl, .ref fd, .ref li, .ref di, .ref lc, .ref la, .ref ob, .int (nI w)], zO r 0 [.ref b, .int (nI e), .int (nI p1)], zB K b Nb (zby t), zI K la 316 (zna g1), zO lc 1 [.ref lca, .ref lma, .ref lpa, .int (nI lu)], zI K lca 16 (zna cc), zI K lma 288 (zna gc), zI K lpa 16 (zna pc)]
          refine zj_aload_n F d_UN_readLengthCodes_24 0 rfl rfl ?_
          refine zj_get F d_UN_readLengthCodes_25 0 0 rfl rfl in_UN (by decide) q_81 rfl ?_
          refine zj_iconst (v := nI 3) F d_UN_readLengthCodes_28 (by decide) ?_
          refine zj_call (maxL := 4) (wr := [zO u 3 [.ref r, .ref fl, .ref fd, .ref li, .ref di, .ref lc, .ref la, .ref ob, .int (nI w)], zI K la 316 (zna g1), zO lc 1 [.ref lca, .ref lma, .ref lpa, .int (nI lu)], zI K lca 16 (zna cc), zI K lma 288 (zna gc), zI K lpa 16 (zna pc)]) F E (m_BR_number l hl K r b Nb e p1 3 t hb hN2 he2 (by decide) hp1) (zi_V (As := [.int (nI 3)]) (rest := [.int (nI (ztab 4 i)), .ref la]) F d_UN_readLengthCodes_29 1 rfl rfl rfl q_306 q_307 q_308 q_309 (Or.inl ⟨_, _, rfl⟩) (by decide) (show Option.map (fun d => d.parameters.length) (parseMethodDescriptor y_BR_number.desc) = some 1 from by decide +kernel)) d_UN_readLengthCodes_29 q_309 (Or.inl ⟨_, _, rfl⟩) q_3 [1, 2] [0, 3, 4, 5, 6, 7] rfl rfl rfl rfl (by decide) ⟨by decide, by decide, by decide, by decide⟩ (Nat.le_of_ble_eq_true rfl) (fun v w1 hq => ?_) (fun X w1 hq => ?_)
          · obtain ⟨hq1, rfl, rfl⟩ := hq
            show zj G 0 0 32 [(0, .ref u), (1, .int (nI told)), (2, .int (nI i))] [.int (nI (znum t p1 3)), .int (nI (ztab 4 i)), .ref la] [zO u 3 [.ref r, .ref fl, .ref fd, .ref li, .ref di, .ref lc, .ref la, .ref ob, .int (nI w)], zI K la 316 (zna g1), zO lc 1 [.ref lca, .ref lma, .ref lpa, .int (nI lu)], zI K lca 16 (zna cc), zI K lma 288 (zna gc), zI K lpa 16 (zna pc), zO r 0 [.ref b, .int (nI e), .int (nI (p1 + 3))], zB K b Nb (zby t)]
            have hn := znum_lt t p1 3
            have hz : zlc t e (q + 1) i p1 c1 = zlc t e q (i + 1) (p1 + 3) (va_up c1 (ztab 4 i) (znum t p1 3)) := by show (if p1 + 3 ≤ e then _ else none) = _; rw [if_pos hq1]
            rw [hz] at h6
            refine zj_iast (ws' := [zO u 3 [.ref r, .ref fl, .ref fd, .ref li, .ref di, .ref lc, .ref la, .ref ob, .int (nI w)], zI K la 316 (zna (va_up g1 (ztab 4 i) (znum t p1 3))), zO lc 1 [.ref lca, .ref lma, .ref lpa, .int (nI lu)], zI K lca 16 (zna cc), zI K lma 288 (zna gc), zI K lpa 16 (zna pc), zO r 0 [.ref b, .int (nI e), .int (nI (p1 + 3))], zB K b Nb (zby t)]) F d_UN_readLengthCodes_32 1 1 (ztab 4 i) rfl rfl rfl (by omega) (by omega) (by rw [zna_upd]; rfl) ?_
            refine zj_iinc (v := nI (i + 1)) (L' := [(2, .int (nI (i + 1))), (0, .ref u), (1, .int (nI told))]) F d_UN_readLengthCodes_33 2 rfl (nI_add _ _) (by decide) rfl ?_
            refine zj_goto F d_UN_readLengthCodes_36 (tgt := 10) (by decide) ?_
            refine zj_wsub (ws' := [zO u 3 [.ref r, .ref fl, .ref fd, .ref li, .ref di, .ref lc, .ref la, .ref ob, .int (nI w)], zO r 0 [.ref b, .int (nI e), .int (nI (p1 + 3))], zB K b Nb (zby t), zI K la 316 (zna (va_up g1 (ztab 4 i) (znum t p1 3))), zO lc 1 [.ref lca, .ref lma, .ref lpa, .int (nI lu)], zI K lca 16 (zna cc), zI K lma 288 (zna gc), zI K lpa 16 (zna pc)]) [0, 6, 7, 1, 2, 3, 4, 5] rfl rfl rfl ?_
            exact zj_sub [1, 2, 0] rfl (ih (i + 1) _ _ _ (by omega) hq1 (fun j hj => by
                show (if j = ztab 4 i then znum t p1 3 else g1 j) = (if j = ztab 4 i then znum t p1 3 else c1 j)
                by_cases hq : j = ztab 4 i
                · rw [if_pos hq, if_pos hq]
                · rw [if_neg hq, if_neg hq]; exact hgc j hj) (fun j hj => by
                show (if j = ztab 4 i then znum t p1 3 else c1 j) ≤ 15
                by_cases hq : j = ztab 4 i
                · rw [if_pos hq]; omega
                · rw [if_neg hq]; exact hc15 j hj) h6)
          · obtain ⟨hx1, rfl, rfl⟩ := hq
            exact ⟨rfl, by decide, by decide, [0, 6, 7, 1, 2, 3, 4, 5], [zO u 3 [.ref r, .ref fl, .ref fd, .ref li, .ref di, .ref lc, .ref la, .ref ob, .int (nI w)], zO r 0 [.ref b, .int (nI e), .int (nI p1)], zB K b Nb (zby t), zI K la 316 (zna g1), zO lc 1 [.ref lca, .ref lma, .ref lpa, .int (nI lu)], zI K lca 16 (zna cc), zI K lma 288 (zna gc), zI K lpa 16 (zna pc)], rfl, rfl, ⟨h6.symm.trans (by rw [show zlc t e (q + 1) i p1 c1 = none by show (if p1 + 3 ≤ e then _ else none) = _; rw [if_neg hx1]]), _, _, _, _, _, _, hlu, rfl⟩⟩
    exact zj_sub [1, 2, 0] rfl (key told 0 _ (fun _ => 0) _ (Nat.zero_add _) hp (fun j hj => by show (if j < 316 then 0 else g j) = 0; rw [if_pos (by omega)]) (fun j _ => Nat.zero_le _) hR)
  · exact hq.elim
end
section
theorem zdec_congr {t : Nat → Nat} {e : Nat} {cn cn' : Nat → Nat} {mf : Nat → Nat → Nat} (h : ∀ l, 1 ≤ l → l ≤ 15 → cn l = cn' l) : ∀ (fuel len code first p : Nat), 1 ≤ len → fuel + len ≤ 16 → zdec t e cn mf fuel len code first p = zdec t e cn' mf fuel len code first p
  | 0, _, _, _, _, _, _ => rfl
  | fuel + 1, len, code, first, p, h1, h2 => by
    unfold zdec
    rw [h len h1 (by omega), zdec_congr h fuel (len + 1) _ _ _ (by omega) (by omega)]
theorem zlen_congr {t : Nat → Nat} {e : Nat} {cn cn' : Nat → Nat} {mf : Nat → Nat → Nat} (h : ∀ l, 1 ≤ l → l ≤ 15 → cn l = cn' l) (total : Nat) : ∀ f, zlen t e cn mf total f = zlen t e cn' mf total f
  | 0 => rfl
  | f + 1 => by
    show zlenS t e cn mf total (zlen t e cn mf total f) = zlenS t e cn' mf total (zlen t e cn' mf total f)
    rw [zlen_congr h total f]
    funext p c k
    unfold zlenS
    rw [zdec_congr h 15 1 0 0 p (by decide) (by decide)]
theorem zcop_congr {t : Nat → Nat} {e : Nat} {cn cn' : Nat → Nat} {mf : Nat → Nat → Nat} (h : ∀ l, 1 ≤ l → l ≤ 15 → cn l = cn' l) (kind p : Nat) (o : Nat → Nat) (w : Nat) : zcop t e cn mf kind p o w = zcop t e cn' mf kind p o w := by
  unfold zcop
  rw [zdec_congr h 15 1 0 0 _ (by decide) (by decide)]
theorem zcod_congr {t : Nat → Nat} {e : Nat} {cl cl' cd cd' : Nat → Nat} {ml md : Nat → Nat → Nat} (h : ∀ l, 1 ≤ l → l ≤ 15 → cl l = cl' l) (h2 : ∀ l, 1 ≤ l → l ≤ 15 → cd l = cd' l) : ∀ f, zcod t e cl ml cd md f = zcod t e cl' ml cd' md f
  | 0 => rfl
  | f + 1 => by
    show zcodS t e cl ml cd md (zcod t e cl ml cd md f) = zcodS t e cl' ml cd' md (zcod t e cl' ml cd' md f)
    rw [zcod_congr h h2 f]
    funext p o w
    unfold zcodS
    rw [zdec_congr h 15 1 0 0 p (by decide) (by decide)]
    cases zdec t e cl' ml 15 1 0 0 p with
    | none => rfl
    | some x =>
      obtain ⟨sym, p1⟩ := x
      dsimp only
      rw [zcop_congr h2]
/-- told codes: the place behind them, the lengths, how many are for literals, for distances -/
def ztoldE (c : Nat → Nat) (L D p : Nat) : Except String (Nat × (Nat → Nat) × Nat × Nat) :=
  if ¬ c 256 = 0 ∧ zuse c 0 L = 32768 then
    if zuse c L D = 32768 ∨ zuse c L D = 0 ∨ (zuse c L D = 16384 ∧ zcnt c L 1 D = 1) then .ok (p, c, L, D) else .error zU
  else .error zU
def ztoldL (t : Nat → Nat) (e L D T p : Nat) : Except String (Nat × (Nat → Nat) × Nat × Nat) :=
  if L ≤ 286 ∧ D ≤ 30 then
    match zlcF t e T p with
    | .error X => .error X
    | .ok (p1, c0) =>
      match zlen t e (fun l => zcnt c0 0 l 19) (fun l r => zth c0 0 l 19 r) (L + D) (L + D) p1 (fun _ => 0) 0 with
      | .error X => .error X
      | .ok (p2, c, _) => ztoldE c L D p2
  else .error zU
def ztold (t : Nat → Nat) (e p : Nat) : Except String (Nat × (Nat → Nat) × Nat × Nat) :=
  if p + 5 ≤ e then
    if p + 5 + 5 ≤ e then
      if p + 5 + 5 + 4 ≤ e then ztoldL t e (znum t p 5 + 257) (znum t (p + 5) 5 + 1) (znum t (p + 5 + 5) 4 + 4) (p + 5 + 5 + 4)
      else .error zU
    else .error zU
  else .error zU
/-- ZLIB's head -/
def zhead (t : Nat → Nat) (e p : Nat) : Except String Nat :=
  if p + 8 ≤ e then
    if p + 8 + 8 ≤ e then
      if (znum t p 8 % 16 = 8 ∧ znum t p 8 / 16 ≤ 7) ∧ ((256 * znum t p 8 + znum t (p + 8) 8) % 31 = 0 ∧ znum t (p + 8) 8 / 32 % 2 = 0) then .ok (p + 8 + 8) else .error zU
    else .error zU
  else .error zU
/-- i bytes, the highest first -/
def zbig (t : Nat → Nat) (p : Nat) : Nat → Nat
  | 0 => 0
  | i + 1 => zbig t p i * 2 ^ 8 + znum t (p + 8 * i) 8
theorem zbig_lt (t : Nat → Nat) (p : Nat) : ∀ i, zbig t p i < 256 ^ i
  | 0 => Nat.one_pos
  | i + 1 => by
    have h1 := zbig_lt t p i
    have h2 := znum_lt t (p + 8 * i) 8
    show zbig t p i * 2 ^ 8 + znum t (p + 8 * i) 8 < 256 ^ (i + 1)
    rw [Nat.pow_succ]
    omega
/-- ZLIB's end -/
def ztail (t : Nat → Nat) (e p : Nat) (o : Nat → Nat) (w : Nat) : Except String Nat :=
  if (p + 7) / 8 * 8 + 32 ≤ e then
    if zbig t ((p + 7) / 8 * 8) 4 = zadl o w ∧ e ≤ (p + 7) / 8 * 8 + 32 then .ok ((p + 7) / 8 * 8 + 32) else .error zU
  else .error zU
set_option maxHeartbeats 4000000 in
set_option maxRecDepth 100000 in
/-- readHead() -/
theorem m_UN_head (l : Launch) (hl : l.stackTraces = false) (K : zk) (u r fl fd li di lc la ob w : Nat) (b Nb e p : Nat) (t : Nat → Nat) (R : Except String Nat) (hb : ∀ j, t j < 256) (hN : Nb ≤ 16384) (he : e = 8 * Nb) (hp : p ≤ e) (hR : zhead t e p = R) : zc l K y_UN_readHead w_UN_readHead { frames := 7, cells := 1, slots := 6, locals := 123 } 0 0 1 6 [.ref u] [zO u 3 [.ref r, .ref fl, .ref fd, .ref li, .ref di, .ref lc, .ref la, .ref ob, .int (nI w)], zO r 0 [.ref b, .int (nI e), .int (nI p)], zB K b Nb (zby t)] (fun v w1 => ∃ p', R = .ok p' ∧ p' ≤ e ∧ v = none ∧ w1 = [zO u 3 [.ref r, .ref fl, .ref fd, .ref li, .ref di, .ref lc, .ref la, .ref ob, .int (nI w)], zO r 0 [.ref b, .int (nI e), .int (nI p')], zB K b Nb (zby t)]) (fun X w1 => R = .error X ∧ ∃ p', w1 = [zO u 3 [.ref r, .ref fl, .ref fd, .ref li, .ref di, .ref lc, .ref la, .ref ob, .int (nI w)], zO r 0 [.ref b, .int (nI e), .int (nI p')], zB K b Nb (zby t)]) := by
  refine zc_of (cc := c_UN_readHead) (nl := 5) (ret := none) (by decide) (Nat.le_of_ble_eq_true rfl) (fun G F E => ?_)
  have F : zf G l K { frames := 7, cells := 1, slots := 6, locals := 123 } "ZlibBox$Unpacker" c_UN_readHead 5 := F
  show zj G 0 0 0 [(0, .ref u)] [] [zO u 3 [.ref r, .ref fl, .ref fd, .ref li, .ref di, .ref lc, .ref la, .ref ob, .int (nI w)], zO r 0 [.ref b, .int (nI e), .int (nI p)], zB K b Nb (zby t)]
  have hN2 : Nb < 2 ^ 24 := by omega
  have he2 : e ≤ 8 * Nb := by omega
  refine zj_aload_n F d_UN_readHead_0 0 rfl rfl ?_
  refine zj_get F d_UN_readHead_1 0 0 rfl rfl in_UN (by decide) q_81 rfl ?_
  refine zj_bipush (v := nI 8) F d_UN_readHead_4 (by decide) ?_
  refine zj_call (maxL := 4) (wr := [zO u 3 [.ref r, .ref fl, .ref fd, .ref li, .ref di, .ref lc, .ref la, .ref ob, .int (nI w)]]) F E (m_BR_number l hl K r b Nb e p 8 t hb hN2 he2 (by decide) hp) (zi_V (As := [.int (nI 8)]) (rest := []) F d_UN_readHead_6 1 rfl rfl rfl q_306 q_307 q_308 q_309 (Or.inl ⟨_, _, rfl⟩) (by decide) (show Option.map (fun d => d.parameters.length) (parseMethodDescriptor y_BR_number.desc) = some 1 from by decide +kernel)) d_UN_readHead_6 q_309 (Or.inl ⟨_, _, rfl⟩) q_3 [1, 2] [0] rfl rfl rfl rfl (by decide) ⟨by decide, by decide, by decide, by decide⟩ (Nat.le_of_ble_eq_true rfl) (fun v w1 hq => ?_) (fun X w1 hq => ?_)
  · obtain ⟨hq1, rfl, rfl⟩ := hq
    show zj G 0 0 9 [(0, .ref u)] [.int (nI (znum t p 8))] [zO u 3 [.ref r, .ref fl, .ref fd, .ref li, .ref di, .ref lc, .ref la, .ref ob, .int (nI w)], zO r 0 [.ref b, .int (nI e), .int (nI (p + 8))], zB K b Nb (zby t)]
    have hq1a := hq1
    refine zj_istore_n (L' := [(1, .int (nI (znum t p 8))), (0, .ref u)]) F d_UN_readHead_9 rfl (by decide) rfl ?_
    refine zj_aload_n F d_UN_readHead_10 1 rfl rfl ?_
    refine zj_get F d_UN_readHead_11 0 0 rfl rfl in_UN (by decide) q_81 rfl ?_
    refine zj_bipush (v := nI 8) F d_UN_readHead_14 (by decide) ?_
    refine zj_call (maxL := 4) (wr := [zO u 3 [.ref r, .ref fl, .ref fd, .ref li, .ref di, .ref lc, .ref la, .ref ob, .int (nI w)]]) F E (m_BR_number l hl K r b Nb e (p + 8) 8 t hb hN2 he2 (by decide) hq1) (zi_V (As := [.int (nI 8)]) (rest := []) F d_UN_readHead_16 1 rfl rfl rfl q_306 q_307 q_308 q_309 (Or.inl ⟨_, _, rfl⟩) (by decide) (show Option.map (fun d => d.parameters.length) (parseMethodDescriptor y_BR_number.desc) = some 1 from by decide +kernel)) d_UN_readHead_16 q_309 (Or.inl ⟨_, _, rfl⟩) q_3 [1, 2] [0] rfl rfl rfl rfl (by decide) ⟨by decide, by decide, by decide, by decide⟩ (Nat.le_of_ble_eq_true rfl) (fun v w1 hq => ?_) (fun X w1 hq => ?_)
    · obtain ⟨hq1, rfl, rfl⟩ := hq
      show zj G 0 0 19 [(1, .int (nI (znum t p 8))), (0, .ref u)] [.int (nI (znum t (p + 8) 8))] [zO u 3 [.ref r, .ref fl, .ref fd, .ref li, .ref di, .ref lc, .ref la, .ref ob, .int (nI w)], zO r 0 [.ref b, .int (nI e), .int (nI (p + 8 + 8))], zB K b Nb (zby t)]
      have hn1 := znum_lt t p 8
      have hn2 := znum_lt t (p + 8) 8
      generalize hc9 : znum t p 8 = c9 at hn1 ⊢
      generalize hf9 : znum t (p + 8) 8 = f9 at hn2 ⊢
      have hR2 : (if (c9 % 16 = 8 ∧ c9 / 16 ≤ 7) ∧ ((256 * c9 + f9) % 31 = 0 ∧ f9 / 32 % 2 = 0) then .ok (p + 8 + 8) else .error zU) = R := by rw [← hR, ← hc9, ← hf9]; unfold zhead; rw [if_pos hq1a, if_pos hq1]
      have fin : ∀ x3 x4, (x3 = if c9 % 16 = 8 ∧ c9 / 16 ≤ 7 then 1 else 0) → (x4 = if (256 * c9 + f9) % 31 = 0 ∧ f9 / 32 % 2 = 0 then 1 else 0) → zj G 0 0 73 [(0, .ref u), (3, .int (nI x3)), (4, .int (nI x4))] [] [zO u 3 [.ref r, .ref fl, .ref fd, .ref li, .ref di, .ref lc, .ref la, .ref ob, .int (nI w)], zO r 0 [.ref b, .int (nI e), .int (nI (p + 8 + 8))], zB K b Nb (zby t)] := by
        intro x3 x4 e3 e4
        have b3 : x3 < 2 := by rw [e3]; by_cases hq : c9 % 16 = 8 ∧ c9 / 16 ≤ 7 <;> simp [hq]
        have b4 : x4 < 2 := by rw [e4]; by_cases hq : (256 * c9 + f9) % 31 = 0 ∧ f9 / 32 % 2 = 0 <;> simp [hq]
        show zj G 0 0 73 [(0, .ref u), (3, .int (nI x3)), (4, .int (nI x4))] [] [zO u 3 [.ref r, .ref fl, .ref fd, .ref li, .ref di, .ref lc, .ref la, .ref ob, .int (nI w)], zO r 0 [.ref b, .int (nI e), .int (nI (p + 8 + 8))], zB K b Nb (zby t)]
        refine zj_iload_n F d_UN_readHead_73 1 rfl rfl ?_
        refine zj_if_eq (tgt := 82) F d_UN_readHead_74 (by decide) (zI_eq0 (by omega)) (fun h74 => ?_) (fun h74 => ?_)
        · rw [if_neg (fun q => by rw [if_pos q.1] at e3; omega)] at hR2
          exact zj_throwS (names := zt_up) F E hl d_UN_readHead_82 d_UN_readHead_85 d_UN_readHead_86 d_UN_readHead_88 d_UN_readHead_91 (by decide +kernel) (by decide +kernel) q_327 (at_UN_83) ⟨by decide, by decide, by decide, by decide⟩ rfl (by decide) (by decide) ⟨hR2.symm, _, rfl⟩
        · refine zj_iload F d_UN_readHead_77 2 rfl ?_
          refine zj_if_ne (tgt := 92) F d_UN_readHead_79 (by decide) (zI_eq0 (by omega)) (fun h79 => ?_) (fun h79 => ?_)
          · have k3 : c9 % 16 = 8 ∧ c9 / 16 ≤ 7 := Decidable.byContradiction (fun q => h74 (by rw [e3, if_neg q]))
            have k4 : (256 * c9 + f9) % 31 = 0 ∧ f9 / 32 % 2 = 0 := Decidable.byContradiction (fun q => h79 (by rw [e4, if_neg q]))
            rw [if_pos ⟨k3, k4⟩] at hR2
            exact zj_vret F E d_UN_readHead_92 (Nat.le_refl _) (Nat.le_refl _) ⟨_, hR2.symm, hq1, rfl, rfl⟩
          · rw [if_neg (fun q => by rw [if_pos q.2] at e4; omega)] at hR2
            exact zj_throwS (names := zt_up) F E hl d_UN_readHead_82 d_UN_readHead_85 d_UN_readHead_86 d_UN_readHead_88 d_UN_readHead_91 (by decide +kernel) (by decide +kernel) q_327 (at_UN_83) ⟨by decide, by decide, by decide, by decide⟩ rfl (by decide) (by decide) ⟨hR2.symm, _, rfl⟩
      have mid : ∀ x3, (x3 = if c9 % 16 = 8 ∧ c9 / 16 ≤ 7 then 1 else 0) → zj G 0 0 44 [(0, .ref u), (1, .int (nI c9)), (2, .int (nI f9)), (3, .int (nI x3))] [] [zO u 3 [.ref r, .ref fl, .ref fd, .ref li, .ref di, .ref lc, .ref la, .ref ob, .int (nI w)], zO r 0 [.ref b, .int (nI e), .int (nI (p + 8 + 8))], zB K b Nb (zby t)] := by
        intro x3 e3
        show zj G 0 0 44 [(0, .ref u), (1, .int (nI c9)), (2, .int (nI f9)), (3, .int (nI x3))] [] [zO u 3 [.ref r, .ref fl, .ref fd, .ref li, .ref di, .ref lc, .ref la, .ref ob, .int (nI w)], zO r 0 [.ref b, .int (nI e), .int (nI (p + 8 + 8))], zB K b Nb (zby t)]
        refine zj_sipush (v := nI 256) F d_UN_readHead_44 (by decide) ?_
        refine zj_iload_n F d_UN_readHead_47 1 rfl rfl ?_
        refine zj_imul F d_UN_readHead_48 (pk_mul _ _) ?_
        refine zj_iload_n F d_UN_readHead_49 2 rfl rfl ?_
        refine zj_iadd F d_UN_readHead_50 (nI_add _ _) ?_
        refine zj_bipush (v := nI 31) F d_UN_readHead_51 (by decide) ?_
        refine zj_irem F d_UN_readHead_53 (by decide) (pk_rem (by omega) (by decide) (by decide)) ?_
        refine zj_if_ne (tgt := 70) F d_UN_readHead_54 (by decide) (zI_eq0 (by omega)) (fun h54 => ?_) (fun h54 => ?_)
        · refine zj_iconst (v := nI 0) F d_UN_readHead_70 (by decide) ?_
          refine zj_istore (L' := [(4, .int (nI 0)), (0, .ref u), (1, .int (nI c9)), (2, .int (nI f9)), (3, .int (nI x3))]) F d_UN_readHead_71 (by decide) rfl ?_
          exact zj_sub [1, 4, 0] rfl (fin x3 _ e3 (by rw [if_neg (fun q => h54 q.1)]))
        · refine zj_iload_n F d_UN_readHead_57 2 rfl rfl ?_
          refine zj_bipush (v := nI 32) F d_UN_readHead_58 (by decide) ?_
          refine zj_idiv F d_UN_readHead_60 (by decide) (pk_div (by omega) (by decide) (by decide)) ?_
          refine zj_iconst (v := nI 2) F d_UN_readHead_61 (by decide) ?_
          refine zj_irem F d_UN_readHead_62 (by decide) (pk_rem (by omega) (by decide) (by decide)) ?_
          refine zj_if_ne (tgt := 70) F d_UN_readHead_63 (by decide) (zI_eq0 (by omega)) (fun h63 => ?_) (fun h63 => ?_)
          · refine zj_iconst (v := nI 0) F d_UN_readHead_70 (by decide) ?_
            refine zj_istore (L' := [(4, .int (nI 0)), (0, .ref u), (1, .int (nI c9)), (2, .int (nI f9)), (3, .int (nI x3))]) F d_UN_readHead_71 (by decide) rfl ?_
            exact zj_sub [1, 4, 0] rfl (fin x3 _ e3 (by rw [if_neg (fun q => h63 q.2)]))
          · refine zj_iconst (v := nI 1) F d_UN_readHead_66 (by decide) ?_
            refine zj_goto F d_UN_readHead_67 (tgt := 71) (by decide) ?_
            refine zj_istore (L' := [(4, .int (nI 1)), (0, .ref u), (1, .int (nI c9)), (2, .int (nI f9)), (3, .int (nI x3))]) F d_UN_readHead_71 (by decide) rfl ?_
            exact zj_sub [1, 4, 0] rfl (fin x3 _ e3 (by rw [if_pos ⟨h54, h63⟩]))
      show zj G 0 0 19 [(1, .int (nI c9)), (0, .ref u)] [.int (nI f9)] [zO u 3 [.ref r, .ref fl, .ref fd, .ref li, .ref di, .ref lc, .ref la, .ref ob, .int (nI w)], zO r 0 [.ref b, .int (nI e), .int (nI (p + 8 + 8))], zB K b Nb (zby t)]
      refine zj_istore_n (L' := [(2, .int (nI f9)), (1, .int (nI c9)), (0, .ref u)]) F d_UN_readHead_19 rfl (by decide) rfl ?_
      refine zj_iload_n F d_UN_readHead_20 1 rfl rfl ?_
      refine zj_bipush (v := nI 16) F d_UN_readHead_21 (by decide) ?_
      refine zj_irem F d_UN_readHead_23 (by decide) (pk_rem (by omega) (by decide) (by decide)) ?_
      refine zj_bipush (v := nI 8) F d_UN_readHead_24 (by decide) ?_
      refine zj_icmp_ne (tgt := 42) F d_UN_readHead_26 (by decide) (nI_eq (by omega) (by omega)) (fun h26 => ?_) (fun h26 => ?_)
      · refine zj_iconst (v := nI 0) F d_UN_readHead_42 (by decide) ?_
        refine zj_istore_n (L' := [(3, .int (nI 0)), (2, .int (nI f9)), (1, .int (nI c9)), (0, .ref u)]) F d_UN_readHead_43 rfl (by decide) rfl ?_
        exact zj_sub [3, 2, 1, 0] rfl (mid _ (by rw [if_neg (fun q => h26 q.1)]))
      · refine zj_iload_n F d_UN_readHead_29 1 rfl rfl ?_
        refine zj_bipush (v := nI 16) F d_UN_readHead_30 (by decide) ?_
        refine zj_idiv F d_UN_readHead_32 (by decide) (pk_div (by omega) (by decide) (by decide)) ?_
        refine zj_bipush (v := nI 7) F d_UN_readHead_33 (by decide) ?_
        refine zj_icmp_gt (tgt := 42) F d_UN_readHead_35 (by decide) (nI_ltI (by omega) (by omega)) (fun h35 => ?_) (fun h35 => ?_)
        · refine zj_iconst (v := nI 0) F d_UN_readHead_42 (by decide) ?_
          refine zj_istore_n (L' := [(3, .int (nI 0)), (2, .int (nI f9)), (1, .int (nI c9)), (0, .ref u)]) F d_UN_readHead_43 rfl (by decide) rfl ?_
          exact zj_sub [3, 2, 1, 0] rfl (mid _ (by rw [if_neg (fun q => absurd q.2 (by omega))]))
        · refine zj_iconst (v := nI 1) F d_UN_readHead_38 (by decide) ?_
          refine zj_goto F d_UN_readHead_39 (tgt := 43) (by decide) ?_
          refine zj_istore_n (L' := [(3, .int (nI 1)), (2, .int (nI f9)), (1, .int (nI c9)), (0, .ref u)]) F d_UN_readHead_43 rfl (by decide) rfl ?_
          exact zj_sub [3, 2, 1, 0] rfl (mid _ (by rw [if_pos ⟨h26, by omega⟩]))
    · obtain ⟨hx1, rfl, rfl⟩ := hq
      exact ⟨rfl, by decide, by decide, [0, 1, 2], [zO u 3 [.ref r, .ref fl, .ref fd, .ref li, .ref di, .ref lc, .ref la, .ref ob, .int (nI w)], zO r 0 [.ref b, .int (nI e), .int (nI (p + 8))], zB K b Nb (zby t)], rfl, rfl, ⟨hR.symm.trans (by unfold zhead; rw [if_pos hq1a, if_neg hx1]), _, rfl⟩⟩
  · obtain ⟨hx1, rfl, rfl⟩ := hq
    exact ⟨rfl, by decide, by decide, [0, 1, 2], [zO u 3 [.ref r, .ref fl, .ref fd, .ref li, .ref di, .ref lc, .ref la, .ref ob, .int (nI w)], zO r 0 [.ref b, .int (nI e), .int (nI p)], zB K b Nb (zby t)], rfl, rfl, ⟨hR.symm.trans (by unfold zhead; rw [if_neg hx1]), _, rfl⟩⟩
set_option maxHeartbeats 4000000 in
set_option maxRecDepth 100000 in
/-- readTail() -/
theorem m_UN_tail (l : Launch) (hl : l.stackTraces = false) (K : zk) (u r fl fd li di lc la ob w : Nat) (b Nb e p : Nat) (t : Nat → Nat) (o : Nat → Nat) (R : Except String Nat) (hb : ∀ j, t j < 256) (hN : Nb ≤ 16384) (he : e = 8 * Nb) (hp : p ≤ e) (ho : ∀ j, o j < 256) (hw : w ≤ 16384) (hR : ztail t e p o w = R) : zc l K y_UN_readTail w_UN_readTail { frames := 7, cells := 1, slots := 6, locals := 123 } 0 0 1 6 [.ref u] [zO u 3 [.ref r, .ref fl, .ref fd, .ref li, .ref di, .ref lc, .ref la, .ref ob, .int (nI w)], zO r 0 [.ref b, .int (nI e), .int (nI p)], zB K b Nb (zby t), zB K ob 16384 (zby o)] (fun v w1 => ∃ p', R = .ok p' ∧ p' ≤ e ∧ v = none ∧ w1 = [zO u 3 [.ref r, .ref fl, .ref fd, .ref li, .ref di, .ref lc, .ref la, .ref ob, .int (nI w)], zO r 0 [.ref b, .int (nI e), .int (nI p')], zB K b Nb (zby t), zB K ob 16384 (zby o)]) (fun X w1 => R = .error X ∧ ∃ p', w1 = [zO u 3 [.ref r, .ref fl, .ref fd, .ref li, .ref di, .ref lc, .ref la, .ref ob, .int (nI w)], zO r 0 [.ref b, .int (nI e), .int (nI p')], zB K b Nb (zby t), zB K ob 16384 (zby o)]) := by
  refine zc_of (cc := c_UN_readTail) (nl := 3) (ret := none) (by decide) (Nat.le_of_ble_eq_true rfl) (fun G F E => ?_)
  have F : zf G l K { frames := 7, cells := 1, slots := 6, locals := 123 } "ZlibBox$Unpacker" c_UN_readTail 3 := F
  show zj G 0 0 0 [(0, .ref u)] [] [zO u 3 [.ref r, .ref fl, .ref fd, .ref li, .ref di, .ref lc, .ref la, .ref ob, .int (nI w)], zO r 0 [.ref b, .int (nI e), .int (nI p)], zB K b Nb (zby t), zB K ob 16384 (zby o)]
  have hN2 : Nb < 2 ^ 24 := by omega
  have he2 : e ≤ 8 * Nb := by omega
  refine zj_aload_n F d_UN_readTail_0 0 rfl rfl ?_
  refine zj_get F d_UN_readTail_1 0 0 rfl rfl in_UN (by decide) q_81 rfl ?_
  refine zj_call (maxL := 1) (wr := [zO u 3 [.ref r, .ref fl, .ref fd, .ref li, .ref di, .ref lc, .ref la, .ref ob, .int (nI w)], zB K ob 16384 (zby o)]) F E (m_BR_skip l K r b Nb e p t (by omega)) (zi_V (As := []) (rest := []) F d_UN_readTail_4 1 rfl rfl rfl q_342 q_343 q_344 q_345 (Or.inl ⟨_, _, rfl⟩) (by decide) (show Option.map (fun d => d.parameters.length) (parseMethodDescriptor y_BR_skipToByte.desc) = some 0 from by decide +kernel)) d_UN_readTail_4 q_345 (Or.inl ⟨_, _, rfl⟩) q_3 [1, 2] [0, 3] rfl rfl rfl rfl (by decide) ⟨by decide, by decide, by decide, by decide⟩ (Nat.le_of_ble_eq_true rfl) (fun v w1 hq => ?_) (fun X w1 hq => ?_)
  · obtain ⟨rfl, rfl⟩ := hq
    show zj G 0 0 7 [(0, .ref u)] [] [zO u 3 [.ref r, .ref fl, .ref fd, .ref li, .ref di, .ref lc, .ref la, .ref ob, .int (nI w)], zB K ob 16384 (zby o), zO r 0 [.ref b, .int (nI e), .int (nI ((p + 7) / 8 * 8))], zB K b Nb (zby t)]
    have hp8 : (p + 7) / 8 * 8 ≤ e := by omega
    have hb4 := zbig_lt t ((p + 7) / 8 * 8) 4
    unfold ztail at hR
    generalize hP8 : (p + 7) / 8 * 8 = P at hR hp8 hb4 ⊢
    show zj G 0 0 7 [(0, .ref u)] [] [zO u 3 [.ref r, .ref fl, .ref fd, .ref li, .ref di, .ref lc, .ref la, .ref ob, .int (nI w)], zB K ob 16384 (zby o), zO r 0 [.ref b, .int (nI e), .int (nI P)], zB K b Nb (zby t)]
    refine zj_iconst (v := nI 0) F d_UN_readTail_7 (by decide) ?_
    refine zj_istore_n (L' := [(1, .int (nI 0)), (0, .ref u)]) F d_UN_readTail_8 rfl (by decide) rfl ?_
    refine zj_iconst (v := nI 0) F d_UN_readTail_9 (by decide) ?_
    refine zj_istore_n (L' := [(2, .int (nI 0)), (1, .int (nI 0)), (0, .ref u)]) F d_UN_readTail_10 rfl (by decide) rfl ?_
    refine zj_wsub (ws' := [zO u 3 [.ref r, .ref fl, .ref fd, .ref li, .ref di, .ref lc, .ref la, .ref ob, .int (nI w)], zO r 0 [.ref b, .int (nI e), .int (nI P)], zB K b Nb (zby t), zB K ob 16384 (zby o)]) [0, 2, 3, 1] rfl rfl rfl ?_
    have fin : P + 32 ≤ e → zj G 0 0 37 [(0, .ref u), (1, .int (nI (zbig t P 4)))] [] [zO u 3 [.ref r, .ref fl, .ref fd, .ref li, .ref di, .ref lc, .ref la, .ref ob, .int (nI w)], zO r 0 [.ref b, .int (nI e), .int (nI (P + 32))], zB K b Nb (zby t), zB K ob 16384 (zby o)] := by
      intro hP
      rw [if_pos hP] at hR
      have hal := zadl_lt o w
      show zj G 0 0 37 [(0, .ref u), (1, .int (nI (zbig t P 4)))] [] [zO u 3 [.ref r, .ref fl, .ref fd, .ref li, .ref di, .ref lc, .ref la, .ref ob, .int (nI w)], zO r 0 [.ref b, .int (nI e), .int (nI (P + 32))], zB K b Nb (zby t), zB K ob 16384 (zby o)]
      refine zj_iload_n F d_UN_readTail_37 1 rfl rfl ?_
      refine zj_aload_n F d_UN_readTail_38 0 rfl rfl ?_
      refine zj_get F d_UN_readTail_39 0 7 rfl rfl in_UN (by decide) q_88 rfl ?_
      refine zj_aload_n F d_UN_readTail_42 0 rfl rfl ?_
      refine zj_get F d_UN_readTail_43 0 8 rfl rfl in_UN (by decide) q_89 rfl ?_
      refine zj_call (maxL := 5) (wr := [zO u 3 [.ref r, .ref fl, .ref fd, .ref li, .ref di, .ref lc, .ref la, .ref ob, .int (nI w)], zO r 0 [.ref b, .int (nI e), .int (nI (P + 32))], zB K b Nb (zby t)]) F E (m_adlerOf l K ob 16384 w o ho (by decide) hw) (zi_SN (As := [.ref ob, .int (nI w)]) (rest := [.int (nI (zbig t P 4))]) F d_UN_readTail_46 q_419 q_180 q_1 q_181 (Or.inl ⟨_, _, rfl⟩) (by decide) (show Option.map (fun d => d.parameters.length) (parseMethodDescriptor y_ZB_adlerOf.desc) = some 2 from by decide +kernel)) d_UN_readTail_46 q_181 (Or.inl ⟨_, _, rfl⟩) q_1 [3] [0, 1, 2] rfl rfl rfl rfl (by decide) ⟨by decide, by decide, by decide, by decide⟩ (Nat.le_of_ble_eq_true rfl) (fun v w1 hq => ?_) (fun X w1 hq => ?_)
      · obtain ⟨rfl, rfl⟩ := hq
        show zj G 0 0 49 [(0, .ref u), (1, .int (nI (zbig t P 4)))] [.int (nI (zadl o w)), .int (nI (zbig t P 4))] [zO u 3 [.ref r, .ref fl, .ref fd, .ref li, .ref di, .ref lc, .ref la, .ref ob, .int (nI w)], zO r 0 [.ref b, .int (nI e), .int (nI (P + 32))], zB K b Nb (zby t), zB K ob 16384 (zby o)]
        refine zj_icmp_ne (tgt := 62) F d_UN_readTail_49 (by decide) (zI_eq32 (by omega) hal) (fun h49 => ?_) (fun h49 => ?_)
        · rw [if_neg (fun q => h49 q.1)] at hR
          exact zj_throwS (names := zt_up) F E hl d_UN_readTail_62 d_UN_readTail_65 d_UN_readTail_66 d_UN_readTail_68 d_UN_readTail_71 (by decide +kernel) (by decide +kernel) q_424 (at_UN_83) ⟨by decide, by decide, by decide, by decide⟩ rfl (by decide) (by decide) ⟨hR.symm, _, rfl⟩
        · refine zj_aload_n F d_UN_readTail_52 0 rfl rfl ?_
          refine zj_get F d_UN_readTail_53 0 0 rfl rfl in_UN (by decide) q_81 rfl ?_
          refine zj_call (maxL := 1) (wr := [zO u 3 [.ref r, .ref fl, .ref fd, .ref li, .ref di, .ref lc, .ref la, .ref ob, .int (nI w)], zB K ob 16384 (zby o)]) F E (m_BR_atEnd l K r b Nb e (P + 32) t (by omega) (by omega)) (zi_V (As := []) (rest := []) F d_UN_readTail_56 1 rfl rfl rfl q_420 q_421 q_422 q_423 (Or.inl ⟨_, _, rfl⟩) (by decide) (show Option.map (fun d => d.parameters.length) (parseMethodDescriptor y_BR_atEnd.desc) = some 0 from by decide +kernel)) d_UN_readTail_56 q_423 (Or.inl ⟨_, _, rfl⟩) q_3 [1, 2] [0, 3] rfl rfl rfl rfl (by decide) ⟨by decide, by decide, by decide, by decide⟩ (Nat.le_of_ble_eq_true rfl) (fun v w1 hq => ?_) (fun X w1 hq => ?_)
          · obtain ⟨rfl, rfl⟩ := hq
            show zj G 0 0 59 [(0, .ref u), (1, .int (nI (zbig t P 4)))] [.int (nI (if e ≤ P + 32 then 1 else 0))] [zO u 3 [.ref r, .ref fl, .ref fd, .ref li, .ref di, .ref lc, .ref la, .ref ob, .int (nI w)], zB K ob 16384 (zby o), zO r 0 [.ref b, .int (nI e), .int (nI (P + 32))], zB K b Nb (zby t)]
            have hi2 : (if e ≤ P + 32 then 1 else 0) < 2 ^ 31 := by by_cases hq : e ≤ P + 32 <;> simp [hq]
            refine zj_if_ne (tgt := 72) F d_UN_readTail_59 (by decide) (zI_eq0 hi2) (fun h59 => ?_) (fun h59 => ?_)
            · have hq : e ≤ P + 32 := Decidable.byContradiction (fun q => h59 (if_neg q))
              rw [if_pos ⟨h49, hq⟩] at hR
              refine zj_wsub (ws' := [zO u 3 [.ref r, .ref fl, .ref fd, .ref li, .ref di, .ref lc, .ref la, .ref ob, .int (nI w)], zO r 0 [.ref b, .int (nI e), .int (nI (P + 32))], zB K b Nb (zby t), zB K ob 16384 (zby o)]) [0, 2, 3, 1] rfl rfl rfl ?_
              exact zj_vret F E d_UN_readTail_72 (Nat.le_refl _) (Nat.le_refl _) ⟨_, hR.symm, hP, rfl, rfl⟩
            · rw [if_neg (fun q => by rw [if_pos q.2] at h59; cases h59)] at hR
              refine zj_wsub (ws' := [zO u 3 [.ref r, .ref fl, .ref fd, .ref li, .ref di, .ref lc, .ref la, .ref ob, .int (nI w)], zO r 0 [.ref b, .int (nI e), .int (nI (P + 32))], zB K b Nb (zby t), zB K ob 16384 (zby o)]) [0, 2, 3, 1] rfl rfl rfl ?_
              exact zj_throwS (names := zt_up) F E hl d_UN_readTail_62 d_UN_readTail_65 d_UN_readTail_66 d_UN_readTail_68 d_UN_readTail_71 (by decide +kernel) (by decide +kernel) q_424 (at_UN_83) ⟨by decide, by decide, by decide, by decide⟩ rfl (by decide) (by decide) ⟨hR.symm, _, rfl⟩
          · exact hq.elim
      · exact hq.elim
    have key : ∀ i, i ≤ 4 → P + 8 * i ≤ e → zj G 0 0 11 [(0, .ref u), (1, .int (nI (zbig t P i))), (2, .int (nI i))] [] [zO u 3 [.ref r, .ref fl, .ref fd, .ref li, .ref di, .ref lc, .ref la, .ref ob, .int (nI w)], zO r 0 [.ref b, .int (nI e), .int (nI (P + 8 * i))], zB K b Nb (zby t), zB K ob 16384 (zby o)] := by
      refine zdown 4 ?_ ?_
      · intro hP
        show zj G 0 0 11 [(0, .ref u), (1, .int (nI (zbig t P 4))), (2, .int (nI 4))] [] [zO u 3 [.ref r, .ref fl, .ref fd, .ref li, .ref di, .ref lc, .ref la, .ref ob, .int (nI w)], zO r 0 [.ref b, .int (nI e), .int (nI (P + 8 * 4))], zB K b Nb (zby t), zB K ob 16384 (zby o)]
        refine zj_iload_n F d_UN_readTail_11 2 rfl rfl ?_
        refine zj_iconst (v := nI 4) F d_UN_readTail_12 (by decide) ?_
        refine zj_icmp_ge (tgt := 37) F d_UN_readTail_13 (by decide) (nI_leI (by omega) (by omega)) (fun h13 => ?_) (fun h13 => ?_)
        · exact zj_sub [0, 1] rfl (fin hP)
        · exact absurd (Nat.le_refl 4) h13
      · intro i hi ih hP
        have hbi := zbig_lt t P i
        show zj G 0 0 11 [(0, .ref u), (1, .int (nI (zbig t P i))), (2, .int (nI i))] [] [zO u 3 [.ref r, .ref fl, .ref fd, .ref li, .ref di, .ref lc, .ref la, .ref ob, .int (nI w)], zO r 0 [.ref b, .int (nI e), .int (nI (P + 8 * i))], zB K b Nb (zby t), zB K ob 16384 (zby o)]
        refine zj_iload_n F d_UN_readTail_11 2 rfl rfl ?_
        refine zj_iconst (v := nI 4) F d_UN_readTail_12 (by decide) ?_
        refine zj_icmp_ge (tgt := 37) F d_UN_readTail_13 (by decide) (nI_leI (by omega) (by omega)) (fun h13 => ?_) (fun h13 => ?_)
        · exact absurd h13 (by omega)
        · refine zj_iload_n F d_UN_readTail_16 1 rfl rfl ?_
          refine zj_bipush (v := nI 8) F d_UN_readTail_17 (by decide) ?_
          refine zj_ishl (z := nI (zbig t P i * 2 ^ 8)) F d_UN_readTail_19 (zI_shl (by decide)) ?_
          refine zj_aload_n F d_UN_readTail_20 0 rfl rfl ?_
          refine zj_get F d_UN_readTail_21 0 0 rfl rfl in_UN (by decide) q_81 rfl ?_
          refine zj_bipush (v := nI 8) F d_UN_readTail_24 (by decide) ?_
          refine zj_call (maxL := 4) (wr := [zO u 3 [.ref r, .ref fl, .ref fd, .ref li, .ref di, .ref lc, .ref la, .ref ob, .int (nI w)], zB K ob 16384 (zby o)]) F E (m_BR_number l hl K r b Nb e (P + 8 * i) 8 t hb hN2 he2 (by decide) hP) (zi_V (As := [.int (nI 8)]) (rest := [.int (nI (zbig t P i * 2 ^ 8))]) F d_UN_readTail_26 1 rfl rfl rfl q_306 q_307 q_308 q_309 (Or.inl ⟨_, _, rfl⟩) (by decide) (show Option.map (fun d => d.parameters.length) (parseMethodDescriptor y_BR_number.desc) = some 1 from by decide +kernel)) d_UN_readTail_26 q_309 (Or.inl ⟨_, _, rfl⟩) q_3 [1, 2] [0, 3] rfl rfl rfl rfl (by decide) ⟨by decide, by decide, by decide, by decide⟩ (Nat.le_of_ble_eq_true rfl) (fun v w1 hq => ?_) (fun X w1 hq => ?_)
          · obtain ⟨hq1, rfl, rfl⟩ := hq
            show zj G 0 0 29 [(0, .ref u), (1, .int (nI (zbig t P i))), (2, .int (nI i))] [.int (nI (znum t (P + 8 * i) 8)), .int (nI (zbig t P i * 2 ^ 8))] [zO u 3 [.ref r, .ref fl, .ref fd, .ref li, .ref di, .ref lc, .ref la, .ref ob, .int (nI w)], zB K ob 16384 (zby o), zO r 0 [.ref b, .int (nI e), .int (nI (P + 8 * i + 8))], zB K b Nb (zby t)]
            have hn := znum_lt t (P + 8 * i) 8
            refine zj_ior (z := nI (zbig t P (i + 1))) F d_UN_readTail_29 (zI_or3 8 hn) ?_
            refine zj_istore_n (L' := [(1, .int (nI (zbig t P (i + 1)))), (0, .ref u), (2, .int (nI i))]) F d_UN_readTail_30 rfl (by decide) rfl ?_
            refine zj_iinc (v := nI (i + 1)) (L' := [(2, .int (nI (i + 1))), (1, .int (nI (zbig t P (i + 1)))), (0, .ref u)]) F d_UN_readTail_31 2 rfl (nI_add _ _) (by decide) rfl ?_
            refine zj_goto F d_UN_readTail_34 (tgt := 11) (by decide) ?_
            refine zj_wsub (ws' := [zO u 3 [.ref r, .ref fl, .ref fd, .ref li, .ref di, .ref lc, .ref la, .ref ob, .int (nI w)], zO r 0 [.ref b, .int (nI e), .int (nI (P + 8 * i + 8))], zB K b Nb (zby t), zB K ob 16384 (zby o)]) [0, 2, 3, 1] rfl rfl rfl ?_
            exact zj_sub [2, 1, 0] rfl (ih (by omega))
          · obtain ⟨hx1, rfl, rfl⟩ := hq
            exact ⟨rfl, by decide, by decide, [0, 2, 3, 1], [zO u 3 [.ref r, .ref fl, .ref fd, .ref li, .ref di, .ref lc, .ref la, .ref ob, .int (nI w)], zO r 0 [.ref b, .int (nI e), .int (nI (P + 8 * i))], zB K b Nb (zby t), zB K ob 16384 (zby o)], rfl, rfl, ⟨hR.symm.trans (by rw [if_neg (by omega)]), _, rfl⟩⟩
    exact zj_sub [2, 1, 0] rfl (key 0 (by decide) (by omega))
  · exact hq.elim
set_option maxHeartbeats 4000000 in
set_option maxRecDepth 100000 in
/-- readToldCodes() -/
theorem m_UN_told (l : Launch) (hl : l.stackTraces = false) (K : zk) (u r fl fd li di lc la ob w : Nat) (b Nb e p : Nat) (t : Nat → Nat) (lcca lcma lcpa lica lima lipa dica dima dipa lu iu du : Nat) (g cc gc pc ci gi pi cd gd pd : Nat → Nat) (R : Except String (Nat × (Nat → Nat) × Nat × Nat)) (hb : ∀ j, t j < 256) (hN : Nb ≤ 16384) (he : e = 8 * Nb) (hp : p ≤ e) (hlu : lu < 2 ^ 31) (hR : ztold t e p = R) : zc l K y_UN_readToldCodes w_UN_readToldCodes { frames := 9, cells := 1, slots := 6, locals := 173 } 0 0 1 6 [.ref u] [zO u 3 [.ref r, .ref fl, .ref fd, .ref li, .ref di, .ref lc, .ref la, .ref ob, .int (nI w)], zO r 0 [.ref b, .int (nI e), .int (nI p)], zB K b Nb (zby t), zI K la 316 (zna g), zO lc 1 [.ref lcca, .ref lcma, .ref lcpa, .int (nI lu)], zI K lcca 16 (zna cc), zI K lcma 288 (zna gc), zI K lcpa 16 (zna pc), zO li 1 [.ref lica, .ref lima, .ref lipa, .int (nI iu)], zI K lica 16 (zna ci), zI K lima 288 (zna gi), zI K lipa 16 (zna pi), zO di 1 [.ref dica, .ref dima, .ref dipa, .int (nI du)], zI K dica 16 (zna cd), zI K dima 288 (zna gd), zI K dipa 16 (zna pd)] (fun v w1 => ∃ p' c' L D g' cc' gc' pc' iu' ci' gi' pi' du' cd' gd' pd', R = .ok (p', c', L, D) ∧ p' ≤ e ∧ zCS ci' gi' (fun l r => zth c' 0 l L r) ∧ (∀ l, l ≤ 15 → ci' l = zcnt c' 0 l L) ∧ zCS cd' gd' (fun l r => zth c' L l D r) ∧ (∀ l, l ≤ 15 → cd' l = zcnt c' L l D) ∧ v = none ∧ w1 = [zO u 3 [.ref r, .ref fl, .ref fd, .ref li, .ref di, .ref lc, .ref la, .ref ob, .int (nI w)], zO r 0 [.ref b, .int (nI e), .int (nI p')], zB K b Nb (zby t), zI K la 316 (zna g'), zO lc 1 [.ref lcca, .ref lcma, .ref lcpa, .int (nI 32768)], zI K lcca 16 (zna cc'), zI K lcma 288 (zna gc'), zI K lcpa 16 (zna pc'), zO li 1 [.ref lica, .ref lima, .ref lipa, .int (nI iu')], zI K lica 16 (zna ci'), zI K lima 288 (zna gi'), zI K lipa 16 (zna pi'), zO di 1 [.ref dica, .ref dima, .ref dipa, .int (nI du')], zI K dica 16 (zna cd'), zI K dima 288 (zna gd'), zI K dipa 16 (zna pd')]) (fun X w1 => R = .error X ∧ ∃ p' g' lu' cc' gc' pc' iu' ci' gi' pi' du' cd' gd' pd', lu' < 2 ^ 31 ∧ w1 = [zO u 3 [.ref r, .ref fl, .ref fd, .ref li, .ref di, .ref lc, .ref la, .ref ob, .int (nI w)], zO r 0 [.ref b, .int (nI e), .int (nI p')], zB K b Nb (zby t), zI K la 316 (zna g'), zO lc 1 [.ref lcca, .ref lcma, .ref lcpa, .int (nI lu')], zI K lcca 16 (zna cc'), zI K lcma 288 (zna gc'), zI K lcpa 16 (zna pc'), zO li 1 [.ref lica, .ref lima, .ref lipa, .int (nI iu')], zI K lica 16 (zna ci'), zI K lima 288 (zna gi'), zI K lipa 16 (zna pi'), zO di 1 [.ref dica, .ref dima, .ref dipa, .int (nI du')], zI K dica 16 (zna cd'), zI K dima 288 (zna gd'), zI K dipa 16 (zna pd')]) := by
  refine zc_of (cc := c_UN_readToldCodes) (nl := 4) (ret := none) (by decide) (Nat.le_of_ble_eq_true rfl) (fun G F E => ?_)
  have F : zf G l K { frames := 9, cells := 1, slots := 6, locals := 173 } "ZlibBox$Unpacker" c_UN_readToldCodes 4 := F
  show zj G 0 0 0 [(0, .ref u)] [] [zO u 3 [.ref r, .ref fl, .ref fd, .ref li, .ref di, .ref lc, .ref la, .ref ob, .int (nI w)], zO r 0 [.ref b, .int (nI e), .int (nI p)], zB K b Nb (zby t), zI K la 316 (zna g), zO lc 1 [.ref lcca, .ref lcma, .ref lcpa, .int (nI lu)], zI K lcca 16 (zna cc), zI K lcma 288 (zna gc), zI K lcpa 16 (zna pc), zO li 1 [.ref lica, .ref lima, .ref lipa, .int (nI iu)], zI K lica 16 (zna ci), zI K lima 288 (zna gi), zI K lipa 16 (zna pi), zO di 1 [.ref dica, .ref dima, .ref dipa, .int (nI du)], zI K dica 16 (zna cd), zI K dima 288 (zna gd), zI K dipa 16 (zna pd)]
  have hN2 : Nb < 2 ^ 24 := by omega
  have he2 : e ≤ 8 * Nb := by omega
  refine zj_aload_n F d_UN_readToldCodes_0 0 rfl rfl ?_
  refine zj_get F d_UN_readToldCodes_1 0 0 rfl rfl in_UN (by decide) q_81 rfl ?_
  refine zj_iconst (v := nI 5) F d_UN_readToldCodes_4 (by decide) ?_
  refine zj_call (maxL := 4) (wr := [zO u 3 [.ref r, .ref fl, .ref fd, .ref li, .ref di, .ref lc, .ref la, .ref ob, .int (nI w)], zI K la 316 (zna g), zO lc 1 [.ref lcca, .ref lcma, .ref lcpa, .int (nI lu)], zI K lcca 16 (zna cc), zI K lcma 288 (zna gc), zI K lcpa 16 (zna pc), zO li 1 [.ref lica, .ref lima, .ref lipa, .int (nI iu)], zI K lica 16 (zna ci), zI K lima 288 (zna gi), zI K lipa 16 (zna pi), zO di 1 [.ref dica, .ref dima, .ref dipa, .int (nI du)], zI K dica 16 (zna cd), zI K dima 288 (zna gd), zI K dipa 16 (zna pd)]) F E (m_BR_number l hl K r b Nb e p 5 t hb hN2 he2 (by decide) hp) (zi_V (As := [.int (nI 5)]) (rest := []) F d_UN_readToldCodes_5 1 rfl rfl rfl q_306 q_307 q_308 q_309 (Or.inl ⟨_, _, rfl⟩) (by decide) (show Option.map (fun d => d.parameters.length) (parseMethodDescriptor y_BR_number.desc) = some 1 from by decide +kernel)) d_UN_readToldCodes_5 q_309 (Or.inl ⟨_, _, rfl⟩) q_3 [1, 2] [0, 3, 4, 5, 6, 7, 8, 9, 10, 11, 12, 13, 14, 15] rfl rfl rfl rfl (by decide) ⟨by decide, by decide, by decide, by decide⟩ (Nat.le_of_ble_eq_true rfl) (fun v w1 hq => ?_) (fun X w1 hq => ?_)
  · obtain ⟨hq1, rfl, rfl⟩ := hq
    show zj G 0 0 8 [(0, .ref u)] [.int (nI (znum t p 5))] [zO u 3 [.ref r, .ref fl, .ref fd, .ref li, .ref di, .ref lc, .ref la, .ref ob, .int (nI w)], zI K la 316 (zna g), zO lc 1 [.ref lcca, .ref lcma, .ref lcpa, .int (nI lu)], zI K lcca 16 (zna cc), zI K lcma 288 (zna gc), zI K lcpa 16 (zna pc), zO li 1 [.ref lica, .ref lima, .ref lipa, .int (nI iu)], zI K lica 16 (zna ci), zI K lima 288 (zna gi), zI K lipa 16 (zna pi), zO di 1 [.ref dica, .ref dima, .ref dipa, .int (nI du)], zI K dica 16 (zna cd), zI K dima 288 (zna gd), zI K dipa 16 (zna pd), zO r 0 [.ref b, .int (nI e), .int (nI (p + 5))], zB K b Nb (zby t)]
    have hq1a := hq1
    refine zj_sipush (v := nI 257) F d_UN_readToldCodes_8 (by decide) ?_
    refine zj_iadd F d_UN_readToldCodes_11 (nI_add _ _) ?_
    refine zj_istore_n (L' := [(1, .int (nI ((znum t p 5) + 257))), (0, .ref u)]) F d_UN_readToldCodes_12 rfl (by decide) rfl ?_
    refine zj_aload_n F d_UN_readToldCodes_13 1 rfl rfl ?_
    refine zj_get F d_UN_readToldCodes_14 0 0 rfl rfl in_UN (by decide) q_81 rfl ?_
    refine zj_iconst (v := nI 5) F d_UN_readToldCodes_17 (by decide) ?_
    refine zj_call (maxL := 4) (wr := [zO u 3 [.ref r, .ref fl, .ref fd, .ref li, .ref di, .ref lc, .ref la, .ref ob, .int (nI w)], zI K la 316 (zna g), zO lc 1 [.ref lcca, .ref lcma, .ref lcpa, .int (nI lu)], zI K lcca 16 (zna cc), zI K lcma 288 (zna gc), zI K lcpa 16 (zna pc), zO li 1 [.ref lica, .ref lima, .ref lipa, .int (nI iu)], zI K lica 16 (zna ci), zI K lima 288 (zna gi), zI K lipa 16 (zna pi), zO di 1 [.ref dica, .ref dima, .ref dipa, .int (nI du)], zI K dica 16 (zna cd), zI K dima 288 (zna gd), zI K dipa 16 (zna pd)]) F E (m_BR_number l hl K r b Nb e (p + 5) 5 t hb hN2 he2 (by decide) hq1) (zi_V (As := [.int (nI 5)]) (rest := []) F d_UN_readToldCodes_18 14 rfl rfl rfl q_306 q_307 q_308 q_309 (Or.inl ⟨_, _, rfl⟩) (by decide) (show Option.map (fun d => d.parameters.length) (parseMethodDescriptor y_BR_number.desc) = some 1 from by decide +kernel)) d_UN_readToldCodes_18 q_309 (Or.inl ⟨_, _, rfl⟩) q_3 [14, 15] [0, 1, 2, 3, 4, 5, 6, 7, 8, 9, 10, 11, 12, 13] rfl rfl rfl rfl (by decide) ⟨by decide, by decide, by decide, by decide⟩ (Nat.le_of_ble_eq_true rfl) (fun v w1 hq => ?_) (fun X w1 hq => ?_)
    · obtain ⟨hq1, rfl, rfl⟩ := hq
      show zj G 0 0 21 [(1, .int (nI ((znum t p 5) + 257))), (0, .ref u)] [.int (nI (znum t (p + 5) 5))] [zO u 3 [.ref r, .ref fl, .ref fd, .ref li, .ref di, .ref lc, .ref la, .ref ob, .int (nI w)], zI K la 316 (zna g), zO lc 1 [.ref lcca, .ref lcma, .ref lcpa, .int (nI lu)], zI K lcca 16 (zna cc), zI K lcma 288 (zna gc), zI K lcpa 16 (zna pc), zO li 1 [.ref lica, .ref lima, .ref lipa, .int (nI iu)], zI K lica 16 (zna ci), zI K lima 288 (zna gi), zI K lipa 16 (zna pi), zO di 1 [.ref dica, .ref dima, .ref dipa, .int (nI du)], zI K dica 16 (zna cd), zI K dima 288 (zna gd), zI K dipa 16 (zna pd), zO r 0 [.ref b, .int (nI e), .int (nI (p + 5 + 5))], zB K b Nb (zby t)]
      have hq1b := hq1
      refine zj_iconst (v := nI 1) F d_UN_readToldCodes_21 (by decide) ?_
      refine zj_iadd F d_UN_readToldCodes_22 (nI_add _ _) ?_
      refine zj_istore_n (L' := [(2, .int (nI ((znum t (p + 5) 5) + 1))), (1, .int (nI ((znum t p 5) + 257))), (0, .ref u)]) F d_UN_readToldCodes_23 rfl (by decide) rfl ?_
      refine zj_aload_n F d_UN_readToldCodes_24 2 rfl rfl ?_
      refine zj_get F d_UN_readToldCodes_25 0 0 rfl rfl in_UN (by decide) q_81 rfl ?_
      refine zj_iconst (v := nI 4) F d_UN_readToldCodes_28 (by decide) ?_
      refine zj_call (maxL := 4) (wr := [zO u 3 [.ref r, .ref fl, .ref fd, .ref li, .ref di, .ref lc, .ref la, .ref ob, .int (nI w)], zI K la 316 (zna g), zO lc 1 [.ref lcca, .ref lcma, .ref lcpa, .int (nI lu)], zI K lcca 16 (zna cc), zI K lcma 288 (zna gc), zI K lcpa 16 (zna pc), zO li 1 [.ref lica, .ref lima, .ref lipa, .int (nI iu)], zI K lica 16 (zna ci), zI K lima 288 (zna gi), zI K lipa 16 (zna pi), zO di 1 [.ref dica, .ref dima, .ref dipa, .int (nI du)], zI K dica 16 (zna cd), zI K dima 288 (zna gd), zI K dipa 16 (zna pd)]) F E (m_BR_number l hl K r b Nb e (p + 5 + 5) 4 t hb hN2 he2 (by decide) hq1) (zi_V (As := [.int (nI 4)]) (rest := []) F d_UN_readToldCodes_29 14 rfl rfl rfl q_306 q_307 q_308 q_309 (Or.inl ⟨_, _, rfl⟩) (by decide) (show Option.map (fun d => d.parameters.length) (parseMethodDescriptor y_BR_number.desc) = some 1 from by decide +kernel)) d_UN_readToldCodes_29 q_309 (Or.inl ⟨_, _, rfl⟩) q_3 [14, 15] [0, 1, 2, 3, 4, 5, 6, 7, 8, 9, 10, 11, 12, 13] rfl rfl rfl rfl (by decide) ⟨by decide, by decide, by decide, by decide⟩ (Nat.le_of_ble_eq_true rfl) (fun v w1 hq => ?_) (fun X w1 hq => ?_)
      · obtain ⟨hq1, rfl, rfl⟩ := hq
        show zj G 0 0 32 [(2, .int (nI ((znum t (p + 5) 5) + 1))), (1, .int (nI ((znum t p 5) + 257))), (0, .ref u)] [.int (nI (znum t (p + 5 + 5) 4))] [zO u 3 [.ref r, .ref fl, .ref fd, .ref li, .ref di, .ref lc, .ref la, .ref ob, .int (nI w)], zI K la 316 (zna g), zO lc 1 [.ref lcca, .ref lcma, .ref lcpa, .int (nI lu)], zI K lcca 16 (zna cc), zI K lcma 288 (zna gc), zI K lcpa 16 (zna pc), zO li 1 [.ref lica, .ref lima, .ref lipa, .int (nI iu)], zI K lica 16 (zna ci), zI K lima 288 (zna gi), zI K lipa 16 (zna pi), zO di 1 [.ref dica, .ref dima, .ref dipa, .int (nI du)], zI K dica 16 (zna cd), zI K dima 288 (zna gd), zI K dipa 16 (zna pd), zO r 0 [.ref b, .int (nI e), .int (nI (p + 5 + 5 + 4))], zB K b Nb (zby t)]
        have hn1 := znum_lt t p 5
        have hn2 := znum_lt t (p + 5) 5
        have hn3 := znum_lt t (p + 5 + 5) 4
        unfold ztold at hR
        rw [if_pos hq1a, if_pos hq1b, if_pos hq1] at hR
        refine zj_iconst (v := nI 4) F d_UN_readToldCodes_32 (by decide) ?_
        refine zj_iadd F d_UN_readToldCodes_33 (nI_add _ _) ?_
        refine zj_istore_n (L' := [(3, .int (nI ((znum t (p + 5 + 5) 4) + 4))), (2, .int (nI ((znum t (p + 5) 5) + 1))), (1, .int (nI ((znum t p 5) + 257))), (0, .ref u)]) F d_UN_readToldCodes_34 rfl (by decide) rfl ?_
        generalize hL9 : znum t p 5 + 257 = L at hR ⊢
        generalize hD9 : znum t (p + 5) 5 + 1 = D at hR ⊢
        generalize hT9 : znum t (p + 5 + 5) 4 + 4 = T at hR ⊢
        show zj G 0 0 35 [(3, .int (nI T)), (2, .int (nI D)), (1, .int (nI L)), (0, .ref u)] [] [zO u 3 [.ref r, .ref fl, .ref fd, .ref li, .ref di, .ref lc, .ref la, .ref ob, .int (nI w)], zI K la 316 (zna g), zO lc 1 [.ref lcca, .ref lcma, .ref lcpa, .int (nI lu)], zI K lcca 16 (zna cc), zI K lcma 288 (zna gc), zI K lcpa 16 (zna pc), zO li 1 [.ref lica, .ref lima, .ref lipa, .int (nI iu)], zI K lica 16 (zna ci), zI K lima 288 (zna gi), zI K lipa 16 (zna pi), zO di 1 [.ref dica, .ref dima, .ref dipa, .int (nI du)], zI K dica 16 (zna cd), zI K dima 288 (zna gd), zI K dipa 16 (zna pd), zO r 0 [.ref b, .int (nI e), .int (nI (p + 5 + 5 + 4))], zB K b Nb (zby t)]
        have hLb : 257 ≤ L ∧ L ≤ 288 := by omega
        have hDb : 1 ≤ D ∧ D ≤ 32 := by omega
        have hTb : T ≤ 19 := by omega
        refine zj_iload_n F d_UN_readToldCodes_35 2 rfl rfl ?_
        refine zj_sipush (v := nI 286) F d_UN_readToldCodes_36 (by decide) ?_
        refine zj_icmp_gt (tgt := 48) F d_UN_readToldCodes_39 (by decide) (nI_ltI (by omega) (by omega)) (fun h39 => ?_) (fun h39 => ?_)
        · unfold ztoldL at hR
          rw [if_neg (by omega)] at hR
          refine zj_wsub (ws' := [zO u 3 [.ref r, .ref fl, .ref fd, .ref li, .ref di, .ref lc, .ref la, .ref ob, .int (nI w)], zO r 0 [.ref b, .int (nI e), .int (nI (p + 5 + 5 + 4))], zB K b Nb (zby t), zI K la 316 (zna g), zO lc 1 [.ref lcca, .ref lcma, .ref lcpa, .int (nI lu)], zI K lcca 16 (zna cc), zI K lcma 288 (zna gc), zI K lcpa 16 (zna pc), zO li 1 [.ref lica, .ref lima, .ref lipa, .int (nI iu)], zI K lica 16 (zna ci), zI K lima 288 (zna gi), zI K lipa 16 (zna pi), zO di 1 [.ref dica, .ref dima, .ref dipa, .int (nI du)], zI K dica 16 (zna cd), zI K dima 288 (zna gd), zI K dipa 16 (zna pd)]) [0, 14, 15, 1, 2, 3, 4, 5, 6, 7, 8, 9, 10, 11, 12, 13] rfl rfl rfl ?_
          exact zj_throwS (names := zt_up) F E hl d_UN_readToldCodes_48 d_UN_readToldCodes_51 d_UN_readToldCodes_52 d_UN_readToldCodes_54 d_UN_readToldCodes_57 (by decide +kernel) (by decide +kernel) q_386 (at_UN_83) ⟨by decide, by decide, by decide, by decide⟩ rfl (by decide) (by decide) ⟨hR.symm, _, _, _, _, _, _, _, _, _, _, _, _, _, _, hlu, rfl⟩
        · refine zj_iload_n F d_UN_readToldCodes_42 1 rfl rfl ?_
          refine zj_bipush (v := nI 30) F d_UN_readToldCodes_43 (by decide) ?_
          refine zj_icmp_le (tgt := 58) F d_UN_readToldCodes_45 (by decide) (nI_leI (by omega) (by omega)) (fun h45 => ?_) (fun h45 => ?_)
          · unfold ztoldL at hR
            rw [if_pos ⟨by omega, h45⟩] at hR
            refine zj_aload_n F d_UN_readToldCodes_58 3 rfl rfl ?_
            refine zj_iload_n F d_UN_readToldCodes_59 0 rfl rfl ?_
            refine zj_call (maxL := 3) (wr := [zO li 1 [.ref lica, .ref lima, .ref lipa, .int (nI iu)], zI K lica 16 (zna ci), zI K lima 288 (zna gi), zI K lipa 16 (zna pi), zO di 1 [.ref dica, .ref dima, .ref dipa, .int (nI du)], zI K dica 16 (zna cd), zI K dima 288 (zna gd), zI K dipa 16 (zna pd)]) F E (m_UN_lengthCodes l hl K u r fl fd li di lc la ob w b Nb e (p + 5 + 5 + 4) t lcca lcma lcpa lu T g cc gc pc _ hb hN he hq1 hlu hTb rfl) (zi_V (As := [.int (nI T)]) (rest := []) F d_UN_readToldCodes_60 0 rfl rfl rfl q_387 q_389 sel_UN_readLengthCodes q_390 (Or.inl ⟨_, _, rfl⟩) (by decide) (show Option.map (fun d => d.parameters.length) (parseMethodDescriptor y_UN_readLengthCodes.desc) = some 1 from by decide +kernel)) d_UN_readToldCodes_60 q_390 (Or.inl ⟨_, _, rfl⟩) q_2 [0, 14, 15, 1, 2, 3, 4, 5] [6, 7, 8, 9, 10, 11, 12, 13] rfl rfl rfl rfl (by decide) ⟨by decide, by decide, by decide, by decide⟩ (Nat.le_of_ble_eq_true rfl) (fun v w1 hq => ?_) (fun X w1 hq => ?_)
            · obtain ⟨p1, c0, g1, cc1, gc1, pc1, hA1, hA2, hA3, hA4, rfl, rfl⟩ := hq
              show zj G 0 0 63 [(3, .int (nI T)), (2, .int (nI D)), (1, .int (nI L)), (0, .ref u)] [] [zO li 1 [.ref lica, .ref lima, .ref lipa, .int (nI iu)], zI K lica 16 (zna ci), zI K lima 288 (zna gi), zI K lipa 16 (zna pi), zO di 1 [.ref dica, .ref dima, .ref dipa, .int (nI du)], zI K dica 16 (zna cd), zI K dima 288 (zna gd), zI K dipa 16 (zna pd), zO u 3 [.ref r, .ref fl, .ref fd, .ref li, .ref di, .ref lc, .ref la, .ref ob, .int (nI w)], zO r 0 [.ref b, .int (nI e), .int (nI p1)], zB K b Nb (zby t), zI K la 316 (zna g1), zO lc 1 [.ref lcca, .ref lcma, .ref lcpa, .int (nI 32768)], zI K lcca 16 (zna cc1), zI K lcma 288 (zna gc1), zI K lcpa 16 (zna pc1)]
              rw [hA1] at hR
              dsimp only at hR
              rw [zlen_congr (fun l h1 h2 => (hA4 l h2).symm) (L + D) (L + D)] at hR
              refine zj_aload_n F d_UN_readToldCodes_63 3 rfl rfl ?_
              refine zj_iload_n F d_UN_readToldCodes_64 2 rfl rfl ?_
              refine zj_iload_n F d_UN_readToldCodes_65 1 rfl rfl ?_
              refine zj_iadd F d_UN_readToldCodes_66 (nI_add _ _) ?_
              refine zj_call (maxL := 5) (wr := [zO li 1 [.ref lica, .ref lima, .ref lipa, .int (nI iu)], zI K lica 16 (zna ci), zI K lima 288 (zna gi), zI K lipa 16 (zna pi), zO di 1 [.ref dica, .ref dima, .ref dipa, .int (nI du)], zI K dica 16 (zna cd), zI K dima 288 (zna gd), zI K dipa 16 (zna pd), zI K lcpa 16 (zna pc1)]) F E (m_UN_lengths l hl K u r fl fd li di lc la ob w b Nb e p1 t lcca lcma lcpa 32768 (L + D) g1 cc1 gc1 _ _ hb hN he hA2 hA3 (by omega) rfl) (zi_V (As := [.int (nI (L + D))]) (rest := []) F d_UN_readToldCodes_67 8 rfl rfl rfl q_398 q_400 sel_UN_readLengths q_401 (Or.inl ⟨_, _, rfl⟩) (by decide) (show Option.map (fun d => d.parameters.length) (parseMethodDescriptor y_UN_readLengths.desc) = some 1 from by decide +kernel)) d_UN_readToldCodes_67 q_401 (Or.inl ⟨_, _, rfl⟩) q_2 [8, 9, 10, 11, 12, 13, 14] [0, 1, 2, 3, 4, 5, 6, 7, 15] rfl rfl rfl rfl (by decide) ⟨by decide, by decide, by decide, by decide⟩ (Nat.le_of_ble_eq_true rfl) (fun v w1 hq => ?_) (fun X w1 hq => ?_)
              · obtain ⟨p2, c2, g2, hB1, hB2, hB3, hB4, rfl, rfl⟩ := hq
                show zj G 0 0 70 [(3, .int (nI T)), (2, .int (nI D)), (1, .int (nI L)), (0, .ref u)] [] [zO li 1 [.ref lica, .ref lima, .ref lipa, .int (nI iu)], zI K lica 16 (zna ci), zI K lima 288 (zna gi), zI K lipa 16 (zna pi), zO di 1 [.ref dica, .ref dima, .ref dipa, .int (nI du)], zI K dica 16 (zna cd), zI K dima 288 (zna gd), zI K dipa 16 (zna pd), zI K lcpa 16 (zna pc1), zO u 3 [.ref r, .ref fl, .ref fd, .ref li, .ref di, .ref lc, .ref la, .ref ob, .int (nI w)], zO r 0 [.ref b, .int (nI e), .int (nI p2)], zB K b Nb (zby t), zI K la 316 (zna g2), zO lc 1 [.ref lcca, .ref lcma, .ref lcpa, .int (nI 32768)], zI K lcca 16 (zna cc1), zI K lcma 288 (zna gc1)]
                rw [hB1] at hR
                dsimp only at hR
                unfold ztoldE at hR
                refine zj_aload_n F d_UN_readToldCodes_70 3 rfl rfl ?_
                refine zj_get F d_UN_readToldCodes_71 9 3 rfl rfl in_UN (by decide) q_84 rfl ?_
                refine zj_aload_n F d_UN_readToldCodes_74 3 rfl rfl ?_
                refine zj_get F d_UN_readToldCodes_75 9 6 rfl rfl in_UN (by decide) q_87 rfl ?_
                refine zj_iconst (v := nI 0) F d_UN_readToldCodes_78 (by decide) ?_
                refine zj_iload_n F d_UN_readToldCodes_79 2 rfl rfl ?_
                refine zj_call (maxL := 6) (wr := [zO di 1 [.ref dica, .ref dima, .ref dipa, .int (nI du)], zI K dica 16 (zna cd), zI K dima 288 (zna gd), zI K dipa 16 (zna pd), zI K lcpa 16 (zna pc1), zO u 3 [.ref r, .ref fl, .ref fd, .ref li, .ref di, .ref lc, .ref la, .ref ob, .int (nI w)], zO r 0 [.ref b, .int (nI e), .int (nI p2)], zB K b Nb (zby t), zO lc 1 [.ref lcca, .ref lcma, .ref lcpa, .int (nI 32768)], zI K lcca 16 (zna cc1), zI K lcma 288 (zna gc1)]) F E (m_CO_make l K li lica lima lipa la 316 iu 0 L g2 ci gi pi (by decide) (by omega) (by omega) (fun i hi => by rw [Nat.zero_add, hB3 i (by omega)]; exact hB4 i (by omega))) (zi_V (As := [.ref la, .int (nI 0), .int (nI L)]) (rest := []) F d_UN_readToldCodes_80 0 rfl rfl rfl q_72 q_73 q_74 q_75 (Or.inl ⟨_, _, rfl⟩) (by decide) (show Option.map (fun d => d.parameters.length) (parseMethodDescriptor y_CO_make.desc) = some 3 from by decide +kernel)) d_UN_readToldCodes_80 q_75 (Or.inl ⟨_, _, rfl⟩) q_4 [0, 1, 2, 3, 12] [4, 5, 6, 7, 8, 9, 10, 11, 13, 14, 15] rfl rfl rfl rfl (by decide) ⟨by decide, by decide, by decide, by decide⟩ (Nat.le_of_ble_eq_true rfl) (fun v w1 hq => ?_) (fun X w1 hq => ?_)
                · obtain ⟨rfl, ci1, gi1, pi1, hm1, hm2, hm3, rfl⟩ := hq
                  show zj G 0 0 83 [(3, .int (nI T)), (2, .int (nI D)), (1, .int (nI L)), (0, .ref u)] [] [zO di 1 [.ref dica, .ref dima, .ref dipa, .int (nI du)], zI K dica 16 (zna cd), zI K dima 288 (zna gd), zI K dipa 16 (zna pd), zI K lcpa 16 (zna pc1), zO u 3 [.ref r, .ref fl, .ref fd, .ref li, .ref di, .ref lc, .ref la, .ref ob, .int (nI w)], zO r 0 [.ref b, .int (nI e), .int (nI p2)], zB K b Nb (zby t), zO lc 1 [.ref lcca, .ref lcma, .ref lcpa, .int (nI 32768)], zI K lcca 16 (zna cc1), zI K lcma 288 (zna gc1), zO li 1 [.ref lica, .ref lima, .ref lipa, .int (nI (zuse g2 0 L))], zI K lica 16 (zna ci1), zI K lima 288 (zna gi1), zI K lipa 16 (zna pi1), zI K la 316 (zna g2)]
                  refine zj_aload_n F d_UN_readToldCodes_83 3 rfl rfl ?_
                  refine zj_get F d_UN_readToldCodes_84 5 4 rfl rfl in_UN (by decide) q_85 rfl ?_
                  refine zj_aload_n F d_UN_readToldCodes_87 3 rfl rfl ?_
                  refine zj_get F d_UN_readToldCodes_88 5 6 rfl rfl in_UN (by decide) q_87 rfl ?_
                  refine zj_iload_n F d_UN_readToldCodes_91 2 rfl rfl ?_
                  refine zj_iload_n F d_UN_readToldCodes_92 1 rfl rfl ?_
                  refine zj_call (maxL := 6) (wr := [zI K lcpa 16 (zna pc1), zO u 3 [.ref r, .ref fl, .ref fd, .ref li, .ref di, .ref lc, .ref la, .ref ob, .int (nI w)], zO r 0 [.ref b, .int (nI e), .int (nI p2)], zB K b Nb (zby t), zO lc 1 [.ref lcca, .ref lcma, .ref lcpa, .int (nI 32768)], zI K lcca 16 (zna cc1), zI K lcma 288 (zna gc1), zO li 1 [.ref lica, .ref lima, .ref lipa, .int (nI (zuse g2 0 L))], zI K lica 16 (zna ci1), zI K lima 288 (zna gi1), zI K lipa 16 (zna pi1)]) F E (m_CO_make l K di dica dima dipa la 316 du L D g2 cd gd pd (by decide) (by omega) (by omega) (fun i hi => by rw [hB3 (L + i) (by omega)]; exact hB4 (L + i) (by omega))) (zi_V (As := [.ref la, .int (nI L), .int (nI D)]) (rest := []) F d_UN_readToldCodes_93 0 rfl rfl rfl q_72 q_73 q_74 q_75 (Or.inl ⟨_, _, rfl⟩) (by decide) (show Option.map (fun d => d.parameters.length) (parseMethodDescriptor y_CO_make.desc) = some 3 from by decide +kernel)) d_UN_readToldCodes_93 q_75 (Or.inl ⟨_, _, rfl⟩) q_4 [0, 1, 2, 3, 15] [4, 5, 6, 7, 8, 9, 10, 11, 12, 13, 14] rfl rfl rfl rfl (by decide) ⟨by decide, by decide, by decide, by decide⟩ (Nat.le_of_ble_eq_true rfl) (fun v w1 hq => ?_) (fun X w1 hq => ?_)
                  · obtain ⟨rfl, cd1, gd1, pd1, hn1', hn2', hn3', rfl⟩ := hq
                    show zj G 0 0 96 [(3, .int (nI T)), (2, .int (nI D)), (1, .int (nI L)), (0, .ref u)] [] [zI K lcpa 16 (zna pc1), zO u 3 [.ref r, .ref fl, .ref fd, .ref li, .ref di, .ref lc, .ref la, .ref ob, .int (nI w)], zO r 0 [.ref b, .int (nI e), .int (nI p2)], zB K b Nb (zby t), zO lc 1 [.ref lcca, .ref lcma, .ref lcpa, .int (nI 32768)], zI K lcca 16 (zna cc1), zI K lcma 288 (zna gc1), zO li 1 [.ref lica, .ref lima, .ref lipa, .int (nI (zuse g2 0 L))], zI K lica 16 (zna ci1), zI K lima 288 (zna gi1), zI K lipa 16 (zna pi1), zO di 1 [.ref dica, .ref dima, .ref dipa, .int (nI (zuse g2 L D))], zI K dica 16 (zna cd1), zI K dima 288 (zna gd1), zI K dipa 16 (zna pd1), zI K la 316 (zna g2)]
                    have hz0 : ∀ i, i < L → g2 (0 + i) = c2 (0 + i) := fun i hi => by rw [Nat.zero_add]; exact hB3 i (by omega)
                    have hz1 : ∀ i, i < D → g2 (L + i) = c2 (L + i) := fun i hi => hB3 (L + i) (by omega)
                    have hu0 := zuse_congr L hz0
                    have hu1 := zuse_congr D hz1
                    have hl0 := zuse_le g2 0 L
                    have hl1 := zuse_le g2 L D
                    have hc256 := hB3 256 (by omega)
                    have h15 := hB4 256 (by omega)
                    refine zj_aload_n F d_UN_readToldCodes_96 3 rfl rfl ?_
                    refine zj_get F d_UN_readToldCodes_97 1 6 rfl rfl in_UN (by decide) q_87 rfl ?_
                    refine zj_sipush (v := nI 256) F d_UN_readToldCodes_100 (by decide) ?_
                    refine zj_iald (z := nI (c2 256)) F d_UN_readToldCodes_103 15 1 256 rfl rfl rfl (by omega) (by omega) (by unfold zna; rw [hc256]) ?_
                    refine zj_if_eq (tgt := 117) F d_UN_readToldCodes_104 (by decide) (zI_eq0 (by omega)) (fun h104 => ?_) (fun h104 => ?_)
                    · rw [if_neg (fun q => q.1 h104)] at hR
                      refine zj_wsub (ws' := [zO u 3 [.ref r, .ref fl, .ref fd, .ref li, .ref di, .ref lc, .ref la, .ref ob, .int (nI w)], zO r 0 [.ref b, .int (nI e), .int (nI p2)], zB K b Nb (zby t), zI K la 316 (zna g2), zO lc 1 [.ref lcca, .ref lcma, .ref lcpa, .int (nI 32768)], zI K lcca 16 (zna cc1), zI K lcma 288 (zna gc1), zI K lcpa 16 (zna pc1), zO li 1 [.ref lica, .ref lima, .ref lipa, .int (nI (zuse g2 0 L))], zI K lica 16 (zna ci1), zI K lima 288 (zna gi1), zI K lipa 16 (zna pi1), zO di 1 [.ref dica, .ref dima, .ref dipa, .int (nI (zuse g2 L D))], zI K dica 16 (zna cd1), zI K dima 288 (zna gd1), zI K dipa 16 (zna pd1)]) [1, 2, 3, 15, 4, 5, 6, 0, 7, 8, 9, 10, 11, 12, 13, 14] rfl rfl rfl ?_
                      exact zj_throwS (names := zt_up) F E hl d_UN_readToldCodes_117 d_UN_readToldCodes_120 d_UN_readToldCodes_121 d_UN_readToldCodes_123 d_UN_readToldCodes_126 (by decide +kernel) (by decide +kernel) q_408 (at_UN_83) ⟨by decide, by decide, by decide, by decide⟩ rfl (by decide) (by decide) ⟨hR.symm, _, _, _, _, _, _, _, _, _, _, _, _, _, _, by decide, rfl⟩
                    · refine zj_aload_n F d_UN_readToldCodes_107 3 rfl rfl ?_
                      refine zj_get F d_UN_readToldCodes_108 1 3 rfl rfl in_UN (by decide) q_84 rfl ?_
                      refine zj_call (maxL := 1) (wr := [zI K lcpa 16 (zna pc1), zO u 3 [.ref r, .ref fl, .ref fd, .ref li, .ref di, .ref lc, .ref la, .ref ob, .int (nI w)], zO r 0 [.ref b, .int (nI e), .int (nI p2)], zB K b Nb (zby t), zO lc 1 [.ref lcca, .ref lcma, .ref lcpa, .int (nI 32768)], zI K lcca 16 (zna cc1), zI K lcma 288 (zna gc1), zI K lica 16 (zna ci1), zI K lima 288 (zna gi1), zI K lipa 16 (zna pi1), zO di 1 [.ref dica, .ref dima, .ref dipa, .int (nI (zuse g2 L D))], zI K dica 16 (zna cd1), zI K dima 288 (zna gd1), zI K dipa 16 (zna pd1), zI K la 316 (zna g2)]) F E (m_CO_useAll l K li lica lima lipa (zuse g2 0 L) (by omega)) (zi_V (As := []) (rest := []) F d_UN_readToldCodes_111 7 rfl rfl rfl q_393 q_394 q_395 q_396 (Or.inl ⟨_, _, rfl⟩) (by decide) (show Option.map (fun d => d.parameters.length) (parseMethodDescriptor y_CO_useAllWords.desc) = some 0 from by decide +kernel)) d_UN_readToldCodes_111 q_396 (Or.inl ⟨_, _, rfl⟩) q_4 [7] [0, 1, 2, 3, 4, 5, 6, 8, 9, 10, 11, 12, 13, 14, 15] rfl rfl rfl rfl (by decide) ⟨by decide, by decide, by decide, by decide⟩ (Nat.le_of_ble_eq_true rfl) (fun v w1 hq => ?_) (fun X w1 hq => ?_)
                      · obtain ⟨rfl, rfl⟩ := hq
                        show zj G 0 0 114 [(3, .int (nI T)), (2, .int (nI D)), (1, .int (nI L)), (0, .ref u)] [.int (nI (if zuse g2 0 L = 32768 then 1 else 0))] [zI K lcpa 16 (zna pc1), zO u 3 [.ref r, .ref fl, .ref fd, .ref li, .ref di, .ref lc, .ref la, .ref ob, .int (nI w)], zO r 0 [.ref b, .int (nI e), .int (nI p2)], zB K b Nb (zby t), zO lc 1 [.ref lcca, .ref lcma, .ref lcpa, .int (nI 32768)], zI K lcca 16 (zna cc1), zI K lcma 288 (zna gc1), zI K lica 16 (zna ci1), zI K lima 288 (zna gi1), zI K lipa 16 (zna pi1), zO di 1 [.ref dica, .ref dima, .ref dipa, .int (nI (zuse g2 L D))], zI K dica 16 (zna cd1), zI K dima 288 (zna gd1), zI K dipa 16 (zna pd1), zI K la 316 (zna g2), zO li 1 [.ref lica, .ref lima, .ref lipa, .int (nI (zuse g2 0 L))]]
                        have hi2 : (if zuse g2 0 L = 32768 then 1 else 0) < 2 ^ 31 := by by_cases hq : zuse g2 0 L = 32768 <;> simp [hq]
                        refine zj_if_ne (tgt := 127) F d_UN_readToldCodes_114 (by decide) (zI_eq0 hi2) (fun h114 => ?_) (fun h114 => ?_)
                        · have hqL : zuse g2 0 L = 32768 := Decidable.byContradiction (fun q => h114 (if_neg q))
                          rw [if_pos ⟨h104, by rw [← hu0]; exact hqL⟩] at hR
                          refine zj_aload_n F d_UN_readToldCodes_127 3 rfl rfl ?_
                          refine zj_get F d_UN_readToldCodes_128 1 4 rfl rfl in_UN (by decide) q_85 rfl ?_
                          refine zj_call (maxL := 1) (wr := [zI K lcpa 16 (zna pc1), zO u 3 [.ref r, .ref fl, .ref fd, .ref li, .ref di, .ref lc, .ref la, .ref ob, .int (nI w)], zO r 0 [.ref b, .int (nI e), .int (nI p2)], zB K b Nb (zby t), zO lc 1 [.ref lcca, .ref lcma, .ref lcpa, .int (nI 32768)], zI K lcca 16 (zna cc1), zI K lcma 288 (zna gc1), zI K lica 16 (zna ci1), zI K lima 288 (zna gi1), zI K lipa 16 (zna pi1), zI K dica 16 (zna cd1), zI K dima 288 (zna gd1), zI K dipa 16 (zna pd1), zI K la 316 (zna g2), zO li 1 [.ref lica, .ref lima, .ref lipa, .int (nI (zuse g2 0 L))]]) F E (m_CO_useAll l K di dica dima dipa (zuse g2 L D) (by omega)) (zi_V (As := []) (rest := []) F d_UN_readToldCodes_131 10 rfl rfl rfl q_393 q_394 q_395 q_396 (Or.inl ⟨_, _, rfl⟩) (by decide) (show Option.map (fun d => d.parameters.length) (parseMethodDescriptor y_CO_useAllWords.desc) = some 0 from by decide +kernel)) d_UN_readToldCodes_131 q_396 (Or.inl ⟨_, _, rfl⟩) q_4 [10] [0, 1, 2, 3, 4, 5, 6, 7, 8, 9, 11, 12, 13, 14, 15] rfl rfl rfl rfl (by decide) ⟨by decide, by decide, by decide, by decide⟩ (Nat.le_of_ble_eq_true rfl) (fun v w1 hq => ?_) (fun X w1 hq => ?_)
                          · obtain ⟨rfl, rfl⟩ := hq
                            show zj G 0 0 134 [(3, .int (nI T)), (2, .int (nI D)), (1, .int (nI L)), (0, .ref u)] [.int (nI (if zuse g2 L D = 32768 then 1 else 0))] [zI K lcpa 16 (zna pc1), zO u 3 [.ref r, .ref fl, .ref fd, .ref li, .ref di, .ref lc, .ref la, .ref ob, .int (nI w)], zO r 0 [.ref b, .int (nI e), .int (nI p2)], zB K b Nb (zby t), zO lc 1 [.ref lcca, .ref lcma, .ref lcpa, .int (nI 32768)], zI K lcca 16 (zna cc1), zI K lcma 288 (zna gc1), zI K lica 16 (zna ci1), zI K lima 288 (zna gi1), zI K lipa 16 (zna pi1), zI K dica 16 (zna cd1), zI K dima 288 (zna gd1), zI K dipa 16 (zna pd1), zI K la 316 (zna g2), zO li 1 [.ref lica, .ref lima, .ref lipa, .int (nI (zuse g2 0 L))], zO di 1 [.ref dica, .ref dima, .ref dipa, .int (nI (zuse g2 L D))]]
                            have hi3 : (if zuse g2 L D = 32768 then 1 else 0) < 2 ^ 31 := by by_cases hq : zuse g2 L D = 32768 <;> simp [hq]
                            refine zj_if_ne (tgt := 157) F d_UN_readToldCodes_134 (by decide) (zI_eq0 hi3) (fun h134 => ?_) (fun h134 => ?_)
                            · rw [if_pos (Or.inl (by rw [← hu1]; exact Decidable.byContradiction (fun q => h134 (if_neg q))))] at hR
                              refine zj_wsub (ws' := [zO u 3 [.ref r, .ref fl, .ref fd, .ref li, .ref di, .ref lc, .ref la, .ref ob, .int (nI w)], zO r 0 [.ref b, .int (nI e), .int (nI p2)], zB K b Nb (zby t), zI K la 316 (zna g2), zO lc 1 [.ref lcca, .ref lcma, .ref lcpa, .int (nI 32768)], zI K lcca 16 (zna cc1), zI K lcma 288 (zna gc1), zI K lcpa 16 (zna pc1), zO li 1 [.ref lica, .ref lima, .ref lipa, .int (nI (zuse g2 0 L))], zI K lica 16 (zna ci1), zI K lima 288 (zna gi1), zI K lipa 16 (zna pi1), zO di 1 [.ref dica, .ref dima, .ref dipa, .int (nI (zuse g2 L D))], zI K dica 16 (zna cd1), zI K dima 288 (zna gd1), zI K dipa 16 (zna pd1)]) [1, 2, 3, 13, 4, 5, 6, 0, 14, 7, 8, 9, 15, 10, 11, 12] rfl rfl rfl ?_
                              exact zj_vret F E d_UN_readToldCodes_157 (Nat.le_refl _) (Nat.le_refl _) ⟨_, _, _, _, _, _, _, _, _, _, _, _, _, _, _, _, hR.symm, hB2, ⟨Nat.le_trans hm2 (by omega), fun l h1 h2 r hr => (hm3 l h1 h2 r hr).trans (zth_congr L hz0 r), fun l r => Nat.lt_of_lt_of_le (zth_lt c2 0 l L r (by omega)) (by omega)⟩, fun l hl => (hm1 l hl).trans (zcnt_congr L hz0), ⟨Nat.le_trans hn2' (by omega), fun l h1 h2 r hr => (hn3' l h1 h2 r hr).trans (zth_congr D hz1 r), fun l r => Nat.lt_of_lt_of_le (zth_lt c2 L l D r (by omega)) (by omega)⟩, fun l hl => (hn1' l hl).trans (zcnt_congr D hz1), rfl, rfl⟩
                            · have hqD : ¬ zuse g2 L D = 32768 := fun q => by rw [if_pos q] at h134; cases h134
                              refine zj_aload_n F d_UN_readToldCodes_137 3 rfl rfl ?_
                              refine zj_get F d_UN_readToldCodes_138 1 4 rfl rfl in_UN (by decide) q_85 rfl ?_
                              have hcd1 : cd1 1 ≤ 288 := by rw [hn1' 1 (by decide)]; exact Nat.le_trans (zcnt_le g2 L 1 D) (by omega)
                              refine zj_call (maxL := 1) (wr := [zI K lcpa 16 (zna pc1), zO u 3 [.ref r, .ref fl, .ref fd, .ref li, .ref di, .ref lc, .ref la, .ref ob, .int (nI w)], zO r 0 [.ref b, .int (nI e), .int (nI p2)], zB K b Nb (zby t), zO lc 1 [.ref lcca, .ref lcma, .ref lcpa, .int (nI 32768)], zI K lcca 16 (zna cc1), zI K lcma 288 (zna gc1), zI K lica 16 (zna ci1), zI K lima 288 (zna gi1), zI K lipa 16 (zna pi1), zI K dima 288 (zna gd1), zI K dipa 16 (zna pd1), zI K la 316 (zna g2), zO li 1 [.ref lica, .ref lima, .ref lipa, .int (nI (zuse g2 0 L))]]) F E (m_CO_one l K di dica dima dipa (zuse g2 L D) cd1 (by omega) (by omega)) (zi_V (As := []) (rest := []) F d_UN_readToldCodes_141 15 rfl rfl rfl q_409 q_410 q_411 q_412 (Or.inl ⟨_, _, rfl⟩) (by decide) (show Option.map (fun d => d.parameters.length) (parseMethodDescriptor y_CO_areOneOfOneBitOrNone.desc) = some 0 from by decide +kernel)) d_UN_readToldCodes_141 q_412 (Or.inl ⟨_, _, rfl⟩) q_4 [15, 10] [0, 1, 2, 3, 4, 5, 6, 7, 8, 9, 11, 12, 13, 14] rfl rfl rfl rfl (by decide) ⟨by decide, by decide, by decide, by decide⟩ (Nat.le_of_ble_eq_true rfl) (fun v w1 hq => ?_) (fun X w1 hq => ?_)
                              · obtain ⟨rfl, rfl⟩ := hq
                                show zj G 0 0 144 [(3, .int (nI T)), (2, .int (nI D)), (1, .int (nI L)), (0, .ref u)] [.int (nI (if zuse g2 L D = 0 ∨ (zuse g2 L D = 16384 ∧ cd1 1 = 1) then 1 else 0))] [zI K lcpa 16 (zna pc1), zO u 3 [.ref r, .ref fl, .ref fd, .ref li, .ref di, .ref lc, .ref la, .ref ob, .int (nI w)], zO r 0 [.ref b, .int (nI e), .int (nI p2)], zB K b Nb (zby t), zO lc 1 [.ref lcca, .ref lcma, .ref lcpa, .int (nI 32768)], zI K lcca 16 (zna cc1), zI K lcma 288 (zna gc1), zI K lica 16 (zna ci1), zI K lima 288 (zna gi1), zI K lipa 16 (zna pi1), zI K dima 288 (zna gd1), zI K dipa 16 (zna pd1), zI K la 316 (zna g2), zO li 1 [.ref lica, .ref lima, .ref lipa, .int (nI (zuse g2 0 L))], zO di 1 [.ref dica, .ref dima, .ref dipa, .int (nI (zuse g2 L D))], zI K dica 16 (zna cd1)]
                                have hi4 : (if zuse g2 L D = 0 ∨ (zuse g2 L D = 16384 ∧ cd1 1 = 1) then 1 else 0) < 2 ^ 31 := by by_cases hq : zuse g2 L D = 0 ∨ (zuse g2 L D = 16384 ∧ cd1 1 = 1) <;> simp [hq]
                                have hcc1 : cd1 1 = zcnt c2 L 1 D := (hn1' 1 (by decide)).trans (zcnt_congr D hz1)
                                refine zj_if_ne (tgt := 157) F d_UN_readToldCodes_144 (by decide) (zI_eq0 hi4) (fun h144 => ?_) (fun h144 => ?_)
                                · rw [if_pos (by rw [← hu1, ← hcc1]; exact Or.inr (Decidable.byContradiction (fun q => h144 (if_neg q))))] at hR
                                  refine zj_wsub (ws' := [zO u 3 [.ref r, .ref fl, .ref fd, .ref li, .ref di, .ref lc, .ref la, .ref ob, .int (nI w)], zO r 0 [.ref b, .int (nI e), .int (nI p2)], zB K b Nb (zby t), zI K la 316 (zna g2), zO lc 1 [.ref lcca, .ref lcma, .ref lcpa, .int (nI 32768)], zI K lcca 16 (zna cc1), zI K lcma 288 (zna gc1), zI K lcpa 16 (zna pc1), zO li 1 [.ref lica, .ref lima, .ref lipa, .int (nI (zuse g2 0 L))], zI K lica 16 (zna ci1), zI K lima 288 (zna gi1), zI K lipa 16 (zna pi1), zO di 1 [.ref dica, .ref dima, .ref dipa, .int (nI (zuse g2 L D))], zI K dica 16 (zna cd1), zI K dima 288 (zna gd1), zI K dipa 16 (zna pd1)]) [1, 2, 3, 12, 4, 5, 6, 0, 13, 7, 8, 9, 14, 15, 10, 11] rfl rfl rfl ?_
                                  exact zj_vret F E d_UN_readToldCodes_157 (Nat.le_refl _) (Nat.le_refl _) ⟨_, _, _, _, _, _, _, _, _, _, _, _, _, _, _, _, hR.symm, hB2, ⟨Nat.le_trans hm2 (by omega), fun l h1 h2 r hr => (hm3 l h1 h2 r hr).trans (zth_congr L hz0 r), fun l r => Nat.lt_of_lt_of_le (zth_lt c2 0 l L r (by omega)) (by omega)⟩, fun l hl => (hm1 l hl).trans (zcnt_congr L hz0), ⟨Nat.le_trans hn2' (by omega), fun l h1 h2 r hr => (hn3' l h1 h2 r hr).trans (zth_congr D hz1 r), fun l r => Nat.lt_of_lt_of_le (zth_lt c2 L l D r (by omega)) (by omega)⟩, fun l hl => (hn1' l hl).trans (zcnt_congr D hz1), rfl, rfl⟩
                                · have hq4 : ¬ (zuse g2 L D = 0 ∨ (zuse g2 L D = 16384 ∧ cd1 1 = 1)) := fun q => by rw [if_pos q] at h144; cases h144
                                  rw [if_neg (by rw [← hu1, ← hcc1]; exact fun q => q.elim hqD hq4)] at hR
                                  refine zj_wsub (ws' := [zO u 3 [.ref r, .ref fl, .ref fd, .ref li, .ref di, .ref lc, .ref la, .ref ob, .int (nI w)], zO r 0 [.ref b, .int (nI e), .int (nI p2)], zB K b Nb (zby t), zI K la 316 (zna g2), zO lc 1 [.ref lcca, .ref lcma, .ref lcpa, .int (nI 32768)], zI K lcca 16 (zna cc1), zI K lcma 288 (zna gc1), zI K lcpa 16 (zna pc1), zO li 1 [.ref lica, .ref lima, .ref lipa, .int (nI (zuse g2 0 L))], zI K lica 16 (zna ci1), zI K lima 288 (zna gi1), zI K lipa 16 (zna pi1), zO di 1 [.ref dica, .ref dima, .ref dipa, .int (nI (zuse g2 L D))], zI K dica 16 (zna cd1), zI K dima 288 (zna gd1), zI K dipa 16 (zna pd1)]) [1, 2, 3, 12, 4, 5, 6, 0, 13, 7, 8, 9, 14, 15, 10, 11] rfl rfl rfl ?_
                                  exact zj_throwS (names := zt_up) F E hl d_UN_readToldCodes_147 d_UN_readToldCodes_150 d_UN_readToldCodes_151 d_UN_readToldCodes_153 d_UN_readToldCodes_156 (by decide +kernel) (by decide +kernel) q_413 (at_UN_83) ⟨by decide, by decide, by decide, by decide⟩ rfl (by decide) (by decide) ⟨hR.symm, _, _, _, _, _, _, _, _, _, _, _, _, _, _, by decide, rfl⟩
                              · exact hq.elim
                          · exact hq.elim
                        · rw [if_neg (fun q => by rw [← hu0] at q; rw [if_pos q.2] at h114; cases h114)] at hR
                          refine zj_wsub (ws' := [zO u 3 [.ref r, .ref fl, .ref fd, .ref li, .ref di, .ref lc, .ref la, .ref ob, .int (nI w)], zO r 0 [.ref b, .int (nI e), .int (nI p2)], zB K b Nb (zby t), zI K la 316 (zna g2), zO lc 1 [.ref lcca, .ref lcma, .ref lcpa, .int (nI 32768)], zI K lcca 16 (zna cc1), zI K lcma 288 (zna gc1), zI K lcpa 16 (zna pc1), zO li 1 [.ref lica, .ref lima, .ref lipa, .int (nI (zuse g2 0 L))], zI K lica 16 (zna ci1), zI K lima 288 (zna gi1), zI K lipa 16 (zna pi1), zO di 1 [.ref dica, .ref dima, .ref dipa, .int (nI (zuse g2 L D))], zI K dica 16 (zna cd1), zI K dima 288 (zna gd1), zI K dipa 16 (zna pd1)]) [1, 2, 3, 14, 4, 5, 6, 0, 15, 7, 8, 9, 10, 11, 12, 13] rfl rfl rfl ?_
                          exact zj_throwS (names := zt_up) F E hl d_UN_readToldCodes_117 d_UN_readToldCodes_120 d_UN_readToldCodes_121 d_UN_readToldCodes_123 d_UN_readToldCodes_126 (by decide +kernel) (by decide +kernel) q_408 (at_UN_83) ⟨by decide, by decide, by decide, by decide⟩ rfl (by decide) (by decide) ⟨hR.symm, _, _, _, _, _, _, _, _, _, _, _, _, _, _, by decide, rfl⟩
                      · exact hq.elim
                  · exact hq.elim
                · exact hq.elim
              · obtain ⟨hx1, p9, g9, rfl⟩ := hq
                exact ⟨rfl, by decide, by decide, [9, 10, 11, 12, 13, 14, 15, 8, 0, 1, 2, 3, 4, 5, 6, 7], [zO u 3 [.ref r, .ref fl, .ref fd, .ref li, .ref di, .ref lc, .ref la, .ref ob, .int (nI w)], zO r 0 [.ref b, .int (nI e), .int (nI p9)], zB K b Nb (zby t), zI K la 316 (zna g9), zO lc 1 [.ref lcca, .ref lcma, .ref lcpa, .int (nI 32768)], zI K lcca 16 (zna cc1), zI K lcma 288 (zna gc1), zI K lcpa 16 (zna pc1), zO li 1 [.ref lica, .ref lima, .ref lipa, .int (nI iu)], zI K lica 16 (zna ci), zI K lima 288 (zna gi), zI K lipa 16 (zna pi), zO di 1 [.ref dica, .ref dima, .ref dipa, .int (nI du)], zI K dica 16 (zna cd), zI K dima 288 (zna gd), zI K dipa 16 (zna pd)], rfl, rfl, ⟨hR.symm.trans (by rw [hx1]), _, _, _, _, _, _, _, _, _, _, _, _, _, _, by decide, rfl⟩⟩
            · obtain ⟨hx1, p9, g9, lu9, cc9, gc9, pc9, hlu9, rfl⟩ := hq
              exact ⟨rfl, by decide, by decide, [8, 9, 10, 11, 12, 13, 14, 15, 0, 1, 2, 3, 4, 5, 6, 7], [zO u 3 [.ref r, .ref fl, .ref fd, .ref li, .ref di, .ref lc, .ref la, .ref ob, .int (nI w)], zO r 0 [.ref b, .int (nI e), .int (nI p9)], zB K b Nb (zby t), zI K la 316 (zna g9), zO lc 1 [.ref lcca, .ref lcma, .ref lcpa, .int (nI lu9)], zI K lcca 16 (zna cc9), zI K lcma 288 (zna gc9), zI K lcpa 16 (zna pc9), zO li 1 [.ref lica, .ref lima, .ref lipa, .int (nI iu)], zI K lica 16 (zna ci), zI K lima 288 (zna gi), zI K lipa 16 (zna pi), zO di 1 [.ref dica, .ref dima, .ref dipa, .int (nI du)], zI K dica 16 (zna cd), zI K dima 288 (zna gd), zI K dipa 16 (zna pd)], rfl, rfl, ⟨hR.symm.trans (by rw [hx1]), _, _, _, _, _, _, _, _, _, _, _, _, _, _, hlu9, rfl⟩⟩
          · unfold ztoldL at hR
            rw [if_neg (by omega)] at hR
            refine zj_wsub (ws' := [zO u 3 [.ref r, .ref fl, .ref fd, .ref li, .ref di, .ref lc, .ref la, .ref ob, .int (nI w)], zO r 0 [.ref b, .int (nI e), .int (nI (p + 5 + 5 + 4))], zB K b Nb (zby t), zI K la 316 (zna g), zO lc 1 [.ref lcca, .ref lcma, .ref lcpa, .int (nI lu)], zI K lcca 16 (zna cc), zI K lcma 288 (zna gc), zI K lcpa 16 (zna pc), zO li 1 [.ref lica, .ref lima, .ref lipa, .int (nI iu)], zI K lica 16 (zna ci), zI K lima 288 (zna gi), zI K lipa 16 (zna pi), zO di 1 [.ref dica, .ref dima, .ref dipa, .int (nI du)], zI K dica 16 (zna cd), zI K dima 288 (zna gd), zI K dipa 16 (zna pd)]) [0, 14, 15, 1, 2, 3, 4, 5, 6, 7, 8, 9, 10, 11, 12, 13] rfl rfl rfl ?_
            exact zj_throwS (names := zt_up) F E hl d_UN_readToldCodes_48 d_UN_readToldCodes_51 d_UN_readToldCodes_52 d_UN_readToldCodes_54 d_UN_readToldCodes_57 (by decide +kernel) (by decide +kernel) q_386 (at_UN_83) ⟨by decide, by decide, by decide, by decide⟩ rfl (by decide) (by decide) ⟨hR.symm, _, _, _, _, _, _, _, _, _, _, _, _, _, _, hlu, rfl⟩
      · obtain ⟨hx1, rfl, rfl⟩ := hq
        exact ⟨rfl, by decide, by decide, [0, 14, 15, 1, 2, 3, 4, 5, 6, 7, 8, 9, 10, 11, 12, 13], [zO u 3 [.ref r, .ref fl, .ref fd, .ref li, .ref di, .ref lc, .ref la, .ref ob, .int (nI w)], zO r 0 [.ref b, .int (nI e), .int (nI (p + 5 + 5))], zB K b Nb (zby t), zI K la 316 (zna g), zO lc 1 [.ref lcca, .ref lcma, .ref lcpa, .int (nI lu)], zI K lcca 16 (zna cc), zI K lcma 288 (zna gc), zI K lcpa 16 (zna pc), zO li 1 [.ref lica, .ref lima, .ref lipa, .int (nI iu)], zI K lica 16 (zna ci), zI K lima 288 (zna gi), zI K lipa 16 (zna pi), zO di 1 [.ref dica, .ref dima, .ref dipa, .int (nI du)], zI K dica 16 (zna cd), zI K dima 288 (zna gd), zI K dipa 16 (zna pd)], rfl, rfl, ⟨hR.symm.trans (by unfold ztold; rw [if_pos hq1a, if_pos hq1b, if_neg hx1]), _, _, _, _, _, _, _, _, _, _, _, _, _, _, hlu, rfl⟩⟩
    · obtain ⟨hx1, rfl, rfl⟩ := hq
      exact ⟨rfl, by decide, by decide, [0, 14, 15, 1, 2, 3, 4, 5, 6, 7, 8, 9, 10, 11, 12, 13], [zO u 3 [.ref r, .ref fl, .ref fd, .ref li, .ref di, .ref lc, .ref la, .ref ob, .int (nI w)], zO r 0 [.ref b, .int (nI e), .int (nI (p + 5))], zB K b Nb (zby t), zI K la 316 (zna g), zO lc 1 [.ref lcca, .ref lcma, .ref lcpa, .int (nI lu)], zI K lcca 16 (zna cc), zI K lcma 288 (zna gc), zI K lcpa 16 (zna pc), zO li 1 [.ref lica, .ref lima, .ref lipa, .int (nI iu)], zI K lica 16 (zna ci), zI K lima 288 (zna gi), zI K lipa 16 (zna pi), zO di 1 [.ref dica, .ref dima, .ref dipa, .int (nI du)], zI K dica 16 (zna cd), zI K dima 288 (zna gd), zI K dipa 16 (zna pd)], rfl, rfl, ⟨hR.symm.trans (by unfold ztold; rw [if_pos hq1a, if_neg hx1]), _, _, _, _, _, _, _, _, _, _, _, _, _, _, hlu, rfl⟩⟩
  · obtain ⟨hx1, rfl, rfl⟩ := hq
    exact ⟨rfl, by decide, by decide, [0, 14, 15, 1, 2, 3, 4, 5, 6, 7, 8, 9, 10, 11, 12, 13], [zO u 3 [.ref r, .ref fl, .ref fd, .ref li, .ref di, .ref lc, .ref la, .ref ob, .int (nI w)], zO r 0 [.ref b, .int (nI e), .int (nI p)], zB K b Nb (zby t), zI K la 316 (zna g), zO lc 1 [.ref lcca, .ref lcma, .ref lcpa, .int (nI lu)], zI K lcca 16 (zna cc), zI K lcma 288 (zna gc), zI K lcpa 16 (zna pc), zO li 1 [.ref lica, .ref lima, .ref lipa, .int (nI iu)], zI K lica 16 (zna ci), zI K lima 288 (zna gi), zI K lipa 16 (zna pi), zO di 1 [.ref dica, .ref dima, .ref dipa, .int (nI du)], zI K dica 16 (zna cd), zI K dima 288 (zna gd), zI K dipa 16 (zna pd)], rfl, rfl, ⟨hR.symm.trans (by unfold ztold; rw [if_neg hx1]), _, _, _, _, _, _, _, _, _, _, _, _, _, _, hlu, rfl⟩⟩
end
