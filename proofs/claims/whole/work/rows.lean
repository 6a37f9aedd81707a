section
-- ===== PART A: goes FIRST, ahead of the names: the tables' words, and 'selects' of the private methods out of them =====
/-- a private method of a class that the tables say can be made, by its rows of tables_1 -/
def lw_okq (q : MethodName × Nat) : Prop := (q.1.cls ≠ "java/lang/invoke/MethodHandle" ∧ q.1.cls ≠ "java/lang/invoke/VarHandle") ∧ Cond.instantiable q.1.cls q.2 ∈ tables_1 ∧ Cond.privateMethod q.1 ∈ tables_1 ∧ Cond.instanceMethod q.1 ∈ tables_1
theorem lw_p0 : lw_okq (⟨"ReelReader$Tape", "appendBit", "(I)V"⟩, 4) := ⟨⟨by decide +kernel, by decide +kernel⟩, List.mem_of_getElem? (i := 26) (by decide +kernel), List.mem_of_getElem? (i := 211) (by decide +kernel), List.mem_of_getElem? (i := 212) (by decide +kernel)⟩
theorem lw_p1 : lw_okq (⟨"java/lang/Throwable", "fillInStackTrace", "(I)Ljava/lang/Throwable;"⟩, 6) := ⟨⟨by decide +kernel, by decide +kernel⟩, List.mem_of_getElem? (i := 289) (by decide +kernel), List.mem_of_getElem? (i := 287) (by decide +kernel), List.mem_of_getElem? (i := 288) (by decide +kernel)⟩
theorem lw_p2 : lw_okq (⟨"ReelReader$StreamReader", "readHead", "()V"⟩, 10) := ⟨⟨by decide +kernel, by decide +kernel⟩, List.mem_of_getElem? (i := 127) (by decide +kernel), List.mem_of_getElem? (i := 340) (by decide +kernel), List.mem_of_getElem? (i := 341) (by decide +kernel)⟩
theorem lw_p3 : lw_okq (⟨"ReelReader$StreamReader", "passOver", "(II)I"⟩, 10) := ⟨⟨by decide +kernel, by decide +kernel⟩, List.mem_of_getElem? (i := 127) (by decide +kernel), List.mem_of_getElem? (i := 362) (by decide +kernel), List.mem_of_getElem? (i := 363) (by decide +kernel)⟩
theorem lw_p4 : lw_okq (⟨"ReelReader$StreamReader", "mostPassedInB", "(I)I"⟩, 10) := ⟨⟨by decide +kernel, by decide +kernel⟩, List.mem_of_getElem? (i := 127) (by decide +kernel), List.mem_of_getElem? (i := 366) (by decide +kernel), List.mem_of_getElem? (i := 367) (by decide +kernel)⟩
theorem lw_p5 : lw_okq (⟨"ReelReader$StreamReader", "foretellSquare", "(II)V"⟩, 10) := ⟨⟨by decide +kernel, by decide +kernel⟩, List.mem_of_getElem? (i := 127) (by decide +kernel), List.mem_of_getElem? (i := 374) (by decide +kernel), List.mem_of_getElem? (i := 375) (by decide +kernel)⟩
theorem lw_p6 : lw_okq (⟨"ReelReader$StreamReader", "forgetDcs", "()V"⟩, 10) := ⟨⟨by decide +kernel, by decide +kernel⟩, List.mem_of_getElem? (i := 127) (by decide +kernel), List.mem_of_getElem? (i := 378) (by decide +kernel), List.mem_of_getElem? (i := 379) (by decide +kernel)⟩
theorem lw_p7 : lw_okq (⟨"ReelReader$StreamReader", "forgetVectors", "()V"⟩, 10) := ⟨⟨by decide +kernel, by decide +kernel⟩, List.mem_of_getElem? (i := 127) (by decide +kernel), List.mem_of_getElem? (i := 383) (by decide +kernel), List.mem_of_getElem? (i := 384) (by decide +kernel)⟩
theorem lw_p8 : lw_okq (⟨"ReelReader$Plane", "foretellLine", "(LReelReader$Plane;IIIZ)V"⟩, 4) := ⟨⟨by decide +kernel, by decide +kernel⟩, List.mem_of_getElem? (i := 62) (by decide +kernel), List.mem_of_getElem? (i := 394) (by decide +kernel), List.mem_of_getElem? (i := 395) (by decide +kernel)⟩
theorem lw_p9 : lw_okq (⟨"ReelReader$StreamReader", "readSquare", "(I)V"⟩, 10) := ⟨⟨by decide +kernel, by decide +kernel⟩, List.mem_of_getElem? (i := 127) (by decide +kernel), List.mem_of_getElem? (i := 401) (by decide +kernel), List.mem_of_getElem? (i := 402) (by decide +kernel)⟩
theorem lw_p10 : lw_okq (⟨"ReelReader$StreamReader", "readWays", "()I"⟩, 10) := ⟨⟨by decide +kernel, by decide +kernel⟩, List.mem_of_getElem? (i := 127) (by decide +kernel), List.mem_of_getElem? (i := 405) (by decide +kernel), List.mem_of_getElem? (i := 406) (by decide +kernel)⟩
theorem lw_p11 : lw_okq (⟨"ReelReader$StreamReader", "readVector", "([I)V"⟩, 10) := ⟨⟨by decide +kernel, by decide +kernel⟩, List.mem_of_getElem? (i := 127) (by decide +kernel), List.mem_of_getElem? (i := 409) (by decide +kernel), List.mem_of_getElem? (i := 410) (by decide +kernel)⟩
theorem lw_p12 : lw_okq (⟨"ReelReader$StreamReader", "readBlock", "(IZ)V"⟩, 10) := ⟨⟨by decide +kernel, by decide +kernel⟩, List.mem_of_getElem? (i := 127) (by decide +kernel), List.mem_of_getElem? (i := 419) (by decide +kernel), List.mem_of_getElem? (i := 420) (by decide +kernel)⟩
theorem lw_p13 : lw_okq (⟨"ReelReader$Block", "put", "(II)V"⟩, 4) := ⟨⟨by decide +kernel, by decide +kernel⟩, List.mem_of_getElem? (i := 133) (by decide +kernel), List.mem_of_getElem? (i := 432) (by decide +kernel), List.mem_of_getElem? (i := 433) (by decide +kernel)⟩
theorem lw_p14 : lw_okq (⟨"ReelReader$StreamReader", "drawBlock", "(IIZ)V"⟩, 10) := ⟨⟨by decide +kernel, by decide +kernel⟩, List.mem_of_getElem? (i := 127) (by decide +kernel), List.mem_of_getElem? (i := 446) (by decide +kernel), List.mem_of_getElem? (i := 447) (by decide +kernel)⟩
theorem lw_p15 : lw_okq (⟨"ReelReader$Block", "addRow", "(I)V"⟩, 4) := ⟨⟨by decide +kernel, by decide +kernel⟩, List.mem_of_getElem? (i := 133) (by decide +kernel), List.mem_of_getElem? (i := 454) (by decide +kernel), List.mem_of_getElem? (i := 455) (by decide +kernel)⟩
def lw_privs_1 : List (MethodName × Nat) := [(⟨"ReelReader$Tape", "appendBit", "(I)V"⟩, 4), (⟨"java/lang/Throwable", "fillInStackTrace", "(I)Ljava/lang/Throwable;"⟩, 6), (⟨"ReelReader$StreamReader", "readHead", "()V"⟩, 10), (⟨"ReelReader$StreamReader", "passOver", "(II)I"⟩, 10), (⟨"ReelReader$StreamReader", "mostPassedInB", "(I)I"⟩, 10), (⟨"ReelReader$StreamReader", "foretellSquare", "(II)V"⟩, 10), (⟨"ReelReader$StreamReader", "forgetDcs", "()V"⟩, 10), (⟨"ReelReader$StreamReader", "forgetVectors", "()V"⟩, 10), (⟨"ReelReader$Plane", "foretellLine", "(LReelReader$Plane;IIIZ)V"⟩, 4), (⟨"ReelReader$StreamReader", "readSquare", "(I)V"⟩, 10), (⟨"ReelReader$StreamReader", "readWays", "()I"⟩, 10), (⟨"ReelReader$StreamReader", "readVector", "([I)V"⟩, 10), (⟨"ReelReader$StreamReader", "readBlock", "(IZ)V"⟩, 10), (⟨"ReelReader$Block", "put", "(II)V"⟩, 4), (⟨"ReelReader$StreamReader", "drawBlock", "(IIZ)V"⟩, 10), (⟨"ReelReader$Block", "addRow", "(I)V"⟩, 4)]
theorem lw_r1 : ∀ q ∈ lw_privs_1, lw_okq q := List.forall_mem_cons.mpr ⟨lw_p0, List.forall_mem_cons.mpr ⟨lw_p1, List.forall_mem_cons.mpr ⟨lw_p2, List.forall_mem_cons.mpr ⟨lw_p3, List.forall_mem_cons.mpr ⟨lw_p4, List.forall_mem_cons.mpr ⟨lw_p5, List.forall_mem_cons.mpr ⟨lw_p6, List.forall_mem_cons.mpr ⟨lw_p7, List.forall_mem_cons.mpr ⟨lw_p8, List.forall_mem_cons.mpr ⟨lw_p9, List.forall_mem_cons.mpr ⟨lw_p10, List.forall_mem_cons.mpr ⟨lw_p11, List.forall_mem_cons.mpr ⟨lw_p12, List.forall_mem_cons.mpr ⟨lw_p13, List.forall_mem_cons.mpr ⟨lw_p14, List.forall_mem_cons.mpr ⟨lw_p15, fun _ h => absurd h List.not_mem_nil⟩⟩⟩⟩⟩⟩⟩⟩⟩⟩⟩⟩⟩⟩⟩⟩
theorem lw_p16 : lw_okq (⟨"ReelReader$Reel", "show", "(LReelReader$Picture;)V"⟩, 8) := ⟨⟨by decide +kernel, by decide +kernel⟩, List.mem_of_getElem? (i := 48) (by decide +kernel), List.mem_of_getElem? (i := 468) (by decide +kernel), List.mem_of_getElem? (i := 469) (by decide +kernel)⟩
theorem lw_p17 : lw_okq (⟨"ReelReaderModel", "taped", "()I"⟩, 43) := ⟨⟨by decide +kernel, by decide +kernel⟩, List.mem_of_getElem? (i := 549) (by decide +kernel), List.mem_of_getElem? (i := 690) (by decide +kernel), List.mem_of_getElem? (i := 691) (by decide +kernel)⟩
theorem lw_p18 : lw_okq (⟨"ReelReaderModel", "stream", "()V"⟩, 43) := ⟨⟨by decide +kernel, by decide +kernel⟩, List.mem_of_getElem? (i := 549) (by decide +kernel), List.mem_of_getElem? (i := 706) (by decide +kernel), List.mem_of_getElem? (i := 707) (by decide +kernel)⟩
theorem lw_p19 : lw_okq (⟨"ReelReaderModel", "isFirst", "(III)Z"⟩, 43) := ⟨⟨by decide +kernel, by decide +kernel⟩, List.mem_of_getElem? (i := 549) (by decide +kernel), List.mem_of_getElem? (i := 710) (by decide +kernel), List.mem_of_getElem? (i := 711) (by decide +kernel)⟩
theorem lw_p20 : lw_okq (⟨"ReelReaderModel", "bit", "()I"⟩, 43) := ⟨⟨by decide +kernel, by decide +kernel⟩, List.mem_of_getElem? (i := 549) (by decide +kernel), List.mem_of_getElem? (i := 714) (by decide +kernel), List.mem_of_getElem? (i := 715) (by decide +kernel)⟩
theorem lw_p21 : lw_okq (⟨"ReelReaderModel", "isWrong", "(I)Z"⟩, 43) := ⟨⟨by decide +kernel, by decide +kernel⟩, List.mem_of_getElem? (i := 549) (by decide +kernel), List.mem_of_getElem? (i := 718) (by decide +kernel), List.mem_of_getElem? (i := 719) (by decide +kernel)⟩
theorem lw_p22 : lw_okq (⟨"ReelReaderModel", "number", "(I)I"⟩, 43) := ⟨⟨by decide +kernel, by decide +kernel⟩, List.mem_of_getElem? (i := 549) (by decide +kernel), List.mem_of_getElem? (i := 722) (by decide +kernel), List.mem_of_getElem? (i := 723) (by decide +kernel)⟩
theorem lw_p23 : lw_okq (⟨"ReelReaderModel", "align", "()V"⟩, 43) := ⟨⟨by decide +kernel, by decide +kernel⟩, List.mem_of_getElem? (i := 549) (by decide +kernel), List.mem_of_getElem? (i := 726) (by decide +kernel), List.mem_of_getElem? (i := 727) (by decide +kernel)⟩
theorem lw_p24 : lw_okq (⟨"ReelReaderModel", "picture", "()Z"⟩, 43) := ⟨⟨by decide +kernel, by decide +kernel⟩, List.mem_of_getElem? (i := 549) (by decide +kernel), List.mem_of_getElem? (i := 730) (by decide +kernel), List.mem_of_getElem? (i := 731) (by decide +kernel)⟩
theorem lw_p25 : lw_okq (⟨"ReelReaderModel", "numberAbove", "(I)I"⟩, 43) := ⟨⟨by decide +kernel, by decide +kernel⟩, List.mem_of_getElem? (i := 549) (by decide +kernel), List.mem_of_getElem? (i := 734) (by decide +kernel), List.mem_of_getElem? (i := 735) (by decide +kernel)⟩
theorem lw_p26 : lw_okq (⟨"ReelReaderModel", "allSquares", "()Z"⟩, 43) := ⟨⟨by decide +kernel, by decide +kernel⟩, List.mem_of_getElem? (i := 549) (by decide +kernel), List.mem_of_getElem? (i := 738) (by decide +kernel), List.mem_of_getElem? (i := 739) (by decide +kernel)⟩
theorem lw_p27 : lw_okq (⟨"ReelReaderModel", "readU", "()I"⟩, 43) := ⟨⟨by decide +kernel, by decide +kernel⟩, List.mem_of_getElem? (i := 549) (by decide +kernel), List.mem_of_getElem? (i := 742) (by decide +kernel), List.mem_of_getElem? (i := 743) (by decide +kernel)⟩
theorem lw_p28 : lw_okq (⟨"ReelReaderModel", "passes", "(III)Z"⟩, 43) := ⟨⟨by decide +kernel, by decide +kernel⟩, List.mem_of_getElem? (i := 549) (by decide +kernel), List.mem_of_getElem? (i := 746) (by decide +kernel), List.mem_of_getElem? (i := 747) (by decide +kernel)⟩
theorem lw_p29 : lw_okq (⟨"ReelReaderModel", "begins", "()V"⟩, 43) := ⟨⟨by decide +kernel, by decide +kernel⟩, List.mem_of_getElem? (i := 549) (by decide +kernel), List.mem_of_getElem? (i := 750) (by decide +kernel), List.mem_of_getElem? (i := 751) (by decide +kernel)⟩
theorem lw_p30 : lw_okq (⟨"ReelReaderModel", "resetDcs", "()V"⟩, 43) := ⟨⟨by decide +kernel, by decide +kernel⟩, List.mem_of_getElem? (i := 549) (by decide +kernel), List.mem_of_getElem? (i := 754) (by decide +kernel), List.mem_of_getElem? (i := 755) (by decide +kernel)⟩
theorem lw_p31 : lw_okq (⟨"ReelReaderModel", "resetVectors", "()V"⟩, 43) := ⟨⟨by decide +kernel, by decide +kernel⟩, List.mem_of_getElem? (i := 549) (by decide +kernel), List.mem_of_getElem? (i := 758) (by decide +kernel), List.mem_of_getElem? (i := 759) (by decide +kernel)⟩
def lw_privs_2 : List (MethodName × Nat) := [(⟨"ReelReader$Reel", "show", "(LReelReader$Picture;)V"⟩, 8), (⟨"ReelReaderModel", "taped", "()I"⟩, 43), (⟨"ReelReaderModel", "stream", "()V"⟩, 43), (⟨"ReelReaderModel", "isFirst", "(III)Z"⟩, 43), (⟨"ReelReaderModel", "bit", "()I"⟩, 43), (⟨"ReelReaderModel", "isWrong", "(I)Z"⟩, 43), (⟨"ReelReaderModel", "number", "(I)I"⟩, 43), (⟨"ReelReaderModel", "align", "()V"⟩, 43), (⟨"ReelReaderModel", "picture", "()Z"⟩, 43), (⟨"ReelReaderModel", "numberAbove", "(I)I"⟩, 43), (⟨"ReelReaderModel", "allSquares", "()Z"⟩, 43), (⟨"ReelReaderModel", "readU", "()I"⟩, 43), (⟨"ReelReaderModel", "passes", "(III)Z"⟩, 43), (⟨"ReelReaderModel", "begins", "()V"⟩, 43), (⟨"ReelReaderModel", "resetDcs", "()V"⟩, 43), (⟨"ReelReaderModel", "resetVectors", "()V"⟩, 43)]
theorem lw_r2 : ∀ q ∈ lw_privs_2, lw_okq q := List.forall_mem_cons.mpr ⟨lw_p16, List.forall_mem_cons.mpr ⟨lw_p17, List.forall_mem_cons.mpr ⟨lw_p18, List.forall_mem_cons.mpr ⟨lw_p19, List.forall_mem_cons.mpr ⟨lw_p20, List.forall_mem_cons.mpr ⟨lw_p21, List.forall_mem_cons.mpr ⟨lw_p22, List.forall_mem_cons.mpr ⟨lw_p23, List.forall_mem_cons.mpr ⟨lw_p24, List.forall_mem_cons.mpr ⟨lw_p25, List.forall_mem_cons.mpr ⟨lw_p26, List.forall_mem_cons.mpr ⟨lw_p27, List.forall_mem_cons.mpr ⟨lw_p28, List.forall_mem_cons.mpr ⟨lw_p29, List.forall_mem_cons.mpr ⟨lw_p30, List.forall_mem_cons.mpr ⟨lw_p31, fun _ h => absurd h List.not_mem_nil⟩⟩⟩⟩⟩⟩⟩⟩⟩⟩⟩⟩⟩⟩⟩⟩
theorem lw_p32 : lw_okq (⟨"ReelReaderModel", "foretells", "(I)V"⟩, 43) := ⟨⟨by decide +kernel, by decide +kernel⟩, List.mem_of_getElem? (i := 549) (by decide +kernel), List.mem_of_getElem? (i := 762) (by decide +kernel), List.mem_of_getElem? (i := 763) (by decide +kernel)⟩
theorem lw_p33 : lw_okq (⟨"ReelReaderModel", "planeAt", "(I)I"⟩, 43) := ⟨⟨by decide +kernel, by decide +kernel⟩, List.mem_of_getElem? (i := 549) (by decide +kernel), List.mem_of_getElem? (i := 766) (by decide +kernel), List.mem_of_getElem? (i := 767) (by decide +kernel)⟩
theorem lw_p34 : lw_okq (⟨"ReelReaderModel", "planeWidth", "(I)I"⟩, 43) := ⟨⟨by decide +kernel, by decide +kernel⟩, List.mem_of_getElem? (i := 549) (by decide +kernel), List.mem_of_getElem? (i := 770) (by decide +kernel), List.mem_of_getElem? (i := 771) (by decide +kernel)⟩
theorem lw_p35 : lw_okq (⟨"ReelReaderModel", "foretoldDot", "(III)I"⟩, 43) := ⟨⟨by decide +kernel, by decide +kernel⟩, List.mem_of_getElem? (i := 549) (by decide +kernel), List.mem_of_getElem? (i := 774) (by decide +kernel), List.mem_of_getElem? (i := 775) (by decide +kernel)⟩
theorem lw_p36 : lw_okq (⟨"ReelReaderModel", "forward", "()[I"⟩, 43) := ⟨⟨by decide +kernel, by decide +kernel⟩, List.mem_of_getElem? (i := 549) (by decide +kernel), List.mem_of_getElem? (i := 778) (by decide +kernel), List.mem_of_getElem? (i := 779) (by decide +kernel)⟩
theorem lw_p37 : lw_okq (⟨"ReelReaderModel", "moved", "([IIIII)I"⟩, 43) := ⟨⟨by decide +kernel, by decide +kernel⟩, List.mem_of_getElem? (i := 549) (by decide +kernel), List.mem_of_getElem? (i := 782) (by decide +kernel), List.mem_of_getElem? (i := 783) (by decide +kernel)⟩
theorem lw_p38 : lw_okq (⟨"ReelReaderModel", "between", "([IIII)I"⟩, 43) := ⟨⟨by decide +kernel, by decide +kernel⟩, List.mem_of_getElem? (i := 549) (by decide +kernel), List.mem_of_getElem? (i := 786) (by decide +kernel), List.mem_of_getElem? (i := 787) (by decide +kernel)⟩
theorem lw_p39 : lw_okq (⟨"ReelReaderModel", "dotOf", "([IIII)I"⟩, 43) := ⟨⟨by decide +kernel, by decide +kernel⟩, List.mem_of_getElem? (i := 549) (by decide +kernel), List.mem_of_getElem? (i := 790) (by decide +kernel), List.mem_of_getElem? (i := 791) (by decide +kernel)⟩
theorem lw_p40 : lw_okq (⟨"ReelReaderModel", "planeHeight", "(I)I"⟩, 43) := ⟨⟨by decide +kernel, by decide +kernel⟩, List.mem_of_getElem? (i := 549) (by decide +kernel), List.mem_of_getElem? (i := 794) (by decide +kernel), List.mem_of_getElem? (i := 795) (by decide +kernel)⟩
theorem lw_p41 : lw_okq (⟨"ReelReaderModel", "square", "(I)Z"⟩, 43) := ⟨⟨by decide +kernel, by decide +kernel⟩, List.mem_of_getElem? (i := 549) (by decide +kernel), List.mem_of_getElem? (i := 798) (by decide +kernel), List.mem_of_getElem? (i := 799) (by decide +kernel)⟩
theorem lw_p42 : lw_okq (⟨"ReelReaderModel", "vector", "(I)Z"⟩, 43) := ⟨⟨by decide +kernel, by decide +kernel⟩, List.mem_of_getElem? (i := 549) (by decide +kernel), List.mem_of_getElem? (i := 802) (by decide +kernel), List.mem_of_getElem? (i := 803) (by decide +kernel)⟩
theorem lw_p43 : lw_okq (⟨"ReelReaderModel", "readS", "()I"⟩, 43) := ⟨⟨by decide +kernel, by decide +kernel⟩, List.mem_of_getElem? (i := 549) (by decide +kernel), List.mem_of_getElem? (i := 806) (by decide +kernel), List.mem_of_getElem? (i := 807) (by decide +kernel)⟩
theorem lw_p44 : lw_okq (⟨"ReelReaderModel", "allBlocks", "(II)Z"⟩, 43) := ⟨⟨by decide +kernel, by decide +kernel⟩, List.mem_of_getElem? (i := 549) (by decide +kernel), List.mem_of_getElem? (i := 810) (by decide +kernel), List.mem_of_getElem? (i := 811) (by decide +kernel)⟩
theorem lw_p45 : lw_okq (⟨"ReelReaderModel", "block", "(I)Z"⟩, 43) := ⟨⟨by decide +kernel, by decide +kernel⟩, List.mem_of_getElem? (i := 549) (by decide +kernel), List.mem_of_getElem? (i := 814) (by decide +kernel), List.mem_of_getElem? (i := 815) (by decide +kernel)⟩
theorem lw_p46 : lw_okq (⟨"ReelReaderModel", "factor", "(II)I"⟩, 43) := ⟨⟨by decide +kernel, by decide +kernel⟩, List.mem_of_getElem? (i := 549) (by decide +kernel), List.mem_of_getElem? (i := 818) (by decide +kernel), List.mem_of_getElem? (i := 819) (by decide +kernel)⟩
theorem lw_p47 : lw_okq (⟨"ReelReaderModel", "sums", "(III)V"⟩, 43) := ⟨⟨by decide +kernel, by decide +kernel⟩, List.mem_of_getElem? (i := 549) (by decide +kernel), List.mem_of_getElem? (i := 825) (by decide +kernel), List.mem_of_getElem? (i := 826) (by decide +kernel)⟩
def lw_privs_3 : List (MethodName × Nat) := [(⟨"ReelReaderModel", "foretells", "(I)V"⟩, 43), (⟨"ReelReaderModel", "planeAt", "(I)I"⟩, 43), (⟨"ReelReaderModel", "planeWidth", "(I)I"⟩, 43), (⟨"ReelReaderModel", "foretoldDot", "(III)I"⟩, 43), (⟨"ReelReaderModel", "forward", "()[I"⟩, 43), (⟨"ReelReaderModel", "moved", "([IIIII)I"⟩, 43), (⟨"ReelReaderModel", "between", "([IIII)I"⟩, 43), (⟨"ReelReaderModel", "dotOf", "([IIII)I"⟩, 43), (⟨"ReelReaderModel", "planeHeight", "(I)I"⟩, 43), (⟨"ReelReaderModel", "square", "(I)Z"⟩, 43), (⟨"ReelReaderModel", "vector", "(I)Z"⟩, 43), (⟨"ReelReaderModel", "readS", "()I"⟩, 43), (⟨"ReelReaderModel", "allBlocks", "(II)Z"⟩, 43), (⟨"ReelReaderModel", "block", "(I)Z"⟩, 43), (⟨"ReelReaderModel", "factor", "(II)I"⟩, 43), (⟨"ReelReaderModel", "sums", "(III)V"⟩, 43)]
theorem lw_r3 : ∀ q ∈ lw_privs_3, lw_okq q := List.forall_mem_cons.mpr ⟨lw_p32, List.forall_mem_cons.mpr ⟨lw_p33, List.forall_mem_cons.mpr ⟨lw_p34, List.forall_mem_cons.mpr ⟨lw_p35, List.forall_mem_cons.mpr ⟨lw_p36, List.forall_mem_cons.mpr ⟨lw_p37, List.forall_mem_cons.mpr ⟨lw_p38, List.forall_mem_cons.mpr ⟨lw_p39, List.forall_mem_cons.mpr ⟨lw_p40, List.forall_mem_cons.mpr ⟨lw_p41, List.forall_mem_cons.mpr ⟨lw_p42, List.forall_mem_cons.mpr ⟨lw_p43, List.forall_mem_cons.mpr ⟨lw_p44, List.forall_mem_cons.mpr ⟨lw_p45, List.forall_mem_cons.mpr ⟨lw_p46, List.forall_mem_cons.mpr ⟨lw_p47, fun _ h => absurd h List.not_mem_nil⟩⟩⟩⟩⟩⟩⟩⟩⟩⟩⟩⟩⟩⟩⟩⟩
theorem lw_p48 : lw_okq (⟨"ReelReaderModel", "lands", "(I)V"⟩, 43) := ⟨⟨by decide +kernel, by decide +kernel⟩, List.mem_of_getElem? (i := 549) (by decide +kernel), List.mem_of_getElem? (i := 834) (by decide +kernel), List.mem_of_getElem? (i := 835) (by decide +kernel)⟩
theorem lw_p49 : lw_okq (⟨"ReelReaderModel", "shows", "([IIIII)V"⟩, 43) := ⟨⟨by decide +kernel, by decide +kernel⟩, List.mem_of_getElem? (i := 549) (by decide +kernel), List.mem_of_getElem? (i := 838) (by decide +kernel), List.mem_of_getElem? (i := 839) (by decide +kernel)⟩
theorem lw_p50 : lw_okq (⟨"ReelReaderModel", "noPicture", "(I)Z"⟩, 43) := ⟨⟨by decide +kernel, by decide +kernel⟩, List.mem_of_getElem? (i := 549) (by decide +kernel), List.mem_of_getElem? (i := 854) (by decide +kernel), List.mem_of_getElem? (i := 855) (by decide +kernel)⟩
theorem lw_p51 : lw_okq (⟨"ReelReaderModel", "noPlane", "(II)Z"⟩, 43) := ⟨⟨by decide +kernel, by decide +kernel⟩, List.mem_of_getElem? (i := 549) (by decide +kernel), List.mem_of_getElem? (i := 862) (by decide +kernel), List.mem_of_getElem? (i := 863) (by decide +kernel)⟩
def lw_privs_4 : List (MethodName × Nat) := [(⟨"ReelReaderModel", "lands", "(I)V"⟩, 43), (⟨"ReelReaderModel", "shows", "([IIIII)V"⟩, 43), (⟨"ReelReaderModel", "noPicture", "(I)Z"⟩, 43), (⟨"ReelReaderModel", "noPlane", "(II)Z"⟩, 43)]
theorem lw_r4 : ∀ q ∈ lw_privs_4, lw_okq q := List.forall_mem_cons.mpr ⟨lw_p48, List.forall_mem_cons.mpr ⟨lw_p49, List.forall_mem_cons.mpr ⟨lw_p50, List.forall_mem_cons.mpr ⟨lw_p51, fun _ h => absurd h List.not_mem_nil⟩⟩⟩⟩
def lw_privs : List (MethodName × Nat) := lw_privs_1 ++ (lw_privs_2 ++ (lw_privs_3 ++ (lw_privs_4)))
def lw_tbl : List Cond := k2_sels lw_privs ++ tables_1
theorem lw_privs_ok : ∀ q ∈ lw_privs, lw_okq q := by
  show ∀ q ∈ lw_privs_1 ++ (lw_privs_2 ++ (lw_privs_3 ++ (lw_privs_4))), lw_okq q
  exact List.forall_mem_append.mpr ⟨lw_r1, List.forall_mem_append.mpr ⟨lw_r2, List.forall_mem_append.mpr ⟨lw_r3, lw_r4⟩⟩⟩
/-! ===== BEGIN words of one list among another's, by their places ===== -/
theorem goodIn_r {big : List Cond} (ws : List Cond) (ps : List Nat) (hp : ws = ps.filterMap (fun i => big[i]?)) (h : ws.all goodWord = true) : GoodIn big ws := by
  intro w hw
  have h1 := List.all_eq_true.mp h w hw
  rw [hp] at hw
  obtain ⟨i, -, hi⟩ := List.mem_filterMap.mp hw
  have hm : w ∈ big := by first | exact List.mem_of_getElem? hi | exact List.getElem?_mem hi
  exact ⟨hm, good_of_word h1⟩
theorem goodIn_app {big a b : List Cond} (ha : GoodIn big a) (hb : GoodIn big b) : GoodIn big (a ++ b) := fun w h => (List.mem_append.mp h).elim (ha w) (hb w)
theorem goodIn_ca {big a b : List Cond} {c : Cond} (ha : GoodIn big (c :: a)) (hb : GoodIn big b) : GoodIn big (c :: (a ++ b)) := fun w h => (List.mem_cons.mp h).elim (fun e => ha w (List.mem_cons.mpr (Or.inl e))) (fun h => (List.mem_append.mp h).elim (fun h => ha w (List.mem_cons.mpr (Or.inr h))) (hb w))
theorem goodIn_sub {big ws : List Cond} (hm : ∀ w ∈ ws, w ∈ big) (h : ws.all goodWord = true) : GoodIn big ws := fun w hw => ⟨hm w hw, good_of_word (List.all_eq_true.mp h w hw)⟩
/-! ===== END ===== -/

/-! ===== BEGIN exceptions that leave a method, and their catching by the caller (launches without stack traces) ===== -/
section VXA
/-! The laws vx_back, vx_callV, vx_callS, vx_callSW, vx_throw0, vx_throwS follow proofs of the library, with one case more: JvmDerived/Free/Laws.lean (Back.of_free), Shelf42/LK1.lean (callV, callS), Shelf/KitTraced.lean (throwNew0V, throwNewS). -/
/-- where a method has thrown q: the class by its name, the cell, what was written, the world -/
def vx_T (XC : String → State → State → Prop) (st : State) (q : Addr) (t : State) (mc ms : Nat) (free : Addr → Prop) : Prop :=
  ∃ (E : String) (ce : Cell) (L : List Loc), XC E st t ∧ t.heap[q]? = some ce ∧ ce.vm = .none ∧ st.vm.findClass E = some ce.cls ∧ st.WarmedH t.vm ∧ st.sameButNew ({ t with vm := st.vm } : State) L mc ms ∧ ∀ z ∈ L, free z.base
def vx_Q (Qc : Array Value → State → Outcome → State → Prop) (XC : String → State → State → Prop) (mc ms : Nat) (free : Addr → Prop) : Array Value → State → Outcome → State → Prop := fun a st o t =>
  (Qc a st o t ∧ ∃ L, FrameEnd st o t L mc ms ∧ ∀ q ∈ L, free q.base) ∨ ∃ q, o = .threw q ∧ vx_T XC st q t mc ms free
/-- a callee that returns or throws -/
def vx_Met (l : Launch) (y : MethodName) (ws : List Cond) (rm : Room) (Pc : Array Value → State → Prop) (Qc : Array Value → State → Outcome → State → Prop) (XC : String → State → State → Prop) (mc ms : Nat) (free : Addr → Prop) : Prop :=
  MetFree l y (headSpec ws rm) Pc (fun _ _ _ _ _ => True) (vx_Q Qc XC mc ms free)
def vx_Post (XC : String → State → State → Prop) (mc ms : Nat) (free : Addr → Prop) : Pt → Array Value → Addr → Pt → Prop := fun A a q B =>
  ∃ (g : JFrame) (mk : MethodId) (t : State) (L : List Loc) (E : String) (ce : Cell), B.U.heap = t.heap ∧ B.U.vm = t.vm ∧ XC E (A.U.calling g mk a) t ∧ t.heap[q]? = some ce ∧ ce.vm = .none ∧ A.U.vm.findClass E = some ce.cls ∧ B.locs = A.locs ++ L ∧ (∀ z ∈ L, free z.base) ∧ B.cells = A.cells + mc ∧ B.slots = A.slots + ms
def vx_Back (l : Launch) (R : Room) (p : Program) (e : Env) (below : List Frame) (s : State) (sargs : Array Value) (y : MethodName) (len W9 : Nat)
    (Pre : Pt → Array Value → Prop) (Post : Pt → Array Value → Option Value → Pt → Prop) (PostX : Pt → Array Value → Addr → Pt → Prop) : Prop :=
  ∀ (m : MethodId) (meth : Method) (c : Code) (A : Pt) (g : JFrame) (ig : Instr) (mk : MethodId) (a : Array Value),
    Stand p l e R s m sargs below meth c A.U A.locs A.cells A.slots → g.method = m → g.locals.size = c.maxLocals → decode c.code g.pc = .ok (ig, len) →
    2 * g.monitorRoom + (g.stack.map fun v => v.category).sum ≤ W9 → A.U.methodNamed? y = some mk → Pre A a →
    (∃ (v : Option Value) (B : Pt), Stand p l e R s m sargs below meth c B.U B.locs B.cells B.slots ∧ Post A a v B ∧
      Steps p.tables e below (doInvoke e (A.U.setTop g) [] mk a).1 (B.U.setTop { g with pc := g.pc + len, stack := v.toList ++ g.stack })) ∨
    (∃ (q : Addr) (B : Pt), Stand p l e R s m sargs below meth c B.U B.locs B.cells B.slots ∧ PostX A a q B ∧
      Steps p.tables e below (doInvoke e (A.U.setTop g) [] mk a).1 ((B.U.setTop g).pushFrame (.throwing q)))
section Payer
variable {l : Launch} {R : Room} {p : Program} {e : Env} {below : List Frame} {s : State} {sargs : Array Value} {y : MethodName} {len W9 : Nat}
theorem vx_back {ws : List Cond} {rm : Room} {Pc : Array Value → State → Prop} {Qc : Array Value → State → Outcome → State → Prop} {XC : String → State → State → Prop} {mc ms : Nat} {free : Addr → Prop} {bytes : ByteArray} {maxL : Nat} {ret : Option FieldType}
    (hM : vx_Met l y ws rm Pc Qc XC mc ms free) (hblind : FrameBlind Pc) (hrc : rm.cells = mc) (hrs : rm.slots = ms)
    (hframes : rm.frames + 1 ≤ R.frames) (hlocals : W9 + (maxL + 11) + rm.locals ≤ R.locals)
    (hws : ∀ w ∈ ws, ∀ a' U, s.WarmedH U.vm → w.before a' U = true) (hcode : Cond.code y bytes maxL ret ∈ ws) (hinit : ∀ a' U, s.WarmedH U.vm → (Cond.initialized y.cls).before a' U = true) :
    vx_Back l R p e below s sargs y len W9 (PreOf R mc ms Pc) (PostOf Qc mc ms free) (vx_Post XC mc ms free) := by
  intro m meth c A g ig mk a X hg hsize hdg hW hn hp
  have h1 : (headSpec ws rm).pre.before a A.U = true := atoms_intro fun w hw => hws w hw _ _ X.warmed
  have h2 : (Cond.code y bytes maxL ret).before a A.U = true := hws _ hcode _ _ X.warmed
  have h3 : (Cond.initialized y.cls).before a A.U = true := hinit _ _ X.warmed
  have h4 : A.cells + (headSpec ws rm).room.cells ≤ R.cells := by rw [show (headSpec ws rm).room.cells = mc from hrc]; exact hp.1
  have h5 : A.slots + (headSpec ws rm).room.slots ≤ R.slots := by rw [show (headSpec ws rm).room.slots = ms from hrs]; exact hp.2.1
  have hPc : Pc a (A.U.calling g mk a) := hblind _ _ _ _ hp.2.2
  obtain ⟨U, Ls, c0, s0⟩ := A
  dsimp only [Pt.U, Pt.locs, Pt.cells, Pt.slots] at h1 h2 h3 h4 h5 X hn hPc ⊢
  obtain ⟨methY, cY, hmY, hcY, -, hlY, -, -, -, -⟩ := Cond.code_spec hn h2
  obtain ⟨kY, hkY, -⟩ := className_of_methodNamed hn
  have hinitY : kY.init = .initialized := Cond.initialized_spec (findClass_of_methodNamed hn) hkY h3
  have h : At U g.method c below := by rw [hg]; exact X.here
  have hlocals9 : W9 + (maxL + 11) + (headSpec ws rm).room.locals ≤ R.locals := hlocals
  have happ : (headSpec ws rm).appliesLoose y e.platform (U.calling g mk a) = true :=
    Spec.appliesLoose_calling (g := g) h hdg hn hkY hinitY
      (X.room_calling (g := g) (R' := (headSpec ws rm).room) hsize hmY hcY hframes (by rw [hlY]; omega) h4 h5) h1
  obtain ⟨mid, hmid⟩ := h.above
  have hfr : (U.setTop g).frames = (.java g :: mid) ++ below := by rw [State.frames_setTop' g h.top, hmid]; rfl
  obtain ⟨o, s₂, hsteps, -, hend, hq⟩ := Steps.callFree hM p X.admits X.cas X.clock (acts := []) hfr happ hPc trivial
  have hq' : vx_Q Qc XC mc ms free a (U.calling g mk a) o s₂ := hq
  rw [State.frames_setTop' g h.top] at hend
  obtain ⟨g₀, hg0⟩ := Option.isSome_iff_exists.mp h.top
  obtain ⟨r, hr⟩ := State.topJava?_eq_some.mp hg0
  have hr' : (({ U with heap := s₂.heap, slotsUsed := s₂.slotsUsed } : State).setVm s₂.vm).frames = .java g₀ :: r := hr
  rcases hq' with ⟨hqc, L, hfe, hL⟩ | ⟨q, rfl, E, ce, L, hx, hce, hcv, hcl, hW₂, hsm, hL⟩
  · obtain ⟨⟨v, rfl⟩, hW₂, e2, q2, q3, q4, q5, q6⟩ := id hfe
    have e3 : s₂ = ({ (U.calling g mk a).setFrames s₂.frames with heap := s₂.heap, slotsUsed := s₂.slotsUsed } : State).setVm s₂.vm := by
      have : s₂ = ({ s₂ with vm := (U.calling g mk a).vm } : State).setVm s₂.vm := rfl
      rw [e2] at this
      exact this
    obtain ⟨c₂, i₂, len₂, hc₂, hd₂, hf₂⟩ := hend
    have hW' : U.WarmedH s₂.vm := hW₂
    have hcc : c₂ = c := by
      have h1 : s₂.code? g.method = U.code? g.method := by
        rw [State.code?_eq, State.code?_eq, hW'.alike.method?]
      exact Option.some.inj (hc₂.symm.trans (h1.trans h.code))
    subst hcc
    have hlen : len₂ = len := by rw [hdg] at hd₂; cases hd₂; rfl
    subst hlen
    have hs₂ : s₂ = (({ U with heap := s₂.heap, slotsUsed := s₂.slotsUsed } : State).setVm s₂.vm).setTop { g with pc := g.pc + len₂, stack := v.toList ++ g.stack } := by
      refine e3.trans ?_
      rw [hf₂, State.calling_eq h.top, State.setFrames_setFrames, State.setTop_of_frames _ hr', hr]
      rfl
    have hsame : U.sameButNew ({ U with heap := s₂.heap, slotsUsed := s₂.slotsUsed } : State) L mc ms := by
      refine ⟨?_, q2, q3, q4, q5, q6⟩
      obtain ⟨t, ht, -⟩ := State.frames_cons hr
      show ({ U with heap := s₂.heap, slotsUsed := s₂.slotsUsed } : State) = { U.setFrames U.frames with heap := s₂.heap, slotsUsed := s₂.slotsUsed }
      rw [State.setFrames_self ht]
    subst hg
    refine Or.inl ⟨v, ⟨(({ U with heap := s₂.heap, slotsUsed := s₂.slotsUsed } : State).setVm s₂.vm), Ls ++ L, c0 + mc, s0 + ms⟩,
      ⟨X.admits, X.cas, X.clock, X.frames, X.room, X.hears, X.method, X.code, (X.here.setHeapUsed s₂.heap s₂.slotsUsed).setVm hW'.alike, X.tail, State.WarmedH.trans X.warmed hW', X.limits, X.bytes, X.same.trans (hsame.setVm s.vm)⟩,
      ⟨g, mk, s₂, L, rfl, rfl, hqc, rfl, hL, rfl, rfl⟩, ?_⟩
    show Steps p.tables e below _ ((({ U with heap := s₂.heap, slotsUsed := s₂.slotsUsed } : State).setVm s₂.vm).setTop { g with pc := g.pc + len₂, stack := v.toList ++ g.stack })
    rw [← hs₂]
    exact hsteps
  · obtain ⟨e2, q2, q3, q4, q5, q6⟩ := id hsm
    have e3 : s₂ = ({ (U.calling g mk a).setFrames s₂.frames with heap := s₂.heap, slotsUsed := s₂.slotsUsed } : State).setVm s₂.vm := by
      have : s₂ = ({ s₂ with vm := (U.calling g mk a).vm } : State).setVm s₂.vm := rfl
      rw [e2] at this
      exact this
    have hf₂ : s₂.frames = .throwing q :: .java g :: U.frames.tail := hend
    have hW' : U.WarmedH s₂.vm := hW₂
    have hs₂ : s₂ = ((({ U with heap := s₂.heap, slotsUsed := s₂.slotsUsed } : State).setVm s₂.vm).setTop g).pushFrame (.throwing q) := by
      refine e3.trans ?_
      rw [hf₂, State.calling_eq h.top, State.setFrames_setFrames, State.pushFrame, State.frames_setTop _ hr', State.setTop_of_frames _ hr', State.setFrames_setFrames, hr]
      rfl
    have hsame : U.sameButNew ({ U with heap := s₂.heap, slotsUsed := s₂.slotsUsed } : State) L mc ms := by
      refine ⟨?_, q2, q3, q4, q5, q6⟩
      obtain ⟨t, ht, -⟩ := State.frames_cons hr
      show ({ U with heap := s₂.heap, slotsUsed := s₂.slotsUsed } : State) = { U.setFrames U.frames with heap := s₂.heap, slotsUsed := s₂.slotsUsed }
      rw [State.setFrames_self ht]
    subst hg
    refine Or.inr ⟨q, ⟨(({ U with heap := s₂.heap, slotsUsed := s₂.slotsUsed } : State).setVm s₂.vm), Ls ++ L, c0 + mc, s0 + ms⟩,
      ⟨X.admits, X.cas, X.clock, X.frames, X.room, X.hears, X.method, X.code, (X.here.setHeapUsed s₂.heap s₂.slotsUsed).setVm hW'.alike, X.tail, State.WarmedH.trans X.warmed hW', X.limits, X.bytes, X.same.trans (hsame.setVm s.vm)⟩,
      ⟨g, mk, s₂, L, E, ce, rfl, rfl, hx, hce, hcv, hcl, rfl, hL, rfl, rfl⟩, ?_⟩
    show Steps p.tables e below _ (((({ U with heap := s₂.heap, slotsUsed := s₂.slotsUsed } : State).setVm s₂.vm).setTop g).pushFrame (.throwing q))
    rw [← hs₂]
    exact hsteps
end Payer
section Calls
variable {p : Program} {l : Launch} {e : Env} {R : Room} {s : State} {m : MethodId} {args : Array Value} {below : List Frame} {meth : Method} {c : Code} {T : State} {locs : List Loc} {cells slots : Nat}
theorem vx_callV (X : Stand p l e R s m args below meth c T locs cells slots) (hexec : p.tables.exec = Jvm.exec) {own C : String} {index : Nat} {y : MethodName} {bytes : ByteArray} {maxL : Nat} {ret : Option FieldType}
    (hown : s.vm.findClass own = some m.cls) (hlink : (Cond.methodLink own index y).before args s = true) (hinst : (Cond.instanceMethod y).before args s = true) (hsel : (Cond.selects C y y).before args s = true)
    (hcode : (Cond.code y bytes maxL ret).before args s = true) (hy : y.cls ≠ "java/lang/invoke/MethodHandle" ∧ y.cls ≠ "java/lang/invoke/VarHandle")
    {W9 : Nat} {Pre : Pt → Array Value → Prop} {Post : Pt → Array Value → Option Value → Pt → Prop} {PostX : Pt → Array Value → Addr → Pt → Prop} (hK : vx_Back l R p e below s args y 3 W9 Pre Post PostX)
    {b : Addr} {cellB : Cell} (hcell : T.heap[b]? = some cellB) (hobj : cellB.vm.isStatics = false) (hcls : s.vm.findClass C = some cellB.cls)
    {g : JFrame} (hg : g.method = m) (hsize : g.locals.size = c.maxLocals) {argsL rest : List Value} (hlen : ∀ sig, parseMethodDescriptor y.desc = some sig → argsL.length = sig.parameters.length)
    (hstack : g.stack = argsL.reverse ++ .ref b :: rest) (hW : 2 * g.monitorRoom + (rest.map fun v => v.category).sum ≤ W9) (hdg : decode c.code g.pc = .ok (.invokevirtual index, 3))
    (hpre : ∀ vm₁, s.WarmedH vm₁ → Pre ⟨T.setVm vm₁, locs, cells, slots⟩ (Value.ref b :: argsL).toArray) :
    (∃ (v : Option Value) (vm₁ : Vm) (B : Pt), s.WarmedH vm₁ ∧ Stand p l e R s m args below meth c B.U B.locs B.cells B.slots ∧ Post ⟨T.setVm vm₁, locs, cells, slots⟩ (Value.ref b :: argsL).toArray v B ∧
      ∀ target, Steps p.tables e below (B.U.setTop { g with pc := g.pc + 3, stack := v.toList ++ rest }) target → Steps p.tables e below (T.setTop g) target) ∨
    (∃ (q : Addr) (vm₁ : Vm) (B : Pt), s.WarmedH vm₁ ∧ Stand p l e R s m args below meth c B.U B.locs B.cells B.slots ∧ PostX ⟨T.setVm vm₁, locs, cells, slots⟩ (Value.ref b :: argsL).toArray q B ∧
      Steps p.tables e below (T.setTop g) ((B.U.setTop { g with stack := rest }).pushFrame (.throwing q))) := by
  obtain ⟨mk, methM, hnamed, hmethM, hstM, habM⟩ := Cond.instanceMethod_spec hinst
  obtain ⟨methM', cM, hmethM', -, -, -, -, -, -, hsigM⟩ := Cond.code_spec hnamed hcode
  cases hmethM.symm.trans hmethM'
  obtain ⟨c2, r2, m2, q1, q2, q3, q4, kP, hkP, hkPi⟩ := Cond.selects_spec hsel
  cases hcls.symm.trans q1
  cases (State.methodFound?_of_named hnamed hy).symm.trans q2
  cases hnamed.symm.trans q3
  have hselP : selectMethod e.platform s.vm cellB.cls mk = .method mk := by rw [Launch.admits_selectMethod X.admits]; exact q4
  obtain ⟨vm₁, X₁, hstep₁⟩ := X.invokevirtual hexec hown hlink hnamed hmethM hstM hkP hkPi hy (a := b) (cell := cellB) hcell
    (fun z h => by rw [h] at hobj; cases hobj) hselP hmethM habM hkP hkPi (g := g) hg (argsL := argsL) (rest := rest) (hlen _ hsigM) hstack hdg
  rcases hK m meth c ⟨T.setVm vm₁, locs, cells, slots⟩ { g with stack := rest } (.invokevirtual index) mk (Value.ref b :: argsL).toArray X₁ hg hsize hdg hW (X₁.named hnamed) (hpre vm₁ X₁.warmed) with ⟨v, B, X', hpost, hsteps⟩ | ⟨q, B, X', hpost, hsteps⟩
  · exact Or.inl ⟨v, vm₁, B, X₁.warmed, X', hpost, fun target h => hstep₁ _ fun acts => by rw [doInvoke_state]; exact hsteps.trans h⟩
  · exact Or.inr ⟨q, vm₁, B, X₁.warmed, X', hpost, hstep₁ _ fun acts => by rw [doInvoke_state]; exact hsteps⟩
theorem vx_callS (X : Stand p l e R s m args below meth c T locs cells slots) (hexec : p.tables.exec = Jvm.exec) {own : String} {index : Nat} {y : MethodName} {bytes : ByteArray} {maxL : Nat} {ret : Option FieldType}
    (hown : s.vm.findClass own = some m.cls) (hlink : (Cond.methodLink own index y).before args s = true) (hstat : (Cond.static y).before args s = true) (hinit : (Cond.initialized y.cls).before args s = true)
    (hcode : (Cond.code y bytes maxL ret).before args s = true) (hy : y.cls ≠ "java/lang/invoke/MethodHandle" ∧ y.cls ≠ "java/lang/invoke/VarHandle")
    {W9 : Nat} {Pre : Pt → Array Value → Prop} {Post : Pt → Array Value → Option Value → Pt → Prop} {PostX : Pt → Array Value → Addr → Pt → Prop} (hK : vx_Back l R p e below s args y 3 W9 Pre Post PostX)
    {g : JFrame} (hg : g.method = m) (hsize : g.locals.size = c.maxLocals) {argsL rest : List Value} (hlen : ∀ sig, parseMethodDescriptor y.desc = some sig → argsL.length = sig.parameters.length)
    (hstack : g.stack = argsL.reverse ++ rest) (hW : 2 * g.monitorRoom + (rest.map fun v => v.category).sum ≤ W9) (hdg : decode c.code g.pc = .ok (.invokestatic index, 3))
    (hpre : ∀ vm₁, s.WarmedH vm₁ → Pre ⟨T.setVm vm₁, locs, cells, slots⟩ argsL.toArray) :
    (∃ (v : Option Value) (vm₁ : Vm) (B : Pt), s.WarmedH vm₁ ∧ Stand p l e R s m args below meth c B.U B.locs B.cells B.slots ∧ Post ⟨T.setVm vm₁, locs, cells, slots⟩ argsL.toArray v B ∧
      ∀ target, Steps p.tables e below (B.U.setTop { g with pc := g.pc + 3, stack := v.toList ++ rest }) target → Steps p.tables e below (T.setTop g) target) ∨
    (∃ (q : Addr) (vm₁ : Vm) (B : Pt), s.WarmedH vm₁ ∧ Stand p l e R s m args below meth c B.U B.locs B.cells B.slots ∧ PostX ⟨T.setVm vm₁, locs, cells, slots⟩ argsL.toArray q B ∧
      Steps p.tables e below (T.setTop g) ((B.U.setTop { g with stack := rest }).pushFrame (.throwing q))) := by
  obtain ⟨mk, hnamed⟩ := Cond.code_named hcode
  obtain ⟨methM, cM, hmethM, -, -, -, -, -, -, hsigM⟩ := Cond.code_spec hnamed hcode
  have hstatic : methM.isStatic = true := Cond.static_spec hnamed hmethM hstat
  obtain ⟨kP, hkP, -⟩ := className_of_methodNamed hnamed
  have hinitP : kP.init = .initialized := Cond.initialized_spec (findClass_of_methodNamed hnamed) hkP hinit
  obtain ⟨vm₁, X₁, hstep₁⟩ := X.invokestatic hexec hown hlink hnamed hmethM hstatic hkP hinitP hy (g := g) hg (argsL := argsL) (rest := rest) (hlen _ hsigM) hstack hdg
  rcases hK m meth c ⟨T.setVm vm₁, locs, cells, slots⟩ { g with stack := rest } (.invokestatic index) mk argsL.toArray X₁ hg hsize hdg hW (X₁.named hnamed) (hpre vm₁ X₁.warmed) with ⟨v, B, X', hpost, hsteps⟩ | ⟨q, B, X', hpost, hsteps⟩
  · exact Or.inl ⟨v, vm₁, B, X₁.warmed, X', hpost, fun target h => hstep₁ _ fun acts => by rw [doInvoke_state]; exact hsteps.trans h⟩
  · exact Or.inr ⟨q, vm₁, B, X₁.warmed, X', hpost, hstep₁ _ fun acts => by rw [doInvoke_state]; exact hsteps⟩
end Calls
theorem vx_cls {s : State} {T : State} {vm₁ : Vm} {E : String} {k : ClassId} (hW : s.WarmedH vm₁) (h : (T.setVm vm₁).vm.findClass E = some k) : s.vm.findClass E = some k := by
  have h1 : vm₁.findClass E = some k := h
  rw [hW.alike.findClass] at h1
  exact h1
/-- the method's frame g, with q thrown over it -/
def vx_W (p : Program) (l : Launch) (e : Env) (R : Room) (s : State) (m : MethodId) (args : Array Value) (below : List Frame) (meth : Method) (c : Code) (H : Heap) (locs : List Loc) (cells slots : Nat) (Q : State → Prop) (g : JFrame) (q : Addr) : Prop :=
  ∀ T : State, T.heap = H → Stand p l e R s m args below meth c T locs cells slots → ∃ t, Steps p.tables e below ((T.setTop g).pushFrame (.throwing q)) t ∧ Q t
def vx_Run (p : Program) (l : Launch) (e : Env) (R : Room) (s : State) (m : MethodId) (args : Array Value) (below : List Frame) (meth : Method) (c : Code) (H : Heap) (locs : List Loc) (cells slots mc ms : Nat) (g : JFrame) (rest : List Value) (Qa : State → Outcome → State → Prop) (XC : String → State → State → Prop) (free : Addr → Prop) : Prop :=
  ∀ T : State, T.heap = H → Stand p l e R s m args below meth c T locs cells slots →
    (∃ (v : Option Value) (st₀ t T' : State) (L : List Loc), st₀.heap = H ∧ Stand p l e R s m args below meth c T' (locs ++ L) (cells + mc) (slots + ms) ∧ (∀ q ∈ L, free q.base) ∧ T'.heap = t.heap ∧ T'.vm = t.vm ∧ Qa st₀ (.returned v) t ∧
      Goes p e below T g T' { g with pc := g.pc + 3, stack := v.toList ++ rest }) ∨
    (∃ (q : Addr) (st₀ t T' : State) (L : List Loc) (E : String) (ce : Cell), st₀.heap = H ∧ Stand p l e R s m args below meth c T' (locs ++ L) (cells + mc) (slots + ms) ∧ (∀ z ∈ L, free z.base) ∧ T'.heap = t.heap ∧ T'.vm = t.vm ∧ XC E st₀ t ∧ t.heap[q]? = some ce ∧ ce.vm = .none ∧ s.vm.findClass E = some ce.cls ∧
      Steps p.tables e below (T.setTop g) ((T'.setTop { g with stack := rest }).pushFrame (.throwing q)))
def vx_X {S : Type} (px : S → Prop) (B : String → S → State → Prop) (A : Nat → Prop) : String → State → State → Prop := fun E st t => ∃ u : S, px u ∧ B E u t ∧ va_F A st t
section Runs
variable {p : Program} {l : Launch} {e : Env} {R : Room} {s : State} {m : MethodId} {args : Array Value} {below : List Frame} {meth : Method} {c : Code} {H : Heap} {locs : List Loc} {cells slots : Nat}
variable {y : MethodName} {bytes cc : ByteArray} {maxL nL mc ms n index : Nat} {ret : Option FieldType} {ws : List Cond} {rm : Room} {Pc : Array Value → State → Prop} {Qc : Array Value → State → Outcome → State → Prop} {XC : String → State → State → Prop} {free : Addr → Prop} {Ts : List Cond} {own C : String} {b : Addr} {As rest : List Value} {g : JFrame}
theorem vx_callBack (cb : CallB R s args own index y bytes maxL ret ws rm mc ms n) (hM : vx_Met l y ws rm Pc Qc XC mc ms free) (hbl : FrameBlind Pc) : vx_Back l R p e below s args y 3 8 (PreOf R mc ms Pc) (PostOf Qc mc ms free) (vx_Post XC mc ms free) := by
  obtain ⟨hrc, hrs, hfr, hlo, hws, hcw, -, hini, -⟩ := cb
  exact vx_back (bytes := bytes) (maxL := maxL) (ret := ret) hM hbl hrc hrs hfr hlo hws hcw (fun a' U hW => word_at hW (Or.inl (by first | rfl | simp [Cond.onTables, Cond.keeps, Cond.steady])) hini)
theorem vx_runV (S : CallFix p m c cc nL s args Ts own) (hM : vx_Met l y ws rm Pc Qc XC mc ms free) (cw : CallW R s args own C index y bytes maxL ret ws rm mc ms n) (hp : PreV s H C b Pc As)
    (hg : g.method = m) (hn : As.length = n) (hsize : g.locals.size = nL) (hstack : g.stack = As.reverse ++ .ref b :: rest) (hW : 2 * g.monitorRoom + (rest.map fun v => v.category).sum ≤ 8) (hdg : decode cc g.pc = .ok (.invokevirtual index, 3)) (hf : cells + mc ≤ R.cells ∧ slots + ms ≤ R.slots) :
    vx_Run p l e R s m args below meth c H locs cells slots mc ms g rest (Qc (Value.ref b :: As).toArray) XC free := by
  have hK : vx_Back l R p e below s args y 3 8 (PreOf R mc ms Pc) (PostOf Qc mc ms free) (vx_Post XC mc ms free) := vx_callBack cw.1 hM hp.1
  obtain ⟨⟨-, -, -, -, -, -, hcode, -, hy, hlen, hl⟩, hin, hse⟩ := cw
  obtain ⟨hx, hb, hml, ho, -⟩ := S
  obtain ⟨-, ⟨cellB, hcB, hoB, hclB⟩, hPc⟩ := hp
  intro T hT X
  rcases vx_callV X hx (C := C) (bytes := bytes) (maxL := maxL) (ret := ret) ho hl hin hse hcode hy hK (by rw [hT]; exact hcB) hoB hclB hg (hsize.trans hml.symm) (argsL := As) (rest := rest) (fun sig h => hn.trans (hlen sig h)) hstack hW (by rw [hb]; exact hdg)
    (fun vm₁ hW₁ => ⟨hf.1, hf.2, hPc (T.setVm vm₁) hT hW₁⟩) with ⟨v, vm₁, ⟨U', l2, c2, s2⟩, hW₁, X', ⟨g', mk, t, L, e1, e2, hq, h1, hL, h2, h3⟩, st⟩ | ⟨q, vm₁, ⟨U', l2, c2, s2⟩, hW₁, X', ⟨g', mk, t, L, E, ce, e1, e2, hq, hce, hcv, hcl, h1, hL, h2, h3⟩, st⟩
  · dsimp only [Pt.U, Pt.locs, Pt.cells, Pt.slots] at X' e1 e2 h1 h2 h3 st
    subst h1; subst h2; subst h3
    exact Or.inl ⟨v, (T.setVm vm₁).calling g' mk (Value.ref b :: As).toArray, t, U', L, hT, X', hL, e1, e2, hq, st⟩
  · dsimp only [Pt.U, Pt.locs, Pt.cells, Pt.slots] at X' e1 e2 h1 h2 h3 st hcl
    subst h1; subst h2; subst h3
    exact Or.inr ⟨q, (T.setVm vm₁).calling g' mk (Value.ref b :: As).toArray, t, U', L, E, ce, hT, X', hL, e1, e2, hq, hce, hcv, vx_cls hW₁ hcl, st⟩
theorem vx_runS (S : CallFix p m c cc nL s args Ts own) (hM : vx_Met l y ws rm Pc Qc XC mc ms free) (cw : CallB R s args own index y bytes maxL ret ws rm mc ms n ∧ (Cond.static y).before args s = true) (hp : PreS s H Pc As)
    (hg : g.method = m) (hn : As.length = n) (hsize : g.locals.size = nL) (hstack : g.stack = As.reverse ++ rest) (hW : 2 * g.monitorRoom + (rest.map fun v => v.category).sum ≤ 8) (hdg : decode cc g.pc = .ok (.invokestatic index, 3)) (hf : cells + mc ≤ R.cells ∧ slots + ms ≤ R.slots) :
    vx_Run p l e R s m args below meth c H locs cells slots mc ms g rest (Qc As.toArray) XC free := by
  have hK : vx_Back l R p e below s args y 3 8 (PreOf R mc ms Pc) (PostOf Qc mc ms free) (vx_Post XC mc ms free) := vx_callBack cw.1 hM hp.1
  obtain ⟨⟨-, -, -, -, -, -, hcode, hini, hy, hlen, hl⟩, hstt⟩ := cw
  obtain ⟨hx, hb, hml, ho, -⟩ := S
  intro T hT X
  rcases vx_callS X hx (bytes := bytes) (maxL := maxL) (ret := ret) ho hl hstt hini hcode hy hK hg (hsize.trans hml.symm) (argsL := As) (rest := rest) (fun sig h => hn.trans (hlen sig h)) hstack hW (by rw [hb]; exact hdg)
    (fun vm₁ hW₁ => ⟨hf.1, hf.2, hp.2 (T.setVm vm₁) hT hW₁⟩) with ⟨v, vm₁, ⟨U', l2, c2, s2⟩, hW₁, X', ⟨g', mk, t, L, e1, e2, hq, h1, hL, h2, h3⟩, st⟩ | ⟨q, vm₁, ⟨U', l2, c2, s2⟩, hW₁, X', ⟨g', mk, t, L, E, ce, e1, e2, hq, hce, hcv, hcl, h1, hL, h2, h3⟩, st⟩
  · dsimp only [Pt.U, Pt.locs, Pt.cells, Pt.slots] at X' e1 e2 h1 h2 h3 st
    subst h1; subst h2; subst h3
    exact Or.inl ⟨v, (T.setVm vm₁).calling g' mk As.toArray, t, U', L, hT, X', hL, e1, e2, hq, st⟩
  · dsimp only [Pt.U, Pt.locs, Pt.cells, Pt.slots] at X' e1 e2 h1 h2 h3 st hcl
    subst h1; subst h2; subst h3
    exact Or.inr ⟨q, (T.setVm vm₁).calling g' mk As.toArray, t, U', L, E, ce, hT, X', hL, e1, e2, hq, hce, hcv, vx_cls hW₁ hcl, st⟩
end Runs
section Rows
variable {p : Program} {l : Launch} {e : Env} {R : Room} {s : State} {m : MethodId} {args : Array Value} {below : List Frame} {meth : Method} {c : Code} {H : Heap} {locs : List Loc} {cells slots : Nat} {Q : State → Prop}
variable {mc ms : Nat} {free : Addr → Prop} {A0 A1 : Nat → Prop} {H0 : Heap} {a : Array Value} {pc : Nat} {ls : Array Slot} {st0 rest : List Value}
theorem vx_keep {st₀ t T' : State} {L : List Loc} (h0 : st₀.heap = H) (e1 : T'.heap = t.heap) (hS : va_S A0 H0 H locs) (hA : ∀ q, q < H.size → A1 q → A0 q) (hf : ∀ q, free q → A0 q) (hL : ∀ q ∈ L, free q.base) (hF : va_F A1 st₀ t) :
    H.size ≤ T'.heap.size ∧ (∀ q : Nat, q < H.size → ¬ A1 q → T'.heap[q]? = H[q]?) ∧ va_S A0 H0 T'.heap (locs ++ L) := by
  obtain ⟨hz, hk⟩ := hF
  rw [h0] at hz hk
  exact ⟨by rw [e1]; exact hz, fun q h1 h2 => by rw [e1]; exact hk q h1 h2,
    ⟨Nat.le_trans hS.1 (by rw [e1]; exact hz), fun q h1 h2 => by rw [e1, hk q (Nat.lt_of_lt_of_le h1 hS.1) (fun z => h2 (hA q (Nat.lt_of_lt_of_le h1 hS.1) z))]; exact hS.2.1 q h1 h2, fun q hq => by
      rcases List.mem_append.mp hq with h | h
      · exact hS.2.2 q h
      · exact hf _ (hL q h)⟩⟩
theorem vx_calli {S SX : Type} {post : Int32 → S → Prop} {px : SX → Prop} {B : S → State → Prop} {BX : String → SX → State → Prop} {AX : Nat → Prop} (hr : vx_Run p l e R s m args below meth c H locs cells slots mc ms (F0 m pc ls st0) rest (va_Qi post B A1 a) (vx_X px BX AX) free) (hS : va_S A0 H0 H locs) (hA : ∀ q, q < H.size → A1 q → A0 q) (hf : ∀ q, free q → A0 q) (hAX : ∀ q, q < H.size → AX q → A0 q)
    (kx : ∀ (E : String) (ce : Cell) (q9 : Addr) (u : SX) (t : State) (H1 : Heap) (locs1 : List Loc), t.heap = H1 → s.vm.Alike t.vm → px u → BX E u t → H.size ≤ H1.size → (∀ q : Nat, q < H.size → ¬ AX q → H1[q]? = H[q]?) → va_S A0 H0 H1 locs1 → H1[q9]? = some ce → ce.vm = .none → s.vm.findClass E = some ce.cls → vx_W p l e R s m args below meth c H1 locs1 (cells + mc) (slots + ms) Q (F0 m pc ls rest) q9)
    (kk : ∀ (r : Int32) (u : S) (t : State) (H1 : Heap) (locs1 : List Loc), t.heap = H1 → s.vm.Alike t.vm → post r u → B u t → H.size ≤ H1.size → (∀ q : Nat, q < H.size → ¬ A1 q → H1[q]? = H[q]?) → va_S A0 H0 H1 locs1 → W p l e R s m args below meth c H1 locs1 (cells + mc) (slots + ms) Q (F0 m (pc + 3) ls (.int r :: rest))) : W p l e R s m args below meth c H locs cells slots Q (F0 m pc ls st0) := by
  intro T hT X
  rcases hr T hT X with ⟨v, st₀, t, T', L, h0, X', hL, e1, e2, ⟨⟨r, u, hv, hp, hb⟩, hF⟩, st⟩ | ⟨q, st₀, t, T', L, E, ce, h0, X', hL, e1, e2, ⟨u, hp, hb, hF⟩, hce, hcv, hcl, st⟩
  · cases hv
    obtain ⟨k1, k2, k3⟩ := vx_keep h0 e1 hS hA hf hL hF
    obtain ⟨t2, a1, b1⟩ := kk r u t T'.heap (locs ++ L) e1.symm (by rw [← e2]; exact X'.warmed.alike) hp hb k1 k2 k3 T' rfl X'
    exact ⟨t2, st t2 a1, b1⟩
  · obtain ⟨k1, k2, k3⟩ := vx_keep h0 e1 hS hAX hf hL hF
    obtain ⟨t2, a1, b1⟩ := kx E ce q u t T'.heap (locs ++ L) e1.symm (by rw [← e2]; exact X'.warmed.alike) hp hb k1 k2 k3 (by rw [e1]; exact hce) hcv hcl T' rfl X'
    exact ⟨t2, st.trans a1, b1⟩
theorem vx_calll {S SX : Type} {post : Int64 → S → Prop} {px : SX → Prop} {B : S → State → Prop} {BX : String → SX → State → Prop} {AX : Nat → Prop} (hr : vx_Run p l e R s m args below meth c H locs cells slots mc ms (F0 m pc ls st0) rest (va_Ql post B A1 a) (vx_X px BX AX) free) (hS : va_S A0 H0 H locs) (hA : ∀ q, q < H.size → A1 q → A0 q) (hf : ∀ q, free q → A0 q) (hAX : ∀ q, q < H.size → AX q → A0 q)
    (kx : ∀ (E : String) (ce : Cell) (q9 : Addr) (u : SX) (t : State) (H1 : Heap) (locs1 : List Loc), t.heap = H1 → s.vm.Alike t.vm → px u → BX E u t → H.size ≤ H1.size → (∀ q : Nat, q < H.size → ¬ AX q → H1[q]? = H[q]?) → va_S A0 H0 H1 locs1 → H1[q9]? = some ce → ce.vm = .none → s.vm.findClass E = some ce.cls → vx_W p l e R s m args below meth c H1 locs1 (cells + mc) (slots + ms) Q (F0 m pc ls rest) q9)
    (kk : ∀ (r : Int64) (u : S) (t : State) (H1 : Heap) (locs1 : List Loc), t.heap = H1 → s.vm.Alike t.vm → post r u → B u t → H.size ≤ H1.size → (∀ q : Nat, q < H.size → ¬ A1 q → H1[q]? = H[q]?) → va_S A0 H0 H1 locs1 → W p l e R s m args below meth c H1 locs1 (cells + mc) (slots + ms) Q (F0 m (pc + 3) ls (.long r :: rest))) : W p l e R s m args below meth c H locs cells slots Q (F0 m pc ls st0) := by
  intro T hT X
  rcases hr T hT X with ⟨v, st₀, t, T', L, h0, X', hL, e1, e2, ⟨⟨r, u, hv, hp, hb⟩, hF⟩, st⟩ | ⟨q, st₀, t, T', L, E, ce, h0, X', hL, e1, e2, ⟨u, hp, hb, hF⟩, hce, hcv, hcl, st⟩
  · cases hv
    obtain ⟨k1, k2, k3⟩ := vx_keep h0 e1 hS hA hf hL hF
    obtain ⟨t2, a1, b1⟩ := kk r u t T'.heap (locs ++ L) e1.symm (by rw [← e2]; exact X'.warmed.alike) hp hb k1 k2 k3 T' rfl X'
    exact ⟨t2, st t2 a1, b1⟩
  · obtain ⟨k1, k2, k3⟩ := vx_keep h0 e1 hS hAX hf hL hF
    obtain ⟨t2, a1, b1⟩ := kx E ce q u t T'.heap (locs ++ L) e1.symm (by rw [← e2]; exact X'.warmed.alike) hp hb k1 k2 k3 (by rw [e1]; exact hce) hcv hcl T' rfl X'
    exact ⟨t2, st.trans a1, b1⟩
theorem vx_callf {S SX : Type} {post : UInt32 → S → Prop} {px : SX → Prop} {B : S → State → Prop} {BX : String → SX → State → Prop} {AX : Nat → Prop} (hr : vx_Run p l e R s m args below meth c H locs cells slots mc ms (F0 m pc ls st0) rest (va_Qf post B A1 a) (vx_X px BX AX) free) (hS : va_S A0 H0 H locs) (hA : ∀ q, q < H.size → A1 q → A0 q) (hf : ∀ q, free q → A0 q) (hAX : ∀ q, q < H.size → AX q → A0 q)
    (kx : ∀ (E : String) (ce : Cell) (q9 : Addr) (u : SX) (t : State) (H1 : Heap) (locs1 : List Loc), t.heap = H1 → s.vm.Alike t.vm → px u → BX E u t → H.size ≤ H1.size → (∀ q : Nat, q < H.size → ¬ AX q → H1[q]? = H[q]?) → va_S A0 H0 H1 locs1 → H1[q9]? = some ce → ce.vm = .none → s.vm.findClass E = some ce.cls → vx_W p l e R s m args below meth c H1 locs1 (cells + mc) (slots + ms) Q (F0 m pc ls rest) q9)
    (kk : ∀ (r : UInt32) (u : S) (t : State) (H1 : Heap) (locs1 : List Loc), t.heap = H1 → s.vm.Alike t.vm → post r u → B u t → H.size ≤ H1.size → (∀ q : Nat, q < H.size → ¬ A1 q → H1[q]? = H[q]?) → va_S A0 H0 H1 locs1 → W p l e R s m args below meth c H1 locs1 (cells + mc) (slots + ms) Q (F0 m (pc + 3) ls (.float r :: rest))) : W p l e R s m args below meth c H locs cells slots Q (F0 m pc ls st0) := by
  intro T hT X
  rcases hr T hT X with ⟨v, st₀, t, T', L, h0, X', hL, e1, e2, ⟨⟨r, u, hv, hp, hb⟩, hF⟩, st⟩ | ⟨q, st₀, t, T', L, E, ce, h0, X', hL, e1, e2, ⟨u, hp, hb, hF⟩, hce, hcv, hcl, st⟩
  · cases hv
    obtain ⟨k1, k2, k3⟩ := vx_keep h0 e1 hS hA hf hL hF
    obtain ⟨t2, a1, b1⟩ := kk r u t T'.heap (locs ++ L) e1.symm (by rw [← e2]; exact X'.warmed.alike) hp hb k1 k2 k3 T' rfl X'
    exact ⟨t2, st t2 a1, b1⟩
  · obtain ⟨k1, k2, k3⟩ := vx_keep h0 e1 hS hAX hf hL hF
    obtain ⟨t2, a1, b1⟩ := kx E ce q u t T'.heap (locs ++ L) e1.symm (by rw [← e2]; exact X'.warmed.alike) hp hb k1 k2 k3 (by rw [e1]; exact hce) hcv hcl T' rfl X'
    exact ⟨t2, st.trans a1, b1⟩
theorem vx_calld {S SX : Type} {post : UInt64 → S → Prop} {px : SX → Prop} {B : S → State → Prop} {BX : String → SX → State → Prop} {AX : Nat → Prop} (hr : vx_Run p l e R s m args below meth c H locs cells slots mc ms (F0 m pc ls st0) rest (va_Qd post B A1 a) (vx_X px BX AX) free) (hS : va_S A0 H0 H locs) (hA : ∀ q, q < H.size → A1 q → A0 q) (hf : ∀ q, free q → A0 q) (hAX : ∀ q, q < H.size → AX q → A0 q)
    (kx : ∀ (E : String) (ce : Cell) (q9 : Addr) (u : SX) (t : State) (H1 : Heap) (locs1 : List Loc), t.heap = H1 → s.vm.Alike t.vm → px u → BX E u t → H.size ≤ H1.size → (∀ q : Nat, q < H.size → ¬ AX q → H1[q]? = H[q]?) → va_S A0 H0 H1 locs1 → H1[q9]? = some ce → ce.vm = .none → s.vm.findClass E = some ce.cls → vx_W p l e R s m args below meth c H1 locs1 (cells + mc) (slots + ms) Q (F0 m pc ls rest) q9)
    (kk : ∀ (r : UInt64) (u : S) (t : State) (H1 : Heap) (locs1 : List Loc), t.heap = H1 → s.vm.Alike t.vm → post r u → B u t → H.size ≤ H1.size → (∀ q : Nat, q < H.size → ¬ A1 q → H1[q]? = H[q]?) → va_S A0 H0 H1 locs1 → W p l e R s m args below meth c H1 locs1 (cells + mc) (slots + ms) Q (F0 m (pc + 3) ls (.double r :: rest))) : W p l e R s m args below meth c H locs cells slots Q (F0 m pc ls st0) := by
  intro T hT X
  rcases hr T hT X with ⟨v, st₀, t, T', L, h0, X', hL, e1, e2, ⟨⟨r, u, hv, hp, hb⟩, hF⟩, st⟩ | ⟨q, st₀, t, T', L, E, ce, h0, X', hL, e1, e2, ⟨u, hp, hb, hF⟩, hce, hcv, hcl, st⟩
  · cases hv
    obtain ⟨k1, k2, k3⟩ := vx_keep h0 e1 hS hA hf hL hF
    obtain ⟨t2, a1, b1⟩ := kk r u t T'.heap (locs ++ L) e1.symm (by rw [← e2]; exact X'.warmed.alike) hp hb k1 k2 k3 T' rfl X'
    exact ⟨t2, st t2 a1, b1⟩
  · obtain ⟨k1, k2, k3⟩ := vx_keep h0 e1 hS hAX hf hL hF
    obtain ⟨t2, a1, b1⟩ := kx E ce q u t T'.heap (locs ++ L) e1.symm (by rw [← e2]; exact X'.warmed.alike) hp hb k1 k2 k3 (by rw [e1]; exact hce) hcv hcl T' rfl X'
    exact ⟨t2, st.trans a1, b1⟩
theorem vx_callv {S SX : Type} {post : S → Prop} {px : SX → Prop} {B : S → State → Prop} {BX : String → SX → State → Prop} {AX : Nat → Prop} (hr : vx_Run p l e R s m args below meth c H locs cells slots mc ms (F0 m pc ls st0) rest (va_Qv post B A1 a) (vx_X px BX AX) free) (hS : va_S A0 H0 H locs) (hA : ∀ q, q < H.size → A1 q → A0 q) (hf : ∀ q, free q → A0 q) (hAX : ∀ q, q < H.size → AX q → A0 q)
    (kx : ∀ (E : String) (ce : Cell) (q9 : Addr) (u : SX) (t : State) (H1 : Heap) (locs1 : List Loc), t.heap = H1 → s.vm.Alike t.vm → px u → BX E u t → H.size ≤ H1.size → (∀ q : Nat, q < H.size → ¬ AX q → H1[q]? = H[q]?) → va_S A0 H0 H1 locs1 → H1[q9]? = some ce → ce.vm = .none → s.vm.findClass E = some ce.cls → vx_W p l e R s m args below meth c H1 locs1 (cells + mc) (slots + ms) Q (F0 m pc ls rest) q9)
    (kk : ∀ (u : S) (t : State) (H1 : Heap) (locs1 : List Loc), t.heap = H1 → s.vm.Alike t.vm → post u → B u t → H.size ≤ H1.size → (∀ q : Nat, q < H.size → ¬ A1 q → H1[q]? = H[q]?) → va_S A0 H0 H1 locs1 → W p l e R s m args below meth c H1 locs1 (cells + mc) (slots + ms) Q (F0 m (pc + 3) ls (rest))) : W p l e R s m args below meth c H locs cells slots Q (F0 m pc ls st0) := by
  intro T hT X
  rcases hr T hT X with ⟨v, st₀, t, T', L, h0, X', hL, e1, e2, ⟨⟨u, hv, hp, hb⟩, hF⟩, st⟩ | ⟨q, st₀, t, T', L, E, ce, h0, X', hL, e1, e2, ⟨u, hp, hb, hF⟩, hce, hcv, hcl, st⟩
  · cases hv
    obtain ⟨k1, k2, k3⟩ := vx_keep h0 e1 hS hA hf hL hF
    obtain ⟨t2, a1, b1⟩ := kk u t T'.heap (locs ++ L) e1.symm (by rw [← e2]; exact X'.warmed.alike) hp hb k1 k2 k3 T' rfl X'
    exact ⟨t2, st t2 a1, b1⟩
  · obtain ⟨k1, k2, k3⟩ := vx_keep h0 e1 hS hAX hf hL hF
    obtain ⟨t2, a1, b1⟩ := kx E ce q u t T'.heap (locs ++ L) e1.symm (by rw [← e2]; exact X'.warmed.alike) hp hb k1 k2 k3 (by rw [e1]; exact hce) hcv hcl T' rfl X'
    exact ⟨t2, st.trans a1, b1⟩
end Rows
section Ends
variable {p : Program} {l : Launch} {e : Env} {R : Room} {s : State} {m : MethodId} {args : Array Value} {below : List Frame} {meth : Method} {c : Code} {H : Heap} {locs : List Loc} {cells slots : Nat} {Q : State → Prop}
variable {mc ms : Nat} {free : Addr → Prop} {A0 A1 : Nat → Prop} {H0 : Heap} {a : Array Value} {ls : Array Slot} {st0 rest : List Value}
variable {Qc : Array Value → State → Outcome → State → Prop} {XC : String → State → State → Prop}
/-- what a body that may throw owes at its end -/
def vx_MQ (below : List Frame) (Qc : Array Value → State → Outcome → State → Prop) (XC : String → State → State → Prop) (a : Array Value) (s : State) (mc ms : Nat) (free : Addr → Prop) : State → Prop := fun t =>
  ∃ o, t.status = .running ∧ Ended t below o ∧ vx_Q Qc XC mc ms free a s o t
theorem vx_ret {g : JFrame} {mc ms : Nat} (k : W p l e R s m args below meth c H locs cells slots (MQ below Qc args s mc ms free) g) : W p l e R s m args below meth c H locs cells slots (vx_MQ below Qc XC args s mc ms free) g := by
  intro T hT X
  obtain ⟨t, a1, o, b1, b2, b3, b4⟩ := k T hT X
  exact ⟨t, a1, o, b1, b2, Or.inl ⟨b3, b4⟩⟩
/-- not caught here: it goes on to the caller -/
theorem vx_widen {g : JFrame} {q : Addr} {k n : Nat} (h1 : cells ≤ k) (h2 : slots ≤ n) (kk : vx_W p l e R s m args below meth c H locs k n Q g q) : vx_W p l e R s m args below meth c H locs cells slots Q g q := fun T hT X => kk T hT (stand_widen X h1 h2)
theorem vx_out {pc : Nat} {E : String} {ce : Cell} {q : Addr} {mc ms : Nat} (hout : ∀ x ∈ c.exceptionTable.toList, covers x pc = false) (hlocks : meth.locks = false) (hcell : H[q]? = some ce) (hv : ce.vm = .none) (hcl : s.vm.findClass E = some ce.cls)
    (hx : ∀ t : State, t.heap = H → s.vm.Alike t.vm → XC E s t) (hf : ∀ z ∈ locs, free z.base) (hc : cells ≤ mc) (hs : slots ≤ ms) :
    vx_W p l e R s m args below meth c H locs cells slots (vx_MQ below Qc XC args s mc ms free) (F0 m pc ls rest) q := by
  intro T hT X
  obtain ⟨st1, hrun, hend, hW, hsm⟩ := X.leaveThrown q (g := F0 m pc ls rest) rfl rfl rfl hout hlocks
  have hcell9 : (T.setFrames (.throwing q :: below)).heap[q]? = some ce := by
    show T.heap[q]? = some ce
    rw [hT]; exact hcell
  exact ⟨_, st1, .threw q, hrun, hend, Or.inr ⟨q, rfl, E, ce, locs, hx _ hT hW.alike, hcell9, hv, hcl, hW, hsm.mono hc hs, hf⟩⟩
theorem vx_frame {U : State} {k n : Nat} (h : s.sameButNew ({ U with vm := s.vm } : State) locs k n) : s.heap.size ≤ U.heap.size ∧ ∀ q : Nat, q < s.heap.size → (∀ z ∈ locs, z.base ≠ q) → U.heap[q]? = s.heap[q]? := by
  obtain ⟨-, h2, -, -, -, h6⟩ := h
  refine ⟨h2, fun q hq hz => ?_⟩
  obtain ⟨c9, e1, e2, e3, e4⟩ := h6 q _ (Array.getElem?_eq_getElem hq)
  have hs : c9.slots = (s.heap[q]).slots := Array.ext_getElem? fun i => e4 i fun hm => hz _ hm rfl
  have h9 : c9 = s.heap[q] := by
    rw [hs] at e2
    exact e2
  have e5 : U.heap[q]? = some c9 := e1
  rw [e5, h9, Array.getElem?_eq_getElem hq]
/-- the words of a throw but the four that speak of the heap -/
def vx_no (w : Cond) : Bool := decide (w ≠ .isRef (.static Bundle.tN "UNASSIGNED_STACK" Bundle.steD)) && decide (w ≠ .isRef (.static Bundle.tN "SUPPRESSED_SENTINEL" Bundle.listD)) && decide (w ≠ .laysStatic Bundle.tN "UNASSIGNED_STACK" Bundle.steD) && decide (w ≠ .laysStatic Bundle.tN "SUPPRESSED_SENTINEL" Bundle.listD)
def vx_at0 (own : String) (ic : Nat) (X : String) (names : List String) : List Cond := (Bundle.ownAtoms0 own ic X names).filter vx_no
def vx_atS (own : String) (ic : Nat) (X : String) (names : List String) : List Cond := (Bundle.ownAtoms own ic X names).filter vx_no
/-- a word that the tables alone decide, or a good one -/
def vx_ot (w : Cond) : Bool := w.onTables || goodWord w
theorem vx_ot_at {args a' : Array Value} {s U : State} {w : Cond} (hW : s.WarmedH U.vm) (hvm : s.vm = U.vm) (hg : vx_ot w = true) (h : w.before args s = true) : w.before a' U = true := by
  simp only [vx_ot, Bool.or_eq_true] at hg
  rcases hg with hg | hg
  · exact va_tabs hg hvm h
  · exact word_at hW (good_of_word hg) h
/-- a list's words: the good ones out of the method's own list, the others by premises of their own -/
theorem vx_hat {args : Array Value} {s : State} {L B : List Cond} (h1 : ∀ w ∈ L.filter goodWord, w.before args s = true) (h2 : ∀ w ∈ L.filter (fun w => !goodWord w), w ∈ B) (h3 : ∀ w ∈ B, w.before args s = true) : ∀ w ∈ L, w.before args s = true := by
  intro w hw
  by_cases g : goodWord w = true
  · exact h1 w (List.mem_filter.mpr ⟨hw, g⟩)
  · refine h3 w (h2 w (List.mem_filter.mpr ⟨hw, ?_⟩))
    show (!goodWord w) = true
    cases hgw : goodWord w
    · rfl
    · exact absurd hgw g
theorem vx_c {args : Array Value} {s : State} {w : Cond} {B : List Cond} (h : w.before args s = true) (t : ∀ w ∈ B, w.before args s = true) : ∀ w' ∈ w :: B, w'.before args s = true := fun w' h' => (List.mem_cons.mp h').elim (fun e => by rw [e]; exact h) (t w')
theorem vx_n {args : Array Value} {s : State} : ∀ w ∈ ([] : List Cond), w.before args s = true := fun _ h => nomatch h
theorem vx_own {args : Array Value} {s : State} {L : List Cond} (h1 : ∀ w ∈ L.filter vx_no, w.before args s = true)
    (hU : (Cond.isRef (.static Bundle.tN "UNASSIGNED_STACK" Bundle.steD)).before args s = true) (hN : (Cond.isRef (.static Bundle.tN "SUPPRESSED_SENTINEL" Bundle.listD)).before args s = true)
    (lU : (Cond.laysStatic Bundle.tN "UNASSIGNED_STACK" Bundle.steD).before args s = true) (lN : (Cond.laysStatic Bundle.tN "SUPPRESSED_SENTINEL" Bundle.listD).before args s = true) : ∀ w ∈ L, w.before args s = true := by
  intro w hw
  by_cases e1 : w = .isRef (.static Bundle.tN "UNASSIGNED_STACK" Bundle.steD)
  · rw [e1]; exact hU
  · by_cases e2 : w = .isRef (.static Bundle.tN "SUPPRESSED_SENTINEL" Bundle.listD)
    · rw [e2]; exact hN
    · by_cases e3 : w = .laysStatic Bundle.tN "UNASSIGNED_STACK" Bundle.steD
      · rw [e3]; exact lU
      · by_cases e4 : w = .laysStatic Bundle.tN "SUPPRESSED_SENTINEL" Bundle.listD
        · rw [e4]; exact lN
        · exact h1 w (List.mem_filter.mpr ⟨hw, by unfold vx_no; rw [decide_eq_true e1, decide_eq_true e2, decide_eq_true e3, decide_eq_true e4]; rfl⟩)
/-- where a static field lies, its class's statics cell in H -/
def vx_L (C n d : String) (A : Nat → Prop) (U : State) (H : Heap) : Prop := ∃ (c : ClassId) (k : Class) (i : Nat) (f : Field) (a : Nat) (cell : Cell), U.vm.findClass C = some c ∧ U.fieldFound? C n d = some (c, k, i, f) ∧ f.isStatic = true ∧ k.statics = some a ∧ H[a]? = some cell ∧ cell.vm.isStatics = true ∧ cell.cls = c ∧ f.slot < cell.slots.size ∧ k.staticTypes[f.slot]? = some f.type ∧ ¬ A a
theorem vx_L.moved {C n d : String} {A : Nat → Prop} {u U : State} {H : Heap} (hvm : u.vm.Alike U.vm) (h : vx_L C n d A u H) : vx_L C n d A U H := by
  obtain ⟨c, k, i, f, a, cell, h1, h2, h3, h4, h5, h6, h7, h8, h9, h10⟩ := h
  obtain ⟨k', hi', he⟩ := State.fieldFound?_setVm hvm h2
  exact ⟨c, k', i, f, a, cell, by rw [hvm.findClass]; exact h1, hi', h3, by rw [he]; exact h4, h5, h6, h7, h8, by rw [he]; exact h9, h10⟩
theorem vx_L.kept {C n d : String} {A : Nat → Prop} {U : State} {H H1 : Heap} (h : vx_L C n d A U H) (hq : ∀ a : Nat, a < H.size → ¬ A a → H1[a]? = H[a]?) : vx_L C n d A U H1 := by
  obtain ⟨c, k, i, f, a, cell, h1, h2, h3, h4, h5, h6, h7, h8, h9, h10⟩ := h
  exact ⟨c, k, i, f, a, cell, h1, h2, h3, h4, by rw [hq a (Array.getElem?_eq_some_iff.mp h5).1 h10]; exact h5, h6, h7, h8, h9, h10⟩
theorem vx_L.narrow {C n d : String} {A B : Nat → Prop} {U : State} {H : Heap} (h : vx_L C n d A U H) (hAB : ∀ q, B q → A q) : vx_L C n d B U H := by
  obtain ⟨c, k, i, f, a, cell, h1, h2, h3, h4, h5, h6, h7, h8, h9, h10⟩ := h
  exact ⟨c, k, i, f, a, cell, h1, h2, h3, h4, h5, h6, h7, h8, h9, fun z => h10 (hAB _ z)⟩
theorem vx_L.word {C n d : String} {A : Nat → Prop} {s : State} {args : Array Value} (h : vx_L C n d A s s.heap) : (Cond.laysStatic C n d).before args s = true := by
  obtain ⟨c, k, i, f, a, cell, h1, h2, h3, h4, h5, h6, h7, h8, h9, -⟩ := h
  show (Cond.laysStatic C n d).holds args s none s [] = true
  exact Cond.laysStatic_of h1 h2 h3 h4 h5 h6 h7 h8 h9
/-- .. and what it holds: null or some reference -/
def vx_Zq (C n d : String) (A : Nat → Prop) (U : State) (H : Heap) : Prop := va_Zq C n d A U H ∧ vx_L C n d A U H
theorem vx_Zq.moved {C n d : String} {A : Nat → Prop} {u U : State} {H : Heap} (hvm : u.vm.Alike U.vm) (h : vx_Zq C n d A u H) : vx_Zq C n d A U H := ⟨va_Zq.moved hvm h.1, vx_L.moved hvm h.2⟩
theorem vx_Zq.kept {C n d : String} {A : Nat → Prop} {U : State} {H H1 : Heap} (h : vx_Zq C n d A U H) (hq : ∀ a : Nat, a < H.size → ¬ A a → H1[a]? = H[a]?) : vx_Zq C n d A U H1 := ⟨va_Zq.kept h.1 hq, vx_L.kept h.2 hq⟩
theorem vx_Zq.narrow {C n d : String} {A B : Nat → Prop} {U : State} {H : Heap} (h : vx_Zq C n d A U H) (hAB : ∀ q, B q → A q) : vx_Zq C n d B U H := ⟨va_Zq.narrow h.1 hAB, vx_L.narrow h.2 hAB⟩
theorem vx_Zqof {args : Array Value} {s : State} {C n d : String} {A : Nat → Prop} (hl : (Cond.laysStatic C n d).before args s = true) (hini : (Cond.initialized C).before args s = true) (h : (Cond.isRef (.static C n d)).before args s = true) (hA : ∀ a : Nat, a < s.heap.size → ¬ A a) : vx_Zq C n d A s s.heap := by
  refine ⟨va_Zqof hl hini h hA, ?_⟩
  obtain ⟨c, k, i, f, a, cell, h1, h2, h3, h4, h5, h6, h7, h8, h9⟩ := Cond.laysStatic_spec hl
  exact ⟨c, k, i, f, a, cell, h1, h2, h3, h4, h5, h6, h7, h8, h9, hA a (Array.getElem?_eq_some_iff.mp h5).1⟩
theorem vx_isRef {C n d : String} {v : Value} {A : Nat → Prop} {s : State} {args : Array Value} (h : va_Z C n d v A s s.heap) (hv : v.isRef = true) : (Cond.isRef (.static C n d)).before args s = true := by
  obtain ⟨cf, kf, fi, f, a, cell, h1, h2, h3, h4, h5, h6, h7, -⟩ := h
  have he : (Term.static C n d).eval args s none [] s = some v := by
    simp [Term.eval, State.fieldNamed?, h1, h2, h4, h5, h6, h7]
  simp only [Cond.before, Cond.holds, Cond.value, he]
  cases v <;> simp_all [Value.isRef]
theorem vx_isRefq {C n d : String} {A : Nat → Prop} {s : State} {args : Array Value} (h : va_Zq C n d A s s.heap) : (Cond.isRef (.static C n d)).before args s = true := by
  rcases h with h | ⟨t, h⟩
  · exact vx_isRef h rfl
  · exact vx_isRef h rfl
/-- the same frame, seen from here: as if the method were called anew in this heap -/
theorem vx_rebase {T : State} (X : Stand p l e R s m args below meth c T locs cells slots) {R' : Room} (hf : R'.frames ≤ R.frames) (hl : R'.locals ≤ R.locals) (hc : cells + R'.cells ≤ R.cells) (hs : slots + R'.slots ≤ R.slots) :
    Stand p l e R' ((T.setVm s.vm).setFrames (.invoking m args :: below)) m args below meth c T [] 0 0 := by
  have htop : (T.setVm s.vm).topJava?.isSome := X.here.top
  have hF : ((T.setVm s.vm).setFrames (.invoking m args :: below)).frames = .invoking m args :: below := State.frames_setFrames _ (State.cur_lt_of_top htop)
  obtain ⟨g₀, hg0⟩ := Option.isSome_iff_exists.mp htop
  obtain ⟨r, hr⟩ := State.topJava?_eq_some.mp hg0
  have hl9 : e.platform.stackLimits (T.setVm s.vm).me = e.platform.stackLimits s.me := X.limits
  have hb9 : (T.setVm s.vm).me.stackBytes = s.me.stackBytes := X.bytes
  refine ⟨X.admits, X.cas, X.clock, hF, ?_, X.hears, X.method, X.code, X.here, X.tail, X.warmed, ?_, ?_, ?_⟩
  · have h := X.room
    have hU : ((T.setVm s.vm).setFrames (.invoking m args :: below)).localsInUse = s.localsInUse := by
      rw [State.localsInUse_invoking hF (meth := meth) (c := c) X.method X.code, State.localsInUse_invoking X.frames X.method X.code]
    simp only [State.hasRoom, Bool.and_eq_true, decide_eq_true_eq] at h ⊢
    obtain ⟨⟨⟨⟨h1, h2, h3, h4, h5, h6⟩, h7⟩, h8⟩, h9⟩ := h
    rw [X.frames, List.length_cons] at h2 h3
    have q1 := X.heapSize
    have q2 := X.used
    simp only [hF, hU, List.length_cons, State.stackLimits_setFrames, State.stackBytes_setFrames, hl9, hb9]
    refine ⟨⟨⟨⟨by omega, by omega, by omega, by omega, by omega, h6⟩, ?_⟩, ?_⟩, X.book⟩
    · show T.heap.size + R'.cells ≤ e.platform.maxCells
      omega
    · show T.slotsUsed + R'.slots ≤ e.platform.maxSlots
      omega
  · rw [State.stackLimits_setFrames]; rfl
  · rw [State.stackBytes_setFrames]; rfl
  · refine ⟨?_, Nat.le_refl _, Nat.le_refl _, ?_, ?_, fun a c9 h9 => ⟨c9, h9, rfl, rfl, fun _ _ => rfl⟩⟩
    · obtain ⟨t, ht, -⟩ := State.frames_cons hr
      show T.setVm s.vm = { ((T.setVm s.vm).setFrames (.invoking m args :: below)).setFrames (T.setVm s.vm).frames with heap := T.heap, slotsUsed := T.slotsUsed }
      rw [State.setFrames_setFrames, State.setFrames_self ht]
      rfl
    · show T.slotsUsed = T.slotsUsed + ((T.heap.toList.drop T.heap.size).map (·.slots.size)).sum
      rw [List.drop_eq_nil_of_le (Nat.le_of_eq Array.length_toList)]
      rfl
    · show ((T.heap.toList.drop T.heap.size).map (·.slots.size)).sum ≤ 0
      rw [List.drop_eq_nil_of_le (Nat.le_of_eq Array.length_toList)]
      exact Nat.le_refl _
/-- 'throw new E()': new; dup; invokespecial; athrow -/
theorem vx_throw0 {cc : ByteArray} {pc : Nat} (hexec : p.tables.exec = Jvm.exec) (hb : c.code = cc) (hl : l.stackTraces = false) {own cls : String} {names : List String} {ik ic mc ms : Nat} {A : Nat → Prop}
    (hown : s.vm.findClass own = some m.cls) (hcls : Bundle.fit cls = true) (hnames : ∀ n ∈ names, Bundle.fit n = true)
    (hk : (Cond.classLink own ik cls).before args s = true) (hini : (Cond.initialized cls).before args s = true) (hat : ∀ w ∈ vx_at0 own ic cls names, w.before args s = true)
    (hgood : ∀ w ∈ Cond.classLink own ik cls :: Cond.initialized cls :: vx_at0 own ic cls names, vx_ot w = true)
    (hU : vx_Zq Bundle.tN "UNASSIGNED_STACK" Bundle.steD A s s.heap) (hN : vx_Zq Bundle.tN "SUPPRESSED_SENTINEL" Bundle.listD A s s.heap) (hS : va_S A s.heap H locs) (hsize : ls.size = c.maxLocals)
    (d0 : decode cc pc = .ok (.new ik, 3)) (d3 : decode cc (pc + 3) = .ok (.dup, 1)) (d4 : decode cc (pc + 4) = .ok (.invokespecial ic, 3)) (d7 : decode cc (pc + 7) = .ok (.athrow, 1))
    (hout : ∀ x ∈ c.exceptionTable.toList, covers x (pc + 7) = false)
    (hRframes : names.length + 3 < R.frames) (hRlocals : (rest.map fun v => v.category).sum + (13 * (names.length + 1) + 42) ≤ R.locals) (hRcells : cells + 1 ≤ R.cells) (hRslots : slots + 6 ≤ R.slots) (hlocks : meth.locks = false)
    (hx : ∀ t : State, s.vm.Alike t.vm → H.size ≤ t.heap.size → (∀ q : Nat, q < H.size → t.heap[q]? = H[q]?) → XC cls s t)
    (hf : ∀ z ∈ locs, free z.base) (hc : cells + 1 ≤ mc) (hs : slots + 6 ≤ ms) :
    W p l e R s m args below meth c H locs cells slots (vx_MQ below Qc XC args s mc ms free) (F0 m pc ls rest) := by
  intro T hT X
  have htr : e.platform.stackTraces = false := (show e.platform.stackTraces = l.stackTraces by rw [X.admits.platform]).trans hl
  have Y := vx_rebase X (R' := { frames := R.frames, locals := R.locals, cells := 1, slots := 6 }) (Nat.le_refl _) (Nat.le_refl _) hRcells hRslots
  obtain ⟨s', hA⟩ : ∃ z, z = (T.setVm s.vm).setFrames (.invoking m args :: below) := ⟨_, rfl⟩
  rw [← hA] at Y
  have hvm : s'.vm = s.vm := by rw [hA]; rfl
  have hhp : s'.heap = H := by rw [hA]; exact hT
  have hW0 : s.WarmedH s'.vm := by rw [hvm]; exact State.WarmedH.refl s
  have hat' : ∀ w ∈ vx_at0 own ic cls names, w.before args s' = true := fun w hw => vx_ot_at hW0 hvm.symm (hgood w (List.mem_cons_of_mem _ (List.mem_cons_of_mem _ hw))) (hat w hw)
  have hk' : (Cond.classLink own ik cls).before args s' = true := vx_ot_at hW0 hvm.symm (hgood _ List.mem_cons_self) hk
  have hini' : (Cond.initialized cls).before args s' = true := vx_ot_at hW0 hvm.symm (hgood _ (List.mem_cons_of_mem _ List.mem_cons_self)) hini
  have hU' : vx_Zq Bundle.tN "UNASSIGNED_STACK" Bundle.steD A s' s'.heap := by rw [hhp]; exact vx_Zq.moved hW0.alike (hU.kept hS.2.1)
  have hN' : vx_Zq Bundle.tN "SUPPRESSED_SENTINEL" Bundle.listD A s' s'.heap := by rw [hhp]; exact vx_Zq.moved hW0.alike (hN.kept hS.2.1)
  have h : ∀ w ∈ Bundle.ownAtoms0 own ic cls names, w.before args s' = true := vx_own hat' (vx_isRefq hU'.1) (vx_isRefq hN'.1) hU'.2.word hN'.2.word
  have hown' : s'.vm.findClass own = some m.cls := by rw [hvm]; exact hown
  have hins : (Cond.instantiable cls 6).before args s' = true := h _ (by simp [Bundle.ownAtoms0])
  obtain ⟨vm₁, cX, kX, hfX, hkX, -, -, X₁, st1⟩ := Y.newCold hexec (own := own) (C := cls) (index := ik) (n := 6) hown' hk' hins hini'
    (g := F0 m pc ls rest) rfl (by rw [hb]; exact d0) (Nat.le_refl _) (Nat.le_refl _)
  generalize hT1 : (T.setVm vm₁).pushCell { cls := cX, slots := kX.instanceTypes.map defaultValue, vm := .none } = T1 at X₁ st1
  have hcat : (Value.ref T.heap.size).category = 1 := rfl
  have hcellA : T1.heap[T.heap.size]? = some (freshCell cX kX) := by rw [← hT1]; exact State.heap_pushCell_size _ _
  have d3' : decode c.code (pc + 3) = .ok (.dup, 1) := by rw [hb]; exact d3
  obtain ⟨U, hsteps, hrun, hend, hW, hsame, ce, hce, hO⟩ := X₁.ctorThrow0 hexec htr (own := own) (cls := cls) (names := names) (ic := ic) hown' hcls hnames h (fun x hx => nomatch hx) hfX hkX hcellA (by rw [hhp, hT]; exact Nat.le_refl _)
    (g := { method := m, pc := pc + 4, locals := ls, stack := .ref T.heap.size :: .ref T.heap.size :: rest, locked := none }) rfl hsize rfl rfl (rest := rest) rfl
    (by rw [hb]; exact d4) (by rw [hb]; exact d7) hout hRframes (by simp only [List.map_cons, List.sum_cons, hcat]; omega) hlocks
  obtain ⟨f1, f2⟩ := vx_frame hsame
  rw [hhp] at f1 f2
  have hWs : s.WarmedH U.vm := State.WarmedH.trans hW0 hW
  have hcl : s.vm.findClass cls = some ce.cls := by
    have h9 := hO.cls
    rw [hvm] at h9
    exact h9
  have hall : s.sameButNew ({ U with vm := s.vm } : State) locs mc ms := by
    subst hA
    obtain ⟨e1, e2⟩ := hsame
    rw [State.setFrames_setFrames] at e1
    have h2 : (T.setVm s.vm).sameButNew ({ U with vm := s.vm } : State) [] (0 + 1) (0 + 6) := ⟨e1, e2⟩
    have h3 := X.same.trans h2
    rw [List.append_nil] at h3
    exact h3.mono hc hs
  refine ⟨U, ?_, .threw T.heap.size, hrun, hend, Or.inr ⟨T.heap.size, rfl, cls, ce, locs, hx U hWs.alike f1 (fun q hq => f2 q hq (fun z hz => nomatch hz)), hce, hO.vm, hcl, hWs, hall, hf⟩⟩
  refine st1 _ ?_
  show Steps p.tables e below (T1.setTop { method := m, pc := pc + 3, locals := ls, stack := .ref T.heap.size :: rest, locked := none }) _
  jvm_step X₁.here [X₁.here.top, hexec, d3', Value.category]
  exact hsteps
end Ends
section Bodies
variable {l : Launch}
theorem vx_ofW {y : MethodName} {ws ws' : List Cond} {rm : Room} {Pc : Array Value → State → Prop} {Qc : Array Value → State → Outcome → State → Prop} {XC : String → State → State → Prop} {mc ms : Nat} {free : Addr → Prop} {cc : ByteArray} {maxL : Nat} {ret : Option FieldType}
    (hy : plainName y.cls = true) (hw : ws = Cond.code y cc maxL ret :: ws')
    (body : ∀ p e s m args below meth c s₁, BodyLoose p l y (headSpec ws rm) cc maxL ret e s m args below meth c s₁ → c.maxLocals = maxL → (∀ x ∈ c.exceptionTable.toList, False) → Pc args s →
      W p l e (headSpec ws rm).room s m args below meth c s.heap [] 0 0 (vx_MQ below Qc XC args s mc ms free) (entryFrame m args maxL)) : vx_Met l y ws rm Pc Qc XC mc ms free := by
  refine MetFree.of_bodyS (code := cc) (maxLocals := maxL) (ret := ret) hy ?_ ?_
  · intro args s m h hn
    obtain ⟨meth, c, h1, h2, h3, h4, h5, h6, -, -⟩ := Cond.code_spec hn (atoms_spec (ws := ws) h _ (by rw [hw]; exact List.mem_cons_self))
    exact ⟨meth, c, h1, h2, h3, h4, h5, h6⟩
  · intro p e s m args below meth c s₁ B hml hP _
    have hh0 : s₁.heap = s.heap := by rw [B.state]; rfl
    have ht : ∀ x ∈ c.exceptionTable.toList, False := by
      obtain ⟨meth9, c9, h1, h2, -, -, -, -, h7, -⟩ := Cond.code_spec B.named (atoms_spec (ws := ws) B.pre _ (by rw [hw]; exact List.mem_cons_self))
      cases Option.some.inj (h1.symm.trans B.method)
      cases Option.some.inj (h2.symm.trans (Stand.of_body B).code)
      intro x hx
      rw [Array.isEmpty_iff.mp h7] at hx
      cases hx
    obtain ⟨t, a1, o, b1, b2, b3⟩ := body p e s m args below meth c s₁ B hml ht hP s₁ hh0 (Stand.of_body B)
    exact ⟨t, o, a1, b1, b2, b3⟩
/-- the table of a body with handlers -/
theorem vx_table {p : Program} {x y : MethodName} {S : Spec} {cc bytes : ByteArray} {maxL maxL' : Nat} {ret ret' : Option FieldType} {e : Env} {s s₁ : State} {m : MethodId} {args : Array Value} {below : List Frame} {meth : Method} {c : Code} {hh : List (Nat × Nat × Nat × Nat)}
    (B : BodyLoose p l y S cc maxL ret e s m args below meth c s₁) (h : (Cond.codeWith y bytes maxL' ret' hh).before args s = true) : c.exceptionTable.toList = tableOf hh := by
  obtain ⟨m9, meth9, c9, hn9, h1, h2, -, -, h6, -⟩ := Cond.codeWith_spec h
  cases Option.some.inj (hn9.symm.trans B.named)
  cases Option.some.inj (h1.symm.trans B.method)
  cases Option.some.inj (h2.symm.trans (Stand.of_body B).code)
  rw [← h6, table_eq]
end Bodies
end VXA
/-! ===== END ===== -/
/-! ===== BEGIN a static call of a method with an exception table ===== -/
section VXS
variable {p : Program} {l : Launch} {e : Env} {R : Room} {s : State} {m : MethodId} {args : Array Value} {below : List Frame} {meth : Method} {c : Code} {T : State} {H : Heap} {locs : List Loc} {cells slots : Nat}
abbrev vx_CSW (R : Room) (s : State) (args : Array Value) (own : String) (index : Nat) (y : MethodName) (bytes : ByteArray) (maxL : Nat) (ret : Option FieldType) (hh : List (Nat × Nat × Nat × Nat)) (ws : List Cond) (rm : Room) (mc ms n : Nat) : Prop :=
  (rm.cells = mc ∧ rm.slots = ms ∧ rm.frames + 1 ≤ R.frames ∧ 8 + (maxL + 11) + rm.locals ≤ R.locals ∧ (∀ w ∈ ws, ∀ (a' : Array Value) (U : State), s.WarmedH U.vm → w.before a' U = true) ∧ Cond.codeWith y bytes maxL ret hh ∈ ws) ∧
  (Cond.codeWith y bytes maxL ret hh).before args s = true ∧ (Cond.initialized y.cls).before args s = true ∧ (y.cls ≠ "java/lang/invoke/MethodHandle" ∧ y.cls ≠ "java/lang/invoke/VarHandle") ∧
  (∀ sig, parseMethodDescriptor y.desc = some sig → n = sig.parameters.length) ∧ (Cond.methodLink own index y).before args s = true ∧ (Cond.static y).before args s = true
theorem vx_cwSW {own : String} {index maxL mc ms : Nat} {y : MethodName} {bytes : ByteArray} {ret : Option FieldType} {hh : List (Nat × Nat × Nat × Nat)} {Ts ws ws' : List Cond} {rm : Room} (n : Nat) (ht : ∀ w ∈ Ts, w.before args s = true) (hT : GoodIn Ts (va_wsS own index y ws)) (hw : ws = Cond.codeWith y bytes maxL ret hh :: ws') (hrc : rm.cells = mc) (hrs : rm.slots = ms)
    (hd : y.cls ≠ "java/lang/invoke/MethodHandle" ∧ y.cls ≠ "java/lang/invoke/VarHandle" ∧ (parseMethodDescriptor y.desc).map (fun d => d.parameters.length) = some n) (hR : rm.frames + 1 ≤ R.frames ∧ 8 + (maxL + 11) + rm.locals ≤ R.locals) :
    vx_CSW R s args own index y bytes maxL ret hh ws rm mc ms n := by
  have ok : ∀ w ∈ va_wsS own index y ws, w.before args s = true := fun w h => ht w (hT w h).1
  have hG : GoodIn Ts ws := fun w h => hT w (by unfold va_wsS; exact List.mem_append_right _ h)
  have hc : Cond.codeWith y bytes maxL ret hh ∈ ws := by rw [hw]; exact List.mem_cons_self
  refine ⟨⟨hrc, hrs, hR.1, hR.2, pay_in ht hG, hc⟩, ht _ (hG _ hc).1, ok _ (by simp [va_wsS]), ⟨hd.1, hd.2.1⟩, fun sig h => ?_, ok _ (by simp [va_wsS]), ok _ (by simp [va_wsS])⟩
  have h2 := hd.2.2
  rw [h] at h2
  exact (Option.some.inj h2).symm
theorem vx_callSW (X : Stand p l e R s m args below meth c T locs cells slots) (hexec : p.tables.exec = Jvm.exec) {own : String} {index : Nat} {y : MethodName} {bytes : ByteArray} {maxL : Nat} {ret : Option FieldType} {hh : List (Nat × Nat × Nat × Nat)}
    (hown : s.vm.findClass own = some m.cls) (hlink : (Cond.methodLink own index y).before args s = true) (hstat : (Cond.static y).before args s = true) (hinit : (Cond.initialized y.cls).before args s = true)
    (hcode : (Cond.codeWith y bytes maxL ret hh).before args s = true) (hy : y.cls ≠ "java/lang/invoke/MethodHandle" ∧ y.cls ≠ "java/lang/invoke/VarHandle")
    {W9 : Nat} {Pre : Pt → Array Value → Prop} {Post : Pt → Array Value → Option Value → Pt → Prop} (hK : Back l R p e below s args y 3 W9 Pre Post)
    {g : JFrame} (hg : g.method = m) (hsize : g.locals.size = c.maxLocals) {argsL rest : List Value} (hlen : ∀ sig, parseMethodDescriptor y.desc = some sig → argsL.length = sig.parameters.length)
    (hstack : g.stack = argsL.reverse ++ rest) (hW : 2 * g.monitorRoom + (rest.map fun v => v.category).sum ≤ W9) (hdg : decode c.code g.pc = .ok (.invokestatic index, 3))
    (hpre : ∀ vm₁, s.WarmedH vm₁ → Pre ⟨T.setVm vm₁, locs, cells, slots⟩ argsL.toArray) :
    ∃ (v : Option Value) (vm₁ : Vm) (B : Pt), s.WarmedH vm₁ ∧ Stand p l e R s m args below meth c B.U B.locs B.cells B.slots ∧ Post ⟨T.setVm vm₁, locs, cells, slots⟩ argsL.toArray v B ∧
      ∀ target, Steps p.tables e below (B.U.setTop { g with pc := g.pc + 3, stack := v.toList ++ rest }) target → Steps p.tables e below (T.setTop g) target := by
  obtain ⟨mk, methM, cM, hnamed, hmethM, -, -, -, -, -, -, hsigM⟩ := Cond.codeWith_spec hcode
  have hstatic : methM.isStatic = true := Cond.static_spec hnamed hmethM hstat
  obtain ⟨kP, hkP, -⟩ := className_of_methodNamed hnamed
  have hinitP : kP.init = .initialized := Cond.initialized_spec (findClass_of_methodNamed hnamed) hkP hinit
  obtain ⟨vm₁, X₁, hstep₁⟩ := X.invokestatic hexec hown hlink hnamed hmethM hstatic hkP hinitP hy (g := g) hg (argsL := argsL) (rest := rest) (hlen _ hsigM) hstack hdg
  obtain ⟨v, B, X', hpost, hsteps⟩ := hK m meth c ⟨T.setVm vm₁, locs, cells, slots⟩ { g with stack := rest } (.invokestatic index) mk argsL.toArray X₁ hg hsize hdg hW (X₁.named hnamed) (hpre vm₁ X₁.warmed)
  exact ⟨v, vm₁, B, X₁.warmed, X', hpost, fun target h => hstep₁ _ fun acts => by rw [doInvoke_state]; exact hsteps.trans h⟩
theorem vx_runSW {y : MethodName} {bytes cc : ByteArray} {maxL nL mc ms n index : Nat} {ret : Option FieldType} {hh : List (Nat × Nat × Nat × Nat)} {ws : List Cond} {rm : Room} {Pc : Array Value → State → Prop} {Qc : Array Value → State → Outcome → State → Prop} {free : Addr → Prop} {Ts : List Cond} {own : String} {As rest : List Value} {g : JFrame}
    (S : CallFix p m c cc nL s args Ts own) (hM : Met l y ws rm Pc Qc mc ms free) (cw : vx_CSW R s args own index y bytes maxL ret hh ws rm mc ms n) (hp : PreS s H Pc As)
    (hg : g.method = m) (hn : As.length = n) (hsize : g.locals.size = nL) (hstack : g.stack = As.reverse ++ rest) (hW : 2 * g.monitorRoom + (rest.map fun v => v.category).sum ≤ 8) (hdg : decode cc g.pc = .ok (.invokestatic index, 3)) (hf : cells + mc ≤ R.cells ∧ slots + ms ≤ R.slots) :
    va_Run p l e R s m args below meth c H locs cells slots mc ms g rest (Qc As.toArray) (free) := by
  obtain ⟨⟨hrc, hrs, hfr, hlo, hws, hcw⟩, hcode, hini, hy, hlen, hl, hstt⟩ := cw
  have hK : Back l R p e below s args y 3 8 (PreOf R mc ms Pc) (PostOf Qc mc ms free) := va_backW (hh := hh) (bytes := bytes) (maxL := maxL) (ret := ret) hM hp.1 hrc hrs hfr hlo hws hcw (fun a' U hW => word_at hW (Or.inl (by first | rfl | simp [Cond.onTables, Cond.keeps, Cond.steady])) hini)
  obtain ⟨hx, hb, hml, ho, -⟩ := S
  intro T hT X
  obtain ⟨v, vm₁, ⟨U', l2, c2, s2⟩, hW₁, X', ⟨g', mk, t, L, e1, e2, hq, h1, hL, h2, h3⟩, st⟩ := vx_callSW X hx (hh := hh) (bytes := bytes) (maxL := maxL) (ret := ret) ho hl hstt hini hcode hy hK hg (hsize.trans hml.symm) (argsL := As) (rest := rest) (fun sig h => hn.trans (hlen sig h)) hstack hW (by rw [hb]; exact hdg)
    (fun vm₁ hW₁ => ⟨hf.1, hf.2, hp.2 (T.setVm vm₁) hT hW₁⟩)
  dsimp only [Pt.U, Pt.locs, Pt.cells, Pt.slots] at X' e1 e2 h1 h2 h3 st
  subst h1; subst h2; subst h3
  exact ⟨v, (T.setVm vm₁).calling g' mk As.toArray, t, U', L, hT, X', hL, e1, e2, hq, st⟩
/-- not caught here, past rows that name other classes: it goes on to the caller -/
theorem vx_lt {D : va_G} {cl : List vw_C} {ws : va_W} {H1 : Heap} (h : va_P D cl ws H1) {k : Nat} {q : Nat × va_E} (hk : ws[k]? = some q) : q.1 < H1.size := (h k q hk).lt
end VXS
/-! ===== END ===== -/
/-! ===== BEGIN methods with a table of their own: called by a name, returning or throwing ===== -/
section VXH
/-! vx_backW, vx_callVX, vx_callSX, vx_callVW, vx_runVW, vx_runVX, vx_runSX, vx_ofWH follow the same proofs as their sisters above (Free/Laws.lean, Shelf42/LK1.lean); vx_outP calls Shelf42/NT130.lean (outThrough). -/
section
variable {l : Launch} {R : Room} {p : Program} {e : Env} {below : List Frame} {s : State} {sargs : Array Value} {y : MethodName} {len W9 : Nat}
theorem vx_backW {ws : List Cond} {rm : Room} {Pc : Array Value → State → Prop} {Qc : Array Value → State → Outcome → State → Prop} {XC : String → State → State → Prop} {mc ms : Nat} {free : Addr → Prop} {bytes : ByteArray} {maxL : Nat} {ret : Option FieldType} {hh : List (Nat × Nat × Nat × Nat)}
    (hM : vx_Met l y ws rm Pc Qc XC mc ms free) (hblind : FrameBlind Pc) (hrc : rm.cells = mc) (hrs : rm.slots = ms)
    (hframes : rm.frames + 1 ≤ R.frames) (hlocals : W9 + (maxL + 11) + rm.locals ≤ R.locals)
    (hws : ∀ w ∈ ws, ∀ a' U, s.WarmedH U.vm → w.before a' U = true) (hcode : Cond.codeWith y bytes maxL ret hh ∈ ws) (hinit : ∀ a' U, s.WarmedH U.vm → (Cond.initialized y.cls).before a' U = true) :
    vx_Back l R p e below s sargs y len W9 (PreOf R mc ms Pc) (PostOf Qc mc ms free) (vx_Post XC mc ms free) := by
  intro m meth c A g ig mk a X hg hsize hdg hW hn hp
  have h1 : (headSpec ws rm).pre.before a A.U = true := atoms_intro fun w hw => hws w hw _ _ X.warmed
  have h2 : (Cond.codeWith y bytes maxL ret hh).before a A.U = true := hws _ hcode _ _ X.warmed
  have h3 : (Cond.initialized y.cls).before a A.U = true := hinit _ _ X.warmed
  have h4 : A.cells + (headSpec ws rm).room.cells ≤ R.cells := by rw [show (headSpec ws rm).room.cells = mc from hrc]; exact hp.1
  have h5 : A.slots + (headSpec ws rm).room.slots ≤ R.slots := by rw [show (headSpec ws rm).room.slots = ms from hrs]; exact hp.2.1
  have hPc : Pc a (A.U.calling g mk a) := hblind _ _ _ _ hp.2.2
  obtain ⟨U, Ls, c0, s0⟩ := A
  dsimp only [Pt.U, Pt.locs, Pt.cells, Pt.slots] at h1 h2 h3 h4 h5 X hn hPc ⊢
  obtain ⟨m9, methY, cY, hn9, hmY, hcY, -, hlY, -⟩ := Cond.codeWith_spec h2
  cases Option.some.inj (hn9.symm.trans hn)
  obtain ⟨kY, hkY, -⟩ := className_of_methodNamed hn
  have hinitY : kY.init = .initialized := Cond.initialized_spec (findClass_of_methodNamed hn) hkY h3
  have h : At U g.method c below := by rw [hg]; exact X.here
  have hlocals9 : W9 + (maxL + 11) + (headSpec ws rm).room.locals ≤ R.locals := hlocals
  have happ : (headSpec ws rm).appliesLoose y e.platform (U.calling g mk a) = true :=
    Spec.appliesLoose_calling (g := g) h hdg hn hkY hinitY
      (X.room_calling (g := g) (R' := (headSpec ws rm).room) hsize hmY hcY hframes (by rw [hlY]; omega) h4 h5) h1
  obtain ⟨mid, hmid⟩ := h.above
  have hfr : (U.setTop g).frames = (.java g :: mid) ++ below := by rw [State.frames_setTop' g h.top, hmid]; rfl
  obtain ⟨o, s₂, hsteps, -, hend, hq⟩ := Steps.callFree hM p X.admits X.cas X.clock (acts := []) hfr happ hPc trivial
  have hq' : vx_Q Qc XC mc ms free a (U.calling g mk a) o s₂ := hq
  rw [State.frames_setTop' g h.top] at hend
  obtain ⟨g₀, hg0⟩ := Option.isSome_iff_exists.mp h.top
  obtain ⟨r, hr⟩ := State.topJava?_eq_some.mp hg0
  have hr' : (({ U with heap := s₂.heap, slotsUsed := s₂.slotsUsed } : State).setVm s₂.vm).frames = .java g₀ :: r := hr
  rcases hq' with ⟨hqc, L, hfe, hL⟩ | ⟨q, rfl, E, ce, L, hx, hce, hcv, hcl, hW₂, hsm, hL⟩
  · obtain ⟨⟨v, rfl⟩, hW₂, e2, q2, q3, q4, q5, q6⟩ := id hfe
    have e3 : s₂ = ({ (U.calling g mk a).setFrames s₂.frames with heap := s₂.heap, slotsUsed := s₂.slotsUsed } : State).setVm s₂.vm := by
      have : s₂ = ({ s₂ with vm := (U.calling g mk a).vm } : State).setVm s₂.vm := rfl
      rw [e2] at this
      exact this
    obtain ⟨c₂, i₂, len₂, hc₂, hd₂, hf₂⟩ := hend
    have hW' : U.WarmedH s₂.vm := hW₂
    have hcc : c₂ = c := by
      have h1 : s₂.code? g.method = U.code? g.method := by
        rw [State.code?_eq, State.code?_eq, hW'.alike.method?]
      exact Option.some.inj (hc₂.symm.trans (h1.trans h.code))
    subst hcc
    have hlen : len₂ = len := by rw [hdg] at hd₂; cases hd₂; rfl
    subst hlen
    have hs₂ : s₂ = (({ U with heap := s₂.heap, slotsUsed := s₂.slotsUsed } : State).setVm s₂.vm).setTop { g with pc := g.pc + len₂, stack := v.toList ++ g.stack } := by
      refine e3.trans ?_
      rw [hf₂, State.calling_eq h.top, State.setFrames_setFrames, State.setTop_of_frames _ hr', hr]
      rfl
    have hsame : U.sameButNew ({ U with heap := s₂.heap, slotsUsed := s₂.slotsUsed } : State) L mc ms := by
      refine ⟨?_, q2, q3, q4, q5, q6⟩
      obtain ⟨t, ht, -⟩ := State.frames_cons hr
      show ({ U with heap := s₂.heap, slotsUsed := s₂.slotsUsed } : State) = { U.setFrames U.frames with heap := s₂.heap, slotsUsed := s₂.slotsUsed }
      rw [State.setFrames_self ht]
    subst hg
    refine Or.inl ⟨v, ⟨(({ U with heap := s₂.heap, slotsUsed := s₂.slotsUsed } : State).setVm s₂.vm), Ls ++ L, c0 + mc, s0 + ms⟩,
      ⟨X.admits, X.cas, X.clock, X.frames, X.room, X.hears, X.method, X.code, (X.here.setHeapUsed s₂.heap s₂.slotsUsed).setVm hW'.alike, X.tail, State.WarmedH.trans X.warmed hW', X.limits, X.bytes, X.same.trans (hsame.setVm s.vm)⟩,
      ⟨g, mk, s₂, L, rfl, rfl, hqc, rfl, hL, rfl, rfl⟩, ?_⟩
    show Steps p.tables e below _ ((({ U with heap := s₂.heap, slotsUsed := s₂.slotsUsed } : State).setVm s₂.vm).setTop { g with pc := g.pc + len₂, stack := v.toList ++ g.stack })
    rw [← hs₂]
    exact hsteps
  · obtain ⟨e2, q2, q3, q4, q5, q6⟩ := id hsm
    have e3 : s₂ = ({ (U.calling g mk a).setFrames s₂.frames with heap := s₂.heap, slotsUsed := s₂.slotsUsed } : State).setVm s₂.vm := by
      have : s₂ = ({ s₂ with vm := (U.calling g mk a).vm } : State).setVm s₂.vm := rfl
      rw [e2] at this
      exact this
    have hf₂ : s₂.frames = .throwing q :: .java g :: U.frames.tail := hend
    have hW' : U.WarmedH s₂.vm := hW₂
    have hs₂ : s₂ = ((({ U with heap := s₂.heap, slotsUsed := s₂.slotsUsed } : State).setVm s₂.vm).setTop g).pushFrame (.throwing q) := by
      refine e3.trans ?_
      rw [hf₂, State.calling_eq h.top, State.setFrames_setFrames, State.pushFrame, State.frames_setTop _ hr', State.setTop_of_frames _ hr', State.setFrames_setFrames, hr]
      rfl
    have hsame : U.sameButNew ({ U with heap := s₂.heap, slotsUsed := s₂.slotsUsed } : State) L mc ms := by
      refine ⟨?_, q2, q3, q4, q5, q6⟩
      obtain ⟨t, ht, -⟩ := State.frames_cons hr
      show ({ U with heap := s₂.heap, slotsUsed := s₂.slotsUsed } : State) = { U.setFrames U.frames with heap := s₂.heap, slotsUsed := s₂.slotsUsed }
      rw [State.setFrames_self ht]
    subst hg
    refine Or.inr ⟨q, ⟨(({ U with heap := s₂.heap, slotsUsed := s₂.slotsUsed } : State).setVm s₂.vm), Ls ++ L, c0 + mc, s0 + ms⟩,
      ⟨X.admits, X.cas, X.clock, X.frames, X.room, X.hears, X.method, X.code, (X.here.setHeapUsed s₂.heap s₂.slotsUsed).setVm hW'.alike, X.tail, State.WarmedH.trans X.warmed hW', X.limits, X.bytes, X.same.trans (hsame.setVm s.vm)⟩,
      ⟨g, mk, s₂, L, E, ce, rfl, rfl, hx, hce, hcv, hcl, rfl, hL, rfl, rfl⟩, ?_⟩
    show Steps p.tables e below _ (((({ U with heap := s₂.heap, slotsUsed := s₂.slotsUsed } : State).setVm s₂.vm).setTop g).pushFrame (.throwing q))
    rw [← hs₂]
    exact hsteps
end
variable {p : Program} {l : Launch} {e : Env} {R : Room} {s : State} {m : MethodId} {args : Array Value} {below : List Frame} {meth : Method} {c : Code} {T : State} {H : Heap} {locs : List Loc} {cells slots : Nat}
theorem vx_callVX (X : Stand p l e R s m args below meth c T locs cells slots) (hexec : p.tables.exec = Jvm.exec) {own C : String} {index : Nat} {y : MethodName} {bytes : ByteArray} {maxL : Nat} {ret : Option FieldType} {hh : List (Nat × Nat × Nat × Nat)}
    (hown : s.vm.findClass own = some m.cls) (hlink : (Cond.methodLink own index y).before args s = true) (hinst : (Cond.instanceMethod y).before args s = true) (hsel : (Cond.selects C y y).before args s = true)
    (hcode : (Cond.codeWith y bytes maxL ret hh).before args s = true) (hy : y.cls ≠ "java/lang/invoke/MethodHandle" ∧ y.cls ≠ "java/lang/invoke/VarHandle")
    {W9 : Nat} {Pre : Pt → Array Value → Prop} {Post : Pt → Array Value → Option Value → Pt → Prop} {PostX : Pt → Array Value → Addr → Pt → Prop} (hK : vx_Back l R p e below s args y 3 W9 Pre Post PostX)
    {b : Addr} {cellB : Cell} (hcell : T.heap[b]? = some cellB) (hobj : cellB.vm.isStatics = false) (hcls : s.vm.findClass C = some cellB.cls)
    {g : JFrame} (hg : g.method = m) (hsize : g.locals.size = c.maxLocals) {argsL rest : List Value} (hlen : ∀ sig, parseMethodDescriptor y.desc = some sig → argsL.length = sig.parameters.length)
    (hstack : g.stack = argsL.reverse ++ .ref b :: rest) (hW : 2 * g.monitorRoom + (rest.map fun v => v.category).sum ≤ W9) (hdg : decode c.code g.pc = .ok (.invokevirtual index, 3))
    (hpre : ∀ vm₁, s.WarmedH vm₁ → Pre ⟨T.setVm vm₁, locs, cells, slots⟩ (Value.ref b :: argsL).toArray) :
    (∃ (v : Option Value) (vm₁ : Vm) (B : Pt), s.WarmedH vm₁ ∧ Stand p l e R s m args below meth c B.U B.locs B.cells B.slots ∧ Post ⟨T.setVm vm₁, locs, cells, slots⟩ (Value.ref b :: argsL).toArray v B ∧
      ∀ target, Steps p.tables e below (B.U.setTop { g with pc := g.pc + 3, stack := v.toList ++ rest }) target → Steps p.tables e below (T.setTop g) target) ∨
    (∃ (q : Addr) (vm₁ : Vm) (B : Pt), s.WarmedH vm₁ ∧ Stand p l e R s m args below meth c B.U B.locs B.cells B.slots ∧ PostX ⟨T.setVm vm₁, locs, cells, slots⟩ (Value.ref b :: argsL).toArray q B ∧
      Steps p.tables e below (T.setTop g) ((B.U.setTop { g with stack := rest }).pushFrame (.throwing q))) := by
  obtain ⟨mk, methM, hnamed, hmethM, hstM, habM⟩ := Cond.instanceMethod_spec hinst
  obtain ⟨m8, methM', cM, hn8, hmethM', -, -, -, -, -, -, hsigM⟩ := Cond.codeWith_spec hcode
  cases Option.some.inj (hn8.symm.trans hnamed)
  cases hmethM.symm.trans hmethM'
  obtain ⟨c2, r2, m2, q1, q2, q3, q4, kP, hkP, hkPi⟩ := Cond.selects_spec hsel
  cases hcls.symm.trans q1
  cases (State.methodFound?_of_named hnamed hy).symm.trans q2
  cases hnamed.symm.trans q3
  have hselP : selectMethod e.platform s.vm cellB.cls mk = .method mk := by rw [Launch.admits_selectMethod X.admits]; exact q4
  obtain ⟨vm₁, X₁, hstep₁⟩ := X.invokevirtual hexec hown hlink hnamed hmethM hstM hkP hkPi hy (a := b) (cell := cellB) hcell
    (fun z h => by rw [h] at hobj; cases hobj) hselP hmethM habM hkP hkPi (g := g) hg (argsL := argsL) (rest := rest) (hlen _ hsigM) hstack hdg
  rcases hK m meth c ⟨T.setVm vm₁, locs, cells, slots⟩ { g with stack := rest } (.invokevirtual index) mk (Value.ref b :: argsL).toArray X₁ hg hsize hdg hW (X₁.named hnamed) (hpre vm₁ X₁.warmed) with ⟨v, B, X', hpost, hsteps⟩ | ⟨q, B, X', hpost, hsteps⟩
  · exact Or.inl ⟨v, vm₁, B, X₁.warmed, X', hpost, fun target h => hstep₁ _ fun acts => by rw [doInvoke_state]; exact hsteps.trans h⟩
  · exact Or.inr ⟨q, vm₁, B, X₁.warmed, X', hpost, hstep₁ _ fun acts => by rw [doInvoke_state]; exact hsteps⟩
theorem vx_callSX (X : Stand p l e R s m args below meth c T locs cells slots) (hexec : p.tables.exec = Jvm.exec) {own : String} {index : Nat} {y : MethodName} {bytes : ByteArray} {maxL : Nat} {ret : Option FieldType} {hh : List (Nat × Nat × Nat × Nat)}
    (hown : s.vm.findClass own = some m.cls) (hlink : (Cond.methodLink own index y).before args s = true) (hstat : (Cond.static y).before args s = true) (hinit : (Cond.initialized y.cls).before args s = true)
    (hcode : (Cond.codeWith y bytes maxL ret hh).before args s = true) (hy : y.cls ≠ "java/lang/invoke/MethodHandle" ∧ y.cls ≠ "java/lang/invoke/VarHandle")
    {W9 : Nat} {Pre : Pt → Array Value → Prop} {Post : Pt → Array Value → Option Value → Pt → Prop} {PostX : Pt → Array Value → Addr → Pt → Prop} (hK : vx_Back l R p e below s args y 3 W9 Pre Post PostX)
    {g : JFrame} (hg : g.method = m) (hsize : g.locals.size = c.maxLocals) {argsL rest : List Value} (hlen : ∀ sig, parseMethodDescriptor y.desc = some sig → argsL.length = sig.parameters.length)
    (hstack : g.stack = argsL.reverse ++ rest) (hW : 2 * g.monitorRoom + (rest.map fun v => v.category).sum ≤ W9) (hdg : decode c.code g.pc = .ok (.invokestatic index, 3))
    (hpre : ∀ vm₁, s.WarmedH vm₁ → Pre ⟨T.setVm vm₁, locs, cells, slots⟩ argsL.toArray) :
    (∃ (v : Option Value) (vm₁ : Vm) (B : Pt), s.WarmedH vm₁ ∧ Stand p l e R s m args below meth c B.U B.locs B.cells B.slots ∧ Post ⟨T.setVm vm₁, locs, cells, slots⟩ argsL.toArray v B ∧
      ∀ target, Steps p.tables e below (B.U.setTop { g with pc := g.pc + 3, stack := v.toList ++ rest }) target → Steps p.tables e below (T.setTop g) target) ∨
    (∃ (q : Addr) (vm₁ : Vm) (B : Pt), s.WarmedH vm₁ ∧ Stand p l e R s m args below meth c B.U B.locs B.cells B.slots ∧ PostX ⟨T.setVm vm₁, locs, cells, slots⟩ argsL.toArray q B ∧
      Steps p.tables e below (T.setTop g) ((B.U.setTop { g with stack := rest }).pushFrame (.throwing q))) := by
  obtain ⟨mk, methM, cM, hnamed, hmethM, -, -, -, -, -, -, hsigM⟩ := Cond.codeWith_spec hcode
  have hstatic : methM.isStatic = true := Cond.static_spec hnamed hmethM hstat
  obtain ⟨kP, hkP, -⟩ := className_of_methodNamed hnamed
  have hinitP : kP.init = .initialized := Cond.initialized_spec (findClass_of_methodNamed hnamed) hkP hinit
  obtain ⟨vm₁, X₁, hstep₁⟩ := X.invokestatic hexec hown hlink hnamed hmethM hstatic hkP hinitP hy (g := g) hg (argsL := argsL) (rest := rest) (hlen _ hsigM) hstack hdg
  rcases hK m meth c ⟨T.setVm vm₁, locs, cells, slots⟩ { g with stack := rest } (.invokestatic index) mk argsL.toArray X₁ hg hsize hdg hW (X₁.named hnamed) (hpre vm₁ X₁.warmed) with ⟨v, B, X', hpost, hsteps⟩ | ⟨q, B, X', hpost, hsteps⟩
  · exact Or.inl ⟨v, vm₁, B, X₁.warmed, X', hpost, fun target h => hstep₁ _ fun acts => by rw [doInvoke_state]; exact hsteps.trans h⟩
  · exact Or.inr ⟨q, vm₁, B, X₁.warmed, X', hpost, hstep₁ _ fun acts => by rw [doInvoke_state]; exact hsteps⟩
theorem vx_callVW (X : Stand p l e R s m args below meth c T locs cells slots) (hexec : p.tables.exec = Jvm.exec) {own C : String} {index : Nat} {y : MethodName} {bytes : ByteArray} {maxL : Nat} {ret : Option FieldType} {hh : List (Nat × Nat × Nat × Nat)}
    (hown : s.vm.findClass own = some m.cls) (hlink : (Cond.methodLink own index y).before args s = true) (hinst : (Cond.instanceMethod y).before args s = true) (hsel : (Cond.selects C y y).before args s = true)
    (hcode : (Cond.codeWith y bytes maxL ret hh).before args s = true) (hy : y.cls ≠ "java/lang/invoke/MethodHandle" ∧ y.cls ≠ "java/lang/invoke/VarHandle")
    {W9 : Nat} {Pre : Pt → Array Value → Prop} {Post : Pt → Array Value → Option Value → Pt → Prop} (hK : Back l R p e below s args y 3 W9 Pre Post)
    {b : Addr} {cellB : Cell} (hcell : T.heap[b]? = some cellB) (hobj : cellB.vm.isStatics = false) (hcls : s.vm.findClass C = some cellB.cls)
    {g : JFrame} (hg : g.method = m) (hsize : g.locals.size = c.maxLocals) {argsL rest : List Value} (hlen : ∀ sig, parseMethodDescriptor y.desc = some sig → argsL.length = sig.parameters.length)
    (hstack : g.stack = argsL.reverse ++ .ref b :: rest) (hW : 2 * g.monitorRoom + (rest.map fun v => v.category).sum ≤ W9) (hdg : decode c.code g.pc = .ok (.invokevirtual index, 3))
    (hpre : ∀ vm₁, s.WarmedH vm₁ → Pre ⟨T.setVm vm₁, locs, cells, slots⟩ (Value.ref b :: argsL).toArray) :
    ∃ (v : Option Value) (vm₁ : Vm) (B : Pt), s.WarmedH vm₁ ∧ Stand p l e R s m args below meth c B.U B.locs B.cells B.slots ∧ Post ⟨T.setVm vm₁, locs, cells, slots⟩ (Value.ref b :: argsL).toArray v B ∧
      ∀ target, Steps p.tables e below (B.U.setTop { g with pc := g.pc + 3, stack := v.toList ++ rest }) target → Steps p.tables e below (T.setTop g) target := by
  obtain ⟨mk, methM, hnamed, hmethM, hstM, habM⟩ := Cond.instanceMethod_spec hinst
  obtain ⟨m8, methM', cM, hn8, hmethM', -, -, -, -, -, -, hsigM⟩ := Cond.codeWith_spec hcode
  cases Option.some.inj (hn8.symm.trans hnamed)
  cases hmethM.symm.trans hmethM'
  obtain ⟨c2, r2, m2, q1, q2, q3, q4, kP, hkP, hkPi⟩ := Cond.selects_spec hsel
  cases hcls.symm.trans q1
  cases (State.methodFound?_of_named hnamed hy).symm.trans q2
  cases hnamed.symm.trans q3
  have hselP : selectMethod e.platform s.vm cellB.cls mk = .method mk := by rw [Launch.admits_selectMethod X.admits]; exact q4
  obtain ⟨vm₁, X₁, hstep₁⟩ := X.invokevirtual hexec hown hlink hnamed hmethM hstM hkP hkPi hy (a := b) (cell := cellB) hcell
    (fun z h => by rw [h] at hobj; cases hobj) hselP hmethM habM hkP hkPi (g := g) hg (argsL := argsL) (rest := rest) (hlen _ hsigM) hstack hdg
  obtain ⟨v, B, X', hpost, hsteps⟩ := hK m meth c ⟨T.setVm vm₁, locs, cells, slots⟩ { g with stack := rest } (.invokevirtual index) mk (Value.ref b :: argsL).toArray X₁ hg hsize hdg hW (X₁.named hnamed) (hpre vm₁ X₁.warmed)
  exact ⟨v, vm₁, B, X₁.warmed, X', hpost, fun target h => hstep₁ _ fun acts => by rw [doInvoke_state]; exact hsteps.trans h⟩
abbrev vx_CVW (R : Room) (s : State) (args : Array Value) (own C : String) (index : Nat) (y : MethodName) (bytes : ByteArray) (maxL : Nat) (ret : Option FieldType) (hh : List (Nat × Nat × Nat × Nat)) (ws : List Cond) (rm : Room) (mc ms n : Nat) : Prop :=
  (rm.cells = mc ∧ rm.slots = ms ∧ rm.frames + 1 ≤ R.frames ∧ 8 + (maxL + 11) + rm.locals ≤ R.locals ∧ (∀ w ∈ ws, ∀ (a' : Array Value) (U : State), s.WarmedH U.vm → w.before a' U = true) ∧ Cond.codeWith y bytes maxL ret hh ∈ ws) ∧
  (Cond.codeWith y bytes maxL ret hh).before args s = true ∧ (Cond.initialized y.cls).before args s = true ∧ (y.cls ≠ "java/lang/invoke/MethodHandle" ∧ y.cls ≠ "java/lang/invoke/VarHandle") ∧
  (∀ sig, parseMethodDescriptor y.desc = some sig → n = sig.parameters.length) ∧ (Cond.methodLink own index y).before args s = true ∧ (Cond.instanceMethod y).before args s = true ∧ (Cond.selects C y y).before args s = true
theorem vx_cwVW {own C : String} {index maxL mc ms : Nat} {y : MethodName} {bytes : ByteArray} {ret : Option FieldType} {hh : List (Nat × Nat × Nat × Nat)} {Ts ws ws' : List Cond} {rm : Room} (n : Nat) (ht : ∀ w ∈ Ts, w.before args s = true) (hT : GoodIn Ts (wsV own index C y ws)) (hw : ws = Cond.codeWith y bytes maxL ret hh :: ws') (hrc : rm.cells = mc) (hrs : rm.slots = ms)
    (hd : y.cls = C ∧ y.cls ≠ "java/lang/invoke/MethodHandle" ∧ y.cls ≠ "java/lang/invoke/VarHandle" ∧ (parseMethodDescriptor y.desc).map (fun d => d.parameters.length) = some n) (hR : rm.frames + 1 ≤ R.frames ∧ 8 + (maxL + 11) + rm.locals ≤ R.locals) :
    vx_CVW R s args own C index y bytes maxL ret hh ws rm mc ms n := by
  obtain ⟨hC, hd⟩ := hd
  subst hC
  have ok : ∀ w ∈ wsV own index y.cls y ws, w.before args s = true := fun w h => ht w (hT w h).1
  have hG : GoodIn Ts ws := fun w h => hT w (by unfold wsV; exact List.mem_append_right _ h)
  have hc : Cond.codeWith y bytes maxL ret hh ∈ ws := by rw [hw]; exact List.mem_cons_self
  refine ⟨⟨hrc, hrs, hR.1, hR.2, pay_in ht hG, hc⟩, ht _ (hG _ hc).1, ok _ (by simp [wsV]), ⟨hd.1, hd.2.1⟩, fun sig h => ?_, ok _ (by simp [wsV]), ok _ (by simp [wsV]), ok _ (by simp [wsV])⟩
  have h2 := hd.2.2
  rw [h] at h2
  exact (Option.some.inj h2).symm
theorem vx_runVW {y : MethodName} {bytes cc : ByteArray} {maxL nL mc ms n index : Nat} {ret : Option FieldType} {hh : List (Nat × Nat × Nat × Nat)} {ws : List Cond} {rm : Room} {Pc : Array Value → State → Prop} {Qc : Array Value → State → Outcome → State → Prop} {free : Addr → Prop} {Ts : List Cond} {own C : String} {b : Addr} {As rest : List Value} {g : JFrame}
    (S : CallFix p m c cc nL s args Ts own) (hM : Met l y ws rm Pc Qc mc ms free) (cw : vx_CVW R s args own C index y bytes maxL ret hh ws rm mc ms n) (hp : PreV s H C b Pc As)
    (hg : g.method = m) (hn : As.length = n) (hsize : g.locals.size = nL) (hstack : g.stack = As.reverse ++ .ref b :: rest) (hW : 2 * g.monitorRoom + (rest.map fun v => v.category).sum ≤ 8) (hdg : decode cc g.pc = .ok (.invokevirtual index, 3)) (hf : cells + mc ≤ R.cells ∧ slots + ms ≤ R.slots) :
    va_Run p l e R s m args below meth c H locs cells slots mc ms g rest (Qc (Value.ref b :: As).toArray) free := by
  obtain ⟨⟨hrc, hrs, hfr, hlo, hws, hcw⟩, hcode, hini, hy, hlen, hl, hin, hse⟩ := cw
  have hK : Back l R p e below s args y 3 8 (PreOf R mc ms Pc) (PostOf Qc mc ms free) := va_backW (hh := hh) (bytes := bytes) (maxL := maxL) (ret := ret) hM hp.1 hrc hrs hfr hlo hws hcw (fun a' U hW => word_at hW (Or.inl (by first | rfl | simp [Cond.onTables, Cond.keeps, Cond.steady])) hini)
  obtain ⟨hx, hb, hml, ho, -⟩ := S
  obtain ⟨-, ⟨cellB, hcB, hoB, hclB⟩, hPc⟩ := hp
  intro T hT X
  obtain ⟨v, vm₁, ⟨U', l2, c2, s2⟩, hW₁, X', ⟨g', mk, t, L, e1, e2, hq, h1, hL, h2, h3⟩, st⟩ := vx_callVW X hx (C := C) (hh := hh) (bytes := bytes) (maxL := maxL) (ret := ret) ho hl hin hse hcode hy hK (by rw [hT]; exact hcB) hoB hclB hg (hsize.trans hml.symm) (argsL := As) (rest := rest) (fun sig h => hn.trans (hlen sig h)) hstack hW (by rw [hb]; exact hdg)
    (fun vm₁ hW₁ => ⟨hf.1, hf.2, hPc (T.setVm vm₁) hT hW₁⟩)
  dsimp only [Pt.U, Pt.locs, Pt.cells, Pt.slots] at X' e1 e2 h1 h2 h3 st
  subst h1; subst h2; subst h3
  exact ⟨v, (T.setVm vm₁).calling g' mk (Value.ref b :: As).toArray, t, U', L, hT, X', hL, e1, e2, hq, st⟩
section
variable {y : MethodName} {bytes cc : ByteArray} {maxL nL mc ms n index : Nat} {ret : Option FieldType} {ws : List Cond} {rm : Room} {Pc : Array Value → State → Prop} {Qc : Array Value → State → Outcome → State → Prop} {XC : String → State → State → Prop} {free : Addr → Prop} {Ts : List Cond} {own C : String} {b : Addr} {As rest : List Value} {g : JFrame}
theorem vx_runVX {hh : List (Nat × Nat × Nat × Nat)} (S : CallFix p m c cc nL s args Ts own) (hM : vx_Met l y ws rm Pc Qc XC mc ms free) (cw : vx_CVW R s args own C index y bytes maxL ret hh ws rm mc ms n) (hp : PreV s H C b Pc As)
    (hg : g.method = m) (hn : As.length = n) (hsize : g.locals.size = nL) (hstack : g.stack = As.reverse ++ .ref b :: rest) (hW : 2 * g.monitorRoom + (rest.map fun v => v.category).sum ≤ 8) (hdg : decode cc g.pc = .ok (.invokevirtual index, 3)) (hf : cells + mc ≤ R.cells ∧ slots + ms ≤ R.slots) :
    vx_Run p l e R s m args below meth c H locs cells slots mc ms g rest (Qc (Value.ref b :: As).toArray) XC free := by
  obtain ⟨⟨hrc, hrs, hfr, hlo, hws, hcw⟩, hcode, hini, hy, hlen, hl, hin, hse⟩ := cw
  have hK : vx_Back l R p e below s args y 3 8 (PreOf R mc ms Pc) (PostOf Qc mc ms free) (vx_Post XC mc ms free) := vx_backW (hh := hh) (bytes := bytes) (maxL := maxL) (ret := ret) hM hp.1 hrc hrs hfr hlo hws hcw (fun a' U hW => word_at hW (Or.inl (by first | rfl | simp [Cond.onTables, Cond.keeps, Cond.steady])) hini)
  obtain ⟨hx, hb, hml, ho, -⟩ := S
  obtain ⟨-, ⟨cellB, hcB, hoB, hclB⟩, hPc⟩ := hp
  intro T hT X
  rcases vx_callVX X hx (C := C) (hh := hh) (bytes := bytes) (maxL := maxL) (ret := ret) ho hl hin hse hcode hy hK (by rw [hT]; exact hcB) hoB hclB hg (hsize.trans hml.symm) (argsL := As) (rest := rest) (fun sig h => hn.trans (hlen sig h)) hstack hW (by rw [hb]; exact hdg)
    (fun vm₁ hW₁ => ⟨hf.1, hf.2, hPc (T.setVm vm₁) hT hW₁⟩) with ⟨v, vm₁, ⟨U', l2, c2, s2⟩, hW₁, X', ⟨g', mk, t, L, e1, e2, hq, h1, hL, h2, h3⟩, st⟩ | ⟨q, vm₁, ⟨U', l2, c2, s2⟩, hW₁, X', ⟨g', mk, t, L, E, ce, e1, e2, hq, hce, hcv, hcl, h1, hL, h2, h3⟩, st⟩
  · dsimp only [Pt.U, Pt.locs, Pt.cells, Pt.slots] at X' e1 e2 h1 h2 h3 st
    subst h1; subst h2; subst h3
    exact Or.inl ⟨v, (T.setVm vm₁).calling g' mk (Value.ref b :: As).toArray, t, U', L, hT, X', hL, e1, e2, hq, st⟩
  · dsimp only [Pt.U, Pt.locs, Pt.cells, Pt.slots] at X' e1 e2 h1 h2 h3 st hcl
    subst h1; subst h2; subst h3
    exact Or.inr ⟨q, (T.setVm vm₁).calling g' mk (Value.ref b :: As).toArray, t, U', L, E, ce, hT, X', hL, e1, e2, hq, hce, hcv, vx_cls hW₁ hcl, st⟩
theorem vx_runSX {hh : List (Nat × Nat × Nat × Nat)} (S : CallFix p m c cc nL s args Ts own) (hM : vx_Met l y ws rm Pc Qc XC mc ms free) (cw : vx_CSW R s args own index y bytes maxL ret hh ws rm mc ms n) (hp : PreS s H Pc As)
    (hg : g.method = m) (hn : As.length = n) (hsize : g.locals.size = nL) (hstack : g.stack = As.reverse ++ rest) (hW : 2 * g.monitorRoom + (rest.map fun v => v.category).sum ≤ 8) (hdg : decode cc g.pc = .ok (.invokestatic index, 3)) (hf : cells + mc ≤ R.cells ∧ slots + ms ≤ R.slots) :
    vx_Run p l e R s m args below meth c H locs cells slots mc ms g rest (Qc As.toArray) XC free := by
  obtain ⟨⟨hrc, hrs, hfr, hlo, hws, hcw⟩, hcode, hini, hy, hlen, hl, hstt⟩ := cw
  have hK : vx_Back l R p e below s args y 3 8 (PreOf R mc ms Pc) (PostOf Qc mc ms free) (vx_Post XC mc ms free) := vx_backW (hh := hh) (bytes := bytes) (maxL := maxL) (ret := ret) hM hp.1 hrc hrs hfr hlo hws hcw (fun a' U hW => word_at hW (Or.inl (by first | rfl | simp [Cond.onTables, Cond.keeps, Cond.steady])) hini)
  obtain ⟨hx, hb, hml, ho, -⟩ := S
  intro T hT X
  rcases vx_callSX X hx (hh := hh) (bytes := bytes) (maxL := maxL) (ret := ret) ho hl hstt hini hcode hy hK hg (hsize.trans hml.symm) (argsL := As) (rest := rest) (fun sig h => hn.trans (hlen sig h)) hstack hW (by rw [hb]; exact hdg)
    (fun vm₁ hW₁ => ⟨hf.1, hf.2, hp.2 (T.setVm vm₁) hT hW₁⟩) with ⟨v, vm₁, ⟨U', l2, c2, s2⟩, hW₁, X', ⟨g', mk, t, L, e1, e2, hq, h1, hL, h2, h3⟩, st⟩ | ⟨q, vm₁, ⟨U', l2, c2, s2⟩, hW₁, X', ⟨g', mk, t, L, E, ce, e1, e2, hq, hce, hcv, hcl, h1, hL, h2, h3⟩, st⟩
  · dsimp only [Pt.U, Pt.locs, Pt.cells, Pt.slots] at X' e1 e2 h1 h2 h3 st
    subst h1; subst h2; subst h3
    exact Or.inl ⟨v, (T.setVm vm₁).calling g' mk As.toArray, t, U', L, hT, X', hL, e1, e2, hq, st⟩
  · dsimp only [Pt.U, Pt.locs, Pt.cells, Pt.slots] at X' e1 e2 h1 h2 h3 st hcl
    subst h1; subst h2; subst h3
    exact Or.inr ⟨q, (T.setVm vm₁).calling g' mk As.toArray, t, U', L, E, ce, hT, X', hL, e1, e2, hq, hce, hcv, vx_cls hW₁ hcl, st⟩
end
end VXH
theorem vx_ofWH {l : Launch} {y : MethodName} {ws ws' : List Cond} {rm : Room} {Pc : Array Value → State → Prop} {Qc : Array Value → State → Outcome → State → Prop} {XC : String → State → State → Prop} {mc ms : Nat} {free : Addr → Prop} {cc : ByteArray} {maxL : Nat} {ret : Option FieldType} {hh : List (Nat × Nat × Nat × Nat)}
    (hy : plainName y.cls = true) (hw : ws = Cond.codeWith y cc maxL ret hh :: ws')
    (body : ∀ p e s m args below meth c s₁, BodyLoose p l y (headSpec ws rm) cc maxL ret e s m args below meth c s₁ → c.maxLocals = maxL → Pc args s →
      W p l e (headSpec ws rm).room s m args below meth c s.heap [] 0 0 (vx_MQ below Qc XC args s mc ms free) (entryFrame m args maxL)) : vx_Met l y ws rm Pc Qc XC mc ms free := by
  refine MetFree.of_bodyS (code := cc) (maxLocals := maxL) (ret := ret) hy ?_ ?_
  · intro args s m h hn
    obtain ⟨m9, meth, c, hn9, h1, h2, h3, h4, -, h5, h6, -⟩ := Cond.codeWith_spec (atoms_spec (ws := ws) h _ (by rw [hw]; exact List.mem_cons_self))
    cases hn.symm.trans hn9
    exact ⟨meth, c, h1, h2, h3, h4, h5, h6⟩
  · intro p e s m args below meth c s₁ B hml hP _
    have hh0 : s₁.heap = s.heap := by rw [B.state]; rfl
    obtain ⟨t, a1, o, b1, b2, b3⟩ := body p e s m args below meth c s₁ B hml hP s₁ hh0 (Stand.of_body B)
    exact ⟨t, o, a1, b1, b2, b3⟩
/-! ===== END ===== -/

/-! ===== an exception that the method's one handler takes ===== -/
section XH
theorem xh_go {Q : Handler → Pre} {E : CtlPost} {e : Env} {d : Bool} {acts : List Action} {s : State} {f : JFrame} {a : Addr} {x : ExceptionTableEntry} {c : ClassId} {cell : Cell} (hx : covers x f.pc = true) (h0 : x.catchType ≠ 0)
    (hl : s.vm.ClassLinks e.platform f.method.cls x.catchType c) (hcell : s.heap[a]? = some cell) (hobj : ∀ k, cell.vm ≠ .statics k)
    (hk : ∃ k, s.vm.classes[cell.cls]? = some k) (hc : ∃ k, s.vm.classes[c]? = some k) (hfit : s.vm.assignable cell.cls c = true) :
    wp (findHandler.go f a [x]) Q E e d acts s ↔ Q (.found x.handlerPc) d acts (s.setVm (s.vm.noted f.method.cls x.catchType (.cls c))) := by
  simp only [covers] at hx
  obtain ⟨ha, ht⟩ := (resolveClass_links e.toSetting hl).op (op := VmOp.resolveClass f.method.cls x.catchType) rfl
  have hal : s.vm.Alike (s.vm.noted f.method.cls x.catchType (.cls c)) := (Vm.Alike.refl s.vm).noted _ _ _
  obtain ⟨k1, hk1⟩ := hk
  obtain ⟨k2, hk2⟩ := hc
  obtain ⟨k1', hk1', -⟩ := hal.2.2 _ _ hk1
  obtain ⟨k2', hk2', -⟩ := hal.2.2 _ _ hk2
  have hfit' : (s.vm.noted f.method.cls x.catchType (.cls c)).assignable cell.cls c = true := by rw [hal.assignable]; exact hfit
  simp [findHandler.go, hx, h0, ha, ht, hcell, hobj, hk1', hk2', hfit', VmOp.dirties, VmOp.acts]
theorem xh_steps {tb : Tables} {e : Env} {s target : State} {g : JFrame} {c : Code} {below : List Frame} {a : Addr} (h : At s g.method c below) {pc : Nat} {vm' : Vm}
    (hfind : ∀ (Q : Handler → Pre) (E : CtlPost) (d : Bool) (acts : List Action), wp (findHandler g a) Q E e d acts ((s.setTop g).pushFrame (.throwing a)) ↔ Q (.found pc) d acts (((s.setTop g).pushFrame (.throwing a)).setVm vm'))
    (hrest : Steps tb e below ((s.setVm vm').setTop { g with pc := pc, stack := [.ref a] }) target) :
    Steps tb e below ((s.setTop g).pushFrame (.throwing a)) target := by
  have hst : (stepThrowing e ((s.setTop g).pushFrame (.throwing a)) a (.java g :: s.frames.tail)).Is ((((s.setTop g).pushFrame (.throwing a)).setVm vm').setFrames (.java { g with pc := pc, stack := [.ref a] } :: s.frames.tail)) [] := by
    simp only [stepThrowing, searchFrame, vmDo]
    generalize hr : Sem.go _ e false [] _ = res
    obtain ⟨as, rfl, ha⟩ := Sem.eq_ok_of hr (a := Handler.found pc) (s' := ((s.setTop g).pushFrame (.throwing a)).setVm vm') (acts' := []) (by simp [hfind _ _ _ _])
    exact ⟨rfl, ha⟩
  obtain ⟨hgo, hw⟩ := h.throwing a
  refine Steps.head hgo hw ?_
  rw [stepThread_throwing (frames_entered h.top _), hst.1]
  obtain ⟨g₀, hg⟩ := Option.isSome_iff_exists.mp h.top
  obtain ⟨r, hr⟩ := State.topJava?_eq_some.mp hg
  have hr' : (s.setVm vm').frames = .java g₀ :: r := hr
  rw [State.setTop_of_frames _ hr'] at hrest
  have e1 : ∀ (u : State) (F G : List Frame), ((u.setFrames F).setVm vm').setFrames G = (u.setVm vm').setFrames G := fun u F G => by
    have h1 : (u.setFrames F).setVm vm' = (u.setVm vm').setFrames F := rfl
    rw [h1, State.setFrames_setFrames]
  rw [hr, List.tail_cons, State.pushFrame, e1, State.setTop_of_frames _ hr, e1]
  exact hrest
variable {p : Program} {l : Launch} {e : Env} {R : Room} {s : State} {m : MethodId} {args : Array Value} {below : List Frame} {meth : Method} {c : Code} {H : Heap} {locs : List Loc} {cells slots : Nat} {Q : State → Prop}
variable {pc : Nat} {ls : Array Slot} {rest : List Value}
/-- the one row x of the method's table takes what was thrown -/
theorem xh_catch {own name : String} {E : String} {ce : Cell} {q : Addr} (hown : s.vm.findClass own = some m.cls) (x : ExceptionTableEntry) (hone : c.exceptionTable.toList = [x])
    (hx : covers x pc = true) (h0 : x.catchType ≠ 0)
    (hlink : (Cond.classLink own x.catchType name).before args s = true) (hcast : (Cond.castable E name).before args s = true) (hcell : H[q]? = some ce) (hv : ce.vm = .none) (hcl : s.vm.findClass E = some ce.cls)
    (kk : W p l e R s m args below meth c H locs cells slots Q (F0 m x.handlerPc ls [.ref q])) : vx_W p l e R s m args below meth c H locs cells slots Q (F0 m pc ls rest) q := by
  intro T hT X
  have hpl : e.platform.magicAccessors = ({} : Platform).magicAccessors := by rw [X.admits.platform]
  obtain ⟨c3, c4, hc3, hc4, hasg⟩ := Cond.castable_spec hcast
  cases Option.some.inj (hc3.symm.trans hcl)
  obtain ⟨c5, hc5, hcl5⟩ := Cond.classLink_spec hown hlink e.platform hpl
  cases Option.some.inj (hc4.symm.trans hc5)
  obtain ⟨dk, _, _, kt, hd, _, _, _, _, hkt, _, hopen⟩ := hcl5.here
  have hcl₀ := X.warmed.classLinks hcl5
  have hW' : s.WarmedH (T.vm.noted m.cls x.catchType (.cls c4)) := X.warmed.noted hd hopen (State.rightAt_cls hcl5)
  have hal := X.warmed.alike
  obtain ⟨kt', hkt', -⟩ := hal.2.2 _ _ hkt
  have hfit' : T.vm.assignable ce.cls c4 = true := by rw [hal.assignable]; exact hasg
  obtain ⟨t, a1, b1⟩ := kk (T.setVm (T.vm.noted m.cls x.catchType (.cls c4))) hT (X.noted hW')
  refine ⟨t, ?_, b1⟩
  refine xh_steps (s := T) (g := F0 m pc ls rest) (pc := x.handlerPc) (vm' := T.vm.noted m.cls x.catchType (.cls c4)) X.here (fun Q E d acts => ?_) a1
  have hmT : ((T.setTop (F0 m pc ls rest)).pushFrame (.throwing q)).vm.method? (F0 m pc ls rest).method = some meth := X.method'
  rw [W.findHandler_eq hmT X.code, hone]
  exact xh_go (s := (T.setTop (F0 m pc ls rest)).pushFrame (.throwing q)) (f := F0 m pc ls rest) hx h0 hcl₀ (cell := ce) (by show T.heap[q]? = _; rw [hT]; exact hcell) (by rw [hv]; intro k hk; cases hk)
    (Vm.classAt_of_assignable hfit' ⟨kt', hkt'⟩) ⟨kt', hkt'⟩ hfit'
end XH
end
section
/-! ===== the classes, their fields, the methods, the links: written by wip/whole/gen02.py ===== -/
def cnm (ci : Nat) : String := match ci with
  | 0 => "ReelReader$Block"
  | 1 => "ReelReader$Picture"
  | 2 => "ReelReader$Plane"
  | 3 => "ReelReader$Reel"
  | 4 => "ReelReader$StreamReader"
  | 5 => "ReelReader$Tape"
  | 6 => "ReelReader"
  | 7 => "ReelReaderModel"
  | _ => "ReelReaderLaw"
def cT0 : u_T := fun k => match k with
  | 0 => ("ReelReader$Block", "factors", "[I", true)
  | 1 => ("ReelReader$Block", "sums", "[I", true)
  | 2 => ("ReelReader$Block", "total", "I", false)
  | _ => ("ReelReader$Block", "rows", "I", false)
def cY0 : Nat → FieldType := fun k => match k with
  | 0 => .array .int
  | 1 => .array .int
  | 2 => .int
  | _ => .int
def cT1 : u_T := fun k => match k with
  | 0 => ("ReelReader$Picture", "planes", "[LReelReader$Plane;", true)
  | _ => ("ReelReader$Picture", "facts", "[I", true)
def cY1 : Nat → FieldType := fun k => match k with
  | 0 => .array (.object "ReelReader$Plane")
  | _ => .array .int
def cT2 : u_T := fun k => match k with
  | 0 => ("ReelReader$Plane", "side", "I", true)
  | 1 => ("ReelReader$Plane", "width", "I", false)
  | 2 => ("ReelReader$Plane", "height", "I", false)
  | _ => ("ReelReader$Plane", "dots", "[I", false)
def cY2 : Nat → FieldType := fun k => match k with
  | 0 => .int
  | 1 => .int
  | 2 => .int
  | _ => .array .int
def cT3 : u_T := fun k => match k with
  | 0 => ("ReelReader$Reel", "tally", "[I", true)
  | 1 => ("ReelReader$Reel", "kept", "[LReelReader$Picture;", true)
  | 2 => ("ReelReader$Reel", "across", "I", false)
  | 3 => ("ReelReader$Reel", "down", "I", false)
  | 4 => ("ReelReader$Reel", "now", "LReelReader$Picture;", false)
  | 5 => ("ReelReader$Reel", "latest", "LReelReader$Picture;", false)
  | 6 => ("ReelReader$Reel", "older", "LReelReader$Picture;", false)
  | _ => ("ReelReader$Reel", "leanable", "I", false)
def cY3 : Nat → FieldType := fun k => match k with
  | 0 => .array .int
  | 1 => .array (.object "ReelReader$Picture")
  | 2 => .int
  | 3 => .int
  | 4 => .object "ReelReader$Picture"
  | 5 => .object "ReelReader$Picture"
  | 6 => .object "ReelReader$Picture"
  | _ => .int
def cT4 : u_T := fun k => match k with
  | 0 => ("ReelReader$StreamReader", "tape", "LReelReader$Tape;", true)
  | 1 => ("ReelReader$StreamReader", "reel", "LReelReader$Reel;", true)
  | 2 => ("ReelReader$StreamReader", "block", "LReelReader$Block;", true)
  | 3 => ("ReelReader$StreamReader", "dcs", "[I", true)
  | 4 => ("ReelReader$StreamReader", "forward", "[I", true)
  | 5 => ("ReelReader$StreamReader", "backward", "[I", true)
  | 6 => ("ReelReader$StreamReader", "sort", "I", false)
  | 7 => ("ReelReader$StreamReader", "quant", "I", false)
  | 8 => ("ReelReader$StreamReader", "range", "I", false)
  | _ => ("ReelReader$StreamReader", "waysAhead", "I", false)
def cY4 : Nat → FieldType := fun k => match k with
  | 0 => .object "ReelReader$Tape"
  | 1 => .object "ReelReader$Reel"
  | 2 => .object "ReelReader$Block"
  | 3 => .array .int
  | 4 => .array .int
  | 5 => .array .int
  | 6 => .int
  | 7 => .int
  | 8 => .int
  | _ => .int
def cT5 : u_T := fun k => match k with
  | 0 => ("ReelReader$Tape", "bytes", "[B", true)
  | 1 => ("ReelReader$Tape", "length", "I", false)
  | 2 => ("ReelReader$Tape", "position", "I", false)
  | _ => ("ReelReader$Tape", "wrongBit", "I", false)
def cY5 : Nat → FieldType := fun k => match k with
  | 0 => .array .byte
  | 1 => .int
  | 2 => .int
  | _ => .int
def cT6 : u_T := fun k => match k with
  | 0 => ("ReelReader", "tape", "LReelReader$Tape;", true)
  | 1 => ("ReelReader", "reel", "LReelReader$Reel;", true)
  | _ => ("ReelReader", "stream", "LReelReader$StreamReader;", true)
def cY6 : Nat → FieldType := fun k => match k with
  | 0 => .object "ReelReader$Tape"
  | 1 => .object "ReelReader$Reel"
  | _ => .object "ReelReader$StreamReader"
def cT7 : u_T := fun k => match k with
  | 0 => ("ReelReaderModel", "thrown", "I", false)
  | 1 => ("ReelReaderModel", "tape", "[B", true)
  | 2 => ("ReelReaderModel", "tapeBits", "I", false)
  | 3 => ("ReelReaderModel", "bits", "[B", true)
  | 4 => ("ReelReaderModel", "at", "I", false)
  | 5 => ("ReelReaderModel", "end", "I", false)
  | 6 => ("ReelReaderModel", "wrong", "I", false)
  | 7 => ("ReelReaderModel", "across", "I", false)
  | 8 => ("ReelReaderModel", "down", "I", false)
  | 9 => ("ReelReaderModel", "picture", "[I", true)
  | 10 => ("ReelReaderModel", "latest", "[I", true)
  | 11 => ("ReelReaderModel", "ahead", "[I", true)
  | 12 => ("ReelReaderModel", "hasLatest", "Z", false)
  | 13 => ("ReelReaderModel", "hasAhead", "Z", false)
  | 14 => ("ReelReaderModel", "latestSort", "I", false)
  | 15 => ("ReelReaderModel", "latestNumber", "I", false)
  | 16 => ("ReelReaderModel", "latestInner", "I", false)
  | 17 => ("ReelReaderModel", "latestPassed", "I", false)
  | 18 => ("ReelReaderModel", "shownDots", "[B", true)
  | 19 => ("ReelReaderModel", "shownFacts", "[I", true)
  | 20 => ("ReelReaderModel", "width", "I", false)
  | 21 => ("ReelReaderModel", "height", "I", false)
  | 22 => ("ReelReaderModel", "shown", "I", false)
  | 23 => ("ReelReaderModel", "whole", "I", false)
  | 24 => ("ReelReaderModel", "squares", "I", false)
  | 25 => ("ReelReaderModel", "passed", "I", false)
  | 26 => ("ReelReaderModel", "blocks", "I", false)
  | 27 => ("ReelReaderModel", "levels", "I", false)
  | 28 => ("ReelReaderModel", "vectors", "[I", true)
  | 29 => ("ReelReaderModel", "foretold", "[I", true)
  | 30 => ("ReelReaderModel", "isForward", "Z", false)
  | 31 => ("ReelReaderModel", "isBackward", "Z", false)
  | 32 => ("ReelReaderModel", "isInner", "Z", false)
  | 33 => ("ReelReaderModel", "dcs", "[I", true)
  | 34 => ("ReelReaderModel", "sort", "I", false)
  | 35 => ("ReelReaderModel", "quant", "I", false)
  | 36 => ("ReelReaderModel", "span", "I", false)
  | 37 => ("ReelReaderModel", "order", "[I", true)
  | 38 => ("ReelReaderModel", "factors", "[I", true)
  | 39 => ("ReelReaderModel", "rows", "[I", true)
  | 40 => ("ReelReaderModel", "inner", "I", false)
  | 41 => ("ReelReaderModel", "over", "I", false)
  | _ => ("ReelReaderModel", "five", "[I", true)
def cY7 : Nat → FieldType := fun k => match k with
  | 0 => .int
  | 1 => .array .byte
  | 2 => .int
  | 3 => .array .byte
  | 4 => .int
  | 5 => .int
  | 6 => .int
  | 7 => .int
  | 8 => .int
  | 9 => .array .int
  | 10 => .array .int
  | 11 => .array .int
  | 12 => .boolean
  | 13 => .boolean
  | 14 => .int
  | 15 => .int
  | 16 => .int
  | 17 => .int
  | 18 => .array .byte
  | 19 => .array .int
  | 20 => .int
  | 21 => .int
  | 22 => .int
  | 23 => .int
  | 24 => .int
  | 25 => .int
  | 26 => .int
  | 27 => .int
  | 28 => .array .int
  | 29 => .array .int
  | 30 => .boolean
  | 31 => .boolean
  | 32 => .boolean
  | 33 => .array .int
  | 34 => .int
  | 35 => .int
  | 36 => .int
  | 37 => .array .int
  | 38 => .array .int
  | 39 => .array .int
  | 40 => .int
  | 41 => .int
  | _ => .array .int
def cT (ci : Nat) : u_T := match ci with
  | 0 => cT0
  | 1 => cT1
  | 2 => cT2
  | 3 => cT3
  | 4 => cT4
  | 5 => cT5
  | 6 => cT6
  | _ => cT7
def cY (ci : Nat) : Nat → FieldType := match ci with
  | 0 => cY0
  | 1 => cY1
  | 2 => cY2
  | 3 => cY3
  | 4 => cY4
  | 5 => cY5
  | 6 => cY6
  | _ => cY7
def cN (ci : Nat) : Nat := match ci with
  | 0 => 4
  | 1 => 2
  | 2 => 4
  | 3 => 8
  | 4 => 10
  | 5 => 4
  | 6 => 3
  | _ => 43
/-- is it a field of references -/
def isR (ci k : Nat) : Bool := match cY ci k with
  | .object _ => true
  | .array _ => true
  | _ => false
theorem cYo0 : ∀ k, k < 4 → parseFieldDescriptor (cT0 k).2.2.1 = some (cY0 k) := by decide +kernel
theorem cNo0 : ∀ a, a < 4 → ∀ b, b < 4 → a ≠ b → (cT0 a).2.1 ≠ (cT0 b).2.1 := by decide +kernel
theorem cDo0 : ∀ k, k < 4 → (cT0 k).1 = cnm 0 := by decide +kernel
theorem cWo0 : GoodIn lw_tbl (u_ws (cnm 0) cT0 4) := goodIn_r _ [195, 197, 199, 201] (by decide +kernel) (by decide +kernel)
theorem cYo1 : ∀ k, k < 2 → parseFieldDescriptor (cT1 k).2.2.1 = some (cY1 k) := by decide +kernel
theorem cNo1 : ∀ a, a < 2 → ∀ b, b < 2 → a ≠ b → (cT1 a).2.1 ≠ (cT1 b).2.1 := by decide +kernel
theorem cDo1 : ∀ k, k < 2 → (cT1 k).1 = cnm 1 := by decide +kernel
theorem cWo1 : GoodIn lw_tbl (u_ws (cnm 1) cT1 2) := goodIn_r _ [140, 142] (by decide +kernel) (by decide +kernel)
theorem cYo2 : ∀ k, k < 4 → parseFieldDescriptor (cT2 k).2.2.1 = some (cY2 k) := by decide +kernel
theorem cNo2 : ∀ a, a < 4 → ∀ b, b < 4 → a ≠ b → (cT2 a).2.1 ≠ (cT2 b).2.1 := by decide +kernel
theorem cDo2 : ∀ k, k < 4 → (cT2 k).1 = cnm 2 := by decide +kernel
theorem cWo2 : GoodIn lw_tbl (u_ws (cnm 2) cT2 4) := goodIn_r _ [123, 125, 127, 129] (by decide +kernel) (by decide +kernel)
theorem cYo3 : ∀ k, k < 8 → parseFieldDescriptor (cT3 k).2.2.1 = some (cY3 k) := by decide +kernel
theorem cNo3 : ∀ a, a < 8 → ∀ b, b < 8 → a ≠ b → (cT3 a).2.1 ≠ (cT3 b).2.1 := by decide +kernel
theorem cDo3 : ∀ k, k < 8 → (cT3 k).1 = cnm 3 := by decide +kernel
theorem cWo3 : GoodIn lw_tbl (u_ws (cnm 3) cT3 8) := goodIn_r _ [161, 163, 165, 167, 169, 171, 173, 175] (by decide +kernel) (by decide +kernel)
theorem cYo4 : ∀ k, k < 10 → parseFieldDescriptor (cT4 k).2.2.1 = some (cY4 k) := by decide +kernel
theorem cNo4 : ∀ a, a < 10 → ∀ b, b < 10 → a ≠ b → (cT4 a).2.1 ≠ (cT4 b).2.1 := by decide +kernel
theorem cDo4 : ∀ k, k < 10 → (cT4 k).1 = cnm 4 := by decide +kernel
theorem cWo4 : GoodIn lw_tbl (u_ws (cnm 4) cT4 10) := goodIn_r _ [214, 216, 218, 220, 222, 224, 226, 228, 230, 232] (by decide +kernel) (by decide +kernel)
theorem cYo5 : ∀ k, k < 4 → parseFieldDescriptor (cT5 k).2.2.1 = some (cY5 k) := by decide +kernel
theorem cNo5 : ∀ a, a < 4 → ∀ b, b < 4 → a ≠ b → (cT5 a).2.1 ≠ (cT5 b).2.1 := by decide +kernel
theorem cDo5 : ∀ k, k < 4 → (cT5 k).1 = cnm 5 := by decide +kernel
theorem cWo5 : GoodIn lw_tbl (u_ws (cnm 5) cT5 4) := goodIn_r _ [89, 91, 93, 95] (by decide +kernel) (by decide +kernel)
theorem cYo6 : ∀ k, k < 3 → parseFieldDescriptor (cT6 k).2.2.1 = some (cY6 k) := by decide +kernel
theorem cNo6 : ∀ a, a < 3 → ∀ b, b < 3 → a ≠ b → (cT6 a).2.1 ≠ (cT6 b).2.1 := by decide +kernel
theorem cDo6 : ∀ k, k < 3 → (cT6 k).1 = cnm 6 := by decide +kernel
theorem cWo6 : GoodIn lw_tbl (u_ws (cnm 6) cT6 3) := goodIn_r _ [238, 240, 242] (by decide +kernel) (by decide +kernel)
theorem cYo7 : ∀ k, k < 43 → parseFieldDescriptor (cT7 k).2.2.1 = some (cY7 k) := by decide +kernel
theorem cNo7 : ∀ a, a < 43 → ∀ b, b < 43 → a ≠ b → (cT7 a).2.1 ≠ (cT7 b).2.1 := by decide +kernel
theorem cDo7 : ∀ k, k < 43 → (cT7 k).1 = cnm 7 := by decide +kernel
theorem cWo7 : GoodIn lw_tbl (u_ws (cnm 7) cT7 43) := goodIn_r _ [650, 652, 654, 656, 658, 660, 662, 664, 666, 668, 670, 672, 674, 676, 678, 680, 682, 684, 686, 688, 690, 692, 694, 696, 698, 700, 702, 704, 706, 708, 710, 712, 714, 716, 718, 720, 722, 724, 726, 728, 730, 732, 734] (by decide +kernel) (by decide +kernel)
theorem cY_ok {ci : Nat} (h : ci < 8) : ∀ k, k < cN ci → parseFieldDescriptor (cT ci k).2.2.1 = some (cY ci k) := match ci, h with
  | 0, _ => cYo0
  | 1, _ => cYo1
  | 2, _ => cYo2
  | 3, _ => cYo3
  | 4, _ => cYo4
  | 5, _ => cYo5
  | 6, _ => cYo6
  | 7, _ => cYo7
  | n + 8, h => absurd h (by omega)
theorem cN_ok {ci : Nat} (h : ci < 8) : ∀ a, a < cN ci → ∀ b, b < cN ci → a ≠ b → (cT ci a).2.1 ≠ (cT ci b).2.1 := match ci, h with
  | 0, _ => cNo0
  | 1, _ => cNo1
  | 2, _ => cNo2
  | 3, _ => cNo3
  | 4, _ => cNo4
  | 5, _ => cNo5
  | 6, _ => cNo6
  | 7, _ => cNo7
  | n + 8, h => absurd h (by omega)
theorem cD_ok {ci : Nat} (h : ci < 8) : ∀ k, k < cN ci → (cT ci k).1 = cnm ci := match ci, h with
  | 0, _ => cDo0
  | 1, _ => cDo1
  | 2, _ => cDo2
  | 3, _ => cDo3
  | 4, _ => cDo4
  | 5, _ => cDo5
  | 6, _ => cDo6
  | 7, _ => cDo7
  | n + 8, h => absurd h (by omega)
theorem cW_ok {ci : Nat} (h : ci < 8) : GoodIn lw_tbl (u_ws (cnm ci) (cT ci) (cN ci)) := match ci, h with
  | 0, _ => cWo0
  | 1, _ => cWo1
  | 2, _ => cWo2
  | 3, _ => cWo3
  | 4, _ => cWo4
  | 5, _ => cWo5
  | 6, _ => cWo6
  | 7, _ => cWo7
  | n + 8, h => absurd h (by omega)
theorem cI_ok {ci : Nat} (h : ci < 8) : Cond.instantiable (cnm ci) (cN ci) ∈ lw_tbl := match ci, h with
  | 0, _ => List.mem_of_getElem? (i := 185) (by decide +kernel)
  | 1, _ => List.mem_of_getElem? (i := 107) (by decide +kernel)
  | 2, _ => List.mem_of_getElem? (i := 114) (by decide +kernel)
  | 3, _ => List.mem_of_getElem? (i := 100) (by decide +kernel)
  | 4, _ => List.mem_of_getElem? (i := 179) (by decide +kernel)
  | 5, _ => List.mem_of_getElem? (i := 78) (by decide +kernel)
  | 6, _ => List.mem_of_getElem? (i := 70) (by decide +kernel)
  | 7, _ => List.mem_of_getElem? (i := 601) (by decide +kernel)
  | n + 8, h => absurd h (by omega)
theorem cA_ok {ci : Nat} (h : ci < 8) : Cond.initialized (cnm ci) ∈ lw_tbl := match ci, h with
  | 0, _ => List.mem_of_getElem? (i := 59) (by decide +kernel)
  | 1, _ => List.mem_of_getElem? (i := 56) (by decide +kernel)
  | 2, _ => List.mem_of_getElem? (i := 57) (by decide +kernel)
  | 3, _ => List.mem_of_getElem? (i := 55) (by decide +kernel)
  | 4, _ => List.mem_of_getElem? (i := 58) (by decide +kernel)
  | 5, _ => List.mem_of_getElem? (i := 54) (by decide +kernel)
  | 6, _ => List.mem_of_getElem? (i := 53) (by decide +kernel)
  | 7, _ => List.mem_of_getElem? (i := 60) (by decide +kernel)
  | n + 8, h => absurd h (by omega)
abbrev MI : Type := MethodName × ByteArray × Nat × Option FieldType × List (Nat × Nat × Nat × Nat) × Nat × Nat
abbrev M_X_init : MI := (⟨cnm 6, "<init>", "()V"⟩, prog_1_method_1_code, 1, none, [], 4, 81)
abbrev M_T_init : MI := (⟨cnm 5, "<init>", "()V"⟩, prog_7_method_1_code, 1, none, [], 1, 20)
abbrev M_R_init : MI := (⟨cnm 3, "<init>", "()V"⟩, prog_5_method_1_code, 1, none, [], 3, 61)
abbrev M_P_init : MI := (⟨cnm 1, "<init>", "()V"⟩, prog_3_method_1_code, 1, none, [], 2, 41)
abbrev M_L_init : MI := (⟨cnm 2, "<init>", "(I)V"⟩, prog_4_method_1_code, 2, none, [], 1, 20)
abbrev M_S_init : MI := (⟨cnm 4, "<init>", "(LReelReader$Tape;LReelReader$Reel;)V"⟩, prog_6_method_1_code, 3, none, [], 2, 40)
abbrev M_B_init : MI := (⟨cnm 0, "<init>", "()V"⟩, prog_2_method_1_code, 1, none, [], 1, 20)
abbrev M_X_feed : MI := (⟨cnm 6, "feed", "(IIIII)I"⟩, prog_1_method_2_code, 7, some .int, [], 2, 47)
abbrev M_T_byteCount : MI := (⟨cnm 5, "byteCount", "()I"⟩, prog_7_method_2_code, 1, some .int, [], 0, 0)
abbrev M_T_cut : MI := (⟨cnm 5, "cut", "(I)Z"⟩, prog_7_method_3_code, 2, some .boolean, [], 1, 20)
abbrev M_T_append : MI := (⟨cnm 5, "append", "(II)I"⟩, prog_7_method_4_code, 4, some .int, [], 1, 24)
abbrev M_T_appendBit : MI := (⟨cnm 5, "appendBit", "(I)V"⟩, prog_7_method_5_code, 5, none, [], 0, 0)
abbrev M_X_end : MI := (⟨cnm 6, "end", "(I)Z"⟩, prog_1_method_3_code, 2, some .boolean, [], 2, 41)
abbrev M_X_bits : MI := (⟨cnm 6, "bits", "(II)I"⟩, prog_1_method_4_code, 3, some .int, [], 2, 47)
abbrev M_X_read : MI := (⟨cnm 6, "read", "()I"⟩, prog_1_method_5_code, 2, some .int, [(14, 54, 57, 61)], 12, 236)
abbrev M_R_clear : MI := (⟨cnm 3, "clear", "()V"⟩, prog_5_method_2_code, 1, none, [], 1, 23)
abbrev M_J_fill : MI := (⟨"java/util/Arrays", "fill", "([II)V"⟩, prog_16_method_103_code, 4, none, [], 0, 0)
abbrev M_T_rewind : MI := (⟨cnm 5, "rewind", "()V"⟩, prog_7_method_6_code, 1, none, [], 2, 41)
abbrev M_S_readSize : MI := (⟨cnm 4, "readSize", "()V"⟩, prog_6_method_2_code, 3, none, [], 9, 153)
abbrev M_T_expect : MI := (⟨cnm 5, "expect", "(II)V"⟩, prog_7_method_11_code, 4, none, [], 7, 110)
abbrev M_T_next : MI := (⟨cnm 5, "next", "()I"⟩, prog_7_method_8_code, 2, some .int, [], 6, 89)
abbrev M_T_failAt : MI := (⟨cnm 5, "failAt", "(I)V"⟩, prog_7_method_7_code, 2, none, [], 6, 89)
abbrev M_T_number : MI := (⟨cnm 5, "number", "(I)I"⟩, prog_7_method_9_code, 4, some .int, [], 7, 110)
abbrev M_R_setSize : MI := (⟨cnm 3, "setSize", "(II)V"⟩, prog_5_method_3_code, 3, none, [], 0, 0)
abbrev M_T_align : MI := (⟨cnm 5, "align", "()V"⟩, prog_7_method_12_code, 1, none, [], 8, 133)
abbrev M_S_pictureComes : MI := (⟨cnm 4, "pictureComes", "()Z"⟩, prog_6_method_3_code, 2, some .boolean, [], 8, 133)
abbrev M_S_readPicture : MI := (⟨cnm 4, "readPicture", "(I)V"⟩, prog_6_method_4_code, 4, none, [], 11, 213)
abbrev M_S_readHead : MI := (⟨cnm 4, "readHead", "()V"⟩, prog_6_method_5_code, 3, none, [], 9, 155)
abbrev M_T_nonZero : MI := (⟨cnm 5, "nonZero", "(I)I"⟩, prog_7_method_10_code, 3, some .int, [], 8, 133)
abbrev M_R_begin : MI := (⟨cnm 3, "begin", "(II)V"⟩, prog_5_method_4_code, 3, none, [], 2, 45)
abbrev M_P_resize : MI := (⟨cnm 1, "resize", "(II)V"⟩, prog_3_method_2_code, 4, none, [], 1, 22)
abbrev M_L_resize : MI := (⟨cnm 2, "resize", "(II)V"⟩, prog_4_method_2_code, 3, none, [], 0, 0)
abbrev M_S_passOver : MI := (⟨cnm 4, "passOver", "(II)I"⟩, prog_6_method_6_code, 5, some .int, [], 8, 135)
abbrev M_S_mostPassedInB : MI := (⟨cnm 4, "mostPassedInB", "(I)I"⟩, prog_6_method_7_code, 3, some .int, [], 0, 0)
abbrev M_T_unsigned : MI := (⟨cnm 5, "unsigned", "(I)I"⟩, prog_7_method_13_code, 6, some .int, [], 7, 110)
abbrev M_S_foretellSquare : MI := (⟨cnm 4, "foretellSquare", "(II)V"⟩, prog_6_method_11_code, 10, none, [], 3, 85)
abbrev M_S_forgetDcs : MI := (⟨cnm 4, "forgetDcs", "()V"⟩, prog_6_method_12_code, 1, none, [], 1, 23)
abbrev M_S_forgetVectors : MI := (⟨cnm 4, "forgetVectors", "()V"⟩, prog_6_method_13_code, 1, none, [], 1, 23)
abbrev M_L_foretell : MI := (⟨cnm 2, "foretell", "(LReelReader$Plane;II[IZ)V"⟩, prog_4_method_6_code, 12, none, [], 2, 54)
abbrev M_L_foretellLine : MI := (⟨cnm 2, "foretellLine", "(LReelReader$Plane;IIIZ)V"⟩, prog_4_method_7_code, 13, none, [], 1, 22)
abbrev M_X_held : MI := (⟨cnm 6, "held", "(III)I"⟩, prog_1_method_11_code, 3, some .int, [], 0, 0)
abbrev M_S_readSquare : MI := (⟨cnm 4, "readSquare", "(I)V"⟩, prog_6_method_8_code, 7, none, [], 10, 187)
abbrev M_S_readWays : MI := (⟨cnm 4, "readWays", "()I"⟩, prog_6_method_9_code, 1, some .int, [], 9, 155)
abbrev M_S_readVector : MI := (⟨cnm 4, "readVector", "([I)V"⟩, prog_6_method_10_code, 5, none, [], 9, 160)
abbrev M_T_signed : MI := (⟨cnm 5, "signed", "(II)I"⟩, prog_7_method_14_code, 6, some .int, [], 8, 135)
abbrev M_S_readBlock : MI := (⟨cnm 4, "readBlock", "(IZ)V"⟩, prog_6_method_14_code, 8, none, [], 9, 160)
abbrev M_B_clear : MI := (⟨cnm 0, "clear", "()V"⟩, prog_2_method_2_code, 1, none, [], 1, 23)
abbrev M_B_putDc : MI := (⟨cnm 0, "putDc", "(I)V"⟩, prog_2_method_3_code, 2, none, [], 1, 22)
abbrev M_B_put : MI := (⟨cnm 0, "put", "(II)V"⟩, prog_2_method_5_code, 3, none, [], 0, 0)
abbrev M_B_putLevel : MI := (⟨cnm 0, "putLevel", "(IIIZ)V"⟩, prog_2_method_4_code, 8, none, [], 1, 22)
abbrev M_S_drawBlock : MI := (⟨cnm 4, "drawBlock", "(IIZ)V"⟩, prog_6_method_15_code, 8, none, [], 2, 50)
abbrev M_B_makeSums : MI := (⟨cnm 0, "makeSums", "()V"⟩, prog_2_method_6_code, 2, none, [], 1, 24)
abbrev M_B_addRow : MI := (⟨cnm 0, "addRow", "(I)V"⟩, prog_2_method_7_code, 5, none, [], 0, 0)
abbrev M_L_draw : MI := (⟨cnm 2, "draw", "([IIIZ)V"⟩, prog_4_method_8_code, 9, none, [], 1, 22)
abbrev M_R_takeWhole : MI := (⟨cnm 3, "takeWhole", "()V"⟩, prog_5_method_5_code, 3, none, [], 4, 106)
abbrev M_R_show : MI := (⟨cnm 3, "show", "(LReelReader$Picture;)V"⟩, prog_5_method_7_code, 4, none, [], 3, 83)
abbrev M_P_copyFrom : MI := (⟨cnm 1, "copyFrom", "(LReelReader$Picture;)V"⟩, prog_3_method_3_code, 3, none, [], 2, 61)
abbrev M_L_copyFrom : MI := (⟨cnm 2, "copyFrom", "(LReelReader$Plane;)V"⟩, prog_4_method_3_code, 2, none, [], 1, 40)
abbrev M_R_finish : MI := (⟨cnm 3, "finish", "()V"⟩, prog_5_method_6_code, 1, none, [], 4, 106)
abbrev M_X_wrong : MI := (⟨cnm 6, "wrong", "()I"⟩, prog_1_method_6_code, 1, some .int, [], 0, 0)
abbrev M_X_dot : MI := (⟨cnm 6, "dot", "(IIII)I"⟩, prog_1_method_9_code, 6, some .int, [], 2, 44)
abbrev M_R_keptPlane : MI := (⟨cnm 3, "keptPlane", "(II)LReelReader$Plane;"⟩, prog_5_method_9_code, 4, some (.object "ReelReader$Plane"), [], 1, 21)
abbrev M_R_keptPicture : MI := (⟨cnm 3, "keptPicture", "(I)LReelReader$Picture;"⟩, prog_5_method_8_code, 2, some (.object "ReelReader$Picture"), [], 0, 0)
abbrev M_L_dotOrNone : MI := (⟨cnm 2, "dotOrNone", "(II)I"⟩, prog_4_method_4_code, 3, some .int, [], 0, 0)
abbrev M_X_sum : MI := (⟨cnm 6, "sum", "(II)I"⟩, prog_1_method_10_code, 4, some .int, [], 2, 44)
abbrev M_L_numberedTotal : MI := (⟨cnm 2, "numberedTotal", "()I"⟩, prog_4_method_5_code, 3, some .int, [], 0, 0)
abbrev M_W_look : MI := (⟨cnm 8, "look", "(LReelReader;I[J)I"⟩, method_3_code, 4, some .int, [(0, 9, 12, 13)], 7, 110)
abbrev M_X_look : MI := (⟨cnm 6, "look", "(I)I"⟩, prog_1_method_7_code, 2, some .int, [], 6, 89)
abbrev M_W_shown : MI := (⟨cnm 8, "shown", "(LReelReader;II[J)I"⟩, method_4_code, 5, some .int, [(0, 10, 13, 13)], 7, 112)
abbrev M_X_shown : MI := (⟨cnm 6, "shown", "(II)I"⟩, prog_1_method_8_code, 4, some .int, [], 6, 89)
abbrev M_M_thrown : MI := (⟨cnm 7, "thrown", "()I"⟩, prog_9_method_1_code, 1, some .int, [], 0, 0)
abbrev M_M_init : MI := (⟨cnm 7, "<init>", "()V"⟩, prog_9_method_20_code, 6, none, [], 1, 20)
abbrev M_M_feed : MI := (⟨cnm 7, "feed", "(IIIII)I"⟩, prog_9_method_38_code, 8, some .int, [], 1, 20)
abbrev M_M_taped : MI := (⟨cnm 7, "taped", "()I"⟩, prog_9_method_37_code, 1, some .int, [], 0, 0)
abbrev M_M_end : MI := (⟨cnm 7, "end", "(I)Z"⟩, prog_9_method_39_code, 2, some .boolean, [], 1, 20)
abbrev M_M_bits : MI := (⟨cnm 7, "bits", "(II)I"⟩, prog_9_method_40_code, 5, some .int, [], 0, 0)
abbrev M_M_read : MI := (⟨cnm 7, "read", "()I"⟩, prog_9_method_41_code, 3, some .int, [], 11, 252)
abbrev M_M_stream : MI := (⟨cnm 7, "stream", "()V"⟩, prog_9_method_36_code, 6, none, [], 10, 227)
abbrev M_M_isFirst : MI := (⟨cnm 7, "isFirst", "(III)Z"⟩, prog_9_method_9_code, 9, some .boolean, [], 2, 42)
abbrev M_M_bit : MI := (⟨cnm 7, "bit", "()I"⟩, prog_9_method_3_code, 2, some .int, [], 1, 21)
abbrev M_M_isWrong : MI := (⟨cnm 7, "isWrong", "(I)Z"⟩, prog_9_method_2_code, 2, some .boolean, [], 0, 0)
abbrev M_M_number : MI := (⟨cnm 7, "number", "(I)I"⟩, prog_9_method_4_code, 4, some .int, [], 2, 42)
abbrev M_M_align : MI := (⟨cnm 7, "align", "()V"⟩, prog_9_method_8_code, 2, none, [], 2, 42)
abbrev M_M_picture : MI := (⟨cnm 7, "picture", "()Z"⟩, prog_9_method_34_code, 2, some .boolean, [], 9, 206)
abbrev M_M_numberAbove : MI := (⟨cnm 7, "numberAbove", "(I)I"⟩, prog_9_method_5_code, 4, some .int, [], 3, 65)
abbrev M_M_allSquares : MI := (⟨cnm 7, "allSquares", "()Z"⟩, prog_9_method_33_code, 4, some .boolean, [], 8, 183)
abbrev M_M_readU : MI := (⟨cnm 7, "readU", "()I"⟩, prog_9_method_6_code, 3, some .int, [], 3, 65)
abbrev M_M_passes : MI := (⟨cnm 7, "passes", "(III)Z"⟩, prog_9_method_31_code, 6, some .boolean, [], 6, 151)
abbrev M_M_begins : MI := (⟨cnm 7, "begins", "()V"⟩, prog_9_method_32_code, 1, none, [], 1, 21)
abbrev M_M_resetDcs : MI := (⟨cnm 7, "resetDcs", "()V"⟩, prog_9_method_28_code, 2, none, [], 0, 0)
abbrev M_M_resetVectors : MI := (⟨cnm 7, "resetVectors", "()V"⟩, prog_9_method_27_code, 2, none, [], 0, 0)
abbrev M_M_foretells : MI := (⟨cnm 7, "foretells", "(I)V"⟩, prog_9_method_19_code, 6, none, [], 5, 126)
abbrev M_M_planeAt : MI := (⟨cnm 7, "planeAt", "(I)I"⟩, prog_9_method_12_code, 2, some .int, [], 0, 0)
abbrev M_M_planeWidth : MI := (⟨cnm 7, "planeWidth", "(I)I"⟩, prog_9_method_10_code, 2, some .int, [], 0, 0)
abbrev M_M_foretoldDot : MI := (⟨cnm 7, "foretoldDot", "(III)I"⟩, prog_9_method_18_code, 4, some .int, [], 4, 103)
abbrev M_M_forward : MI := (⟨cnm 7, "forward", "()[I"⟩, prog_9_method_17_code, 1, some (.array .int), [], 0, 0)
abbrev M_M_moved : MI := (⟨cnm 7, "moved", "([IIIII)I"⟩, prog_9_method_16_code, 8, some .int, [], 3, 76)
abbrev M_M_between : MI := (⟨cnm 7, "between", "([IIII)I"⟩, prog_9_method_15_code, 8, some .int, [], 2, 49)
abbrev M_M_dotOf : MI := (⟨cnm 7, "dotOf", "([IIII)I"⟩, prog_9_method_14_code, 9, some .int, [], 1, 21)
abbrev M_M_planeHeight : MI := (⟨cnm 7, "planeHeight", "(I)I"⟩, prog_9_method_11_code, 2, some .int, [], 0, 0)
abbrev M_M_square : MI := (⟨cnm 7, "square", "(I)Z"⟩, prog_9_method_30_code, 5, some .boolean, [], 7, 159)
abbrev M_M_vector : MI := (⟨cnm 7, "vector", "(I)Z"⟩, prog_9_method_29_code, 7, some .boolean, [], 5, 108)
abbrev M_M_readS : MI := (⟨cnm 7, "readS", "()I"⟩, prog_9_method_7_code, 2, some .int, [], 4, 87)
abbrev M_M_allBlocks : MI := (⟨cnm 7, "allBlocks", "(II)Z"⟩, prog_9_method_26_code, 7, some .boolean, [], 6, 133)
abbrev M_M_block : MI := (⟨cnm 7, "block", "(I)Z"⟩, prog_9_method_25_code, 6, some .boolean, [], 5, 108)
abbrev M_M_factor : MI := (⟨cnm 7, "factor", "(II)I"⟩, prog_9_method_23_code, 5, some .int, [], 1, 22)
abbrev M_M_held : MI := (⟨cnm 7, "held", "(III)I"⟩, prog_9_method_22_code, 3, some .int, [], 0, 0)
abbrev M_M_sums : MI := (⟨cnm 7, "sums", "(III)V"⟩, prog_9_method_24_code, 9, none, [], 1, 22)
abbrev M_M_wave : MI := (⟨cnm 7, "wave", "(II)I"⟩, prog_9_method_21_code, 2, some .int, [], 0, 0)
abbrev M_M_lands : MI := (⟨cnm 7, "lands", "(I)V"⟩, prog_9_method_35_code, 3, none, [], 1, 26)
abbrev M_M_shows : MI := (⟨cnm 7, "shows", "([IIIII)V"⟩, prog_9_method_13_code, 7, none, [], 0, 0)
abbrev M_M_wrong : MI := (⟨cnm 7, "wrong", "()I"⟩, prog_9_method_42_code, 1, some .int, [], 0, 0)
abbrev M_M_look : MI := (⟨cnm 7, "look", "(I)I"⟩, prog_9_method_43_code, 2, some .int, [], 0, 0)
abbrev M_M_shown : MI := (⟨cnm 7, "shown", "(II)I"⟩, prog_9_method_45_code, 3, some .int, [], 1, 21)
abbrev M_M_noPicture : MI := (⟨cnm 7, "noPicture", "(I)Z"⟩, prog_9_method_44_code, 2, some .boolean, [], 0, 0)
abbrev M_M_dot : MI := (⟨cnm 7, "dot", "(IIII)I"⟩, prog_9_method_47_code, 5, some .int, [], 2, 43)
abbrev M_M_noPlane : MI := (⟨cnm 7, "noPlane", "(II)Z"⟩, prog_9_method_46_code, 3, some .boolean, [], 1, 21)
abbrev M_M_sum : MI := (⟨cnm 7, "sum", "(II)I"⟩, prog_9_method_48_code, 5, some .int, [], 2, 43)
abbrev M_W_law : MI := (⟨cnm 8, "law", "([I)Z"⟩, code, 7, some .boolean, [], 15, 580)
def FL (own : String) (idx ci k : Nat) : Prop := ci < 8 ∧ k < cN ci ∧ Cond.fieldLink own idx (cnm ci) (cT ci k).2.1 (cT ci k).2.2.1 ∈ lw_tbl
theorem fX_10 : FL (cnm 6) 10 6 0 := ⟨by decide, by decide, List.mem_of_getElem? (i := 235) (by decide +kernel)⟩
theorem fX_19 : FL (cnm 6) 19 6 1 := ⟨by decide, by decide, List.mem_of_getElem? (i := 236) (by decide +kernel)⟩
theorem fX_28 : FL (cnm 6) 28 6 2 := ⟨by decide, by decide, List.mem_of_getElem? (i := 237) (by decide +kernel)⟩
theorem fX_66 : FL (cnm 6) 66 3 0 := ⟨by decide, by decide, List.mem_of_getElem? (i := 146) (by decide +kernel)⟩
theorem fX_70 : FL (cnm 6) 70 5 3 := ⟨by decide, by decide, List.mem_of_getElem? (i := 88) (by decide +kernel)⟩
theorem fX_81 : FL (cnm 6) 81 1 1 := ⟨by decide, by decide, List.mem_of_getElem? (i := 139) (by decide +kernel)⟩
theorem fB_7 : FL (cnm 0) 7 0 0 := ⟨by decide, by decide, List.mem_of_getElem? (i := 190) (by decide +kernel)⟩
theorem fB_13 : FL (cnm 0) 13 0 1 := ⟨by decide, by decide, List.mem_of_getElem? (i := 191) (by decide +kernel)⟩
theorem fB_22 : FL (cnm 0) 22 0 2 := ⟨by decide, by decide, List.mem_of_getElem? (i := 193) (by decide +kernel)⟩
theorem fB_26 : FL (cnm 0) 26 0 3 := ⟨by decide, by decide, List.mem_of_getElem? (i := 194) (by decide +kernel)⟩
theorem fP_12 : FL (cnm 1) 12 1 0 := ⟨by decide, by decide, List.mem_of_getElem? (i := 133) (by decide +kernel)⟩
theorem fP_18 : FL (cnm 1) 18 1 1 := ⟨by decide, by decide, List.mem_of_getElem? (i := 136) (by decide +kernel)⟩
theorem fL_9 : FL (cnm 2) 9 2 3 := ⟨by decide, by decide, List.mem_of_getElem? (i := 122) (by decide +kernel)⟩
theorem fL_15 : FL (cnm 2) 15 2 0 := ⟨by decide, by decide, List.mem_of_getElem? (i := 119) (by decide +kernel)⟩
theorem fL_19 : FL (cnm 2) 19 2 1 := ⟨by decide, by decide, List.mem_of_getElem? (i := 120) (by decide +kernel)⟩
theorem fL_22 : FL (cnm 2) 22 2 2 := ⟨by decide, by decide, List.mem_of_getElem? (i := 121) (by decide +kernel)⟩
theorem fR_9 : FL (cnm 3) 9 3 0 := ⟨by decide, by decide, List.mem_of_getElem? (i := 145) (by decide +kernel)⟩
theorem fR_17 : FL (cnm 3) 17 3 1 := ⟨by decide, by decide, List.mem_of_getElem? (i := 148) (by decide +kernel)⟩
theorem fR_21 : FL (cnm 3) 21 3 2 := ⟨by decide, by decide, List.mem_of_getElem? (i := 149) (by decide +kernel)⟩
theorem fR_25 : FL (cnm 3) 25 3 3 := ⟨by decide, by decide, List.mem_of_getElem? (i := 151) (by decide +kernel)⟩
theorem fR_29 : FL (cnm 3) 29 3 4 := ⟨by decide, by decide, List.mem_of_getElem? (i := 153) (by decide +kernel)⟩
theorem fR_33 : FL (cnm 3) 33 3 5 := ⟨by decide, by decide, List.mem_of_getElem? (i := 155) (by decide +kernel)⟩
theorem fR_36 : FL (cnm 3) 36 3 6 := ⟨by decide, by decide, List.mem_of_getElem? (i := 157) (by decide +kernel)⟩
theorem fR_45 : FL (cnm 3) 45 3 7 := ⟨by decide, by decide, List.mem_of_getElem? (i := 159) (by decide +kernel)⟩
theorem fR_52 : FL (cnm 3) 52 1 1 := ⟨by decide, by decide, List.mem_of_getElem? (i := 137) (by decide +kernel)⟩
theorem fR_72 : FL (cnm 3) 72 1 0 := ⟨by decide, by decide, List.mem_of_getElem? (i := 134) (by decide +kernel)⟩
theorem fS_12 : FL (cnm 4) 12 4 2 := ⟨by decide, by decide, List.mem_of_getElem? (i := 206) (by decide +kernel)⟩
theorem fS_18 : FL (cnm 4) 18 4 3 := ⟨by decide, by decide, List.mem_of_getElem? (i := 207) (by decide +kernel)⟩
theorem fS_22 : FL (cnm 4) 22 4 4 := ⟨by decide, by decide, List.mem_of_getElem? (i := 208) (by decide +kernel)⟩
theorem fS_25 : FL (cnm 4) 25 4 5 := ⟨by decide, by decide, List.mem_of_getElem? (i := 209) (by decide +kernel)⟩
theorem fS_28 : FL (cnm 4) 28 4 0 := ⟨by decide, by decide, List.mem_of_getElem? (i := 204) (by decide +kernel)⟩
theorem fS_32 : FL (cnm 4) 32 4 1 := ⟨by decide, by decide, List.mem_of_getElem? (i := 205) (by decide +kernel)⟩
theorem fS_61 : FL (cnm 4) 61 4 6 := ⟨by decide, by decide, List.mem_of_getElem? (i := 210) (by decide +kernel)⟩
theorem fS_68 : FL (cnm 4) 68 3 2 := ⟨by decide, by decide, List.mem_of_getElem? (i := 150) (by decide +kernel)⟩
theorem fS_71 : FL (cnm 4) 71 3 3 := ⟨by decide, by decide, List.mem_of_getElem? (i := 152) (by decide +kernel)⟩
theorem fS_85 : FL (cnm 4) 85 5 2 := ⟨by decide, by decide, List.mem_of_getElem? (i := 85) (by decide +kernel)⟩
theorem fS_91 : FL (cnm 4) 91 3 7 := ⟨by decide, by decide, List.mem_of_getElem? (i := 160) (by decide +kernel)⟩
theorem fS_97 : FL (cnm 4) 97 4 7 := ⟨by decide, by decide, List.mem_of_getElem? (i := 211) (by decide +kernel)⟩
theorem fS_100 : FL (cnm 4) 100 4 8 := ⟨by decide, by decide, List.mem_of_getElem? (i := 212) (by decide +kernel)⟩
theorem fS_109 : FL (cnm 4) 109 4 9 := ⟨by decide, by decide, List.mem_of_getElem? (i := 213) (by decide +kernel)⟩
theorem fS_115 : FL (cnm 4) 115 3 4 := ⟨by decide, by decide, List.mem_of_getElem? (i := 154) (by decide +kernel)⟩
theorem fS_119 : FL (cnm 4) 119 1 1 := ⟨by decide, by decide, List.mem_of_getElem? (i := 138) (by decide +kernel)⟩
theorem fS_124 : FL (cnm 4) 124 3 0 := ⟨by decide, by decide, List.mem_of_getElem? (i := 147) (by decide +kernel)⟩
theorem fS_151 : FL (cnm 4) 151 3 5 := ⟨by decide, by decide, List.mem_of_getElem? (i := 156) (by decide +kernel)⟩
theorem fS_154 : FL (cnm 4) 154 3 6 := ⟨by decide, by decide, List.mem_of_getElem? (i := 158) (by decide +kernel)⟩
theorem fS_157 : FL (cnm 4) 157 1 0 := ⟨by decide, by decide, List.mem_of_getElem? (i := 135) (by decide +kernel)⟩
theorem fS_186 : FL (cnm 4) 186 0 1 := ⟨by decide, by decide, List.mem_of_getElem? (i := 192) (by decide +kernel)⟩
theorem fT_11 : FL (cnm 5) 11 5 0 := ⟨by decide, by decide, List.mem_of_getElem? (i := 83) (by decide +kernel)⟩
theorem fT_15 : FL (cnm 5) 15 5 3 := ⟨by decide, by decide, List.mem_of_getElem? (i := 87) (by decide +kernel)⟩
theorem fT_19 : FL (cnm 5) 19 5 1 := ⟨by decide, by decide, List.mem_of_getElem? (i := 84) (by decide +kernel)⟩
theorem fT_34 : FL (cnm 5) 34 5 2 := ⟨by decide, by decide, List.mem_of_getElem? (i := 86) (by decide +kernel)⟩
theorem fM_1 : FL (cnm 7) 1 7 0 := ⟨by decide, by decide, List.mem_of_getElem? (i := 607) (by decide +kernel)⟩
theorem fM_7 : FL (cnm 7) 7 7 6 := ⟨by decide, by decide, List.mem_of_getElem? (i := 613) (by decide +kernel)⟩
theorem fM_10 : FL (cnm 7) 10 7 4 := ⟨by decide, by decide, List.mem_of_getElem? (i := 611) (by decide +kernel)⟩
theorem fM_13 : FL (cnm 7) 13 7 5 := ⟨by decide, by decide, List.mem_of_getElem? (i := 612) (by decide +kernel)⟩
theorem fM_20 : FL (cnm 7) 20 7 3 := ⟨by decide, by decide, List.mem_of_getElem? (i := 610) (by decide +kernel)⟩
theorem fM_35 : FL (cnm 7) 35 7 7 := ⟨by decide, by decide, List.mem_of_getElem? (i := 614) (by decide +kernel)⟩
theorem fM_38 : FL (cnm 7) 38 7 8 := ⟨by decide, by decide, List.mem_of_getElem? (i := 615) (by decide +kernel)⟩
theorem fM_41 : FL (cnm 7) 41 7 22 := ⟨by decide, by decide, List.mem_of_getElem? (i := 629) (by decide +kernel)⟩
theorem fM_44 : FL (cnm 7) 44 7 18 := ⟨by decide, by decide, List.mem_of_getElem? (i := 625) (by decide +kernel)⟩
theorem fM_47 : FL (cnm 7) 47 7 19 := ⟨by decide, by decide, List.mem_of_getElem? (i := 626) (by decide +kernel)⟩
theorem fM_64 : FL (cnm 7) 64 7 28 := ⟨by decide, by decide, List.mem_of_getElem? (i := 635) (by decide +kernel)⟩
theorem fM_70 : FL (cnm 7) 70 7 34 := ⟨by decide, by decide, List.mem_of_getElem? (i := 641) (by decide +kernel)⟩
theorem fM_73 : FL (cnm 7) 73 7 10 := ⟨by decide, by decide, List.mem_of_getElem? (i := 617) (by decide +kernel)⟩
theorem fM_76 : FL (cnm 7) 76 7 11 := ⟨by decide, by decide, List.mem_of_getElem? (i := 618) (by decide +kernel)⟩
theorem fM_79 : FL (cnm 7) 79 7 30 := ⟨by decide, by decide, List.mem_of_getElem? (i := 637) (by decide +kernel)⟩
theorem fM_83 : FL (cnm 7) 83 7 31 := ⟨by decide, by decide, List.mem_of_getElem? (i := 638) (by decide +kernel)⟩
theorem fM_94 : FL (cnm 7) 94 7 9 := ⟨by decide, by decide, List.mem_of_getElem? (i := 616) (by decide +kernel)⟩
theorem fM_107 : FL (cnm 7) 107 7 1 := ⟨by decide, by decide, List.mem_of_getElem? (i := 608) (by decide +kernel)⟩
theorem fM_111 : FL (cnm 7) 111 7 29 := ⟨by decide, by decide, List.mem_of_getElem? (i := 636) (by decide +kernel)⟩
theorem fM_114 : FL (cnm 7) 114 7 33 := ⟨by decide, by decide, List.mem_of_getElem? (i := 640) (by decide +kernel)⟩
theorem fM_117 : FL (cnm 7) 117 7 37 := ⟨by decide, by decide, List.mem_of_getElem? (i := 644) (by decide +kernel)⟩
theorem fM_120 : FL (cnm 7) 120 7 38 := ⟨by decide, by decide, List.mem_of_getElem? (i := 645) (by decide +kernel)⟩
theorem fM_123 : FL (cnm 7) 123 7 39 := ⟨by decide, by decide, List.mem_of_getElem? (i := 646) (by decide +kernel)⟩
theorem fM_126 : FL (cnm 7) 126 7 42 := ⟨by decide, by decide, List.mem_of_getElem? (i := 649) (by decide +kernel)⟩
theorem fM_132 : FL (cnm 7) 132 7 32 := ⟨by decide, by decide, List.mem_of_getElem? (i := 639) (by decide +kernel)⟩
theorem fM_135 : FL (cnm 7) 135 7 35 := ⟨by decide, by decide, List.mem_of_getElem? (i := 642) (by decide +kernel)⟩
theorem fM_151 : FL (cnm 7) 151 7 27 := ⟨by decide, by decide, List.mem_of_getElem? (i := 634) (by decide +kernel)⟩
theorem fM_157 : FL (cnm 7) 157 7 26 := ⟨by decide, by decide, List.mem_of_getElem? (i := 633) (by decide +kernel)⟩
theorem fM_164 : FL (cnm 7) 164 7 36 := ⟨by decide, by decide, List.mem_of_getElem? (i := 643) (by decide +kernel)⟩
theorem fM_181 : FL (cnm 7) 181 7 24 := ⟨by decide, by decide, List.mem_of_getElem? (i := 631) (by decide +kernel)⟩
theorem fM_184 : FL (cnm 7) 184 7 40 := ⟨by decide, by decide, List.mem_of_getElem? (i := 647) (by decide +kernel)⟩
theorem fM_196 : FL (cnm 7) 196 7 25 := ⟨by decide, by decide, List.mem_of_getElem? (i := 632) (by decide +kernel)⟩
theorem fM_199 : FL (cnm 7) 199 7 41 := ⟨by decide, by decide, List.mem_of_getElem? (i := 648) (by decide +kernel)⟩
theorem fM_212 : FL (cnm 7) 212 7 12 := ⟨by decide, by decide, List.mem_of_getElem? (i := 619) (by decide +kernel)⟩
theorem fM_215 : FL (cnm 7) 215 7 13 := ⟨by decide, by decide, List.mem_of_getElem? (i := 620) (by decide +kernel)⟩
theorem fM_222 : FL (cnm 7) 222 7 23 := ⟨by decide, by decide, List.mem_of_getElem? (i := 630) (by decide +kernel)⟩
theorem fM_229 : FL (cnm 7) 229 7 14 := ⟨by decide, by decide, List.mem_of_getElem? (i := 621) (by decide +kernel)⟩
theorem fM_232 : FL (cnm 7) 232 7 15 := ⟨by decide, by decide, List.mem_of_getElem? (i := 622) (by decide +kernel)⟩
theorem fM_235 : FL (cnm 7) 235 7 16 := ⟨by decide, by decide, List.mem_of_getElem? (i := 623) (by decide +kernel)⟩
theorem fM_238 : FL (cnm 7) 238 7 17 := ⟨by decide, by decide, List.mem_of_getElem? (i := 624) (by decide +kernel)⟩
theorem fM_244 : FL (cnm 7) 244 7 20 := ⟨by decide, by decide, List.mem_of_getElem? (i := 627) (by decide +kernel)⟩
theorem fM_247 : FL (cnm 7) 247 7 21 := ⟨by decide, by decide, List.mem_of_getElem? (i := 628) (by decide +kernel)⟩
theorem fM_255 : FL (cnm 7) 255 7 2 := ⟨by decide, by decide, List.mem_of_getElem? (i := 609) (by decide +kernel)⟩
end
section
/-! ===== a method's numbers; the memory: what every cell holds, by address and place ===== -/
def iY (M : MI) : MethodName := M.1
def iC (M : MI) : ByteArray := M.2.1
def iL (M : MI) : Nat := M.2.2.1
def iR (M : MI) : Option FieldType := M.2.2.2.1
def iH (M : MI) : List (Nat × Nat × Nat × Nat) := M.2.2.2.2.1
def iF (M : MI) : Nat := M.2.2.2.2.2.1
def iW (M : MI) : Nat := M.2.2.2.2.2.2
abbrev Out : Type := Option Value ⊕ String
/-- kinds, lengths, ints, references, longs, the next address, the slots used -/
def Mem : Type := (Nat → Nat) × (Nat → Nat) × (Nat → Nat → Int32) × (Nat → Nat → Option Nat) × (Nat → Nat → Int64) × Nat × Nat
def mK (h : Mem) : Nat → Nat := h.1
def mL (h : Mem) : Nat → Nat := h.2.1
def mI (h : Mem) : Nat → Nat → Int32 := h.2.2.1
def mR (h : Mem) : Nat → Nat → Option Nat := h.2.2.2.1
def mJ (h : Mem) : Nat → Nat → Int64 := h.2.2.2.2.1
def mN (h : Mem) : Nat := h.2.2.2.2.2.1
def mU (h : Mem) : Nat := h.2.2.2.2.2.2
def sI (h : Mem) (a k : Nat) (v : Int32) : Mem := (mK h, mL h, (fun b j => if b = a ∧ j = k then v else mI h b j), mR h, mJ h, mN h, mU h)
def sR (h : Mem) (a k : Nat) (v : Option Nat) : Mem := (mK h, mL h, mI h, (fun b j => if b = a ∧ j = k then v else mR h b j), mJ h, mN h, mU h)
def sJ (h : Mem) (a k : Nat) (v : Int64) : Mem := (mK h, mL h, mI h, mR h, (fun b j => if b = a ∧ j = k then v else mJ h b j), mN h, mU h)
/-- n ints from place sp of a to place dp of b -/
def cpI (h : Mem) (a sp b dp n : Nat) : Mem := (mK h, mL h, (fun c j => if c = b ∧ dp ≤ j ∧ j < dp + n then mI h a (sp + (j - dp)) else mI h c j), mR h, mJ h, mN h, mU h)
/-- a new cell of kind kd with len places, which takes n slots -/
def nw (h : Mem) (kd len n : Nat) : Mem := ((fun b => if b = mN h then kd else mK h b), (fun b => if b = mN h then len else mL h b), (fun b j => if b = mN h then 0 else mI h b j), (fun b j => if b = mN h then none else mR h b j), (fun b j => if b = mN h then 0 else mJ h b j), mN h + 1, mU h + n)
theorem mK_sI (h : Mem) (a k : Nat) (v : Int32) : mK (sI h a k v) = mK h := rfl
theorem mL_sI (h : Mem) (a k : Nat) (v : Int32) : mL (sI h a k v) = mL h := rfl
theorem mR_sI (h : Mem) (a k : Nat) (v : Int32) : mR (sI h a k v) = mR h := rfl
theorem mJ_sI (h : Mem) (a k : Nat) (v : Int32) : mJ (sI h a k v) = mJ h := rfl
theorem mN_sI (h : Mem) (a k : Nat) (v : Int32) : mN (sI h a k v) = mN h := rfl
theorem mU_sI (h : Mem) (a k : Nat) (v : Int32) : mU (sI h a k v) = mU h := rfl
theorem mI_sI (h : Mem) (a k : Nat) (v : Int32) (b j : Nat) : mI (sI h a k v) b j = if b = a ∧ j = k then v else mI h b j := rfl
theorem mK_sR (h : Mem) (a k : Nat) (v : Option Nat) : mK (sR h a k v) = mK h := rfl
theorem mL_sR (h : Mem) (a k : Nat) (v : Option Nat) : mL (sR h a k v) = mL h := rfl
theorem mI_sR (h : Mem) (a k : Nat) (v : Option Nat) : mI (sR h a k v) = mI h := rfl
theorem mJ_sR (h : Mem) (a k : Nat) (v : Option Nat) : mJ (sR h a k v) = mJ h := rfl
theorem mN_sR (h : Mem) (a k : Nat) (v : Option Nat) : mN (sR h a k v) = mN h := rfl
theorem mU_sR (h : Mem) (a k : Nat) (v : Option Nat) : mU (sR h a k v) = mU h := rfl
theorem mR_sR (h : Mem) (a k : Nat) (v : Option Nat) (b j : Nat) : mR (sR h a k v) b j = if b = a ∧ j = k then v else mR h b j := rfl
theorem mK_cpI (h : Mem) (a sp b dp n : Nat) : mK (cpI h a sp b dp n) = mK h := rfl
theorem mL_cpI (h : Mem) (a sp b dp n : Nat) : mL (cpI h a sp b dp n) = mL h := rfl
theorem mR_cpI (h : Mem) (a sp b dp n : Nat) : mR (cpI h a sp b dp n) = mR h := rfl
theorem mJ_cpI (h : Mem) (a sp b dp n : Nat) : mJ (cpI h a sp b dp n) = mJ h := rfl
theorem mN_cpI (h : Mem) (a sp b dp n : Nat) : mN (cpI h a sp b dp n) = mN h := rfl
theorem mU_cpI (h : Mem) (a sp b dp n : Nat) : mU (cpI h a sp b dp n) = mU h := rfl
theorem mI_cpI (h : Mem) (a sp b dp n c j : Nat) : mI (cpI h a sp b dp n) c j = if c = b ∧ dp ≤ j ∧ j < dp + n then mI h a (sp + (j - dp)) else mI h c j := rfl
theorem mN_nw (h : Mem) (kd len n : Nat) : mN (nw h kd len n) = mN h + 1 := rfl
theorem mU_nw (h : Mem) (kd len n : Nat) : mU (nw h kd len n) = mU h + n := rfl
theorem mK_nw (h : Mem) (kd len n b : Nat) : mK (nw h kd len n) b = if b = mN h then kd else mK h b := rfl
theorem mL_nw (h : Mem) (kd len n b : Nat) : mL (nw h kd len n) b = if b = mN h then len else mL h b := rfl
theorem mI_nw (h : Mem) (kd len n b j : Nat) : mI (nw h kd len n) b j = if b = mN h then 0 else mI h b j := rfl
theorem mR_nw (h : Mem) (kd len n b j : Nat) : mR (nw h kd len n) b j = if b = mN h then none else mR h b j := rfl
theorem mJ_nw (h : Mem) (kd len n b j : Nat) : mJ (nw h kd len n) b j = if b = mN h then 0 else mJ h b j := rfl
/-! ===== the memory and the machine's heap ===== -/
def xC (s0 : State) (ci : Nat) : ClassId := (s0.vm.findClass (cnm ci)).getD 0
def xI (s0 : State) (ci k : Nat) : Nat := match s0.fieldFound? (cT ci k).1 (cT ci k).2.1 (cT ci k).2.2.1 with
  | some q => q.2.2.2.slot
  | none => 0
def fV (h : Mem) (ci a k : Nat) : Value := if isR ci k = true then va_rf (mR h a k) else .int (mI h a k)
def aOK (s0 : State) (ty : FieldType) (n : Nat) (f : Nat → Value) (cell : Cell) : Prop := s0.isArrayOf cell ty ∧ cell.vm ≠ .unknown ∧ cell.slots.size = n ∧ n < 2 ^ 31 ∧ ∀ j, j < n → cell.slots[j]? = some (f j)
def rOK (s0 : State) (C : String) (n : Nat) (f : Nat → Value) (cell : Cell) : Prop := aOK s0 (.object C) n f cell ∧ ∃ kA comp, s0.vm.classes[cell.cls]? = some kA ∧ kA.kind = .array comp (.object C) ∧ s0.vm.findClass C = some comp
def oOK (s0 : State) (h : Mem) (ci a : Nat) (cell : Cell) : Prop := ci < 8 ∧ cell.cls = xC s0 ci ∧ cell.vm = .none ∧ ∀ j, j < cN ci → cell.slots[xI s0 ci j]? = some (fV h ci a j)
/-- kinds: 1 to 8 objects of the classes 0 to 7; 11 int[], 12 byte[], 13 long[], 14 Picture[], 15 Plane[]; 21 int[] that nobody writes -/
def cOK (s0 : State) (h : Mem) (a : Nat) (cell : Cell) : Prop :=
  if mK h a = 11 ∨ mK h a = 21 then aOK s0 .int (mL h a) (fun j => .int (mI h a j)) cell else
  if mK h a = 12 then aOK s0 .byte (mL h a) (fun j => .int (mI h a j)) cell else
  if mK h a = 13 then aOK s0 .long (mL h a) (fun j => .long (mJ h a j)) cell else
  if mK h a = 14 then rOK s0 (cnm 1) (mL h a) (fun j => va_rf (mR h a j)) cell else
  if mK h a = 15 then rOK s0 (cnm 2) (mL h a) (fun j => va_rf (mR h a j)) cell else
  oOK s0 h (mK h a - 1) a cell
def Rep (s0 : State) (h : Mem) (H : Heap) : Prop := H.size = mN h ∧ s0.heap.size ≤ mN h ∧ (∀ q, q < s0.heap.size → H[q]? = s0.heap[q]?) ∧ ∀ a, mK h a ≠ 0 → (∃ cell, H[a]? = some cell ∧ cOK s0 h a cell) ∧ (mK h a = 21 ∨ s0.heap.size ≤ a)
theorem cOK_congr {s0 : State} {h h' : Mem} {b : Nat} {cell : Cell} (hK : mK h' b = mK h b) (hL : mL h' b = mL h b) (hI : ∀ i, mI h' b i = mI h b i) (hR : ∀ i, mR h' b i = mR h b i) (hJ : ∀ i, mJ h' b i = mJ h b i) (hc : cOK s0 h b cell) : cOK s0 h' b cell := by
  unfold cOK oOK fV at hc ⊢
  simp only [hK, hL, hI, hR, hJ]
  exact hc
theorem Rep.upd {s0 : State} {h h' : Mem} {H H' : Heap} {a : Nat} {cell' : Cell} (hr : Rep s0 h H) (ha : s0.heap.size ≤ a) (e1 : H'[a]? = some cell') (e2 : H'.size = H.size) (e3 : ∀ q, q ≠ a → H'[q]? = H[q]?)
    (hN : mN h' = mN h) (hg : ∀ b, b ≠ a → mK h' b = mK h b ∧ mL h' b = mL h b ∧ (∀ i, mI h' b i = mI h b i) ∧ (∀ i, mR h' b i = mR h b i) ∧ ∀ i, mJ h' b i = mJ h b i) (hc : mK h' a ≠ 0 → cOK s0 h' a cell') : Rep s0 h' H' := by
  obtain ⟨r1, r2, r3, r4⟩ := hr
  refine ⟨by rw [e2, hN]; exact r1, by rw [hN]; exact r2, fun q hq => by rw [e3 q (by omega)]; exact r3 q hq, fun b hb => ?_⟩
  by_cases hba : b = a
  · subst hba
    exact ⟨⟨cell', e1, hc hb⟩, Or.inr ha⟩
  · obtain ⟨g1, g2, g3, g4, g5⟩ := hg b hba
    obtain ⟨⟨c, c1, c2⟩, c3⟩ := r4 b (by rw [← g1]; exact hb)
    exact ⟨⟨c, by rw [e3 b hba]; exact c1, cOK_congr g1 g2 g3 g4 g5 c2⟩, by rw [g1]; exact c3⟩
theorem Rep.new {s0 : State} {h h' : Mem} {H H' : Heap} (hr : Rep s0 h H) (e2 : H'.size = H.size + 1) (e3 : ∀ q, q < H.size → H'[q]? = H[q]?)
    (hN : mN h' = mN h + 1) (hg : ∀ b, b ≠ mN h → mK h' b = mK h b ∧ mL h' b = mL h b ∧ (∀ i, mI h' b i = mI h b i) ∧ (∀ i, mR h' b i = mR h b i) ∧ ∀ i, mJ h' b i = mJ h b i) (hc : mK h' (mN h) ≠ 0 → ∃ cell', H'[H.size]? = some cell' ∧ cOK s0 h' (mN h) cell') : Rep s0 h' H' := by
  obtain ⟨r1, r2, r3, r4⟩ := hr
  refine ⟨by rw [e2, hN, r1], by rw [hN]; omega, fun q hq => by rw [e3 q (by omega)]; exact r3 q hq, fun b hb => ?_⟩
  by_cases hba : b = mN h
  · subst hba
    obtain ⟨c, c1, c2⟩ := hc hb
    exact ⟨⟨c, by rw [← r1]; exact c1, c2⟩, Or.inr r2⟩
  · obtain ⟨g1, g2, g3, g4, g5⟩ := hg b hba
    obtain ⟨⟨c, c1, c2⟩, c3⟩ := r4 b (by rw [← g1]; exact hb)
    exact ⟨⟨c, by rw [e3 b (Array.getElem?_eq_some_iff.mp c1).1]; exact c1, cOK_congr g1 g2 g3 g4 g5 c2⟩, by rw [g1]; exact c3⟩
theorem Rep.newx {s0 : State} {h : Mem} {H H' : Heap} {kd len n : Nat} (hr : Rep s0 h H) (e2 : H'.size = H.size + 1) (e3 : ∀ q, q < H.size → H'[q]? = H[q]?) (hc : kd ≠ 0 → ∃ cell', H'[H.size]? = some cell' ∧ cOK s0 (nw h kd len n) (mN h) cell') : Rep s0 (nw h kd len n) H' :=
  hr.new e2 e3 rfl (fun b hb => by simp [mK_nw, mL_nw, mI_nw, mR_nw, mJ_nw, hb]) (fun hk => hc (by simpa [mK_nw] using hk))
theorem Rep.obj {s0 : State} {h : Mem} {H : Heap} {a ci : Nat} (hr : Rep s0 h H) (hci : ci < 8) (hk : mK h a = ci + 1) : ∃ cell, H[a]? = some cell ∧ cell.cls = xC s0 ci ∧ cell.vm = .none ∧ ∀ j, j < cN ci → cell.slots[xI s0 ci j]? = some (fV h ci a j) := by
  obtain ⟨⟨c, c1, c2⟩, -⟩ := hr.2.2.2 a (by omega)
  unfold cOK at c2
  rw [if_neg (by omega), if_neg (by omega), if_neg (by omega), if_neg (by omega), if_neg (by omega)] at c2
  have e : mK h a - 1 = ci := by omega
  rw [e] at c2
  exact ⟨c, c1, c2.2⟩
theorem Rep.own {s0 : State} {h : Mem} {H : Heap} {a : Nat} (hr : Rep s0 h H) (h1 : mK h a ≠ 0) (h2 : mK h a ≠ 21) : s0.heap.size ≤ a := (hr.2.2.2 a h1).2.elim (fun e => absurd e h2) id
theorem Rep.a11 {s0 : State} {h : Mem} {H : Heap} {a : Nat} (hr : Rep s0 h H) (hk : mK h a = 11 ∨ mK h a = 21) : ∃ cell, H[a]? = some cell ∧ aOK s0 .int (mL h a) (fun j => .int (mI h a j)) cell := by
  obtain ⟨⟨c, c1, c2⟩, -⟩ := hr.2.2.2 a (by omega)
  unfold cOK at c2
  rw [if_pos hk] at c2
  exact ⟨c, c1, c2⟩
theorem Rep.a12 {s0 : State} {h : Mem} {H : Heap} {a : Nat} (hr : Rep s0 h H) (hk : mK h a = 12) : ∃ cell, H[a]? = some cell ∧ aOK s0 .byte (mL h a) (fun j => .int (mI h a j)) cell := by
  obtain ⟨⟨c, c1, c2⟩, -⟩ := hr.2.2.2 a (by omega)
  unfold cOK at c2
  rw [if_neg (by omega), if_pos hk] at c2
  exact ⟨c, c1, c2⟩
theorem Rep.a13 {s0 : State} {h : Mem} {H : Heap} {a : Nat} (hr : Rep s0 h H) (hk : mK h a = 13) : ∃ cell, H[a]? = some cell ∧ aOK s0 .long (mL h a) (fun j => .long (mJ h a j)) cell := by
  obtain ⟨⟨c, c1, c2⟩, -⟩ := hr.2.2.2 a (by omega)
  unfold cOK at c2
  rw [if_neg (by omega), if_neg (by omega), if_pos hk] at c2
  exact ⟨c, c1, c2⟩
/-- kinds 14, 15: arrays of references to objects of the class ci (1, 2) -/
theorem Rep.aq {s0 : State} {h : Mem} {H : Heap} {a ci : Nat} (hr : Rep s0 h H) (hci : ci = 1 ∨ ci = 2) (hk : mK h a = ci + 13) : ∃ cell, H[a]? = some cell ∧ rOK s0 (cnm ci) (mL h a) (fun j => va_rf (mR h a j)) cell := by
  obtain ⟨⟨c, c1, c2⟩, -⟩ := hr.2.2.2 a (by omega)
  unfold cOK at c2
  rcases hci with rfl | rfl
  · rw [if_neg (by omega), if_neg (by omega), if_neg (by omega), if_pos (by omega)] at c2
    exact ⟨c, c1, c2⟩
  · rw [if_neg (by omega), if_neg (by omega), if_neg (by omega), if_neg (by omega), if_pos (by omega)] at c2
    exact ⟨c, c1, c2⟩
theorem cOK_obj {s0 : State} {h : Mem} {a ci : Nat} {cell : Cell} (hci : ci < 8) (hk : mK h a = ci + 1) (h1 : cell.cls = xC s0 ci) (h2 : cell.vm = .none) (h3 : ∀ j, j < cN ci → cell.slots[xI s0 ci j]? = some (fV h ci a j)) : cOK s0 h a cell := by
  unfold cOK
  rw [if_neg (by omega), if_neg (by omega), if_neg (by omega), if_neg (by omega), if_neg (by omega)]
  have e : mK h a - 1 = ci := by omega
  rw [e]
  exact ⟨hci, h1, h2, h3⟩
theorem aOK.set {s0 : State} {ty : FieldType} {n j : Nat} {f g : Nat → Value} {cell : Cell} {v : Value} (h : aOK s0 ty n f cell) (hj : j < n) (hg : ∀ i, i < n → g i = if i = j then v else f i) : aOK s0 ty n g (cell.setSlot j v) := by
  obtain ⟨h1, h2, h3, h4, h5⟩ := h
  refine ⟨h1, h2, by rw [k2_slotsz]; exact h3, h4, fun i hi => ?_⟩
  rw [hg i hi]
  by_cases e : i = j
  · subst e
    simp [Cell.setSlot, h3, hi]
  · rw [if_neg e]
    have e2 : (cell.setSlot j v).slots[i]? = cell.slots[i]? := by simp [Cell.setSlot, Array.getElem?_setIfInBounds, Ne.symm e]
    rw [e2]
    exact h5 i hi
end
section
/-! ===== locals as a list ===== -/
def lvs (ls : Array Slot) (n : Nat) (L : List (Option Value)) : Prop := ls.size = n ∧ lv_wf ls ∧ L.length = n ∧ ∀ (i : Nat) (v : Value), L[i]? = some (some v) → ls[i]? = some (Slot.val v) ∧ v.category = 1
def asc (L : List (Option Value)) : List (Nat × Value) := (List.range L.length).filterMap (fun i => match L[i]? with
  | some (some v) => some (i, v)
  | _ => none)
theorem mem_asc {L : List (Option Value)} {i : Nat} {v : Value} : (i, v) ∈ asc L ↔ L[i]? = some (some v) := by
  unfold asc
  rw [List.mem_filterMap]
  constructor
  · rintro ⟨j, -, hj⟩
    split at hj
    · rename_i w hw
      cases hj
      exact hw
    · cases hj
  · intro h
    have hi : i < L.length := (List.getElem?_eq_some_iff.mp h).1
    exact ⟨i, List.mem_range.mpr hi, by rw [h]⟩
theorem lvs.has {ls : Array Slot} {n : Nat} {L : List (Option Value)} (h : lvs ls n L) : lv_has ls n (asc L) := ⟨h.1, h.2.1, fun q hq => (h.2.2.2 q.1 q.2 (mem_asc.mp hq)).1⟩
theorem lvs.st {ls ls' : Array Slot} {n i : Nat} {L : List (Option Value)} {v : Value} (h : lvs ls n L) (hc : v.category = 1) (h' : lv_has ls' n ((i, v) :: (asc L).filter (fun q => !(q.1 == i) && !(q.1 + 1 == i && q.2.category == 2)))) : lvs ls' n (L.set i (some v)) := by
  obtain ⟨a1, a2, a3⟩ := h'
  refine ⟨a1, a2, by rw [List.length_set]; exact h.2.2.1, fun j w hj => ?_⟩
  rw [List.getElem?_set] at hj
  by_cases e : i = j
  · subst e
    rw [if_pos rfl] at hj
    split at hj
    · cases hj
      exact ⟨a3 _ List.mem_cons_self, hc⟩
    · cases hj
  · rw [if_neg e] at hj
    have hw := (h.2.2.2 j w hj).2
    exact ⟨a3 (j, w) (List.mem_cons_of_mem _ (List.mem_filter.mpr ⟨mem_asc.mpr hj, by simp [Ne.symm e, hw]⟩)), hw⟩
theorem lvs.drop {ls : Array Slot} {n i : Nat} {L : List (Option Value)} {x : Option Value} (h : lvs ls n (L.set i x)) : lvs ls n (L.set i none) := by
  obtain ⟨a1, a2, a3, a4⟩ := h
  refine ⟨a1, a2, by rw [List.length_set] at a3 ⊢; exact a3, fun j w hj => ?_⟩
  rw [List.getElem?_set] at hj
  by_cases e : i = j
  · subst e
    rw [if_pos rfl] at hj
    split at hj <;> cases hj
  · rw [if_neg e] at hj
    exact a4 j w (by rw [List.getElem?_set, if_neg e]; exact hj)
theorem lvs.at {ls : Array Slot} {n i : Nat} {L : List (Option Value)} {v : Value} (h : lvs ls n L) (hv : L[i]? = some (some v)) : ls[i]? = some (.val v) := (h.2.2.2 i v hv).1
theorem lvs.lt {ls : Array Slot} {n i : Nat} {L : List (Option Value)} (h : lvs ls n L) (hv : i < L.length) : i < n := by rw [← h.2.2.1]; exact hv
def ent (av : List Value) (n : Nat) : List (Option Value) := av.map some ++ List.replicate (n - av.length) none
theorem lv_args_1 : ∀ (av : List Value) (k : Nat), (∀ v ∈ av, v.category = 1) → ∀ i v, av[i]? = some v → (k + i, v) ∈ lv_args k av
  | [], _, _, i, v, h => by simp at h
  | w :: t, k, hc, i, v, h => by
    have hw : w.category = 1 := hc w List.mem_cons_self
    unfold lv_args
    cases i with
    | zero =>
      simp at h
      subst h
      simp
    | succ j =>
      have h2 := lv_args_1 t (k + 1) (fun x hx => hc x (List.mem_cons_of_mem _ hx)) j v (by simpa using h)
      have e : k + (j + 1) = k + 1 + j := by omega
      rw [e]
      simp [hw]
      exact Or.inr h2
theorem lg_sl_1 : ∀ (av : List Value), (∀ v ∈ av, v.category = 1) → (lg_sl av).length = av.length
  | [], _ => rfl
  | w :: t, hc => by
    have hw : w.category = 1 := hc w List.mem_cons_self
    have h2 := lg_sl_1 t (fun x hx => hc x (List.mem_cons_of_mem _ hx))
    unfold lg_sl at h2 ⊢
    simp [hw]
    simpa using h2
theorem lvs.ent {av : List Value} {n : Nat} (hc : ∀ v ∈ av, v.category = 1) (hn : av.length ≤ n) : lvs ((lg_sl av ++ List.replicate (n - (lg_sl av).length) Slot.unset).toArray) n (ent av n) := by
  have h := lv_entry av (n := n) (by rw [lg_sl_1 av hc]; exact hn)
  refine ⟨h.1, h.2.1, by simp [Jvm.Pilot.@@N@@.ent]; omega, fun i v hv => ?_⟩
  unfold Jvm.Pilot.@@N@@.ent at hv
  rw [List.getElem?_append] at hv
  split at hv
  · rw [List.getElem?_map] at hv
    cases hi : av[i]? with
    | none => rw [hi] at hv; simp at hv
    | some w =>
      rw [hi] at hv
      simp at hv
      subst hv
      have := lv_args_1 av 0 hc i w hi
      rw [Nat.zero_add] at this
      exact ⟨h.2.2 _ this, hc w (List.mem_of_getElem? hi)⟩
  · rw [List.getElem?_replicate] at hv
    split at hv <;> simp at hv
/-! ===== the start of the law, as every method sees it ===== -/
def frOf (s0 : State) : Addr → Prop := fun q => s0.heap.size ≤ q
def G0 (s0 : State) : Prop := ∃ av, ∀ w ∈ lw_tbl, w.before av s0 = true
theorem G0.word {s0 s : State} {args : Array Value} (g : G0 s0) (hW : s0.WarmedH s.vm) {w : Cond} (hw : w ∈ lw_tbl) (hg : goodWord w = true) : w.before args s = true := by
  obtain ⟨av, h⟩ := g
  exact word_at hW (good_of_word hg) (h w hw)
def sC (i : Nat) : String := match i with
  | 0 => cnm 0
  | 1 => cnm 0
  | _ => cnm 7
def sNm (i : Nat) : String := match i with
  | 0 => "ZIGZAG"
  | 1 => "COSINES"
  | _ => "WAVES"
def sA (s0 : State) (i : Nat) : Nat := match (Term.static (sC i) (sNm i) "[I").eval #[] s0 none [] s0 with
  | some (.ref a) => a
  | _ => 0
def CX (s0 : State) (l : Launch) : Prop := G0 s0 ∧ l.stackTraces = false ∧ vx_Zq Bundle.tN "UNASSIGNED_STACK" Bundle.steD (frOf s0) s0 s0.heap ∧ vx_Zq Bundle.tN "SUPPRESSED_SENTINEL" Bundle.listD (frOf s0) s0 s0.heap ∧ ∀ i, i < 3 → va_Z (sC i) (sNm i) "[I" (.ref (sA s0 i)) (frOf s0) s0 s0.heap
/-! ===== the judgement ===== -/
def EN (s0 : State) (l : Launch) (M : MI) (h0 : Mem) (p : Program) (s : State) (m : MethodId) (meth : Method) (c : Code) : Prop :=
  p.tables.exec = Jvm.exec ∧ c.code = iC M ∧ c.maxLocals = iL M ∧ s.vm.findClass (iY M).cls = some m.cls ∧ meth.locks = false ∧ meth.sig.returnType = iR M ∧ meth.name = (iY M).name ∧ c.exceptionTable.toList = tableOf (iH M) ∧ s0.WarmedH s.vm ∧ (∀ q, q < s0.heap.size → s.heap[q]? = s0.heap[q]?) ∧ s.heap.size = mN h0 ∧ s0.heap.size ≤ s.heap.size ∧ CX s0 l
def ST (s0 : State) (M : MI) (h0 h : Mem) (L : List (Option Value)) (H : Heap) (locs : List Loc) (ls : Array Slot) : Prop := Rep s0 h H ∧ (∀ q ∈ locs, frOf s0 q.base) ∧ lvs ls (iL M) L ∧ mN h0 ≤ mN h ∧ mU h0 ≤ mU h
def QcOf (s0 : State) (o : Out) (hE : Mem) : Array Value → State → Outcome → State → Prop := fun _ _ oc t => ∃ v, o = .inl v ∧ oc = .returned v ∧ Rep s0 hE t.heap
def XcOf (s0 : State) (o : Out) (hE : Mem) : String → State → State → Prop := fun E _ t => o = .inr E ∧ Rep s0 hE t.heap
def rmOf (M : MI) (h0 hE : Mem) : Room := { frames := iF M, cells := mN hE - mN h0, slots := mU hE - mU h0, locals := iW M }
/-- from this point of method M, entered with h0, it ends with o and the memory hE -/
def R (s0 : State) (l : Launch) (M : MI) (h0 : Mem) (o : Out) (hE : Mem) (pc : Nat) (L : List (Option Value)) (st : List Value) (h : Mem) : Prop :=
  (mN h ≤ mN hE ∧ mU h ≤ mU hE) ∧ ∀ (p : Program) (e : Env) (s : State) (m : MethodId) (args : Array Value) (below : List Frame) (meth : Method) (c : Code), EN s0 l M h0 p s m meth c → ∀ (H : Heap) (locs : List Loc) (ls : Array Slot), ST s0 M h0 h L H locs ls →
    W p l e (rmOf M h0 hE) s m args below meth c H locs (mN h - mN h0) (mU h - mU h0) (vx_MQ below (QcOf s0 o hE) (XcOf s0 o hE) args s (mN hE - mN h0) (mU hE - mU h0) (frOf s0)) (F0 m pc ls st)
def RQ (s0 : State) (l : Launch) (M : MI) (h0 : Mem) (pc : Nat) (L : List (Option Value)) (st : List Value) (h : Mem) (Q : Out → Mem → Prop) : Prop := ∃ o hE, R s0 l M h0 o hE pc L st h ∧ Q o hE
/-- something of class E is thrown over the frame -/
def RX (s0 : State) (l : Launch) (M : MI) (h0 : Mem) (o : Out) (hE : Mem) (pc : Nat) (L : List (Option Value)) (E : String) (h : Mem) : Prop :=
  (mN h ≤ mN hE ∧ mU h ≤ mU hE) ∧ ∀ (p : Program) (e : Env) (s : State) (m : MethodId) (args : Array Value) (below : List Frame) (meth : Method) (c : Code), EN s0 l M h0 p s m meth c → ∀ (H : Heap) (locs : List Loc) (ls : Array Slot) (st : List Value) (q : Addr) (ce : Cell), ST s0 M h0 h L H locs ls → H[q]? = some ce → ce.vm = .none → s.vm.findClass E = some ce.cls →
    vx_W p l e (rmOf M h0 hE) s m args below meth c H locs (mN h - mN h0) (mU h - mU h0) (vx_MQ below (QcOf s0 o hE) (XcOf s0 o hE) args s (mN hE - mN h0) (mU hE - mU h0) (frOf s0)) (F0 m pc ls st) q
def RQX (s0 : State) (l : Launch) (M : MI) (h0 : Mem) (pc : Nat) (L : List (Option Value)) (E : String) (h : Mem) (Q : Out → Mem → Prop) : Prop := ∃ o hE, RX s0 l M h0 o hE pc L E h ∧ Q o hE
def PcOf (s0 : State) (l : Launch) (av : List Value) (h : Mem) : Array Value → State → Prop := fun v U => v = av.toArray ∧ s0.WarmedH U.vm ∧ Rep s0 h U.heap ∧ CX s0 l
def cdw (M : MI) : Cond := if iH M = [] then .code (iY M) (iC M) (iL M) (iR M) else .codeWith (iY M) (iC M) (iL M) (iR M) (iH M)
/-- method M, called with av in the memory h, ends with o and hE -/
def C (s0 : State) (l : Launch) (M : MI) (av : List Value) (h : Mem) (o : Out) (hE : Mem) : Prop :=
  (mN h ≤ mN hE ∧ mU h ≤ mU hE) ∧ vx_Met l (iY M) [cdw M] (rmOf M h hE) (PcOf s0 l av h) (QcOf s0 o hE) (XcOf s0 o hE) (mN hE - mN h) (mU hE - mU h) (frOf s0)
def CQ (s0 : State) (l : Launch) (M : MI) (av : List Value) (h : Mem) (Q : Out → Mem → Prop) : Prop := ∃ o hE, C s0 l M av h o hE ∧ Q o hE
theorem CQ.mono {s0 : State} {l : Launch} {M : MI} {av : List Value} {h : Mem} {Q Q' : Out → Mem → Prop} (k : CQ s0 l M av h Q) (f : ∀ o hE, Q o hE → Q' o hE) : CQ s0 l M av h Q' := by
  obtain ⟨o, hE, a, b⟩ := k
  exact ⟨o, hE, a, f o hE b⟩
theorem RQ.mono {s0 : State} {l : Launch} {M : MI} {h0 : Mem} {pc : Nat} {L : List (Option Value)} {st : List Value} {h : Mem} {Q Q' : Out → Mem → Prop} (k : RQ s0 l M h0 pc L st h Q) (f : ∀ o hE, Q o hE → Q' o hE) : RQ s0 l M h0 pc L st h Q' := by
  obtain ⟨o, hE, a, b⟩ := k
  exact ⟨o, hE, a, f o hE b⟩
theorem PcOf.blind {s0 : State} {l : Launch} {av : List Value} {h : Mem} : FrameBlind (PcOf s0 l av h) := fun _ _ _ _ q => q
section Intro
variable {s0 : State} {l : Launch} {M : MI} {av : List Value} {h : Mem} {Q : Out → Mem → Prop}
theorem en_of {o : Out} {hE : Mem} {ws : List Cond} {p : Program} {e : Env} {s : State} {m : MethodId} {args : Array Value} {below : List Frame} {meth : Method} {c : Code} {s₁ : State} (B : BodyLoose p l (iY M) (headSpec ws (rmOf M h hE)) (iC M) (iL M) (iR M) e s m args below meth c s₁) (hml : c.maxLocals = iL M) (ht : c.exceptionTable.toList = tableOf (iH M)) (hP : PcOf s0 l av h args s) : EN s0 l M h p s m meth c := by
  obtain ⟨-, hW, hR, hC⟩ := hP
  exact ⟨B.exec, B.bytes, hml, findClass_of_methodNamed B.named, B.notSynchronized, B.returns, (name_of_methodNamed B.named B.method).1, ht, hW, hR.2.2.1, hR.1, by rw [hR.1]; exact hR.2.1, hC⟩
theorem c_intro (hy : plainName (iY M).cls = true) (hH : iH M = []) (hc : ∀ v ∈ av, v.category = 1) (hn : av.length ≤ iL M) (k : RQ s0 l M h 0 (ent av (iL M)) [] h Q) : CQ s0 l M av h Q := by
  obtain ⟨o, hE, k, q⟩ := k
  refine ⟨o, hE, ⟨k.1, ?_⟩, q⟩
  refine vx_ofW (cc := iC M) (maxL := iL M) (ret := iR M) hy (by unfold cdw; rw [if_pos hH]) ?_
  intro p e s m args below meth c s₁ B hml ht hP
  have he := en_of (o := o) B hml (by rw [hH]; exact List.eq_nil_iff_forall_not_mem.mpr fun x hx => ht x hx) hP
  obtain ⟨rfl, hW, hR, hC⟩ := hP
  rw [lg_entry_eq]
  have := k.2 p e s m av.toArray below meth c he s.heap [] _ ⟨hR, (fun _ hq => absurd hq List.not_mem_nil), lvs.ent hc hn, Nat.le_refl _, Nat.le_refl _⟩
  rw [Nat.sub_self, Nat.sub_self] at this
  exact this
theorem c_introH (hy : plainName (iY M).cls = true) (hH : iH M ≠ []) (hc : ∀ v ∈ av, v.category = 1) (hn : av.length ≤ iL M) (k : RQ s0 l M h 0 (ent av (iL M)) [] h Q) : CQ s0 l M av h Q := by
  obtain ⟨o, hE, k, q⟩ := k
  refine ⟨o, hE, ⟨k.1, ?_⟩, q⟩
  refine vx_ofWH (cc := iC M) (maxL := iL M) (ret := iR M) (hh := iH M) hy (by unfold cdw; rw [if_neg hH]) ?_
  intro p e s m args below meth c s₁ B hml hP
  have hw : (Cond.codeWith (iY M) (iC M) (iL M) (iR M) (iH M)).before args s = true := atoms_spec (ws := [cdw M]) B.pre _ (by unfold cdw; rw [if_neg hH]; exact List.mem_cons_self)
  have he := en_of (o := o) B hml (vx_table (x := iY M) B hw) hP
  obtain ⟨rfl, hW, hR, hC⟩ := hP
  rw [lg_entry_eq]
  have := k.2 p e s m av.toArray below meth c he s.heap [] _ ⟨hR, (fun _ hq => absurd hq List.not_mem_nil), lvs.ent hc hn, Nat.le_refl _, Nat.le_refl _⟩
  rw [Nat.sub_self, Nat.sub_self] at this
  exact this
end Intro
end
section
theorem G0.face {s0 s : State} {args : Array Value} (g : G0 s0) (hW : s0.WarmedH s.vm) {w : Cond} (hw : w ∈ lw_tbl) (hf : w.keepsFace = true) (ho : w.onTables = true) : w.before args s = true := by
  obtain ⟨av, h⟩ := g
  have h2 : w.before av (s0.setVm s.vm) = true := Cond.before_shiftedFace (State.Shifted.of_warmed hW) _ hf (h w hw)
  exact va_tabs (u := s0.setVm s.vm) (U := s) ho rfl h2
theorem G0.cast {s0 s : State} {args : Array Value} (g : G0 s0) (hW : s0.WarmedH s.vm) {A B : String} (hw : Cond.castable A B ∈ lw_tbl) : (Cond.castable A B).before args s = true := g.face hW hw rfl rfl
section Rules
variable {s0 : State} {l : Launch} {M : MI} {h0 : Mem} {pc : Nat} {L : List (Option Value)} {st : List Value} {h : Mem} {Q : Out → Mem → Prop}
theorem lift1 {pc' : Nat} {L' : List (Option Value)} {st' : List Value} {h' : Mem} (f : ∀ o hE, R s0 l M h0 o hE pc' L' st' h' → R s0 l M h0 o hE pc L st h) (k : RQ s0 l M h0 pc' L' st' h' Q) : RQ s0 l M h0 pc L st h Q := by
  obtain ⟨o, hE, a, b⟩ := k
  exact ⟨o, hE, f o hE a, b⟩
theorem q_iconst {n : Int} {v : Int32} (hd : decode (iC M) pc = .ok (.iconst n, 1)) (hv : Int32.ofInt n = v) (k : RQ s0 l M h0 (pc + 1) L (.int v :: st) h Q) : RQ s0 l M h0 pc L (st) h Q := lift1 (fun _ _ k => ⟨k.1, fun p e s m args below meth c E H locs ls S => lv_iconst E.1 E.2.1 hd hv (k.2 p e s m args below meth c E H locs ls S)⟩) k
theorem q_bipush {n : Int} {v : Int32} (hd : decode (iC M) pc = .ok (.bipush n, 2)) (hv : (Int8.ofInt n).toInt32 = v) (k : RQ s0 l M h0 (pc + 2) L (.int v :: st) h Q) : RQ s0 l M h0 pc L (st) h Q := lift1 (fun _ _ k => ⟨k.1, fun p e s m args below meth c E H locs ls S => lv_bipush E.1 E.2.1 hd hv (k.2 p e s m args below meth c E H locs ls S)⟩) k
theorem q_sipush {n : Int} {v : Int32} (hd : decode (iC M) pc = .ok (.sipush n, 3)) (hv : (Int16.ofInt n).toInt32 = v) (k : RQ s0 l M h0 (pc + 3) L (.int v :: st) h Q) : RQ s0 l M h0 pc L (st) h Q := lift1 (fun _ _ k => ⟨k.1, fun p e s m args below meth c E H locs ls S => lv_sipush E.1 E.2.1 hd hv (k.2 p e s m args below meth c E H locs ls S)⟩) k
theorem q_null  (hd : decode (iC M) pc = .ok (.aconst_null, 1))  (k : RQ s0 l M h0 (pc + 1) L (.null :: st) h Q) : RQ s0 l M h0 pc L (st) h Q := lift1 (fun _ _ k => ⟨k.1, fun p e s m args below meth c E H locs ls S => lv_null E.1 E.2.1 hd  (k.2 p e s m args below meth c E H locs ls S)⟩) k
theorem q_iload_n {k9 : Fin 4} {i : Nat} {x : Int32} (hd : decode (iC M) pc = .ok (.iload_n k9, 1)) (hi : (k9 : Nat) = i) (hl : L[i]? = some (some (.int x))) (k : RQ s0 l M h0 (pc + 1) L (.int x :: st) h Q) : RQ s0 l M h0 pc L (st) h Q := lift1 (fun _ _ k => ⟨k.1, fun p e s m args below meth c E H locs ls S => lv_iload_n E.1 E.2.1 hd hi (S.2.2.1.at hl) (k.2 p e s m args below meth c E H locs ls S)⟩) k
theorem q_iload {i : Nat} {x : Int32} (hd : decode (iC M) pc = .ok (.iload i, 2)) (hl : L[i]? = some (some (.int x))) (k : RQ s0 l M h0 (pc + 2) L (.int x :: st) h Q) : RQ s0 l M h0 pc L (st) h Q := lift1 (fun _ _ k => ⟨k.1, fun p e s m args below meth c E H locs ls S => lv_iload E.1 E.2.1 hd (S.2.2.1.at hl) (k.2 p e s m args below meth c E H locs ls S)⟩) k
theorem q_aload_n {k9 : Fin 4} {i : Nat} {x : Nat} (hd : decode (iC M) pc = .ok (.aload_n k9, 1)) (hi : (k9 : Nat) = i) (hl : L[i]? = some (some (.ref x))) (k : RQ s0 l M h0 (pc + 1) L (.ref x :: st) h Q) : RQ s0 l M h0 pc L (st) h Q := lift1 (fun _ _ k => ⟨k.1, fun p e s m args below meth c E H locs ls S => lv_aload_n E.1 E.2.1 hd hi (S.2.2.1.at hl) (k.2 p e s m args below meth c E H locs ls S)⟩) k
theorem q_aload {i : Nat} {x : Nat} (hd : decode (iC M) pc = .ok (.aload i, 2)) (hl : L[i]? = some (some (.ref x))) (k : RQ s0 l M h0 (pc + 2) L (.ref x :: st) h Q) : RQ s0 l M h0 pc L (st) h Q := lift1 (fun _ _ k => ⟨k.1, fun p e s m args below meth c E H locs ls S => lv_aload E.1 E.2.1 hd (S.2.2.1.at hl) (k.2 p e s m args below meth c E H locs ls S)⟩) k
theorem q_aload_nN {k9 : Fin 4} {i : Nat} (hd : decode (iC M) pc = .ok (.aload_n k9, 1)) (hi : (k9 : Nat) = i) (hl : L[i]? = some (some .null)) (k : RQ s0 l M h0 (pc + 1) L (.null :: st) h Q) : RQ s0 l M h0 pc L (st) h Q := lift1 (fun _ _ k => ⟨k.1, fun p e s m args below meth c E H locs ls S => lv_aload_nN E.1 E.2.1 hd hi (S.2.2.1.at hl) (k.2 p e s m args below meth c E H locs ls S)⟩) k
theorem q_aloadN {i : Nat} (hd : decode (iC M) pc = .ok (.aload i, 2)) (hl : L[i]? = some (some .null)) (k : RQ s0 l M h0 (pc + 2) L (.null :: st) h Q) : RQ s0 l M h0 pc L (st) h Q := lift1 (fun _ _ k => ⟨k.1, fun p e s m args below meth c E H locs ls S => lv_aloadN E.1 E.2.1 hd (S.2.2.1.at hl) (k.2 p e s m args below meth c E H locs ls S)⟩) k
theorem q_iadd {x y : Int32} (hd : decode (iC M) pc = .ok (.iadd, 1))  (k : RQ s0 l M h0 (pc + 1) L (.int (x + y) :: st) h Q) : RQ s0 l M h0 pc L (.int y :: .int x :: st) h Q := lift1 (fun _ _ k => ⟨k.1, fun p e s m args below meth c E H locs ls S => lv_iadd E.1 E.2.1 hd  (k.2 p e s m args below meth c E H locs ls S)⟩) k
theorem q_isub {x y : Int32} (hd : decode (iC M) pc = .ok (.isub, 1))  (k : RQ s0 l M h0 (pc + 1) L (.int (x - y) :: st) h Q) : RQ s0 l M h0 pc L (.int y :: .int x :: st) h Q := lift1 (fun _ _ k => ⟨k.1, fun p e s m args below meth c E H locs ls S => lv_isub E.1 E.2.1 hd  (k.2 p e s m args below meth c E H locs ls S)⟩) k
theorem q_imul {x y : Int32} (hd : decode (iC M) pc = .ok (.imul, 1))  (k : RQ s0 l M h0 (pc + 1) L (.int (x * y) :: st) h Q) : RQ s0 l M h0 pc L (.int y :: .int x :: st) h Q := lift1 (fun _ _ k => ⟨k.1, fun p e s m args below meth c E H locs ls S => lv_imul E.1 E.2.1 hd  (k.2 p e s m args below meth c E H locs ls S)⟩) k
theorem q_iand {x y : Int32} (hd : decode (iC M) pc = .ok (.iand, 1))  (k : RQ s0 l M h0 (pc + 1) L (.int (x &&& y) :: st) h Q) : RQ s0 l M h0 pc L (.int y :: .int x :: st) h Q := lift1 (fun _ _ k => ⟨k.1, fun p e s m args below meth c E H locs ls S => lv_iand E.1 E.2.1 hd  (k.2 p e s m args below meth c E H locs ls S)⟩) k
theorem q_ior {x y : Int32} (hd : decode (iC M) pc = .ok (.ior, 1))  (k : RQ s0 l M h0 (pc + 1) L (.int (x ||| y) :: st) h Q) : RQ s0 l M h0 pc L (.int y :: .int x :: st) h Q := lift1 (fun _ _ k => ⟨k.1, fun p e s m args below meth c E H locs ls S => lv_ior E.1 E.2.1 hd  (k.2 p e s m args below meth c E H locs ls S)⟩) k
theorem q_ixor {x y : Int32} (hd : decode (iC M) pc = .ok (.ixor, 1))  (k : RQ s0 l M h0 (pc + 1) L (.int (x ^^^ y) :: st) h Q) : RQ s0 l M h0 pc L (.int y :: .int x :: st) h Q := lift1 (fun _ _ k => ⟨k.1, fun p e s m args below meth c E H locs ls S => lv_ixor E.1 E.2.1 hd  (k.2 p e s m args below meth c E H locs ls S)⟩) k
theorem q_ishl {x y : Int32} (hd : decode (iC M) pc = .ok (.ishl, 1))  (k : RQ s0 l M h0 (pc + 1) L (.int (x <<< (y &&& 31)) :: st) h Q) : RQ s0 l M h0 pc L (.int y :: .int x :: st) h Q := lift1 (fun _ _ k => ⟨k.1, fun p e s m args below meth c E H locs ls S => lv_ishl E.1 E.2.1 hd  (k.2 p e s m args below meth c E H locs ls S)⟩) k
theorem q_ishr {x y : Int32} (hd : decode (iC M) pc = .ok (.ishr, 1))  (k : RQ s0 l M h0 (pc + 1) L (.int (x >>> (y &&& 31)) :: st) h Q) : RQ s0 l M h0 pc L (.int y :: .int x :: st) h Q := lift1 (fun _ _ k => ⟨k.1, fun p e s m args below meth c E H locs ls S => lv_ishr E.1 E.2.1 hd  (k.2 p e s m args below meth c E H locs ls S)⟩) k
theorem q_idiv {x y : Int32} (hd : decode (iC M) pc = .ok (.idiv, 1)) (hne : ¬ y = 0) (k : RQ s0 l M h0 (pc + 1) L (.int (x / y) :: st) h Q) : RQ s0 l M h0 pc L (.int y :: .int x :: st) h Q := lift1 (fun _ _ k => ⟨k.1, fun p e s m args below meth c E H locs ls S => lv_idiv E.1 E.2.1 hd hne (k.2 p e s m args below meth c E H locs ls S)⟩) k
theorem q_irem {x y : Int32} (hd : decode (iC M) pc = .ok (.irem, 1)) (hne : ¬ y = 0) (k : RQ s0 l M h0 (pc + 1) L (.int (x - x / y * y) :: st) h Q) : RQ s0 l M h0 pc L (.int y :: .int x :: st) h Q := lift1 (fun _ _ k => ⟨k.1, fun p e s m args below meth c E H locs ls S => lv_irem E.1 E.2.1 hd hne (k.2 p e s m args below meth c E H locs ls S)⟩) k
theorem q_ineg {x : Int32} (hd : decode (iC M) pc = .ok (.ineg, 1))  (k : RQ s0 l M h0 (pc + 1) L (.int (-x) :: st) h Q) : RQ s0 l M h0 pc L (.int x :: st) h Q := lift1 (fun _ _ k => ⟨k.1, fun p e s m args below meth c E H locs ls S => lv_ineg E.1 E.2.1 hd  (k.2 p e s m args below meth c E H locs ls S)⟩) k
theorem q_i2b {x : Int32} (hd : decode (iC M) pc = .ok (.i2b, 1))  (k : RQ s0 l M h0 (pc + 1) L (.int x.toInt8.toInt32 :: st) h Q) : RQ s0 l M h0 pc L (.int x :: st) h Q := lift1 (fun _ _ k => ⟨k.1, fun p e s m args below meth c E H locs ls S => lv_i2b E.1 E.2.1 hd rfl (k.2 p e s m args below meth c E H locs ls S)⟩) k
theorem q_i2l {x : Int32} (hd : decode (iC M) pc = .ok (.i2l, 1))  (k : RQ s0 l M h0 (pc + 1) L (.long x.toInt64 :: st) h Q) : RQ s0 l M h0 pc L (.int x :: st) h Q := lift1 (fun _ _ k => ⟨k.1, fun p e s m args below meth c E H locs ls S => lv_i2l E.1 E.2.1 hd rfl (k.2 p e s m args below meth c E H locs ls S)⟩) k
theorem q_lcmp {x y : Int64} (hd : decode (iC M) pc = .ok (.lcmp, 1)) (k : RQ s0 l M h0 (pc + 1) L (.int (lg_cmp x y) :: st) h Q) : RQ s0 l M h0 pc L (.long y :: .long x :: st) h Q := lift1 (fun _ _ k => ⟨k.1, fun p e s m args below meth c E H locs ls S => W.lcmp E.1 E.2.1 hd (k.2 p e s m args below meth c E H locs ls S)⟩) k
theorem q_dup {va : Value} (hd : decode (iC M) pc = .ok (.dup, 1)) (hva : va.category = 1) (k : RQ s0 l M h0 (pc + 1) L (va :: va :: st) h Q) : RQ s0 l M h0 pc L (va :: st) h Q := lift1 (fun _ _ k => ⟨k.1, fun p e s m args below meth c E H locs ls S => lv_dup E.1 E.2.1 hd hva (k.2 p e s m args below meth c E H locs ls S)⟩) k
theorem q_pop {va : Value} (hd : decode (iC M) pc = .ok (.pop, 1)) (hva : va.category = 1) (k : RQ s0 l M h0 (pc + 1) L (st) h Q) : RQ s0 l M h0 pc L (va :: st) h Q := lift1 (fun _ _ k => ⟨k.1, fun p e s m args below meth c E H locs ls S => lv_pop E.1 E.2.1 hd hva (k.2 p e s m args below meth c E H locs ls S)⟩) k
theorem q_dup2 {va vb : Value} (hd : decode (iC M) pc = .ok (.dup2, 1)) (hva : va.category = 1) (hvb : vb.category = 1) (k : RQ s0 l M h0 (pc + 1) L (va :: vb :: va :: vb :: st) h Q) : RQ s0 l M h0 pc L (va :: vb :: st) h Q := lift1 (fun _ _ k => ⟨k.1, fun p e s m args below meth c E H locs ls S => lv_dup2_11 E.1 E.2.1 hd hva hvb (k.2 p e s m args below meth c E H locs ls S)⟩) k
theorem q_istore_n {k9 : Fin 4} {i : Nat} {x : Int32} (hd : decode (iC M) pc = .ok (.istore_n k9, 1)) (hi : (k9 : Nat) = i) (hn : i < L.length) (k : RQ s0 l M h0 (pc + 1) (L.set i (some (.int x))) st h Q) : RQ s0 l M h0 pc L (.int x :: st) h Q := lift1 (fun _ _ k => ⟨k.1, fun p e s m args below meth c E H locs ls S => lv_istore_n E.1 E.2.1 hd hi S.2.2.1.has (S.2.2.1.lt hn) rfl (fun ls9 h9 => k.2 p e s m args below meth c E H locs ls9 ⟨S.1, S.2.1, S.2.2.1.st rfl h9, S.2.2.2⟩)⟩) k
theorem q_istore {i : Nat} {x : Int32} (hd : decode (iC M) pc = .ok (.istore i, 2)) (hn : i < L.length) (k : RQ s0 l M h0 (pc + 2) (L.set i (some (.int x))) st h Q) : RQ s0 l M h0 pc L (.int x :: st) h Q := lift1 (fun _ _ k => ⟨k.1, fun p e s m args below meth c E H locs ls S => lv_istore E.1 E.2.1 hd S.2.2.1.has (S.2.2.1.lt hn) rfl (fun ls9 h9 => k.2 p e s m args below meth c E H locs ls9 ⟨S.1, S.2.1, S.2.2.1.st rfl h9, S.2.2.2⟩)⟩) k
theorem q_astore_n {k9 : Fin 4} {i : Nat} {x : Nat} (hd : decode (iC M) pc = .ok (.astore_n k9, 1)) (hi : (k9 : Nat) = i) (hn : i < L.length) (k : RQ s0 l M h0 (pc + 1) (L.set i (some (.ref x))) st h Q) : RQ s0 l M h0 pc L (.ref x :: st) h Q := lift1 (fun _ _ k => ⟨k.1, fun p e s m args below meth c E H locs ls S => lv_astore_n E.1 E.2.1 hd hi S.2.2.1.has (S.2.2.1.lt hn) rfl (fun ls9 h9 => k.2 p e s m args below meth c E H locs ls9 ⟨S.1, S.2.1, S.2.2.1.st rfl h9, S.2.2.2⟩)⟩) k
theorem q_astore {i : Nat} {x : Nat} (hd : decode (iC M) pc = .ok (.astore i, 2)) (hn : i < L.length) (k : RQ s0 l M h0 (pc + 2) (L.set i (some (.ref x))) st h Q) : RQ s0 l M h0 pc L (.ref x :: st) h Q := lift1 (fun _ _ k => ⟨k.1, fun p e s m args below meth c E H locs ls S => lv_astore E.1 E.2.1 hd S.2.2.1.has (S.2.2.1.lt hn) rfl (fun ls9 h9 => k.2 p e s m args below meth c E H locs ls9 ⟨S.1, S.2.1, S.2.2.1.st rfl h9, S.2.2.2⟩)⟩) k
theorem q_astore_nN {k9 : Fin 4} {i : Nat} (hd : decode (iC M) pc = .ok (.astore_n k9, 1)) (hi : (k9 : Nat) = i) (hn : i < L.length) (k : RQ s0 l M h0 (pc + 1) (L.set i (some (.null))) st h Q) : RQ s0 l M h0 pc L (.null :: st) h Q := lift1 (fun _ _ k => ⟨k.1, fun p e s m args below meth c E H locs ls S => lv_astore_nN E.1 E.2.1 hd hi S.2.2.1.has (S.2.2.1.lt hn) rfl (fun ls9 h9 => k.2 p e s m args below meth c E H locs ls9 ⟨S.1, S.2.1, S.2.2.1.st rfl h9, S.2.2.2⟩)⟩) k
theorem q_astoreN {i : Nat} (hd : decode (iC M) pc = .ok (.astore i, 2)) (hn : i < L.length) (k : RQ s0 l M h0 (pc + 2) (L.set i (some (.null))) st h Q) : RQ s0 l M h0 pc L (.null :: st) h Q := lift1 (fun _ _ k => ⟨k.1, fun p e s m args below meth c E H locs ls S => lv_astoreN E.1 E.2.1 hd S.2.2.1.has (S.2.2.1.lt hn) rfl (fun ls9 h9 => k.2 p e s m args below meth c E H locs ls9 ⟨S.1, S.2.1, S.2.2.1.st rfl h9, S.2.2.2⟩)⟩) k
theorem q_iinc {i : Nat} {n : Int} {x : Int32} (hd : decode (iC M) pc = .ok (.iinc i n, 3)) (hl : L[i]? = some (some (.int x))) (k : RQ s0 l M h0 (pc + 3) (L.set i (some (.int (x + Int32.ofInt n)))) st h Q) : RQ s0 l M h0 pc L st h Q := by
  refine lift1 (fun _ _ k => ⟨k.1, fun p e s m args below meth c E H locs ls S => ?_⟩) k
  have hh := S.2.2.1.has
  have hi : i < L.length := (List.getElem?_eq_some_iff.mp hl).1
  refine lv_iinc E.1 E.2.1 (k := 0) (lv := (i, .int x) :: asc L) hd ⟨hh.1, hh.2.1, fun q hq => ?_⟩ rfl rfl (S.2.2.1.lt hi) rfl (fun ls9 h9 => ?_)
  · rcases List.mem_cons.mp hq with rfl | hq
    · exact S.2.2.1.at hl
    · exact hh.2.2 q hq
  · rw [List.filter_cons_of_neg (by simp)] at h9
    exact k.2 p e s m args below meth c E H locs ls9 ⟨S.1, S.2.1, S.2.2.1.st rfl h9, S.2.2.2⟩
theorem q_if_eq {x : Int32} {off : Int} {tgt : Nat} (hd : decode (iC M) pc = .ok (.ifCond .eq off, 3)) (ht : (pc : Int) + off = (tgt : Int)) (kt : x = 0 → RQ s0 l M h0 tgt L st h Q) (kf : ¬ x = 0 → RQ s0 l M h0 (pc + 3) L st h Q) : RQ s0 l M h0 pc L (.int x :: st) h Q := by
  by_cases hc : x = 0
  · exact lift1 (fun _ _ k => ⟨k.1, fun p e s m args below meth c E H locs ls S => lv_if_eq E.1 E.2.1 hd ht (fun _ => (k.2 p e s m args below meth c E H locs ls S)) (fun h9 => absurd hc h9)⟩) (kt hc)
  · exact lift1 (fun _ _ k => ⟨k.1, fun p e s m args below meth c E H locs ls S => lv_if_eq E.1 E.2.1 hd ht (fun h9 => absurd h9 hc) (fun _ => (k.2 p e s m args below meth c E H locs ls S))⟩) (kf hc)
theorem q_icmp_eq {x y : Int32} {off : Int} {tgt : Nat} (hd : decode (iC M) pc = .ok (.if_icmp .eq off, 3)) (ht : (pc : Int) + off = (tgt : Int)) (kt : x = y → RQ s0 l M h0 tgt L st h Q) (kf : ¬ x = y → RQ s0 l M h0 (pc + 3) L st h Q) : RQ s0 l M h0 pc L (.int y :: .int x :: st) h Q := by
  by_cases hc : x = y
  · exact lift1 (fun _ _ k => ⟨k.1, fun p e s m args below meth c E H locs ls S => lv_icmp_eq E.1 E.2.1 hd ht (fun _ => (k.2 p e s m args below meth c E H locs ls S)) (fun h9 => absurd hc h9)⟩) (kt hc)
  · exact lift1 (fun _ _ k => ⟨k.1, fun p e s m args below meth c E H locs ls S => lv_icmp_eq E.1 E.2.1 hd ht (fun h9 => absurd h9 hc) (fun _ => (k.2 p e s m args below meth c E H locs ls S))⟩) (kf hc)
theorem q_if_ne {x : Int32} {off : Int} {tgt : Nat} (hd : decode (iC M) pc = .ok (.ifCond .ne off, 3)) (ht : (pc : Int) + off = (tgt : Int)) (kt : ¬ x = 0 → RQ s0 l M h0 tgt L st h Q) (kf : x = 0 → RQ s0 l M h0 (pc + 3) L st h Q) : RQ s0 l M h0 pc L (.int x :: st) h Q := by
  by_cases hc : ¬ x = 0
  · exact lift1 (fun _ _ k => ⟨k.1, fun p e s m args below meth c E H locs ls S => lv_if_ne E.1 E.2.1 hd ht (fun _ => (k.2 p e s m args below meth c E H locs ls S)) (fun h9 => absurd h9 hc)⟩) (kt hc)
  · exact lift1 (fun _ _ k => ⟨k.1, fun p e s m args below meth c E H locs ls S => lv_if_ne E.1 E.2.1 hd ht (fun h9 => absurd h9 hc) (fun _ => (k.2 p e s m args below meth c E H locs ls S))⟩) (kf (Classical.byContradiction hc))
theorem q_icmp_ne {x y : Int32} {off : Int} {tgt : Nat} (hd : decode (iC M) pc = .ok (.if_icmp .ne off, 3)) (ht : (pc : Int) + off = (tgt : Int)) (kt : ¬ x = y → RQ s0 l M h0 tgt L st h Q) (kf : x = y → RQ s0 l M h0 (pc + 3) L st h Q) : RQ s0 l M h0 pc L (.int y :: .int x :: st) h Q := by
  by_cases hc : ¬ x = y
  · exact lift1 (fun _ _ k => ⟨k.1, fun p e s m args below meth c E H locs ls S => lv_icmp_ne E.1 E.2.1 hd ht (fun _ => (k.2 p e s m args below meth c E H locs ls S)) (fun h9 => absurd h9 hc)⟩) (kt hc)
  · exact lift1 (fun _ _ k => ⟨k.1, fun p e s m args below meth c E H locs ls S => lv_icmp_ne E.1 E.2.1 hd ht (fun h9 => absurd h9 hc) (fun _ => (k.2 p e s m args below meth c E H locs ls S))⟩) (kf (Classical.byContradiction hc))
theorem q_if_lt {x : Int32} {off : Int} {tgt : Nat} (hd : decode (iC M) pc = .ok (.ifCond .lt off, 3)) (ht : (pc : Int) + off = (tgt : Int)) (kt : x < 0 → RQ s0 l M h0 tgt L st h Q) (kf : ¬ x < 0 → RQ s0 l M h0 (pc + 3) L st h Q) : RQ s0 l M h0 pc L (.int x :: st) h Q := by
  by_cases hc : x < 0
  · exact lift1 (fun _ _ k => ⟨k.1, fun p e s m args below meth c E H locs ls S => lv_if_lt E.1 E.2.1 hd ht (fun _ => (k.2 p e s m args below meth c E H locs ls S)) (fun h9 => absurd hc h9)⟩) (kt hc)
  · exact lift1 (fun _ _ k => ⟨k.1, fun p e s m args below meth c E H locs ls S => lv_if_lt E.1 E.2.1 hd ht (fun h9 => absurd h9 hc) (fun _ => (k.2 p e s m args below meth c E H locs ls S))⟩) (kf hc)
theorem q_icmp_lt {x y : Int32} {off : Int} {tgt : Nat} (hd : decode (iC M) pc = .ok (.if_icmp .lt off, 3)) (ht : (pc : Int) + off = (tgt : Int)) (kt : x < y → RQ s0 l M h0 tgt L st h Q) (kf : ¬ x < y → RQ s0 l M h0 (pc + 3) L st h Q) : RQ s0 l M h0 pc L (.int y :: .int x :: st) h Q := by
  by_cases hc : x < y
  · exact lift1 (fun _ _ k => ⟨k.1, fun p e s m args below meth c E H locs ls S => lv_icmp_lt E.1 E.2.1 hd ht (fun _ => (k.2 p e s m args below meth c E H locs ls S)) (fun h9 => absurd hc h9)⟩) (kt hc)
  · exact lift1 (fun _ _ k => ⟨k.1, fun p e s m args below meth c E H locs ls S => lv_icmp_lt E.1 E.2.1 hd ht (fun h9 => absurd h9 hc) (fun _ => (k.2 p e s m args below meth c E H locs ls S))⟩) (kf hc)
theorem q_if_ge {x : Int32} {off : Int} {tgt : Nat} (hd : decode (iC M) pc = .ok (.ifCond .ge off, 3)) (ht : (pc : Int) + off = (tgt : Int)) (kt : 0 ≤ x → RQ s0 l M h0 tgt L st h Q) (kf : ¬ 0 ≤ x → RQ s0 l M h0 (pc + 3) L st h Q) : RQ s0 l M h0 pc L (.int x :: st) h Q := by
  by_cases hc : 0 ≤ x
  · exact lift1 (fun _ _ k => ⟨k.1, fun p e s m args below meth c E H locs ls S => lv_if_ge E.1 E.2.1 hd ht (fun _ => (k.2 p e s m args below meth c E H locs ls S)) (fun h9 => absurd hc h9)⟩) (kt hc)
  · exact lift1 (fun _ _ k => ⟨k.1, fun p e s m args below meth c E H locs ls S => lv_if_ge E.1 E.2.1 hd ht (fun h9 => absurd h9 hc) (fun _ => (k.2 p e s m args below meth c E H locs ls S))⟩) (kf hc)
theorem q_icmp_ge {x y : Int32} {off : Int} {tgt : Nat} (hd : decode (iC M) pc = .ok (.if_icmp .ge off, 3)) (ht : (pc : Int) + off = (tgt : Int)) (kt : y ≤ x → RQ s0 l M h0 tgt L st h Q) (kf : ¬ y ≤ x → RQ s0 l M h0 (pc + 3) L st h Q) : RQ s0 l M h0 pc L (.int y :: .int x :: st) h Q := by
  by_cases hc : y ≤ x
  · exact lift1 (fun _ _ k => ⟨k.1, fun p e s m args below meth c E H locs ls S => lv_icmp_ge E.1 E.2.1 hd ht (fun _ => (k.2 p e s m args below meth c E H locs ls S)) (fun h9 => absurd hc h9)⟩) (kt hc)
  · exact lift1 (fun _ _ k => ⟨k.1, fun p e s m args below meth c E H locs ls S => lv_icmp_ge E.1 E.2.1 hd ht (fun h9 => absurd h9 hc) (fun _ => (k.2 p e s m args below meth c E H locs ls S))⟩) (kf hc)
theorem q_if_gt {x : Int32} {off : Int} {tgt : Nat} (hd : decode (iC M) pc = .ok (.ifCond .gt off, 3)) (ht : (pc : Int) + off = (tgt : Int)) (kt : 0 < x → RQ s0 l M h0 tgt L st h Q) (kf : ¬ 0 < x → RQ s0 l M h0 (pc + 3) L st h Q) : RQ s0 l M h0 pc L (.int x :: st) h Q := by
  by_cases hc : 0 < x
  · exact lift1 (fun _ _ k => ⟨k.1, fun p e s m args below meth c E H locs ls S => lv_if_gt E.1 E.2.1 hd ht (fun _ => (k.2 p e s m args below meth c E H locs ls S)) (fun h9 => absurd hc h9)⟩) (kt hc)
  · exact lift1 (fun _ _ k => ⟨k.1, fun p e s m args below meth c E H locs ls S => lv_if_gt E.1 E.2.1 hd ht (fun h9 => absurd h9 hc) (fun _ => (k.2 p e s m args below meth c E H locs ls S))⟩) (kf hc)
theorem q_icmp_gt {x y : Int32} {off : Int} {tgt : Nat} (hd : decode (iC M) pc = .ok (.if_icmp .gt off, 3)) (ht : (pc : Int) + off = (tgt : Int)) (kt : y < x → RQ s0 l M h0 tgt L st h Q) (kf : ¬ y < x → RQ s0 l M h0 (pc + 3) L st h Q) : RQ s0 l M h0 pc L (.int y :: .int x :: st) h Q := by
  by_cases hc : y < x
  · exact lift1 (fun _ _ k => ⟨k.1, fun p e s m args below meth c E H locs ls S => lv_icmp_gt E.1 E.2.1 hd ht (fun _ => (k.2 p e s m args below meth c E H locs ls S)) (fun h9 => absurd hc h9)⟩) (kt hc)
  · exact lift1 (fun _ _ k => ⟨k.1, fun p e s m args below meth c E H locs ls S => lv_icmp_gt E.1 E.2.1 hd ht (fun h9 => absurd h9 hc) (fun _ => (k.2 p e s m args below meth c E H locs ls S))⟩) (kf hc)
theorem q_if_le {x : Int32} {off : Int} {tgt : Nat} (hd : decode (iC M) pc = .ok (.ifCond .le off, 3)) (ht : (pc : Int) + off = (tgt : Int)) (kt : x ≤ 0 → RQ s0 l M h0 tgt L st h Q) (kf : ¬ x ≤ 0 → RQ s0 l M h0 (pc + 3) L st h Q) : RQ s0 l M h0 pc L (.int x :: st) h Q := by
  by_cases hc : x ≤ 0
  · exact lift1 (fun _ _ k => ⟨k.1, fun p e s m args below meth c E H locs ls S => lv_if_le E.1 E.2.1 hd ht (fun _ => (k.2 p e s m args below meth c E H locs ls S)) (fun h9 => absurd hc h9)⟩) (kt hc)
  · exact lift1 (fun _ _ k => ⟨k.1, fun p e s m args below meth c E H locs ls S => lv_if_le E.1 E.2.1 hd ht (fun h9 => absurd h9 hc) (fun _ => (k.2 p e s m args below meth c E H locs ls S))⟩) (kf hc)
theorem q_icmp_le {x y : Int32} {off : Int} {tgt : Nat} (hd : decode (iC M) pc = .ok (.if_icmp .le off, 3)) (ht : (pc : Int) + off = (tgt : Int)) (kt : x ≤ y → RQ s0 l M h0 tgt L st h Q) (kf : ¬ x ≤ y → RQ s0 l M h0 (pc + 3) L st h Q) : RQ s0 l M h0 pc L (.int y :: .int x :: st) h Q := by
  by_cases hc : x ≤ y
  · exact lift1 (fun _ _ k => ⟨k.1, fun p e s m args below meth c E H locs ls S => lv_icmp_le E.1 E.2.1 hd ht (fun _ => (k.2 p e s m args below meth c E H locs ls S)) (fun h9 => absurd hc h9)⟩) (kt hc)
  · exact lift1 (fun _ _ k => ⟨k.1, fun p e s m args below meth c E H locs ls S => lv_icmp_le E.1 E.2.1 hd ht (fun h9 => absurd h9 hc) (fun _ => (k.2 p e s m args below meth c E H locs ls S))⟩) (kf hc)
theorem q_goto {off : Int} {tgt : Nat} (hd : decode (iC M) pc = .ok (.goto off, 3)) (ht : (pc : Int) + off = (tgt : Int)) (k : RQ s0 l M h0 tgt L st h Q) : RQ s0 l M h0 pc L st h Q := lift1 (fun _ _ k => ⟨k.1, fun p e s m args below meth c E H locs ls S => lv_goto E.1 E.2.1 hd ht (k.2 p e s m args below meth c E H locs ls S)⟩) k
theorem q_ifnonnull {x : Nat} {off : Int} {tgt : Nat} (hd : decode (iC M) pc = .ok (.ifnonnull off, 3)) (ht : (pc : Int) + off = (tgt : Int)) (k : RQ s0 l M h0 tgt L st h Q) : RQ s0 l M h0 pc L (.ref x :: st) h Q := lift1 (fun _ _ k => ⟨k.1, fun p e s m args below meth c E H locs ls S => lv_ifnonnull E.1 E.2.1 hd ht (k.2 p e s m args below meth c E H locs ls S)⟩) k
theorem q_ifnonnullN {off : Int} (hd : decode (iC M) pc = .ok (.ifnonnull off, 3)) (k : RQ s0 l M h0 (pc + 3) L st h Q) : RQ s0 l M h0 pc L (.null :: st) h Q := lift1 (fun _ _ k => ⟨k.1, fun p e s m args below meth c E H locs ls S => lv_ifnonnullN E.1 E.2.1 hd (k.2 p e s m args below meth c E H locs ls S)⟩) k
theorem q_ifnull {x : Nat} {off : Int} (hd : decode (iC M) pc = .ok (.ifnull off, 3)) (k : RQ s0 l M h0 (pc + 3) L st h Q) : RQ s0 l M h0 pc L (.ref x :: st) h Q := lift1 (fun _ _ k => ⟨k.1, fun p e s m args below meth c E H locs ls S => lv_ifnull E.1 E.2.1 hd (k.2 p e s m args below meth c E H locs ls S)⟩) k
theorem q_ifnullN {off : Int} {tgt : Nat} (hd : decode (iC M) pc = .ok (.ifnull off, 3)) (ht : (pc : Int) + off = (tgt : Int)) (k : RQ s0 l M h0 tgt L st h Q) : RQ s0 l M h0 pc L (.null :: st) h Q := lift1 (fun _ _ k => ⟨k.1, fun p e s m args below meth c E H locs ls S => lv_ifnullN E.1 E.2.1 hd ht (k.2 p e s m args below meth c E H locs ls S)⟩) k
theorem q_tableOut {dflt lo hi : Int} {offs : Array Int} {len : Nat} {x : Int32} {tgt : Nat} (hd : decode (iC M) pc = .ok (.tableswitch dflt lo hi offs, len)) (hx : x.toInt < lo ∨ hi < x.toInt) (ht : (pc : Int) + dflt = (tgt : Int)) (k : RQ s0 l M h0 tgt L st h Q) : RQ s0 l M h0 pc L (.int x :: st) h Q := lift1 (fun _ _ k => ⟨k.1, fun p e s m args below meth c E H locs ls S => lv_tableOut E.1 E.2.1 hd hx ht (k.2 p e s m args below meth c E H locs ls S)⟩) k
theorem q_tableIn {dflt lo hi : Int} {offs : Array Int} {len : Nat} {x : Int32} {off : Int} {tgt : Nat} (hd : decode (iC M) pc = .ok (.tableswitch dflt lo hi offs, len)) (h1 : ¬ x.toInt < lo) (h2 : ¬ hi < x.toInt) (ho : offs[(x.toInt - lo).toNat]? = some off) (ht : (pc : Int) + off = (tgt : Int)) (k : RQ s0 l M h0 tgt L st h Q) : RQ s0 l M h0 pc L (.int x :: st) h Q := lift1 (fun _ _ k => ⟨k.1, fun p e s m args below meth c E H locs ls S => lv_tableIn E.1 E.2.1 hd h1 h2 ho ht (k.2 p e s m args below meth c E H locs ls S)⟩) k
theorem q_ldc {idx : Nat} {v : Int32} (hd : decode (iC M) pc = .ok (.ldc idx, 2)) (hw : Cond.constant (iY M).cls idx v ∈ lw_tbl) (k : RQ s0 l M h0 (pc + 2) L (.int v :: st) h Q) : RQ s0 l M h0 pc L st h Q := lift1 (fun _ _ k => ⟨k.1, fun p e s m args below meth c E H locs ls S => lv_ldc E.1 E.2.1 E.2.2.2.1 (E.2.2.2.2.2.2.2.2.2.2.2.2.1.word E.2.2.2.2.2.2.2.2.1 hw rfl) hd (k.2 p e s m args below meth c E H locs ls S)⟩) k
theorem ret_q {o : Out} {hE : Mem} (hQ : Q o hE) (k : R s0 l M h0 o hE pc L st h) : RQ s0 l M h0 pc L st h Q := ⟨o, hE, k, hQ⟩
theorem q_iret {v : Int32} {ty : FieldType} (hd : decode (iC M) pc = .ok (.ireturn, 1)) (hr : iR M = some ty) (hn : narrow ty (.int v) = .int v) (hQ : Q (.inl (some (.int v))) h) : RQ s0 l M h0 pc L [.int v] h Q :=
  ret_q hQ ⟨⟨Nat.le_refl _, Nat.le_refl _⟩, fun p e s m args below meth c E H locs ls S => vx_ret (W.zret E.1 E.2.1 (E.2.2.2.2.2.1.trans hr) hn (fun t ht _ => ⟨_, rfl, rfl, by rw [ht]; exact S.1⟩) S.2.1 hd E.2.2.2.2.1)⟩
theorem q_vret (hd : decode (iC M) pc = .ok (.return_, 1)) (hr : iR M = none) (hQ : Q (.inl none) h) : RQ s0 l M h0 pc L [] h Q :=
  ret_q hQ ⟨⟨Nat.le_refl _, Nat.le_refl _⟩, fun p e s m args below meth c E H locs ls S => vx_ret (W.vret E.1 E.2.1 (E.2.2.2.2.2.1.trans hr) (fun t ht _ => ⟨_, rfl, rfl, by rw [ht]; exact S.1⟩) S.2.1 hd E.2.2.2.2.1)⟩
theorem q_aret {v : Value} {rt : FieldType} (hd : decode (iC M) pc = .ok (.areturn, 1)) (hr : iR M = some rt) (hrt : (∃ n, rt = .object n) ∨ ∃ t, rt = .array t) (hv : v = .null ∨ ∃ a, v = .ref a) (hQ : Q (.inl (some v)) h) : RQ s0 l M h0 pc L [v] h Q :=
  ret_q hQ ⟨⟨Nat.le_refl _, Nat.le_refl _⟩, fun p e s m args below meth c E H locs ls S => vx_ret (W.aret E.1 E.2.1 (E.2.2.2.2.2.1.trans hr) hrt hv (fun t ht _ => ⟨_, rfl, rfl, by rw [ht]; exact S.1⟩) S.2.1 hd E.2.2.2.2.1)⟩
/-- what was thrown leaves the method -/
theorem q_out {E0 : String} (hcov : ∀ x ∈ tableOf (iH M), covers x pc = false) (hQ : Q (.inr E0) h) : RQX s0 l M h0 pc L E0 h Q :=
  ⟨.inr E0, h, ⟨⟨Nat.le_refl _, Nat.le_refl _⟩, fun p e s m args below meth c E H locs ls st q ce S h1 h2 h3 => vx_out (by rw [E.2.2.2.2.2.2.2.1]; exact hcov) E.2.2.2.2.1 h1 h2 h3 (fun t ht _ => ⟨rfl, by rw [ht]; exact S.1⟩) S.2.1 (Nat.le_refl _) (Nat.le_refl _)⟩, hQ⟩
/-- caught by the method's one handler, which lays it into a place and forgets it -/
theorem q_catch {E0 nm : String} {x : ExceptionTableEntry} {k9 : Fin 4} {i : Nat} (hone : tableOf (iH M) = [x]) (hx : covers x pc = true) (hc0 : x.catchType ≠ 0) (hl : Cond.classLink (iY M).cls x.catchType nm ∈ lw_tbl) (hcast : Cond.castable E0 nm ∈ lw_tbl) (hd : decode (iC M) x.handlerPc = .ok (.astore_n k9, 1)) (hi : (k9 : Nat) = i) (hn : i < L.length)
    (k : RQ s0 l M h0 (x.handlerPc + 1) (L.set i none) [] h Q) : RQX s0 l M h0 pc L E0 h Q := by
  obtain ⟨o, hE, k, b⟩ := k
  refine ⟨o, hE, ⟨k.1, fun p e s m args below meth c E H locs ls st q ce S h1 h2 h3 => ?_⟩, b⟩
  have g := E.2.2.2.2.2.2.2.2.2.2.2.2.1
  have hW := E.2.2.2.2.2.2.2.2.1
  refine xh_catch E.2.2.2.1 x (by rw [E.2.2.2.2.2.2.2.1]; exact hone) hx hc0 (g.word hW hl rfl) (g.cast hW hcast) h1 h2 h3 ?_
  exact lv_astore_n E.1 E.2.1 hd hi S.2.2.1.has (S.2.2.1.lt hn) rfl (fun ls9 h9 => k.2 p e s m args below meth c E H locs ls9 ⟨S.1, S.2.1, (S.2.2.1.st rfl h9).drop, S.2.2.2⟩)
end Rules
end
section
/-! ===== fields of the classes at any method's state ===== -/
theorem uw {s0 s : State} {args : Array Value} {ci : Nat} (g : G0 s0) (hW : s0.WarmedH s.vm) (hci : ci < 8) : ∀ w ∈ u_ws (cnm ci) (cT ci) (cN ci), w.before args s = true := fun w hw => by
  obtain ⟨av, h⟩ := g
  exact word_at hW (cW_ok hci w hw).2 (h w (cW_ok hci w hw).1)
theorem kn0 {s0 : State} {ci : Nat} (g : G0 s0) (hci : ci < 8) : u_Kn s0 (cnm ci) (cT ci) (cN ci) (xC s0 ci) (xI s0 ci) := by
  obtain ⟨av, h⟩ := id g
  obtain ⟨cC, iS, h1, h2⟩ := u_known (C := cnm ci) (T := cT ci) (N := cN ci) (n := cN ci) (uw (args := av) g (State.WarmedH.refl s0) hci) (fun _ h => h) (h _ (cI_ok hci))
  have e1 : xC s0 ci = cC := by unfold xC; rw [h2.1]; rfl
  refine ⟨fun k hk => ?_, by rw [e1]; exact h2⟩
  obtain ⟨cf, kf, fi, fd, hi, he⟩ := h1 k hk
  have e2 : xI s0 ci k = fd.slot := by unfold xI; rw [hi]
  exact ⟨cf, kf, fi, fd, hi, e2.symm⟩
theorem kn {s0 s : State} {ci : Nat} (g : G0 s0) (hW : s0.WarmedH s.vm) (hci : ci < 8) : u_Kn s (cnm ci) (cT ci) (cN ci) (xC s0 ci) (xI s0 ci) := u_Kn_moved hW.alike (kn0 g hci)
theorem fAt {s0 s : State} {ci k : Nat} (args : Array Value) (g : G0 s0) (hW : s0.WarmedH s.vm) (hci : ci < 8) (hk : k < cN ci) : ∃ cf kf fi f, s.fieldFound? (cnm ci) (cT ci k).2.1 (cT ci k).2.2.1 = some (cf, kf, fi, f) ∧ f.isStatic = false ∧ f.slot = xI s0 ci k ∧
    (∀ v, narrow (cY ci k) v = v → fits (cY ci k) v = true → narrow f.type v = v ∧ s.fitsSlot (xC s0 ci) .none f.slot v = true) ∧ ((cT ci k).2.2.2 = false → hasFlag f.accessFlags Acc.final = false) ∧ ((cT ci k).2.2.2 = true → ∀ m : MethodId, s.vm.findClass (cnm ci) = some m.cls → m.cls = cf) := by
  obtain ⟨hS, hfc, kC, hkC, hkind⟩ := kn g hW hci
  obtain ⟨cf, kf, fi, f, hi, hsl⟩ := hS k hk
  have hts := uw (args := args) g hW hci
  have hl := u_lays hts (fun _ h => h) hk
  have hlay := hts _ (u_in_lay hk)
  have hD := cD_ok hci k hk
  refine ⟨cf, kf, fi, f, by rw [← hD]; exact hi, (u_facts hfc hkC hl hi).1, hsl, fun v hn hf => u_fits hfc hkC hkind hl hi (cY_ok hci k hk) hn hf, fun hfin => ?_, fun hfin m hm => ?_⟩
  · unfold u_lay at hlay
    rw [if_neg (by rw [hfin]; decide)] at hlay
    obtain ⟨c, k9, cf', kf', fi', fd', r1, r2, hi', hst, hfin', -⟩ := Cond.lays_spec hlay
    cases hi.symm.trans hi'
    exact hfin'
  · unfold u_lay at hlay
    rw [if_pos hfin] at hlay
    obtain ⟨_, _, c', _, _, _, -, -, hf', -, -, -, hown2, -⟩ := Cond.laysFinal_spec hlay
    have e1 : c' = cf := by have := hi.symm.trans hf'; simp at this; exact this.1.symm
    rw [hD] at hown2
    rw [← e1]; exact Option.some.inj (hm.symm.trans hown2)
theorem xI_apart {s0 : State} {ci : Nat} (g : G0 s0) (hci : ci < 8) : ∀ x y, x < cN ci → y < cN ci → x ≠ y → xI s0 ci x ≠ xI s0 ci y := by
  intro x y hx hy hne
  obtain ⟨hS, -⟩ := kn0 g hci
  have hts := uw (args := #[]) g (State.WarmedH.refl s0) hci
  obtain ⟨_, _, _, fa, hia, ea⟩ := hS x hx
  obtain ⟨_, _, _, fb, hib, eb⟩ := hS y hy
  rw [← ea, ← eb]
  refine u_apart (u_lays hts (fun _ h => h) hx) (u_lays hts (fun _ h => h) hy) hia hib ?_
  rw [(State.fieldFound?_type hia (cY_ok hci x hx)).1, (State.fieldFound?_type hib (cY_ok hci y hy)).1]
  exact cN_ok hci x hx y hy hne
theorem t_set9 {cell : Cell} {N : Nat} {iS : Nat → Nat} {V V' : Nat → Value} (h : ∀ k, k < N → cell.slots[iS k]? = some (V k)) (hap : ∀ a b, a < N → b < N → a ≠ b → iS a ≠ iS b) {k : Nat} (hk : k < N) (v : Value) (hv : ∀ j, j < N → V' j = if j = k then v else V j) :
    ∀ j, j < N → (cell.setSlot (iS k) v).slots[iS j]? = some (V' j) := by
  intro j hj
  rw [t_set h hap hk v j hj, hv j hj]
  rfl
section Rules
variable {s0 : State} {l : Launch} {M : MI} {h0 : Mem} {pc : Nat} {L : List (Option Value)} {st : List Value} {h : Mem} {Q : Out → Mem → Prop}
theorem EN.g {p : Program} {s : State} {m : MethodId} {meth : Method} {c : Code} (E : EN s0 l M h0 p s m meth c) : G0 s0 := E.2.2.2.2.2.2.2.2.2.2.2.2.1
theorem EN.w {p : Program} {s : State} {m : MethodId} {meth : Method} {c : Code} (E : EN s0 l M h0 p s m meth c) : s0.WarmedH s.vm := E.2.2.2.2.2.2.2.2.1
theorem EN.cx {p : Program} {s : State} {m : MethodId} {meth : Method} {c : Code} (E : EN s0 l M h0 p s m meth c) : CX s0 l := E.2.2.2.2.2.2.2.2.2.2.2.2
theorem EN.own {p : Program} {s : State} {m : MethodId} {meth : Method} {c : Code} (E : EN s0 l M h0 p s m meth c) : s.vm.findClass (iY M).cls = some m.cls := E.2.2.2.1
theorem EN.froz {p : Program} {s : State} {m : MethodId} {meth : Method} {c : Code} (E : EN s0 l M h0 p s m meth c) : ∀ q, q < s0.heap.size → s.heap[q]? = s0.heap[q]? := E.2.2.2.2.2.2.2.2.2.1
theorem EN.size {p : Program} {s : State} {m : MethodId} {meth : Method} {c : Code} (E : EN s0 l M h0 p s m meth c) : s.heap.size = mN h0 := E.2.2.2.2.2.2.2.2.2.2.1
theorem ST.vaS {p : Program} {s : State} {m : MethodId} {meth : Method} {c : Code} {H : Heap} {locs : List Loc} {ls : Array Slot} (E : EN s0 l M h0 p s m meth c) (S : ST s0 M h0 h L H locs ls) : va_S (frOf s0) s.heap H locs :=
  ⟨by rw [E.size, S.1.1]; exact S.2.2.2.1, fun q _ hq => by
    have hq' : q < s0.heap.size := Nat.not_le.mp hq
    rw [S.1.2.2.1 q hq', E.froz q hq'], S.2.1⟩
theorem get_q {a idx ci k : Nat} {v : Value} (hd : decode (iC M) pc = .ok (.getfield idx, 3)) (hf : FL (iY M).cls idx ci k) (hk : mK h a = ci + 1) (hv : fV h ci a k = v) (kk : RQ s0 l M h0 (pc + 3) L (v :: st) h Q) : RQ s0 l M h0 pc L (.ref a :: st) h Q := by
  refine lift1 (fun _ _ k9 => ⟨k9.1, fun p e s m args below meth c E H locs ls S => ?_⟩) kk
  obtain ⟨cell, c1, c2, c3, c4⟩ := S.1.obj hf.1 hk
  obtain ⟨cf, kf, fi, f, hi, hst, hsl, -⟩ := fAt args E.g E.w hf.1 hf.2.1
  refine W.getf E.1 E.2.1 E.own (E.g.word E.w hf.2.2 rfl) hi hst c1 (by rw [c3]; exact fun h => by cases h) (v := v) ?_ rfl rfl hd (k9.2 p e s m args below meth c E H locs ls S)
  rw [hsl, ← hv]
  exact c4 k hf.2.1
theorem q_getI {a idx ci k : Nat} (hd : decode (iC M) pc = .ok (.getfield idx, 3)) (hf : FL (iY M).cls idx ci k) (ht : isR ci k = false) (hk : mK h a = ci + 1) (kk : RQ s0 l M h0 (pc + 3) L (.int (mI h a k) :: st) h Q) : RQ s0 l M h0 pc L (.ref a :: st) h Q :=
  get_q hd hf hk (by unfold fV; rw [if_neg (by rw [ht]; decide)]) kk
theorem q_getR {a idx ci k q : Nat} (hd : decode (iC M) pc = .ok (.getfield idx, 3)) (hf : FL (iY M).cls idx ci k) (ht : isR ci k = true) (hk : mK h a = ci + 1) (hr : mR h a k = some q) (kk : RQ s0 l M h0 (pc + 3) L (.ref q :: st) h Q) : RQ s0 l M h0 pc L (.ref a :: st) h Q :=
  get_q hd hf hk (by unfold fV; rw [if_pos ht, hr]; rfl) kk
theorem q_getN {a idx ci k : Nat} (hd : decode (iC M) pc = .ok (.getfield idx, 3)) (hf : FL (iY M).cls idx ci k) (ht : isR ci k = true) (hk : mK h a = ci + 1) (hr : mR h a k = none) (kk : RQ s0 l M h0 (pc + 3) L (.null :: st) h Q) : RQ s0 l M h0 pc L (.ref a :: st) h Q :=
  get_q hd hf hk (by unfold fV; rw [if_pos ht, hr]; rfl) kk
theorem put_q {a idx ci k : Nat} {v : Value} {h' : Mem} (hd : decode (iC M) pc = .ok (.putfield idx, 3)) (hf : FL (iY M).cls idx ci k) (hk : mK h a = ci + 1) (hn : narrow (cY ci k) v = v) (hfit : fits (cY ci k) v = true) (hfin : (cT ci k).2.2.2 = false ∨ ((iY M).cls = cnm ci ∧ (iY M).name = "<init>"))
    (hK : mK h' = mK h) (hL : mL h' = mL h) (hN : mN h' = mN h) (hU : mU h' = mU h) (hJ : mJ h' = mJ h) (hg : ∀ b, b ≠ a → (∀ i, mI h' b i = mI h b i) ∧ ∀ i, mR h' b i = mR h b i) (hv : ∀ j, j < cN ci → fV h' ci a j = if j = k then v else fV h ci a j)
    (kk : RQ s0 l M h0 (pc + 3) L st h' Q) : RQ s0 l M h0 pc L (v :: .ref a :: st) h Q := by
  refine lift1 (fun _ _ k9 => ⟨by rw [← hN, ← hU]; exact k9.1, fun p e s m args below meth c E H locs ls S => ?_⟩) kk
  obtain ⟨cell, c1, c2, c3, c4⟩ := S.1.obj hf.1 hk
  obtain ⟨cf, kf, fi, f, hi, hst, hsl, hfs, hf1, hf2⟩ := fAt args E.g E.w hf.1 hf.2.1
  obtain ⟨n1, n2⟩ := hfs v hn hfit
  have ha : a < H.size := (Array.getElem?_eq_some_iff.mp c1).1
  have ho : s0.heap.size ≤ a := S.1.own (by omega) (by have := hf.1; omega)
  refine W.putf E.1 E.2.1 E.own (E.g.word E.w hf.2.2 rfl) hi hst ?_ c1 (by rw [c3]; exact fun h => by cases h) (by rw [hsl]; exact k2_hasslot (c4 k hf.2.1)) n1 (by rw [c2, c3]; exact n2) rfl rfl hd ?_
  · cases hb : (cT ci k).2.2.2 with
    | false => exact Or.inl (hf1 hb)
    | true =>
      rcases hfin with h9 | ⟨h8, h9⟩
      · rw [hb] at h9; cases h9
      · exact Or.inr ⟨hf2 hb m (by rw [← h8]; exact E.own), E.2.2.2.2.2.2.1.trans h9⟩
  · have := k9.2 p e s m args below meth c E (H.setIfInBounds a (cell.setSlot f.slot v)) (locs ++ [⟨a, f.slot⟩]) ls ⟨?_, ?_, S.2.2.1, by rw [hN]; exact S.2.2.2.1, by rw [hU]; exact S.2.2.2.2⟩
    · rw [hN, hU] at this
      exact this
    · refine S.1.upd (a := a) (cell' := cell.setSlot f.slot v) ho (by simp [Array.getElem?_setIfInBounds, ha]) (by simp) (fun q hq => by simp [Array.getElem?_setIfInBounds, Ne.symm hq]) hN (fun b hb => ⟨by rw [hK], by rw [hL], (hg b hb).1, (hg b hb).2, fun i => by rw [hJ]⟩) (fun _ => ?_)
      refine cOK_obj hf.1 (by rw [hK]; exact hk) c2 c3 ?_
      rw [hsl]
      exact t_set9 c4 (xI_apart E.g hf.1) hf.2.1 v hv
    · intro q hq
      rcases List.mem_append.mp hq with h9 | h9
      · exact S.2.1 q h9
      · rw [List.mem_singleton.mp h9]
        exact ho
theorem q_putI {a idx ci k : Nat} {x : Int32} (hd : decode (iC M) pc = .ok (.putfield idx, 3)) (hf : FL (iY M).cls idx ci k) (ht : isR ci k = false) (hk : mK h a = ci + 1) (hn : narrow (cY ci k) (.int x) = .int x) (hfit : fits (cY ci k) (.int x) = true) (hfin : (cT ci k).2.2.2 = false ∨ ((iY M).cls = cnm ci ∧ (iY M).name = "<init>"))
    (kk : RQ s0 l M h0 (pc + 3) L st (sI h a k x) Q) : RQ s0 l M h0 pc L (.int x :: .ref a :: st) h Q := by
  refine put_q (h' := sI h a k x) hd hf hk hn hfit hfin rfl rfl rfl rfl rfl (fun b hb => ⟨fun i => by simp [mI_sI, hb], fun i => rfl⟩) (fun j _ => ?_) kk
  unfold fV
  by_cases e : j = k
  · subst e
    simp [ht, mI_sI]
  · simp [e, mI_sI, mR_sI]
theorem q_putR {a idx ci k q : Nat} (hd : decode (iC M) pc = .ok (.putfield idx, 3)) (hf : FL (iY M).cls idx ci k) (ht : isR ci k = true) (hk : mK h a = ci + 1) (hn : narrow (cY ci k) (.ref q) = .ref q) (hfit : fits (cY ci k) (.ref q) = true) (hfin : (cT ci k).2.2.2 = false ∨ ((iY M).cls = cnm ci ∧ (iY M).name = "<init>"))
    (kk : RQ s0 l M h0 (pc + 3) L st (sR h a k (some q)) Q) : RQ s0 l M h0 pc L (.ref q :: .ref a :: st) h Q := by
  refine put_q (h' := sR h a k (some q)) hd hf hk hn hfit hfin rfl rfl rfl rfl rfl (fun b hb => ⟨fun i => rfl, fun i => by simp [mR_sR, hb]⟩) (fun j _ => ?_) kk
  unfold fV
  by_cases e : j = k
  · subst e
    simp [ht, mR_sR, va_rf]
  · simp [e, mR_sR, mI_sR]
theorem loc1 {locs : List Loc} {a i : Nat} (h1 : ∀ q ∈ locs, frOf s0 q.base) (h2 : s0.heap.size ≤ a) : ∀ q ∈ locs ++ [(⟨a, i⟩ : Loc)], frOf s0 q.base := fun q hq => by
  rcases List.mem_append.mp hq with h9 | h9
  · exact h1 q h9
  · rw [List.mem_singleton.mp h9]
    exact h2
theorem vp_lt {j : Int32} {n : Nat} (h : vp_in j n) : j.toNatClampNeg < n := Nat.not_le.mp fun q => h (Or.inr q)
theorem q_iaload {a : Nat} {j : Int32} (hd : decode (iC M) pc = .ok (.iaload, 1)) (hk : mK h a = 11 ∨ mK h a = 21) (hin : vp_in j (mL h a)) (kk : RQ s0 l M h0 (pc + 1) L (.int (mI h a j.toNatClampNeg) :: st) h Q) : RQ s0 l M h0 pc L (.int j :: .ref a :: st) h Q := by
  refine lift1 (fun _ _ k9 => ⟨k9.1, fun p e s m args below meth c E H locs ls S => ?_⟩) kk
  obtain ⟨cell, c1, c2, c3, c4, c5, c6⟩ := S.1.a11 hk
  exact W.iald E.1 E.2.1 c1 (State.isArrayOf_alike E.w.alike c2) c3 (by rw [c4]; exact hin) (c6 _ (vp_lt hin)) rfl rfl hd (k9.2 p e s m args below meth c E H locs ls S)
theorem q_baload {a : Nat} {j : Int32} (hd : decode (iC M) pc = .ok (.baload, 1)) (hk : mK h a = 12) (hin : vp_in j (mL h a)) (kk : RQ s0 l M h0 (pc + 1) L (.int (mI h a j.toNatClampNeg) :: st) h Q) : RQ s0 l M h0 pc L (.int j :: .ref a :: st) h Q := by
  refine lift1 (fun _ _ k9 => ⟨k9.1, fun p e s m args below meth c E H locs ls S => ?_⟩) kk
  obtain ⟨cell, c1, c2, c3, c4, c5, c6⟩ := S.1.a12 hk
  exact W.bald E.1 E.2.1 c1 (State.isArrayOf_alike E.w.alike c2) c3 (by rw [c4]; exact hin) (c6 _ (vp_lt hin)) rfl rfl hd (k9.2 p e s m args below meth c E H locs ls S)
theorem q_laload {a : Nat} {j : Int32} (hd : decode (iC M) pc = .ok (.laload, 1)) (hk : mK h a = 13) (hin : vp_in j (mL h a)) (kk : RQ s0 l M h0 (pc + 1) L (.long (mJ h a j.toNatClampNeg) :: st) h Q) : RQ s0 l M h0 pc L (.int j :: .ref a :: st) h Q := by
  refine lift1 (fun _ _ k9 => ⟨k9.1, fun p e s m args below meth c E H locs ls S => ?_⟩) kk
  obtain ⟨cell, c1, c2, c3, c4, c5, c6⟩ := S.1.a13 hk
  exact W.lald E.1 E.2.1 c1 (State.isArrayOf_alike E.w.alike c2) c3 (by rw [c4]; exact hin) (c6 _ (vp_lt hin)) rfl rfl hd (k9.2 p e s m args below meth c E H locs ls S)
theorem q_aaload {a ci q : Nat} {j : Int32} (hd : decode (iC M) pc = .ok (.aaload, 1)) (hci : ci = 1 ∨ ci = 2) (hk : mK h a = ci + 13) (hin : vp_in j (mL h a)) (hr : mR h a j.toNatClampNeg = some q) (kk : RQ s0 l M h0 (pc + 1) L (.ref q :: st) h Q) : RQ s0 l M h0 pc L (.int j :: .ref a :: st) h Q := by
  refine lift1 (fun _ _ k9 => ⟨k9.1, fun p e s m args below meth c E H locs ls S => ?_⟩) kk
  obtain ⟨cell, c1, ⟨c2, c3, c4, c5, c6⟩, -⟩ := S.1.aq hci hk
  exact W.aald (v := .ref q) E.1 E.2.1 c1 (State.isArrayOf_alike E.w.alike c2) rfl c3 (by rw [c4]; exact hin) (by rw [c6 _ (vp_lt hin)]; simp only [hr]; rfl) rfl rfl hd (k9.2 p e s m args below meth c E H locs ls S)
theorem q_aaloadN {a ci : Nat} {j : Int32} (hd : decode (iC M) pc = .ok (.aaload, 1)) (hci : ci = 1 ∨ ci = 2) (hk : mK h a = ci + 13) (hin : vp_in j (mL h a)) (hr : mR h a j.toNatClampNeg = none) (kk : RQ s0 l M h0 (pc + 1) L (.null :: st) h Q) : RQ s0 l M h0 pc L (.int j :: .ref a :: st) h Q := by
  refine lift1 (fun _ _ k9 => ⟨k9.1, fun p e s m args below meth c E H locs ls S => ?_⟩) kk
  obtain ⟨cell, c1, ⟨c2, c3, c4, c5, c6⟩, -⟩ := S.1.aq hci hk
  exact W.aald (v := .null) E.1 E.2.1 c1 (State.isArrayOf_alike E.w.alike c2) rfl c3 (by rw [c4]; exact hin) (by rw [c6 _ (vp_lt hin)]; simp only [hr]; rfl) rfl rfl hd (k9.2 p e s m args below meth c E H locs ls S)
theorem q_alen {a : Nat} (hd : decode (iC M) pc = .ok (.arraylength, 1)) (hk : mK h a = 11 ∨ mK h a = 21) (kk : RQ s0 l M h0 (pc + 1) L (.int (nI (mL h a)) :: st) h Q) : RQ s0 l M h0 pc L (.ref a :: st) h Q := by
  refine lift1 (fun _ _ k9 => ⟨k9.1, fun p e s m args below meth c E H locs ls S => ?_⟩) kk
  obtain ⟨cell, c1, c2, c3, c4, c5, c6⟩ := S.1.a11 hk
  exact W.alen (n := nI (mL h a)) E.1 E.2.1 c1 (State.isArrayOf_alike E.w.alike c2) (by rw [c4]; rfl) rfl rfl hd (k9.2 p e s m args below meth c E H locs ls S)
theorem q_alenQ {a ci : Nat} (hd : decode (iC M) pc = .ok (.arraylength, 1)) (hci : ci = 1 ∨ ci = 2) (hk : mK h a = ci + 13) (kk : RQ s0 l M h0 (pc + 1) L (.int (nI (mL h a)) :: st) h Q) : RQ s0 l M h0 pc L (.ref a :: st) h Q := by
  refine lift1 (fun _ _ k9 => ⟨k9.1, fun p e s m args below meth c E H locs ls S => ?_⟩) kk
  obtain ⟨cell, c1, ⟨c2, c3, c4, c5, c6⟩, -⟩ := S.1.aq hci hk
  exact W.alen (n := nI (mL h a)) E.1 E.2.1 c1 (State.isArrayOf_alike E.w.alike c2) (by rw [c4]; rfl) rfl rfl hd (k9.2 p e s m args below meth c E H locs ls S)
theorem q_iastore {a : Nat} {j x : Int32} (hd : decode (iC M) pc = .ok (.iastore, 1)) (hk : mK h a = 11) (hin : vp_in j (mL h a)) (kk : RQ s0 l M h0 (pc + 1) L st (sI h a j.toNatClampNeg x) Q) : RQ s0 l M h0 pc L (.int x :: .int j :: .ref a :: st) h Q := by
  refine lift1 (h' := sI h a j.toNatClampNeg x) (fun _ _ k9 => ⟨k9.1, fun p e s m args below meth c E H locs ls S => ?_⟩) kk
  obtain ⟨cell, c1, c2⟩ := S.1.a11 (Or.inl hk)
  have ho := S.1.own (a := a) (by omega) (by omega)
  refine W.iast E.1 E.2.1 c1 (State.isArrayOf_alike E.w.alike c2.1) c2.2.1 (by rw [c2.2.2.1]; exact hin) rfl rfl hd (fun H9 e1 e2 e3 => ?_)
  refine k9.2 p e s m args below meth c E H9 _ ls ⟨S.1.upd (a := a) ho e1 e2 e3 rfl (fun b hb => ⟨rfl, rfl, fun i => by simp [mI_sI, hb], fun i => rfl, fun i => rfl⟩) (fun _ => ?_), loc1 S.2.1 ho, S.2.2⟩
  unfold cOK
  rw [if_pos (Or.inl (by rw [mK_sI]; exact hk))]
  exact c2.set (vp_lt hin) (fun i _ => by simp only [mI_sI, true_and]; split <;> rfl)
theorem q_bastore {a : Nat} {j x : Int32} (hd : decode (iC M) pc = .ok (.bastore, 1)) (hk : mK h a = 12) (hin : vp_in j (mL h a)) (kk : RQ s0 l M h0 (pc + 1) L st (sI h a j.toNatClampNeg x.toInt8.toInt32) Q) : RQ s0 l M h0 pc L (.int x :: .int j :: .ref a :: st) h Q := by
  refine lift1 (h' := sI h a j.toNatClampNeg x.toInt8.toInt32) (fun _ _ k9 => ⟨k9.1, fun p e s m args below meth c E H locs ls S => ?_⟩) kk
  obtain ⟨cell, c1, c2⟩ := S.1.a12 hk
  have ho := S.1.own (a := a) (by omega) (by omega)
  refine W.bast E.1 E.2.1 c1 (State.isArrayOf_alike E.w.alike c2.1) c2.2.1 (by rw [c2.2.2.1]; exact hin) rfl rfl hd (fun H9 e1 e2 e3 => ?_)
  refine k9.2 p e s m args below meth c E H9 _ ls ⟨S.1.upd (a := a) ho e1 e2 e3 rfl (fun b hb => ⟨rfl, rfl, fun i => by simp [mI_sI, hb], fun i => rfl, fun i => rfl⟩) (fun _ => ?_), loc1 S.2.1 ho, S.2.2⟩
  unfold cOK
  rw [if_neg (by rw [mK_sI]; omega), if_pos (by rw [mK_sI]; exact hk)]
  exact c2.set (vp_lt hin) (fun i _ => by simp only [mI_sI, true_and, narrow_byte]; split <;> rfl)
theorem q_lastore {a : Nat} {j : Int32} {x : Int64} (hd : decode (iC M) pc = .ok (.lastore, 1)) (hk : mK h a = 13) (hin : vp_in j (mL h a)) (kk : RQ s0 l M h0 (pc + 1) L st (sJ h a j.toNatClampNeg x) Q) : RQ s0 l M h0 pc L (.long x :: .int j :: .ref a :: st) h Q := by
  refine lift1 (h' := sJ h a j.toNatClampNeg x) (fun _ _ k9 => ⟨k9.1, fun p e s m args below meth c E H locs ls S => ?_⟩) kk
  obtain ⟨cell, c1, c2⟩ := S.1.a13 hk
  have ho := S.1.own (a := a) (by omega) (by omega)
  refine W.last E.1 E.2.1 c1 (State.isArrayOf_alike E.w.alike c2.1) c2.2.1 (by rw [c2.2.2.1]; exact hin) rfl rfl hd (fun H9 e1 e2 e3 => ?_)
  refine k9.2 p e s m args below meth c E H9 _ ls ⟨S.1.upd (a := a) ho e1 e2 e3 rfl (fun b hb => ⟨rfl, rfl, fun i => rfl, fun i => rfl, fun i => by simp [mJ, sJ, hb]⟩) (fun _ => ?_), loc1 S.2.1 ho, S.2.2⟩
  have hk' : mK (sJ h a j.toNatClampNeg x) a = 13 := hk
  unfold cOK
  rw [if_neg (by omega), if_neg (by omega), if_pos hk']
  exact c2.set (vp_lt hin) (fun i _ => by simp only [mJ, sJ, true_and]; split <;> rfl)
theorem q_aastore {a ci v : Nat} {j : Int32} (hd : decode (iC M) pc = .ok (.aastore, 1)) (hci : ci = 1 ∨ ci = 2) (hk : mK h a = ci + 13) (hin : vp_in j (mL h a)) (hkv : mK h v = ci + 1) (kk : RQ s0 l M h0 (pc + 1) L st (sR h a j.toNatClampNeg (some v)) Q) : RQ s0 l M h0 pc L (.ref v :: .int j :: .ref a :: st) h Q := by
  refine lift1 (h' := sR h a j.toNatClampNeg (some v)) (fun _ _ k9 => ⟨k9.1, fun p e s m args below meth c E H locs ls S => ?_⟩) kk
  obtain ⟨cell, c1, c2, kA, comp, c3, c4, c5⟩ := S.1.aq hci hk
  obtain ⟨cv, v1, v2, v3, -⟩ := S.1.obj (ci := ci) (by omega) hkv
  have ho := S.1.own (a := a) (by omega) (by omega)
  have hal := E.w.alike
  obtain ⟨kA', hkA', heA⟩ := hal.2.2 _ _ c3
  obtain ⟨hS, hfc, kC, hkC, hkind⟩ := kn E.g E.w (ci := ci) (by omega)
  have hcomp : comp = xC s0 ci := by
    have h1 := (kn0 E.g (ci := ci) (by omega)).2.1
    exact Option.some.inj (c5.symm.trans h1)
  refine W.aast (k := kA') (kv := kC) (kcomp := kC) (comp := comp) (t := .object (cnm ci)) E.1 E.2.1 c1 c2.1.1 c2.2.1 hkA' (by rw [heA]; exact c4) rfl (by rw [hcomp]; exact hkC) ⟨fun h9 => hin (Or.inl h9), by rw [c2.2.2.1]; exact vp_lt hin⟩ v1 (by rw [v3]; intro k h9; cases h9) (by rw [v2]; exact hkC) (by rw [v2, hcomp]; exact va_assign ⟨hfc, kC, hkC, hkind⟩) rfl rfl hd (fun H9 e1 e2 e3 => ?_)
  refine k9.2 p e s m args below meth c E H9 _ ls ⟨S.1.upd (a := a) ho e1 e2 e3 rfl (fun b hb => ⟨rfl, rfl, fun i => rfl, fun i => by simp [mR_sR, hb], fun i => rfl⟩) (fun _ => ?_), loc1 S.2.1 ho, S.2.2⟩
  have hk' : mK (sR h a j.toNatClampNeg (some v)) a = ci + 13 := hk
  have hg : ∀ i, i < mL h a → va_rf (mR (sR h a j.toNatClampNeg (some v)) a i) = if i = j.toNatClampNeg then .ref v else va_rf (mR h a i) := fun i _ => by simp only [mR_sR, true_and]; split <;> rfl
  unfold cOK
  rcases hci with rfl | rfl
  · rw [if_neg (by omega), if_neg (by omega), if_neg (by omega), if_pos (by omega)]
    exact ⟨c2.set (vp_lt hin) hg, kA, comp, c3, c4, c5⟩
  · rw [if_neg (by omega), if_neg (by omega), if_neg (by omega), if_neg (by omega), if_pos (by omega)]
    exact ⟨c2.set (vp_lt hin) hg, kA, comp, c3, c4, c5⟩
theorem q_gets {idx i : Nat} (hd : decode (iC M) pc = .ok (.getstatic idx, 3)) (hi : i < 3) (hf : Cond.fieldLink (iY M).cls idx (sC i) (sNm i) "[I" ∈ lw_tbl) (kk : RQ s0 l M h0 (pc + 3) L (.ref (sA s0 i) :: st) h Q) : RQ s0 l M h0 pc L st h Q := by
  refine lift1 (fun _ _ k9 => ⟨k9.1, fun p e s m args below meth c E H locs ls S => ?_⟩) kk
  have hZ := va_Z.moved E.w.alike (((E.cx.2.2.2.2 i hi)).kept (H1 := s.heap) (fun a ha hna => E.froz a ha))
  exact va_gets E.1 E.2.1 hZ (S.vaS E) E.own (E.g.word E.w hf rfl) (fun _ h9 => h9) hd (k9.2 p e s m args below meth c E H locs ls S)
end Rules
end
section
section XThrow
variable {p : Program} {l : Launch} {e : Env} {R : Room} {s : State} {m : MethodId} {args : Array Value} {below : List Frame} {meth : Method} {c : Code} {H : Heap} {locs : List Loc} {cells slots : Nat} {Q : State → Prop}
variable {mc ms : Nat} {free : Addr → Prop} {A0 A1 : Nat → Prop} {H0 : Heap} {a : Array Value} {ls : Array Slot} {st0 rest : List Value}
variable {Qc : Array Value → State → Outcome → State → Prop} {XC : String → State → State → Prop}
/-- 'throw new E()': new; dup; invokespecial; athrow -/
theorem x_throw0 {cc : ByteArray} {pc : Nat} (hexec : p.tables.exec = Jvm.exec) (hb : c.code = cc) (hl : l.stackTraces = false) {own cls : String} {names : List String} {ik ic mc ms : Nat} {A : Nat → Prop}
    (hown : s.vm.findClass own = some m.cls) (hcls : Bundle.fit cls = true) (hnames : ∀ n ∈ names, Bundle.fit n = true)
    (hk : (Cond.classLink own ik cls).before args s = true) (hini : (Cond.initialized cls).before args s = true) (hat : ∀ w ∈ vx_at0 own ic cls names, w.before args s = true)
    (hgood : ∀ w ∈ Cond.classLink own ik cls :: Cond.initialized cls :: vx_at0 own ic cls names, vx_ot w = true)
    (hU : vx_Zq Bundle.tN "UNASSIGNED_STACK" Bundle.steD A s s.heap) (hN : vx_Zq Bundle.tN "SUPPRESSED_SENTINEL" Bundle.listD A s s.heap) (hS : va_S A s.heap H locs) (hsize : ls.size = c.maxLocals)
    (d0 : decode cc pc = .ok (.new ik, 3)) (d3 : decode cc (pc + 3) = .ok (.dup, 1)) (d4 : decode cc (pc + 4) = .ok (.invokespecial ic, 3)) (d7 : decode cc (pc + 7) = .ok (.athrow, 1))
    (hout : ∀ x ∈ c.exceptionTable.toList, covers x (pc + 7) = false)
    (hRframes : names.length + 3 < R.frames) (hRlocals : (rest.map fun v => v.category).sum + (13 * (names.length + 1) + 42) ≤ R.locals) (hRcells : cells + 1 ≤ R.cells) (hRslots : slots + 6 ≤ R.slots) (hlocks : meth.locks = false)
    (hx : ∀ t : State, s.vm.Alike t.vm → t.heap.size = H.size + 1 → (∀ q : Nat, q < H.size → t.heap[q]? = H[q]?) → XC cls s t)
    (hf : ∀ z ∈ locs, free z.base) (hc : cells + 1 ≤ mc) (hs : slots + 6 ≤ ms) :
    W p l e R s m args below meth c H locs cells slots (vx_MQ below Qc XC args s mc ms free) (F0 m pc ls rest) := by
  intro T hT X
  have htr : e.platform.stackTraces = false := (show e.platform.stackTraces = l.stackTraces by rw [X.admits.platform]).trans hl
  have Y := vx_rebase X (R' := { frames := R.frames, locals := R.locals, cells := 1, slots := 6 }) (Nat.le_refl _) (Nat.le_refl _) hRcells hRslots
  obtain ⟨s', hA⟩ : ∃ z, z = (T.setVm s.vm).setFrames (.invoking m args :: below) := ⟨_, rfl⟩
  rw [← hA] at Y
  have hvm : s'.vm = s.vm := by rw [hA]; rfl
  have hhp : s'.heap = H := by rw [hA]; exact hT
  have hW0 : s.WarmedH s'.vm := by rw [hvm]; exact State.WarmedH.refl s
  have hat' : ∀ w ∈ vx_at0 own ic cls names, w.before args s' = true := fun w hw => vx_ot_at hW0 hvm.symm (hgood w (List.mem_cons_of_mem _ (List.mem_cons_of_mem _ hw))) (hat w hw)
  have hk' : (Cond.classLink own ik cls).before args s' = true := vx_ot_at hW0 hvm.symm (hgood _ List.mem_cons_self) hk
  have hini' : (Cond.initialized cls).before args s' = true := vx_ot_at hW0 hvm.symm (hgood _ (List.mem_cons_of_mem _ List.mem_cons_self)) hini
  have hU' : vx_Zq Bundle.tN "UNASSIGNED_STACK" Bundle.steD A s' s'.heap := by rw [hhp]; exact vx_Zq.moved hW0.alike (hU.kept hS.2.1)
  have hN' : vx_Zq Bundle.tN "SUPPRESSED_SENTINEL" Bundle.listD A s' s'.heap := by rw [hhp]; exact vx_Zq.moved hW0.alike (hN.kept hS.2.1)
  have h : ∀ w ∈ Bundle.ownAtoms0 own ic cls names, w.before args s' = true := vx_own hat' (vx_isRefq hU'.1) (vx_isRefq hN'.1) hU'.2.word hN'.2.word
  have hown' : s'.vm.findClass own = some m.cls := by rw [hvm]; exact hown
  have hins : (Cond.instantiable cls 6).before args s' = true := h _ (by simp [Bundle.ownAtoms0])
  obtain ⟨vm₁, cX, kX, hfX, hkX, -, -, X₁, st1⟩ := Y.newCold hexec (own := own) (C := cls) (index := ik) (n := 6) hown' hk' hins hini'
    (g := F0 m pc ls rest) rfl (by rw [hb]; exact d0) (Nat.le_refl _) (Nat.le_refl _)
  generalize hT1 : (T.setVm vm₁).pushCell { cls := cX, slots := kX.instanceTypes.map defaultValue, vm := .none } = T1 at X₁ st1
  have hcat : (Value.ref T.heap.size).category = 1 := rfl
  have hcellA : T1.heap[T.heap.size]? = some (freshCell cX kX) := by rw [← hT1]; exact State.heap_pushCell_size _ _
  have d3' : decode c.code (pc + 3) = .ok (.dup, 1) := by rw [hb]; exact d3
  obtain ⟨U, hsteps, hrun, hend, hW, hsame, ce, hce, hO⟩ := X₁.ctorThrow0 hexec htr (own := own) (cls := cls) (names := names) (ic := ic) hown' hcls hnames h (fun x hx => nomatch hx) hfX hkX hcellA (by rw [hhp, hT]; exact Nat.le_refl _)
    (g := { method := m, pc := pc + 4, locals := ls, stack := .ref T.heap.size :: .ref T.heap.size :: rest, locked := none }) rfl hsize rfl rfl (rest := rest) rfl
    (by rw [hb]; exact d4) (by rw [hb]; exact d7) hout hRframes (by simp only [List.map_cons, List.sum_cons, hcat]; omega) hlocks
  obtain ⟨f1, f2⟩ := vx_frame hsame
  rw [hhp] at f1 f2
  have f0 : U.heap.size = H.size + 1 := by
    have z1 : U.heap.size ≤ s'.heap.size + (0 + 1) := hsame.2.2.1
    rw [hhp] at z1
    have z2 := (Array.getElem?_eq_some_iff.mp hce).1
    rw [hT] at z2
    omega
  have hWs : s.WarmedH U.vm := State.WarmedH.trans hW0 hW
  have hcl : s.vm.findClass cls = some ce.cls := by
    have h9 := hO.cls
    rw [hvm] at h9
    exact h9
  have hall : s.sameButNew ({ U with vm := s.vm } : State) locs mc ms := by
    subst hA
    obtain ⟨e1, e2⟩ := hsame
    rw [State.setFrames_setFrames] at e1
    have h2 : (T.setVm s.vm).sameButNew ({ U with vm := s.vm } : State) [] (0 + 1) (0 + 6) := ⟨e1, e2⟩
    have h3 := X.same.trans h2
    rw [List.append_nil] at h3
    exact h3.mono hc hs
  refine ⟨U, ?_, .threw T.heap.size, hrun, hend, Or.inr ⟨T.heap.size, rfl, cls, ce, locs, hx U hWs.alike f0 (fun q hq => f2 q hq (fun z hz => nomatch hz)), hce, hO.vm, hcl, hWs, hall, hf⟩⟩
  refine st1 _ ?_
  show Steps p.tables e below (T1.setTop { method := m, pc := pc + 3, locals := ls, stack := .ref T.heap.size :: rest, locked := none }) _
  jvm_step X₁.here [X₁.here.top, hexec, d3', Value.category]
  exact hsteps
end XThrow
theorem cY_dflt : ∀ ci, ci < 8 → ∀ k, k < cN ci → defaultValue (cY ci k) = if isR ci k = true then .null else .int 0 := by decide +kernel
theorem wtr {s0 s U : State} (h1 : s0.WarmedH s.vm) (h2 : s.WarmedH U.vm) : s0.WarmedH U.vm := State.WarmedH.trans h1 h2
theorem G0.over {s0 s : State} {args : Array Value} {C : String} (g : G0 s0) (hW : s0.WarmedH s.vm) (hw : Cond.arrayOver (.object C) ∈ lw_tbl) : (Cond.arrayOver (.object C)).before args s = true := by
  obtain ⟨av, h⟩ := g
  exact va_AO.use (va_AO.moved hW.alike (va_AO.of (h _ hw)))
theorem goodCd (M : MI) : goodWord (cdw M) = true := by unfold cdw; split <;> rfl
/-- what a call needs of a method: an instance method, a static one, a constructor -/
def MV (M : MI) (ci n : Nat) : Prop := (ci < 8 ∧ (iY M).cls = cnm ci) ∧ Cond.instanceMethod (iY M) ∈ lw_tbl ∧ Cond.selects (iY M).cls (iY M) (iY M) ∈ lw_tbl ∧ Cond.initialized (iY M).cls ∈ lw_tbl ∧ cdw M ∈ lw_tbl ∧ ((iY M).cls ≠ "java/lang/invoke/MethodHandle" ∧ (iY M).cls ≠ "java/lang/invoke/VarHandle") ∧ (parseMethodDescriptor (iY M).desc).map (fun d => d.parameters.length) = some n
def MS (M : MI) (n : Nat) : Prop := Cond.static (iY M) ∈ lw_tbl ∧ Cond.initialized (iY M).cls ∈ lw_tbl ∧ cdw M ∈ lw_tbl ∧ ((iY M).cls ≠ "java/lang/invoke/MethodHandle" ∧ (iY M).cls ≠ "java/lang/invoke/VarHandle") ∧ (parseMethodDescriptor (iY M).desc).map (fun d => d.parameters.length) = some n
def MC (M : MI) (n : Nat) : Prop := (iY M).name = "<init>" ∧ Cond.instanceMethod (iY M) ∈ lw_tbl ∧ Cond.initialized (iY M).cls ∈ lw_tbl ∧ cdw M ∈ lw_tbl ∧ ((iY M).cls ≠ "java/lang/invoke/MethodHandle" ∧ (iY M).cls ≠ "java/lang/invoke/VarHandle") ∧ (parseMethodDescriptor (iY M).desc).map (fun d => d.parameters.length) = some n
theorem plen {d : String} {n : Nat} (h : (parseMethodDescriptor d).map (fun d => d.parameters.length) = some n) : ∀ sig, parseMethodDescriptor d = some sig → n = sig.parameters.length := fun sig e => by
  rw [e] at h
  exact (Option.some.inj h).symm
theorem C.met {s0 : State} {l : Launch} {M : MI} {av : List Value} {h hE : Mem} {v : Option Value} (k : C s0 l M av h (.inl v) hE) : Met l (iY M) [cdw M] (rmOf M h hE) (PcOf s0 l av h) (QcOf s0 (.inl v) hE) (mN hE - mN h) (mU hE - mU h) (frOf s0) := by
  intro p e ha hc hk s m args below hf happ hP hK
  obtain ⟨n, o, h1, h2, h3, h4⟩ := k.2 p e ha hc hk s m args below hf happ hP hK
  refine ⟨n, o, h1, h2, h3, ?_⟩
  rcases h4 with h4 | ⟨q, -, E, ce, L, ⟨hx, -⟩, -⟩
  · exact h4
  · cases hx
section Rules
variable {s0 : State} {l : Launch} {M : MI} {h0 : Mem} {pc : Nat} {L : List (Option Value)} {st : List Value} {h : Mem} {Q : Out → Mem → Prop}
theorem nw_mono {kd len n : Nat} {hE : Mem} (k : mN (nw h kd len n) ≤ mN hE ∧ mU (nw h kd len n) ≤ mU hE) : mN h ≤ mN hE ∧ mU h ≤ mU hE := by
  rw [mN_nw, mU_nw] at k
  omega
theorem q_new {idx ci : Nat} (hd : decode (iC M) pc = .ok (.new idx, 3)) (hci : ci < 8) (hl : Cond.classLink (iY M).cls idx (cnm ci) ∈ lw_tbl) (kk : RQ s0 l M h0 (pc + 3) L (.ref (mN h) :: st) (nw h (ci + 1) 0 (cN ci)) Q) : RQ s0 l M h0 pc L st h Q := by
  refine lift1 (h' := nw h (ci + 1) 0 (cN ci)) (fun _ _ k9 => ⟨nw_mono k9.1, fun p e s m args below meth c E H locs ls S => ?_⟩) kk
  have k1 := k9.1
  rw [mN_nw, mU_nw] at k1
  have s3 := S.2.2.2.1
  have s4 := S.2.2.2.2
  have hKn := kn E.g E.w hci
  refine W.newcK (C := cnm ci) (n := cN ci) E.1 E.2.1 E.own (E.g.word E.w hl rfl) (E.g.word E.w (cI_ok hci) rfl) (E.g.word E.w (cA_ok hci) rfl) rfl hd (by show _ ≤ mN _ - mN h0; omega) (by show _ ≤ mU _ - mU h0; omega) hKn.2.1 rfl (fun H9 kC hkC e1 z1 o1 => ?_)
  rw [S.1.1]
  have := k9.2 p e s m args below meth c E H9 locs ls ⟨S.1.newx z1 o1 (fun _ => ?_), S.2.1, S.2.2.1, by rw [mN_nw]; omega, by rw [mU_nw]; omega⟩
  · rw [mN_nw, mU_nw, show mN h + 1 - mN h0 = mN h - mN h0 + 1 by omega, show mU h + cN ci - mU h0 = mU h - mU h0 + cN ci by omega] at this
    exact this
  · obtain ⟨cell, q1, q2, q3, q4⟩ := u_born (cY ci) (uw (args := args) E.g E.w hci) (fun _ h => h) hKn hkC e1 (cY_ok hci)
    refine ⟨cell, q1, cOK_obj hci (by simp [mK_nw]) q2 q3 (fun j hj => ?_)⟩
    rw [q4 j hj]
    show some (defaultValue (cY ci j)) = _
    rw [cY_dflt ci hci j hj]
    unfold fV
    simp only [mR_nw, mI_nw, if_true]
    rfl
theorem q_newarray {at9 : ArrayType} {ty : FieldType} {kd : Nat} {n : Int32} (hd : decode (iC M) pc = .ok (.newarray at9, 2)) (hty : newarray.typeOf at9 = ty) (hkd : (kd = 11 ∧ ty = .int) ∨ (kd = 12 ∧ ty = .byte) ∨ (kd = 13 ∧ ty = .long)) (hw : Cond.arrayClass ty ∈ lw_tbl) (hn : ¬ n < 0) (hb : n.toNatClampNeg ≤ 10000000) (kk : RQ s0 l M h0 (pc + 2) L (.ref (mN h) :: st) (nw h kd n.toNatClampNeg n.toNatClampNeg) Q) : RQ s0 l M h0 pc L (.int n :: st) h Q := by
  refine lift1 (h' := nw h kd n.toNatClampNeg n.toNatClampNeg) (fun _ _ k9 => ⟨nw_mono k9.1, fun p e s m args below meth c E H locs ls S => ?_⟩) kk
  have k1 := k9.1
  rw [mN_nw, mU_nw] at k1
  have s3 := S.2.2.2.1
  have s4 := S.2.2.2.2
  subst hty
  refine W.newaK (N := n.toNatClampNeg) E.1 E.2.1 (E.g.word E.w hw rfl) rfl hd rfl hn rfl ?_ (by show _ ≤ mN _ - mN h0; omega) (by show _ ≤ mU _ - mU h0; omega) rfl (fun H9 cA e1 z1 o1 hA => ?_)
  · rcases hkd with ⟨-, h9⟩ | ⟨-, h9⟩ | ⟨-, h9⟩ <;> rw [h9] <;> simp only [componentBytes] <;> omega
  · rw [S.1.1]
    have := k9.2 p e s m args below meth c E H9 locs ls ⟨S.1.newx z1 o1 (fun _ => ?_), S.2.1, S.2.2.1, by rw [mN_nw]; omega, by rw [mU_nw]; omega⟩
    · rw [mN_nw, mU_nw, show mN h + 1 - mN h0 = mN h - mN h0 + 1 by omega, show mU h + n.toNatClampNeg - mU h0 = mU h - mU h0 + n.toNatClampNeg by omega] at this
      exact this
    · refine ⟨_, e1, ?_⟩
      have hK : mK (nw h kd n.toNatClampNeg n.toNatClampNeg) (mN h) = kd := by simp [mK_nw]
      have hL : mL (nw h kd n.toNatClampNeg n.toNatClampNeg) (mN h) = n.toNatClampNeg := by simp [mL_nw]
      have hi : ∀ (f : Nat → Value), (∀ j, f j = defaultValue (newarray.typeOf at9)) → aOK s0 (newarray.typeOf at9) n.toNatClampNeg f (arrV cA n.toNatClampNeg (fun _ => defaultValue (newarray.typeOf at9))) := fun f hf =>
        ⟨State.isArrayOf_alike E.w.alike.symm (hA _ _), (fun h9 => by cases h9), arrV_size _ _ _, by omega, fun j hj => by rw [arrV_read _ _ hj, hf j]⟩
      unfold cOK
      rw [hK, hL]
      rcases hkd with ⟨rfl, h9⟩ | ⟨rfl, h9⟩ | ⟨rfl, h9⟩
      · rw [if_pos (Or.inl rfl), ← h9]
        exact hi _ (fun j => by rw [h9, mI_nw, if_pos rfl]; rfl)
      · rw [if_neg (by decide), if_pos rfl, ← h9]
        exact hi _ (fun j => by rw [h9, mI_nw, if_pos rfl]; rfl)
      · rw [if_neg (by decide), if_neg (by decide), if_pos rfl, ← h9]
        exact hi _ (fun j => by rw [h9, mJ_nw, if_pos rfl]; rfl)
theorem q_anewarray {idx ci : Nat} {n : Int32} (hd : decode (iC M) pc = .ok (.anewarray idx, 3)) (hci : ci = 1 ∨ ci = 2) (hl : Cond.classLink (iY M).cls idx (cnm ci) ∈ lw_tbl) (hw : Cond.arrayOver (.object (cnm ci)) ∈ lw_tbl) (hn : ¬ n < 0) (hb : n.toNatClampNeg ≤ 10000000) (kk : RQ s0 l M h0 (pc + 3) L (.ref (mN h) :: st) (nw h (ci + 13) n.toNatClampNeg n.toNatClampNeg) Q) : RQ s0 l M h0 pc L (.int n :: st) h Q := by
  refine lift1 (h' := nw h (ci + 13) n.toNatClampNeg n.toNatClampNeg) (fun _ _ k9 => ⟨nw_mono k9.1, fun p e s m args below meth c E H locs ls S => ?_⟩) kk
  have k1 := k9.1
  rw [mN_nw, mU_nw] at k1
  have s3 := S.2.2.2.1
  have s4 := S.2.2.2.2
  refine W.anew (C := cnm ci) E.1 E.2.1 E.own (E.g.word E.w hl rfl) (E.g.over E.w hw) rfl hd rfl hn (by omega) (by show _ ≤ mN _ - mN h0; omega) (by show _ ≤ mU _ - mU h0; omega) (fun cA kA comp f1 f2 f3 f4 => ?_)
  rw [S.1.1]
  have hal := E.w.alike.symm
  obtain ⟨kA', hkA', heA⟩ := hal.2.2 _ _ f2
  have f3' : kA'.kind = .array comp (.object (cnm ci)) := by rw [heA]; exact f3
  have := k9.2 p e s m args below meth c E _ locs ls ⟨S.1.newx (H' := H.push { cls := cA, slots := Array.replicate n.toNatClampNeg .null, vm := .none }) (by simp) (fun q hq => by rw [Array.getElem?_push, if_neg (Nat.ne_of_lt hq)]) (fun _ => ?_), S.2.1, S.2.2.1, by rw [mN_nw]; omega, by rw [mU_nw]; omega⟩
  · rw [mN_nw, mU_nw, show mN h + 1 - mN h0 = mN h - mN h0 + 1 by omega, show mU h + n.toNatClampNeg - mU h0 = mU h - mU h0 + n.toNatClampNeg by omega] at this
    exact this
  · refine ⟨{ cls := cA, slots := Array.replicate n.toNatClampNeg .null, vm := .none }, by simp, ?_⟩
    have hK : mK (nw h (ci + 13) n.toNatClampNeg n.toNatClampNeg) (mN h) = ci + 13 := by simp [mK_nw]
    have hL : mL (nw h (ci + 13) n.toNatClampNeg n.toNatClampNeg) (mN h) = n.toNatClampNeg := by simp [mL_nw]
    have hr : rOK s0 (cnm ci) n.toNatClampNeg (fun j => va_rf (mR (nw h (ci + 13) n.toNatClampNeg n.toNatClampNeg) (mN h) j)) { cls := cA, slots := Array.replicate n.toNatClampNeg .null, vm := .none } := by
      refine ⟨⟨⟨(by intro k h9; cases h9), kA', hkA', comp, f3'⟩, (fun h9 => by cases h9), by simp, by omega, fun j hj => ?_⟩, kA', comp, hkA', f3', by rw [hal.findClass]; exact f4⟩
      simp [mR_nw, va_rf, hj]
    unfold cOK
    rw [hK, hL]
    rcases hci with rfl | rfl
    · rw [if_neg (by decide), if_neg (by decide), if_neg (by decide), if_pos (by decide)]
      exact hr
    · rw [if_neg (by decide), if_neg (by decide), if_neg (by decide), if_neg (by decide), if_pos (by decide)]
      exact hr
theorem q_objinit {idx a : Nat} (hd : decode (iC M) pc = .ok (.invokespecial idx, 3)) (hl : Cond.methodLink (iY M).cls idx Lib.objectInit ∈ lw_tbl) (h1 : Cond.instanceMethod Lib.objectInit ∈ lw_tbl) (h2 : Cond.code Lib.objectInit ⟨#[0xb1]⟩ 1 none ∈ lw_tbl) (hs : (st.map fun v => v.category).sum ≤ 8) (hr : 1 ≤ iF M ∧ 20 ≤ iW M) (kk : RQ s0 l M h0 (pc + 3) L st h Q) : RQ s0 l M h0 pc L (.ref a :: st) h Q := by
  refine lift1 (fun _ _ k9 => ⟨k9.1, fun p e s m args below meth c E H locs ls S => ?_⟩) kk
  refine W.objInit E.1 E.2.1 E.own (E.g.word E.w hl rfl) (E.g.word E.w h1 rfl) (E.g.word E.w h2 rfl) rfl (by rw [E.2.2.1]; exact S.2.2.1.1) rfl hd hr.1 ?_ (k9.2 p e s m args below meth c E H locs ls S)
  show 2 * 0 + _ + 12 ≤ iW M
  omega
theorem q_min {idx : Nat} {x y : Int32} (hd : decode (iC M) pc = .ok (.invokestatic idx, 3)) (hl : Cond.methodLink (iY M).cls idx Lib.Math.min.name ∈ lw_tbl) (h1 : Cond.static Lib.Math.min.name ∈ lw_tbl) (h2 : Cond.initialized "java/lang/Math" ∈ lw_tbl) (h3 : Cond.code Lib.Math.min.name Lib.Math.min.code 2 (some .int) ∈ lw_tbl) (hs : (st.map fun v => v.category).sum ≤ 8) (hr : 1 ≤ iF M ∧ 21 ≤ iW M) (kk : RQ s0 l M h0 (pc + 3) L (.int (if y < x then y else x) :: st) h Q) : RQ s0 l M h0 pc L (.int y :: .int x :: st) h Q := by
  refine lift1 (fun _ _ k9 => ⟨k9.1, fun p e s m args below meth c E H locs ls S => ?_⟩) kk
  have k1 := k9.1
  have s3 := S.2.2.2.1
  have s4 := S.2.2.2.2
  exact va_mmin E.1 E.2.1 (by rw [E.2.2.1]; exact S.2.2.1.1.symm) E.own (E.g.word E.w hl rfl) (E.g.word E.w h1 rfl) (E.g.word E.w h2 rfl) (E.g.word E.w h3 rfl) hr.1 (by show _ ≤ iW M; omega) (by show _ ≤ mN _ - mN h0; omega) (by show _ ≤ mU _ - mU h0; omega) hd (k9.2 p e s m args below meth c E H locs ls S)
theorem q_throw {ik ic : Nat} {cls : String} (hd0 : decode (iC M) pc = .ok (.new ik, 3)) (hd3 : decode (iC M) (pc + 3) = .ok (.dup, 1)) (hd4 : decode (iC M) (pc + 4) = .ok (.invokespecial ic, 3)) (hd7 : decode (iC M) (pc + 7) = .ok (.athrow, 1)) (hcls : Bundle.fit cls = true)
    (hk : Cond.classLink (iY M).cls ik cls ∈ lw_tbl) (hi : Cond.initialized cls ∈ lw_tbl) (hat : ∀ w ∈ vx_at0 (iY M).cls ic cls ["java/lang/RuntimeException", "java/lang/Exception"], w ∈ lw_tbl ∧ w.onTables = true ∧ (goodWord w = true ∨ w.keepsFace = true)) (hH : iH M = []) (hs : (st.map fun v => v.category).sum ≤ 8) (hr : 6 ≤ iF M ∧ 89 ≤ iW M) (hQ : Q (.inr cls) (nw h 0 0 6)) : RQ s0 l M h0 pc L st h Q := by
  refine ⟨.inr cls, nw h 0 0 6, ⟨⟨by rw [mN_nw]; omega, by rw [mU_nw]; omega⟩, fun p e s m args below meth c E H locs ls S => ?_⟩, hQ⟩
  have s3 := S.2.2.2.1
  have s4 := S.2.2.2.2
  have hfz : ∀ a : Nat, a < s0.heap.size → ¬ frOf s0 a → s.heap[a]? = s0.heap[a]? := fun a ha _ => E.froz a ha
  have hU := vx_Zq.moved E.w.alike (E.cx.2.2.1.kept hfz)
  have hN := vx_Zq.moved E.w.alike (E.cx.2.2.2.1.kept hfz)
  refine x_throw0 (names := ["java/lang/RuntimeException", "java/lang/Exception"]) E.1 E.2.1 E.cx.2.1 E.own hcls (by decide) (E.g.word E.w hk rfl) (E.g.word E.w hi rfl) (fun w hw => ?_) (fun w hw => ?_) hU hN (S.vaS E) (by rw [E.2.2.1]; exact S.2.2.1.1) hd0 hd3 hd4 hd7 ?_ (by show 2 + 3 < iF M; omega) (by show _ + (13 * (2 + 1) + 42) ≤ iW M; omega) ?_ ?_ E.2.2.2.2.1 (fun t _ z1 z2 => ⟨rfl, S.1.newx z1 z2 (fun h9 => absurd rfl h9)⟩) S.2.1 ?_ ?_
  · obtain ⟨w1, w2, w3⟩ := hat w hw
    rcases w3 with w3 | w3
    · exact E.g.word E.w w1 w3
    · exact E.g.face E.w w1 w3 w2
  · rcases List.mem_cons.mp hw with rfl | hw
    · rfl
    · rcases List.mem_cons.mp hw with rfl | hw
      · rfl
      · unfold vx_ot
        rw [(hat w hw).2.1]
        rfl
  · intro x hx
    rw [E.2.2.2.2.2.2.2.1, hH] at hx
    cases hx
  · show _ ≤ mN (nw h 0 0 6) - mN h0
    rw [mN_nw]; omega
  · show _ ≤ mU (nw h 0 0 6) - mU h0
    rw [mU_nw]; omega
  · rw [mN_nw]; omega
  · rw [mU_nw]; omega
end Rules
end
section
section Rules
variable {s0 : State} {l : Launch} {M M' : MI} {h0 : Mem} {pc : Nat} {L : List (Option Value)} {st0 rest : List Value} {h : Mem} {Q Q' : Out → Mem → Prop} {av As : List Value}
theorem call_q1 {o' : Out} {h1 : Mem} (hC : C s0 l M' av h o' h1) (hrun : ∀ hE, (mN h1 ≤ mN hE ∧ mU h1 ≤ mU hE) → ∀ (p : Program) (e : Env) (s : State) (m : MethodId) (args : Array Value) (below : List Frame) (meth : Method) (c : Code), EN s0 l M h0 p s m meth c → ∀ (H : Heap) (locs : List Loc) (ls : Array Slot), ST s0 M h0 h L H locs ls →
      vx_Run p l e (rmOf M h0 hE) s m args below meth c H locs (mN h - mN h0) (mU h - mU h0) (mN h1 - mN h) (mU h1 - mU h) (F0 m pc ls st0) rest (QcOf s0 o' h1 av.toArray) (XcOf s0 o' h1) (frOf s0))
    (k1 : ∀ v, o' = .inl v → RQ s0 l M h0 (pc + 3) L (v.toList ++ rest) h1 Q) (k2 : ∀ E0, o' = .inr E0 → RQX s0 l M h0 pc L E0 h1 Q) : RQ s0 l M h0 pc L st0 h Q := by
  have hm := hC.1
  cases o' with
  | inl v =>
    obtain ⟨o, hE, k, b⟩ := k1 v rfl
    refine ⟨o, hE, ⟨⟨Nat.le_trans hm.1 k.1.1, Nat.le_trans hm.2 k.1.2⟩, fun p e s m args below meth c E H locs ls S => ?_⟩, b⟩
    have s3 := S.2.2.2.1
    have s4 := S.2.2.2.2
    intro T hT X
    rcases hrun _ k.1 p e s m args below meth c E H locs ls S T hT X with ⟨v', st₀, t, T', Lc, -, X', hL, e1, -, ⟨v'', hv, hv2, hRep⟩, stp⟩ | ⟨q9, st₀, t, T', Lc, E9, ce, -, -, -, -, -, ⟨hx, -⟩, -⟩
    · cases hv
      cases hv2
      rw [show mN h - mN h0 + (mN h1 - mN h) = mN h1 - mN h0 by omega, show mU h - mU h0 + (mU h1 - mU h) = mU h1 - mU h0 by omega] at X'
      obtain ⟨t2, a1, b1⟩ := k.2 p e s m args below meth c E T'.heap (locs ++ Lc) ls ⟨by rw [e1]; exact hRep, fun z hz => (List.mem_append.mp hz).elim (S.2.1 z) (hL z), S.2.2.1, by omega, by omega⟩ T' rfl X'
      exact ⟨t2, stp t2 a1, b1⟩
    · cases hx
  | inr E0 =>
    obtain ⟨o, hE, k, b⟩ := k2 E0 rfl
    refine ⟨o, hE, ⟨⟨Nat.le_trans hm.1 k.1.1, Nat.le_trans hm.2 k.1.2⟩, fun p e s m args below meth c E H locs ls S => ?_⟩, b⟩
    have s3 := S.2.2.2.1
    have s4 := S.2.2.2.2
    intro T hT X
    rcases hrun _ k.1 p e s m args below meth c E H locs ls S T hT X with ⟨v', st₀, t, T', Lc, -, X', hL, e1, -, ⟨v'', hv, hv2, hRep⟩, stp⟩ | ⟨q9, st₀, t, T', Lc, E9, ce, -, X', hL, e1, -, ⟨hx, hRep⟩, hce, hcv, hcl, stp⟩
    · cases hv
    · cases hx
      rw [show mN h - mN h0 + (mN h1 - mN h) = mN h1 - mN h0 by omega, show mU h - mU h0 + (mU h1 - mU h) = mU h1 - mU h0 by omega] at X'
      obtain ⟨t2, a1, b1⟩ := k.2 p e s m args below meth c E T'.heap (locs ++ Lc) ls rest q9 ce ⟨by rw [e1]; exact hRep, fun z hz => (List.mem_append.mp hz).elim (S.2.1 z) (hL z), S.2.2.1, by omega, by omega⟩ (by rw [e1]; exact hce) hcv hcl T' rfl X'
      exact ⟨t2, stp.trans a1, b1⟩
theorem call_q (hrun : ∀ o' h1 hE, C s0 l M' av h o' h1 → (mN h1 ≤ mN hE ∧ mU h1 ≤ mU hE) → ∀ (p : Program) (e : Env) (s : State) (m : MethodId) (args : Array Value) (below : List Frame) (meth : Method) (c : Code), EN s0 l M h0 p s m meth c → ∀ (H : Heap) (locs : List Loc) (ls : Array Slot), ST s0 M h0 h L H locs ls →
      vx_Run p l e (rmOf M h0 hE) s m args below meth c H locs (mN h - mN h0) (mU h - mU h0) (mN h1 - mN h) (mU h1 - mU h) (F0 m pc ls st0) rest (QcOf s0 o' h1 av.toArray) (XcOf s0 o' h1) (frOf s0))
    (hc : CQ s0 l M' av h Q') (k1 : ∀ v h1, Q' (.inl v) h1 → RQ s0 l M h0 (pc + 3) L (v.toList ++ rest) h1 Q) (k2 : ∀ E0 h1, Q' (.inr E0) h1 → RQX s0 l M h0 pc L E0 h1 Q) : RQ s0 l M h0 pc L st0 h Q := by
  obtain ⟨o', h1, hC, q⟩ := hc
  exact call_q1 hC (fun hE => hrun o' h1 hE hC) (fun v e => k1 v h1 (e ▸ q)) (fun E0 e => k2 E0 h1 (e ▸ q))
theorem cd_code (hH : iH M' = []) : cdw M' = .code (iY M') (iC M') (iL M') (iR M') := by unfold cdw; rw [if_pos hH]
theorem cd_with (hH : iH M' ≠ []) : cdw M' = .codeWith (iY M') (iC M') (iL M') (iR M') (iH M') := by unfold cdw; rw [if_neg hH]
theorem ws_at {s : State} (g : G0 s0) (hW : s0.WarmedH s.vm) (hw : cdw M' ∈ lw_tbl) : ∀ w ∈ [cdw M'], ∀ (a' : Array Value) (U : State), s.WarmedH U.vm → w.before a' U = true := fun w h9 a' U hU => by
  rw [List.mem_singleton.mp h9]
  exact g.word (wtr hW hU) hw (goodCd M')
theorem rm_le {a b c d : Nat} (h1 : a ≤ b) (h2 : b ≤ c) (h3 : c ≤ d) : b - a + (c - b) ≤ d - a := by omega
/-- a virtual call; the callee has no handlers -/
theorem q_callV {idx ci n b : Nat} (hd : decode (iC M) pc = .ok (.invokevirtual idx, 3)) (hl : Cond.methodLink (iY M).cls idx (iY M') ∈ lw_tbl) (mv : MV M' ci n) (hH : iH M' = []) (hk : mK h b = ci + 1) (hn : As.length = n) (hs : st0 = As.reverse ++ .ref b :: rest) (hw : (rest.map fun v => v.category).sum ≤ 8) (hr : iF M' + 1 ≤ iF M ∧ 8 + (iL M' + 11) + iW M' ≤ iW M)
    (hc : CQ s0 l M' (.ref b :: As) h Q') (k1 : ∀ v h1, Q' (.inl v) h1 → RQ s0 l M h0 (pc + 3) L (v.toList ++ rest) h1 Q) (k2 : ∀ E0 h1, Q' (.inr E0) h1 → RQX s0 l M h0 pc L E0 h1 Q) : RQ s0 l M h0 pc L st0 h Q := by
  refine call_q (fun o' h1 hE hC hm p e s m args below meth c E H locs ls S => ?_) hc k1 k2
  obtain ⟨⟨m0, m1⟩, m2, m3, m4, m5, m6, m7⟩ := mv
  obtain ⟨cell, c1, c2, c3, -⟩ := S.1.obj m0 hk
  have hcw : Cond.code (iY M') (iC M') (iL M') (iR M') ∈ [cdw M'] := by rw [cd_code hH]; exact List.mem_cons_self
  exact vx_runV (Ts := []) (bytes := iC M') (maxL := iL M') (ret := iR M') (own := (iY M).cls) ⟨E.1, E.2.1, E.2.2.1, E.own, fun w h9 => absurd h9 List.not_mem_nil⟩ hC.2
    ⟨⟨rfl, rfl, hr.1, hr.2, ws_at E.g E.w m5, hcw, by rw [← cd_code hH]; exact E.g.word E.w m5 (goodCd M'), E.g.word E.w m4 rfl, m6, plen m7, E.g.word E.w hl rfl⟩, E.g.word E.w m2 rfl, E.g.word E.w m3 rfl⟩
    ⟨PcOf.blind, ⟨cell, c1, by rw [c3]; rfl, by rw [c2, m1]; exact (kn E.g E.w m0).2.1⟩, fun U hU hW => ⟨rfl, wtr E.w hW, by rw [hU]; exact S.1, E.cx⟩⟩ rfl hn S.2.2.1.1 hs (by show 2 * 0 + _ ≤ 8; omega) hd ⟨rm_le S.2.2.2.1 hC.1.1 hm.1, rm_le S.2.2.2.2 hC.1.2 hm.2⟩
/-- a virtual call; the callee has handlers -/
theorem q_callVH {idx ci n b : Nat} (hd : decode (iC M) pc = .ok (.invokevirtual idx, 3)) (hl : Cond.methodLink (iY M).cls idx (iY M') ∈ lw_tbl) (mv : MV M' ci n) (hH : iH M' ≠ []) (hk : mK h b = ci + 1) (hn : As.length = n) (hs : st0 = As.reverse ++ .ref b :: rest) (hw : (rest.map fun v => v.category).sum ≤ 8) (hr : iF M' + 1 ≤ iF M ∧ 8 + (iL M' + 11) + iW M' ≤ iW M)
    (hc : CQ s0 l M' (.ref b :: As) h Q') (k1 : ∀ v h1, Q' (.inl v) h1 → RQ s0 l M h0 (pc + 3) L (v.toList ++ rest) h1 Q) (k2 : ∀ E0 h1, Q' (.inr E0) h1 → RQX s0 l M h0 pc L E0 h1 Q) : RQ s0 l M h0 pc L st0 h Q := by
  refine call_q (fun o' h1 hE hC hm p e s m args below meth c E H locs ls S => ?_) hc k1 k2
  obtain ⟨⟨m0, m1⟩, m2, m3, m4, m5, m6, m7⟩ := mv
  obtain ⟨cell, c1, c2, c3, -⟩ := S.1.obj m0 hk
  have hcw : Cond.codeWith (iY M') (iC M') (iL M') (iR M') (iH M') ∈ [cdw M'] := by rw [cd_with hH]; exact List.mem_cons_self
  exact vx_runVX (Ts := []) (hh := iH M') (bytes := iC M') (maxL := iL M') (ret := iR M') (own := (iY M).cls) ⟨E.1, E.2.1, E.2.2.1, E.own, fun w h9 => absurd h9 List.not_mem_nil⟩ hC.2
    ⟨⟨rfl, rfl, hr.1, hr.2, ws_at E.g E.w m5, hcw⟩, by rw [← cd_with hH]; exact E.g.word E.w m5 (goodCd M'), E.g.word E.w m4 rfl, m6, plen m7, E.g.word E.w hl rfl, E.g.word E.w m2 rfl, E.g.word E.w m3 rfl⟩
    ⟨PcOf.blind, ⟨cell, c1, by rw [c3]; rfl, by rw [c2, m1]; exact (kn E.g E.w m0).2.1⟩, fun U hU hW => ⟨rfl, wtr E.w hW, by rw [hU]; exact S.1, E.cx⟩⟩ rfl hn S.2.2.1.1 hs (by show 2 * 0 + _ ≤ 8; omega) hd ⟨rm_le S.2.2.2.1 hC.1.1 hm.1, rm_le S.2.2.2.2 hC.1.2 hm.2⟩
theorem q_callS {idx n : Nat} (hd : decode (iC M) pc = .ok (.invokestatic idx, 3)) (hl : Cond.methodLink (iY M).cls idx (iY M') ∈ lw_tbl) (mv : MS M' n) (hH : iH M' = []) (hn : As.length = n) (hs : st0 = As.reverse ++ rest) (hw : (rest.map fun v => v.category).sum ≤ 8) (hr : iF M' + 1 ≤ iF M ∧ 8 + (iL M' + 11) + iW M' ≤ iW M)
    (hc : CQ s0 l M' As h Q') (k1 : ∀ v h1, Q' (.inl v) h1 → RQ s0 l M h0 (pc + 3) L (v.toList ++ rest) h1 Q) (k2 : ∀ E0 h1, Q' (.inr E0) h1 → RQX s0 l M h0 pc L E0 h1 Q) : RQ s0 l M h0 pc L st0 h Q := by
  refine call_q (fun o' h1 hE hC hm p e s m args below meth c E H locs ls S => ?_) hc k1 k2
  obtain ⟨m2, m4, m5, m6, m7⟩ := mv
  have hcw : Cond.code (iY M') (iC M') (iL M') (iR M') ∈ [cdw M'] := by rw [cd_code hH]; exact List.mem_cons_self
  exact vx_runS (Ts := []) (bytes := iC M') (maxL := iL M') (ret := iR M') (own := (iY M).cls) ⟨E.1, E.2.1, E.2.2.1, E.own, fun w h9 => absurd h9 List.not_mem_nil⟩ hC.2
    ⟨⟨rfl, rfl, hr.1, hr.2, ws_at E.g E.w m5, hcw, by rw [← cd_code hH]; exact E.g.word E.w m5 (goodCd M'), E.g.word E.w m4 rfl, m6, plen m7, E.g.word E.w hl rfl⟩, E.g.word E.w m2 rfl⟩
    ⟨PcOf.blind, fun U hU hW => ⟨rfl, wtr E.w hW, by rw [hU]; exact S.1, E.cx⟩⟩ rfl hn S.2.2.1.1 hs (by show 2 * 0 + _ ≤ 8; omega) hd ⟨rm_le S.2.2.2.1 hC.1.1 hm.1, rm_le S.2.2.2.2 hC.1.2 hm.2⟩
theorem q_callSH {idx n : Nat} (hd : decode (iC M) pc = .ok (.invokestatic idx, 3)) (hl : Cond.methodLink (iY M).cls idx (iY M') ∈ lw_tbl) (mv : MS M' n) (hH : iH M' ≠ []) (hn : As.length = n) (hs : st0 = As.reverse ++ rest) (hw : (rest.map fun v => v.category).sum ≤ 8) (hr : iF M' + 1 ≤ iF M ∧ 8 + (iL M' + 11) + iW M' ≤ iW M)
    (hc : CQ s0 l M' As h Q') (k1 : ∀ v h1, Q' (.inl v) h1 → RQ s0 l M h0 (pc + 3) L (v.toList ++ rest) h1 Q) (k2 : ∀ E0 h1, Q' (.inr E0) h1 → RQX s0 l M h0 pc L E0 h1 Q) : RQ s0 l M h0 pc L st0 h Q := by
  refine call_q (fun o' h1 hE hC hm p e s m args below meth c E H locs ls S => ?_) hc k1 k2
  obtain ⟨m2, m4, m5, m6, m7⟩ := mv
  have hcw : Cond.codeWith (iY M') (iC M') (iL M') (iR M') (iH M') ∈ [cdw M'] := by rw [cd_with hH]; exact List.mem_cons_self
  exact vx_runSX (Ts := []) (hh := iH M') (bytes := iC M') (maxL := iL M') (ret := iR M') (own := (iY M).cls) ⟨E.1, E.2.1, E.2.2.1, E.own, fun w h9 => absurd h9 List.not_mem_nil⟩ hC.2
    ⟨⟨rfl, rfl, hr.1, hr.2, ws_at E.g E.w m5, hcw⟩, by rw [← cd_with hH]; exact E.g.word E.w m5 (goodCd M'), E.g.word E.w m4 rfl, m6, plen m7, E.g.word E.w hl rfl, E.g.word E.w m2 rfl⟩
    ⟨PcOf.blind, fun U hU hW => ⟨rfl, wtr E.w hW, by rw [hU]; exact S.1, E.cx⟩⟩ rfl hn S.2.2.1.1 hs (by show 2 * 0 + _ ≤ 8; omega) hd ⟨rm_le S.2.2.2.1 hC.1.1 hm.1, rm_le S.2.2.2.2 hC.1.2 hm.2⟩
/-- calls that only return: constructors, and private members of a nest mate -/
theorem run_vx {p : Program} {e : Env} {R9 : Room} {s : State} {m : MethodId} {args : Array Value} {below : List Frame} {meth : Method} {c : Code} {H : Heap} {locs : List Loc} {cells slots mc ms : Nat} {g : JFrame} {Qa : State → Outcome → State → Prop} {XC : String → State → State → Prop} {free : Addr → Prop} (hr : va_Run p l e R9 s m args below meth c H locs cells slots mc ms g rest Qa free) : vx_Run p l e R9 s m args below meth c H locs cells slots mc ms g rest Qa XC free := fun T hT X => Or.inl (hr T hT X)
theorem q_callI {idx n b : Nat} {Q1 : Mem → Prop} (hd : decode (iC M) pc = .ok (.invokespecial idx, 3)) (hl : Cond.methodLink (iY M).cls idx (iY M') ∈ lw_tbl) (mv : MC M' n) (hH : iH M' = []) (hR : iR M' = none) (hn : As.length = n) (hs : st0 = As.reverse ++ .ref b :: rest) (hw : (rest.map fun v => v.category).sum ≤ 8) (hr : iF M' + 1 ≤ iF M ∧ 8 + (iL M' + 11) + iW M' ≤ iW M)
    (hc : CQ s0 l M' (.ref b :: As) h (fun o h1 => o = .inl none ∧ Q1 h1)) (k1 : ∀ h1, Q1 h1 → RQ s0 l M h0 (pc + 3) L rest h1 Q) : RQ s0 l M h0 pc L st0 h Q := by
  obtain ⟨o9, h9, hC, rfl, q9⟩ := hc
  refine call_q1 hC (fun hE hm p e s m args below meth c E H locs ls S => ?_) (fun v e => by cases e; exact k1 _ q9) (fun E0 e => by cases e)
  obtain ⟨m1, m2, m4, m5, m6, m7⟩ := mv
  have hcd : cdw M' = .code (iY M') (iC M') (iL M') none := by rw [← hR]; exact cd_code hH
  have hcw : Cond.code (iY M') (iC M') (iL M') none ∈ [cdw M'] := by rw [hcd]; exact List.mem_cons_self
  exact run_vx (va_runI (Ts := []) (bytes := iC M') (maxL := iL M') (own := (iY M).cls) ⟨E.1, E.2.1, E.2.2.1, E.own, fun w h9 => absurd h9 List.not_mem_nil⟩ hC.met
    ⟨⟨rfl, rfl, hr.1, hr.2, ws_at E.g E.w m5, hcw, by rw [← hcd]; exact E.g.word E.w m5 (goodCd M'), E.g.word E.w m4 rfl, m6, plen m7, E.g.word E.w hl rfl⟩, m1, E.g.word E.w m2 rfl⟩
    ⟨PcOf.blind, fun U hU hW => ⟨rfl, wtr E.w hW, by rw [hU]; exact S.1, E.cx⟩⟩ rfl hn S.2.2.1.1 hs (by show 2 * 0 + _ ≤ 8; omega) hd ⟨rm_le S.2.2.2.1 hC.1.1 hm.1, rm_le S.2.2.2.2 hC.1.2 hm.2⟩)
theorem G0.nest {s : State} {a : String} {i : Nat} {x : MethodName} {hh : String} (g : G0 s0) (hW : s0.WarmedH s.vm) (hw : Cond.methodLinkNest a i x hh ∈ lw_tbl) : va_Nw (.methodLinkNest a i x hh) s := by
  obtain ⟨av, h⟩ := g
  exact va_Nw.warmM hW (va_Nw.of rfl (h _ hw))
theorem q_callIN {idx n b : Nat} {Q1 : Mem → Prop} (hd : decode (iC M) pc = .ok (.invokespecial idx, 3)) (hl : Cond.methodLinkNest (iY M).cls idx (iY M') "ReelReader" ∈ lw_tbl) (mv : MC M' n) (hH : iH M' = []) (hR : iR M' = none) (hn : As.length = n) (hs : st0 = As.reverse ++ .ref b :: rest) (hw : (rest.map fun v => v.category).sum ≤ 8) (hr : iF M' + 1 ≤ iF M ∧ 8 + (iL M' + 11) + iW M' ≤ iW M)
    (hc : CQ s0 l M' (.ref b :: As) h (fun o h1 => o = .inl none ∧ Q1 h1)) (k1 : ∀ h1, Q1 h1 → RQ s0 l M h0 (pc + 3) L rest h1 Q) : RQ s0 l M h0 pc L st0 h Q := by
  obtain ⟨o9, h9, hC, rfl, q9⟩ := hc
  refine call_q1 hC (fun hE hm p e s m args below meth c E H locs ls S => ?_) (fun v e => by cases e; exact k1 _ q9) (fun E0 e => by cases e)
  obtain ⟨m1, m2, m4, m5, m6, m7⟩ := mv
  have hcd : cdw M' = .code (iY M') (iC M') (iL M') none := by rw [← hR]; exact cd_code hH
  have hcw : Cond.code (iY M') (iC M') (iL M') none ∈ [cdw M'] := by rw [hcd]; exact List.mem_cons_self
  exact run_vx (va_runIN (Ts := []) (bytes := iC M') (maxL := iL M') (own := (iY M).cls) (host := "ReelReader") ⟨E.1, E.2.1, E.2.2.1, E.own, fun w h9 => absurd h9 List.not_mem_nil⟩ hC.met
    ⟨⟨⟨rfl, rfl, hr.1, hr.2, ws_at E.g E.w m5, hcw⟩, by rw [← hcd]; exact E.g.word E.w m5 (goodCd M'), E.g.word E.w m4 rfl, m6, plen m7, va_Nw.use rfl (E.g.nest E.w hl)⟩, m1, E.g.word E.w m2 rfl⟩
    ⟨PcOf.blind, fun U hU hW => ⟨rfl, wtr E.w hW, by rw [hU]; exact S.1, E.cx⟩⟩ rfl hn S.2.2.1.1 hs (by show 2 * 0 + _ ≤ 8; omega) hd ⟨rm_le S.2.2.2.1 hC.1.1 hm.1, rm_le S.2.2.2.2 hC.1.2 hm.2⟩)
theorem q_callSN {idx n : Nat} {Q1 : Option Value → Mem → Prop} (hd : decode (iC M) pc = .ok (.invokestatic idx, 3)) (hl : Cond.methodLinkNest (iY M).cls idx (iY M') "ReelReader" ∈ lw_tbl) (mv : MS M' n) (hH : iH M' = []) (hn : As.length = n) (hs : st0 = As.reverse ++ rest) (hw : (rest.map fun v => v.category).sum ≤ 8) (hr : iF M' + 1 ≤ iF M ∧ 8 + (iL M' + 11) + iW M' ≤ iW M)
    (hc : CQ s0 l M' As h (fun o h1 => ∃ v, o = .inl v ∧ Q1 v h1)) (k1 : ∀ v h1, Q1 v h1 → RQ s0 l M h0 (pc + 3) L (v.toList ++ rest) h1 Q) : RQ s0 l M h0 pc L st0 h Q := by
  obtain ⟨o9, h9, hC, v9, rfl, q9⟩ := hc
  refine call_q1 hC (fun hE hm p e s m args below meth c E H locs ls S => ?_) (fun v e => by cases e; exact k1 _ _ q9) (fun E0 e => by cases e)
  obtain ⟨m2, m4, m5, m6, m7⟩ := mv
  have hcw : Cond.code (iY M') (iC M') (iL M') (iR M') ∈ [cdw M'] := by rw [cd_code hH]; exact List.mem_cons_self
  exact run_vx (va_runSN (Ts := []) (bytes := iC M') (maxL := iL M') (ret := iR M') (own := (iY M).cls) (host := "ReelReader") ⟨E.1, E.2.1, E.2.2.1, E.own, fun w h9 => absurd h9 List.not_mem_nil⟩ hC.met
    ⟨⟨⟨rfl, rfl, hr.1, hr.2, ws_at E.g E.w m5, hcw⟩, by rw [← cd_code hH]; exact E.g.word E.w m5 (goodCd M'), E.g.word E.w m4 rfl, m6, plen m7, va_Nw.use rfl (E.g.nest E.w hl)⟩, E.g.word E.w m2 rfl, trivial⟩
    ⟨PcOf.blind, fun U hU hW => ⟨rfl, wtr E.w hW, by rw [hU]; exact S.1, E.cx⟩⟩ rfl hn S.2.2.1.1 hs (by show 2 * 0 + _ ≤ 8; omega) hd ⟨rm_le S.2.2.2.1 hC.1.1 hm.1, rm_le S.2.2.2.2 hC.1.2 hm.2⟩)
/-- System.arraycopy of ints -/
theorem q_copy {idx a b : Nat} {sp dp n : Int32} (hd : decode (iC M) pc = .ok (.invokestatic idx, 3)) (hl : Cond.methodLink (iY M).cls idx arraycopyName ∈ lw_tbl) (w1 : Cond.native arraycopyName ∈ lw_tbl) (w2 : Cond.static arraycopyName ∈ lw_tbl) (w3 : Cond.initialized "java/lang/System" ∈ lw_tbl) (hka : mK h a = 11) (hkb : mK h b = 11) (h1 : ¬ sp < 0) (h2 : ¬ dp < 0) (h3 : ¬ n < 0) (h4 : sp.toNatClampNeg + n.toNatClampNeg ≤ mL h a) (h5 : dp.toNatClampNeg + n.toNatClampNeg ≤ mL h b)
    (hw : (rest.map fun v => v.category).sum ≤ 8) (hr : 1 ≤ iF M ∧ 40 ≤ iW M) (kk : RQ s0 l M h0 (pc + 3) L rest (cpI h a sp.toNatClampNeg b dp.toNatClampNeg n.toNatClampNeg) Q) : RQ s0 l M h0 pc L (.int n :: .int dp :: .ref b :: .int sp :: .ref a :: rest) h Q := by
  refine lift1 (h' := cpI h a sp.toNatClampNeg b dp.toNatClampNeg n.toNatClampNeg) (fun _ _ k9 => ⟨k9.1, fun p e s m args below meth c E H locs ls S => ?_⟩) kk
  obtain ⟨ca, a1, a2⟩ := S.1.a11 (Or.inl hka)
  obtain ⟨cb, b1, b2⟩ := S.1.a11 (Or.inl hkb)
  have ho := S.1.own (a := b) (by omega) (by omega)
  have nn : ∀ z : Int32, ¬ z < 0 → z.toInt = (z.toNatClampNeg : Int) := by
    intro z hz
    have hz0 : (0 : Int) ≤ z.toInt := by
      have := Int32.not_lt.mp hz
      simpa using Int32.le_iff_toInt_le.mp this
    show z.toInt = ((z.toInt.toNat : Nat) : Int)
    omega
  obtain ⟨a3, ka, hka1, cma, hkka⟩ := State.isArrayOf_alike E.w.alike a2.1
  obtain ⟨b3, kb, hkb1, cmb, hkkb⟩ := State.isArrayOf_alike E.w.alike b2.1
  have hroom : 2 * 0 + (rest.map fun v => v.category).sum + (nativeFrameWords "java/lang/System" "arraycopy" 5 + 11) ≤ iW M := by
    have h9 : nativeFrameWords "java/lang/System" "arraycopy" 5 + 11 ≤ 32 := by decide
    have h8 := hr.2
    omega
  intro T hT X
  obtain ⟨vm', X', step⟩ := X.arraycopy E.1 E.own (E.g.word E.w hl rfl) (E.g.word E.w w1 rfl) (E.g.word E.w w2 rfl) (E.g.word E.w w3 rfl) (src := a) (dst := b) (cs := ca) (cd := cb) (srcPos := sp) (destPos := dp) (n := n) (by rw [hT]; exact a1) (by rw [hT]; exact b1)
    a3 b3 a2.2.1 b2.2.1 hka1 hkb1 hkka hkkb rfl h1 h2 h3
    (by rw [nn sp h1, nn n h3, a2.2.2.1]; omega)
    (by rw [nn dp h2, nn n h3, b2.2.2.1]; omega)
    (fun vm₁ _ i hi => by
      have e9 : ca.slots.getD (sp.toNatClampNeg + i) .null = .int (mI h a (sp.toNatClampNeg + i)) := by
        rw [Array.getD_eq_getD_getElem?, a2.2.2.2.2 _ (by omega)]
        rfl
      rw [e9]
      exact ⟨rfl, trivial⟩)
    (g := F0 m pc ls (.int n :: .int dp :: .ref b :: .int sp :: .ref a :: rest)) rfl (by rw [E.2.2.1]; exact S.2.2.1.1) (rest := rest) rfl (by rw [E.2.1]; exact hd) hr.1 hroom
  have hlb : b < H.size := (Array.getElem?_eq_some_iff.mp b1).1
  obtain ⟨f1, f2, f3⟩ := Cell.storeRun_facts cb dp.toNatClampNeg (ca.stretch sp.toNatClampNeg n.toNatClampNeg)
  have hlen : (ca.stretch sp.toNatClampNeg n.toNatClampNeg).length = n.toNatClampNeg := by simp [Cell.stretch]
  have hrep : Rep s0 (cpI h a sp.toNatClampNeg b dp.toNatClampNeg n.toNatClampNeg) (H.setIfInBounds b (copied ca cb sp dp n)) := by
    refine S.1.upd (a := b) (cell' := copied ca cb sp dp n) ho (by simp [Array.getElem?_setIfInBounds, hlb]) (by simp) (fun q hq => by simp [Array.getElem?_setIfInBounds, Ne.symm hq]) rfl (fun c9 hc9 => ⟨rfl, rfl, fun i => by simp [mI_cpI, hc9], fun i => rfl, fun i => rfl⟩) (fun _ => ?_)
    unfold cOK
    rw [if_pos (Or.inl (by rw [mK_cpI]; exact hkb))]
    refine ⟨?_, by rw [f2]; exact b2.2.1, by rw [f3.1]; exact b2.2.2.1, b2.2.2.2.1, fun j hj => ?_⟩
    · obtain ⟨q1, kk1, q2, q3⟩ := b2.1
      exact ⟨fun k9 => by rw [f2]; exact q1 k9, kk1, by rw [f1]; exact q2, q3⟩
    · rw [Cell.storeRun_get _ _ _ _ (by rw [hlen, b2.2.2.1]; exact h5), hlen]
      show _ = some (Value.int (mI (cpI h a sp.toNatClampNeg b dp.toNatClampNeg n.toNatClampNeg) b j))
      rw [mI_cpI]
      by_cases hj9 : dp.toNatClampNeg ≤ j ∧ j < dp.toNatClampNeg + n.toNatClampNeg
      · rw [if_pos hj9, if_pos ⟨rfl, hj9⟩]
        unfold Cell.stretch
        rw [List.getElem?_map, List.getElem?_range (by omega)]
        simp only [Option.map_some]
        rw [Array.getD_eq_getD_getElem?, a2.2.2.2.2 _ (by omega)]
        rfl
      · rw [if_neg hj9, if_neg (fun z => hj9 z.2)]
        exact b2.2.2.2.2 j hj
  have hloc : ∀ q ∈ locs ++ (ca.stretch sp.toNatClampNeg n.toNatClampNeg).zipIdx.map (fun q => (⟨b, dp.toNatClampNeg + q.2⟩ : Loc)), frOf s0 q.base := fun q hq => by
    rcases List.mem_append.mp hq with h9 | h9
    · exact S.2.1 q h9
    · obtain ⟨z, -, hz⟩ := List.mem_map.mp h9
      rw [← hz]
      exact ho
  obtain ⟨t, t1, t2⟩ := k9.2 p e s m args below meth c E (H.setIfInBounds b (copied ca cb sp dp n)) _ ls ⟨hrep, hloc, S.2.2⟩ ((T.setVm vm').setCell b (copied ca cb sp dp n)) (by rw [← hT]; rfl) X'
  exact ⟨t, step t t1, t2⟩
end Rules
end
section
theorem mc_X_init : MC M_X_init 0 := ⟨rfl, List.mem_of_getElem? (i := 72) (by decide +kernel), List.mem_of_getElem? (i := 53) (by decide +kernel), List.mem_of_getElem? (i := 73) (by decide +kernel), ⟨by decide, by decide⟩, by decide +kernel⟩
theorem mc_T_init : MC M_T_init 0 := ⟨rfl, List.mem_of_getElem? (i := 80) (by decide +kernel), List.mem_of_getElem? (i := 54) (by decide +kernel), List.mem_of_getElem? (i := 81) (by decide +kernel), ⟨by decide, by decide⟩, by decide +kernel⟩
theorem mc_R_init : MC M_R_init 0 := ⟨rfl, List.mem_of_getElem? (i := 102) (by decide +kernel), List.mem_of_getElem? (i := 55) (by decide +kernel), List.mem_of_getElem? (i := 103) (by decide +kernel), ⟨by decide, by decide⟩, by decide +kernel⟩
theorem mc_P_init : MC M_P_init 0 := ⟨rfl, List.mem_of_getElem? (i := 109) (by decide +kernel), List.mem_of_getElem? (i := 56) (by decide +kernel), List.mem_of_getElem? (i := 110) (by decide +kernel), ⟨by decide, by decide⟩, by decide +kernel⟩
theorem mc_L_init : MC M_L_init 1 := ⟨rfl, List.mem_of_getElem? (i := 116) (by decide +kernel), List.mem_of_getElem? (i := 57) (by decide +kernel), List.mem_of_getElem? (i := 117) (by decide +kernel), ⟨by decide, by decide⟩, by decide +kernel⟩
theorem mc_S_init : MC M_S_init 2 := ⟨rfl, List.mem_of_getElem? (i := 181) (by decide +kernel), List.mem_of_getElem? (i := 58) (by decide +kernel), List.mem_of_getElem? (i := 182) (by decide +kernel), ⟨by decide, by decide⟩, by decide +kernel⟩
theorem mc_B_init : MC M_B_init 0 := ⟨rfl, List.mem_of_getElem? (i := 187) (by decide +kernel), List.mem_of_getElem? (i := 59) (by decide +kernel), List.mem_of_getElem? (i := 188) (by decide +kernel), ⟨by decide, by decide⟩, by decide +kernel⟩
theorem mv_X_feed : MV M_X_feed 6 5 := ⟨⟨by decide, rfl⟩, List.mem_of_getElem? (i := 246) (by decide +kernel), List.mem_of_getElem? (i := 247) (by decide +kernel), List.mem_of_getElem? (i := 53) (by decide +kernel), List.mem_of_getElem? (i := 248) (by decide +kernel), ⟨by decide, by decide⟩, by decide +kernel⟩
theorem mv_T_byteCount : MV M_T_byteCount 5 0 := ⟨⟨by decide, rfl⟩, List.mem_of_getElem? (i := 250) (by decide +kernel), List.mem_of_getElem? (i := 251) (by decide +kernel), List.mem_of_getElem? (i := 54) (by decide +kernel), List.mem_of_getElem? (i := 252) (by decide +kernel), ⟨by decide, by decide⟩, by decide +kernel⟩
theorem mv_T_cut : MV M_T_cut 5 1 := ⟨⟨by decide, rfl⟩, List.mem_of_getElem? (i := 254) (by decide +kernel), List.mem_of_getElem? (i := 255) (by decide +kernel), List.mem_of_getElem? (i := 54) (by decide +kernel), List.mem_of_getElem? (i := 256) (by decide +kernel), ⟨by decide, by decide⟩, by decide +kernel⟩
theorem mv_T_append : MV M_T_append 5 2 := ⟨⟨by decide, rfl⟩, List.mem_of_getElem? (i := 259) (by decide +kernel), List.mem_of_getElem? (i := 260) (by decide +kernel), List.mem_of_getElem? (i := 54) (by decide +kernel), List.mem_of_getElem? (i := 261) (by decide +kernel), ⟨by decide, by decide⟩, by decide +kernel⟩
theorem mv_T_appendBit : MV M_T_appendBit 5 1 := ⟨⟨by decide, rfl⟩, List.mem_of_getElem? (i := 264) (by decide +kernel), List.mem_of_getElem? (i := 0) (by decide +kernel), List.mem_of_getElem? (i := 54) (by decide +kernel), List.mem_of_getElem? (i := 265) (by decide +kernel), ⟨by decide, by decide⟩, by decide +kernel⟩
theorem mv_X_end : MV M_X_end 6 1 := ⟨⟨by decide, rfl⟩, List.mem_of_getElem? (i := 267) (by decide +kernel), List.mem_of_getElem? (i := 268) (by decide +kernel), List.mem_of_getElem? (i := 53) (by decide +kernel), List.mem_of_getElem? (i := 269) (by decide +kernel), ⟨by decide, by decide⟩, by decide +kernel⟩
theorem mv_X_bits : MV M_X_bits 6 2 := ⟨⟨by decide, rfl⟩, List.mem_of_getElem? (i := 271) (by decide +kernel), List.mem_of_getElem? (i := 272) (by decide +kernel), List.mem_of_getElem? (i := 53) (by decide +kernel), List.mem_of_getElem? (i := 273) (by decide +kernel), ⟨by decide, by decide⟩, by decide +kernel⟩
theorem mv_X_read : MV M_X_read 6 0 := ⟨⟨by decide, rfl⟩, List.mem_of_getElem? (i := 275) (by decide +kernel), List.mem_of_getElem? (i := 276) (by decide +kernel), List.mem_of_getElem? (i := 53) (by decide +kernel), List.mem_of_getElem? (i := 277) (by decide +kernel), ⟨by decide, by decide⟩, by decide +kernel⟩
theorem mv_R_clear : MV M_R_clear 3 0 := ⟨⟨by decide, rfl⟩, List.mem_of_getElem? (i := 280) (by decide +kernel), List.mem_of_getElem? (i := 281) (by decide +kernel), List.mem_of_getElem? (i := 55) (by decide +kernel), List.mem_of_getElem? (i := 282) (by decide +kernel), ⟨by decide, by decide⟩, by decide +kernel⟩
theorem ms_J_fill : MS M_J_fill 2 := ⟨List.mem_of_getElem? (i := 284) (by decide +kernel), List.mem_of_getElem? (i := 61) (by decide +kernel), List.mem_of_getElem? (i := 285) (by decide +kernel), ⟨by decide, by decide⟩, by decide +kernel⟩
theorem mv_T_rewind : MV M_T_rewind 5 0 := ⟨⟨by decide, rfl⟩, List.mem_of_getElem? (i := 287) (by decide +kernel), List.mem_of_getElem? (i := 288) (by decide +kernel), List.mem_of_getElem? (i := 54) (by decide +kernel), List.mem_of_getElem? (i := 289) (by decide +kernel), ⟨by decide, by decide⟩, by decide +kernel⟩
theorem mv_S_readSize : MV M_S_readSize 4 0 := ⟨⟨by decide, rfl⟩, List.mem_of_getElem? (i := 292) (by decide +kernel), List.mem_of_getElem? (i := 293) (by decide +kernel), List.mem_of_getElem? (i := 58) (by decide +kernel), List.mem_of_getElem? (i := 294) (by decide +kernel), ⟨by decide, by decide⟩, by decide +kernel⟩
theorem mv_T_expect : MV M_T_expect 5 2 := ⟨⟨by decide, rfl⟩, List.mem_of_getElem? (i := 296) (by decide +kernel), List.mem_of_getElem? (i := 297) (by decide +kernel), List.mem_of_getElem? (i := 54) (by decide +kernel), List.mem_of_getElem? (i := 298) (by decide +kernel), ⟨by decide, by decide⟩, by decide +kernel⟩
theorem mv_T_next : MV M_T_next 5 0 := ⟨⟨by decide, rfl⟩, List.mem_of_getElem? (i := 300) (by decide +kernel), List.mem_of_getElem? (i := 301) (by decide +kernel), List.mem_of_getElem? (i := 54) (by decide +kernel), List.mem_of_getElem? (i := 302) (by decide +kernel), ⟨by decide, by decide⟩, by decide +kernel⟩
theorem mv_T_failAt : MV M_T_failAt 5 1 := ⟨⟨by decide, rfl⟩, List.mem_of_getElem? (i := 366) (by decide +kernel), List.mem_of_getElem? (i := 367) (by decide +kernel), List.mem_of_getElem? (i := 54) (by decide +kernel), List.mem_of_getElem? (i := 368) (by decide +kernel), ⟨by decide, by decide⟩, by decide +kernel⟩
theorem mv_T_number : MV M_T_number 5 1 := ⟨⟨by decide, rfl⟩, List.mem_of_getElem? (i := 370) (by decide +kernel), List.mem_of_getElem? (i := 371) (by decide +kernel), List.mem_of_getElem? (i := 54) (by decide +kernel), List.mem_of_getElem? (i := 372) (by decide +kernel), ⟨by decide, by decide⟩, by decide +kernel⟩
theorem mv_R_setSize : MV M_R_setSize 3 2 := ⟨⟨by decide, rfl⟩, List.mem_of_getElem? (i := 374) (by decide +kernel), List.mem_of_getElem? (i := 375) (by decide +kernel), List.mem_of_getElem? (i := 55) (by decide +kernel), List.mem_of_getElem? (i := 376) (by decide +kernel), ⟨by decide, by decide⟩, by decide +kernel⟩
theorem mv_T_align : MV M_T_align 5 0 := ⟨⟨by decide, rfl⟩, List.mem_of_getElem? (i := 378) (by decide +kernel), List.mem_of_getElem? (i := 379) (by decide +kernel), List.mem_of_getElem? (i := 54) (by decide +kernel), List.mem_of_getElem? (i := 380) (by decide +kernel), ⟨by decide, by decide⟩, by decide +kernel⟩
theorem mv_S_pictureComes : MV M_S_pictureComes 4 0 := ⟨⟨by decide, rfl⟩, List.mem_of_getElem? (i := 383) (by decide +kernel), List.mem_of_getElem? (i := 384) (by decide +kernel), List.mem_of_getElem? (i := 58) (by decide +kernel), List.mem_of_getElem? (i := 385) (by decide +kernel), ⟨by decide, by decide⟩, by decide +kernel⟩
theorem mv_S_readPicture : MV M_S_readPicture 4 1 := ⟨⟨by decide, rfl⟩, List.mem_of_getElem? (i := 388) (by decide +kernel), List.mem_of_getElem? (i := 389) (by decide +kernel), List.mem_of_getElem? (i := 58) (by decide +kernel), List.mem_of_getElem? (i := 390) (by decide +kernel), ⟨by decide, by decide⟩, by decide +kernel⟩
theorem mv_S_readHead : MV M_S_readHead 4 0 := ⟨⟨by decide, rfl⟩, List.mem_of_getElem? (i := 393) (by decide +kernel), List.mem_of_getElem? (i := 2) (by decide +kernel), List.mem_of_getElem? (i := 58) (by decide +kernel), List.mem_of_getElem? (i := 394) (by decide +kernel), ⟨by decide, by decide⟩, by decide +kernel⟩
theorem mv_T_nonZero : MV M_T_nonZero 5 1 := ⟨⟨by decide, rfl⟩, List.mem_of_getElem? (i := 396) (by decide +kernel), List.mem_of_getElem? (i := 397) (by decide +kernel), List.mem_of_getElem? (i := 54) (by decide +kernel), List.mem_of_getElem? (i := 398) (by decide +kernel), ⟨by decide, by decide⟩, by decide +kernel⟩
theorem mv_R_begin : MV M_R_begin 3 2 := ⟨⟨by decide, rfl⟩, List.mem_of_getElem? (i := 402) (by decide +kernel), List.mem_of_getElem? (i := 403) (by decide +kernel), List.mem_of_getElem? (i := 55) (by decide +kernel), List.mem_of_getElem? (i := 404) (by decide +kernel), ⟨by decide, by decide⟩, by decide +kernel⟩
theorem mv_P_resize : MV M_P_resize 1 2 := ⟨⟨by decide, rfl⟩, List.mem_of_getElem? (i := 406) (by decide +kernel), List.mem_of_getElem? (i := 407) (by decide +kernel), List.mem_of_getElem? (i := 56) (by decide +kernel), List.mem_of_getElem? (i := 408) (by decide +kernel), ⟨by decide, by decide⟩, by decide +kernel⟩
theorem mv_L_resize : MV M_L_resize 2 2 := ⟨⟨by decide, rfl⟩, List.mem_of_getElem? (i := 410) (by decide +kernel), List.mem_of_getElem? (i := 411) (by decide +kernel), List.mem_of_getElem? (i := 57) (by decide +kernel), List.mem_of_getElem? (i := 412) (by decide +kernel), ⟨by decide, by decide⟩, by decide +kernel⟩
theorem mv_S_passOver : MV M_S_passOver 4 2 := ⟨⟨by decide, rfl⟩, List.mem_of_getElem? (i := 415) (by decide +kernel), List.mem_of_getElem? (i := 3) (by decide +kernel), List.mem_of_getElem? (i := 58) (by decide +kernel), List.mem_of_getElem? (i := 416) (by decide +kernel), ⟨by decide, by decide⟩, by decide +kernel⟩
theorem mv_S_mostPassedInB : MV M_S_mostPassedInB 4 1 := ⟨⟨by decide, rfl⟩, List.mem_of_getElem? (i := 419) (by decide +kernel), List.mem_of_getElem? (i := 4) (by decide +kernel), List.mem_of_getElem? (i := 58) (by decide +kernel), List.mem_of_getElem? (i := 420) (by decide +kernel), ⟨by decide, by decide⟩, by decide +kernel⟩
theorem mv_T_unsigned : MV M_T_unsigned 5 1 := ⟨⟨by decide, rfl⟩, List.mem_of_getElem? (i := 422) (by decide +kernel), List.mem_of_getElem? (i := 423) (by decide +kernel), List.mem_of_getElem? (i := 54) (by decide +kernel), List.mem_of_getElem? (i := 424) (by decide +kernel), ⟨by decide, by decide⟩, by decide +kernel⟩
theorem mv_S_foretellSquare : MV M_S_foretellSquare 4 2 := ⟨⟨by decide, rfl⟩, List.mem_of_getElem? (i := 427) (by decide +kernel), List.mem_of_getElem? (i := 5) (by decide +kernel), List.mem_of_getElem? (i := 58) (by decide +kernel), List.mem_of_getElem? (i := 428) (by decide +kernel), ⟨by decide, by decide⟩, by decide +kernel⟩
theorem mv_S_forgetDcs : MV M_S_forgetDcs 4 0 := ⟨⟨by decide, rfl⟩, List.mem_of_getElem? (i := 431) (by decide +kernel), List.mem_of_getElem? (i := 6) (by decide +kernel), List.mem_of_getElem? (i := 58) (by decide +kernel), List.mem_of_getElem? (i := 432) (by decide +kernel), ⟨by decide, by decide⟩, by decide +kernel⟩
theorem mv_S_forgetVectors : MV M_S_forgetVectors 4 0 := ⟨⟨by decide, rfl⟩, List.mem_of_getElem? (i := 436) (by decide +kernel), List.mem_of_getElem? (i := 7) (by decide +kernel), List.mem_of_getElem? (i := 58) (by decide +kernel), List.mem_of_getElem? (i := 437) (by decide +kernel), ⟨by decide, by decide⟩, by decide +kernel⟩
theorem mv_L_foretell : MV M_L_foretell 2 5 := ⟨⟨by decide, rfl⟩, List.mem_of_getElem? (i := 439) (by decide +kernel), List.mem_of_getElem? (i := 440) (by decide +kernel), List.mem_of_getElem? (i := 57) (by decide +kernel), List.mem_of_getElem? (i := 441) (by decide +kernel), ⟨by decide, by decide⟩, by decide +kernel⟩
theorem mv_L_foretellLine : MV M_L_foretellLine 2 5 := ⟨⟨by decide, rfl⟩, List.mem_of_getElem? (i := 447) (by decide +kernel), List.mem_of_getElem? (i := 8) (by decide +kernel), List.mem_of_getElem? (i := 57) (by decide +kernel), List.mem_of_getElem? (i := 448) (by decide +kernel), ⟨by decide, by decide⟩, by decide +kernel⟩
theorem ms_X_held : MS M_X_held 3 := ⟨List.mem_of_getElem? (i := 450) (by decide +kernel), List.mem_of_getElem? (i := 53) (by decide +kernel), List.mem_of_getElem? (i := 451) (by decide +kernel), ⟨by decide, by decide⟩, by decide +kernel⟩
theorem mv_S_readSquare : MV M_S_readSquare 4 1 := ⟨⟨by decide, rfl⟩, List.mem_of_getElem? (i := 454) (by decide +kernel), List.mem_of_getElem? (i := 9) (by decide +kernel), List.mem_of_getElem? (i := 58) (by decide +kernel), List.mem_of_getElem? (i := 455) (by decide +kernel), ⟨by decide, by decide⟩, by decide +kernel⟩
theorem mv_S_readWays : MV M_S_readWays 4 0 := ⟨⟨by decide, rfl⟩, List.mem_of_getElem? (i := 458) (by decide +kernel), List.mem_of_getElem? (i := 10) (by decide +kernel), List.mem_of_getElem? (i := 58) (by decide +kernel), List.mem_of_getElem? (i := 459) (by decide +kernel), ⟨by decide, by decide⟩, by decide +kernel⟩
theorem mv_S_readVector : MV M_S_readVector 4 1 := ⟨⟨by decide, rfl⟩, List.mem_of_getElem? (i := 462) (by decide +kernel), List.mem_of_getElem? (i := 11) (by decide +kernel), List.mem_of_getElem? (i := 58) (by decide +kernel), List.mem_of_getElem? (i := 463) (by decide +kernel), ⟨by decide, by decide⟩, by decide +kernel⟩
theorem mv_T_signed : MV M_T_signed 5 2 := ⟨⟨by decide, rfl⟩, List.mem_of_getElem? (i := 465) (by decide +kernel), List.mem_of_getElem? (i := 466) (by decide +kernel), List.mem_of_getElem? (i := 54) (by decide +kernel), List.mem_of_getElem? (i := 467) (by decide +kernel), ⟨by decide, by decide⟩, by decide +kernel⟩
theorem mv_S_readBlock : MV M_S_readBlock 4 2 := ⟨⟨by decide, rfl⟩, List.mem_of_getElem? (i := 472) (by decide +kernel), List.mem_of_getElem? (i := 12) (by decide +kernel), List.mem_of_getElem? (i := 58) (by decide +kernel), List.mem_of_getElem? (i := 473) (by decide +kernel), ⟨by decide, by decide⟩, by decide +kernel⟩
theorem mv_B_clear : MV M_B_clear 0 0 := ⟨⟨by decide, rfl⟩, List.mem_of_getElem? (i := 475) (by decide +kernel), List.mem_of_getElem? (i := 476) (by decide +kernel), List.mem_of_getElem? (i := 59) (by decide +kernel), List.mem_of_getElem? (i := 477) (by decide +kernel), ⟨by decide, by decide⟩, by decide +kernel⟩
theorem mv_B_putDc : MV M_B_putDc 0 1 := ⟨⟨by decide, rfl⟩, List.mem_of_getElem? (i := 480) (by decide +kernel), List.mem_of_getElem? (i := 481) (by decide +kernel), List.mem_of_getElem? (i := 59) (by decide +kernel), List.mem_of_getElem? (i := 482) (by decide +kernel), ⟨by decide, by decide⟩, by decide +kernel⟩
theorem mv_B_put : MV M_B_put 0 2 := ⟨⟨by decide, rfl⟩, List.mem_of_getElem? (i := 485) (by decide +kernel), List.mem_of_getElem? (i := 13) (by decide +kernel), List.mem_of_getElem? (i := 59) (by decide +kernel), List.mem_of_getElem? (i := 486) (by decide +kernel), ⟨by decide, by decide⟩, by decide +kernel⟩
theorem mv_B_putLevel : MV M_B_putLevel 0 4 := ⟨⟨by decide, rfl⟩, List.mem_of_getElem? (i := 488) (by decide +kernel), List.mem_of_getElem? (i := 489) (by decide +kernel), List.mem_of_getElem? (i := 59) (by decide +kernel), List.mem_of_getElem? (i := 490) (by decide +kernel), ⟨by decide, by decide⟩, by decide +kernel⟩
theorem mv_S_drawBlock : MV M_S_drawBlock 4 3 := ⟨⟨by decide, rfl⟩, List.mem_of_getElem? (i := 499) (by decide +kernel), List.mem_of_getElem? (i := 14) (by decide +kernel), List.mem_of_getElem? (i := 58) (by decide +kernel), List.mem_of_getElem? (i := 500) (by decide +kernel), ⟨by decide, by decide⟩, by decide +kernel⟩
theorem mv_B_makeSums : MV M_B_makeSums 0 0 := ⟨⟨by decide, rfl⟩, List.mem_of_getElem? (i := 502) (by decide +kernel), List.mem_of_getElem? (i := 503) (by decide +kernel), List.mem_of_getElem? (i := 59) (by decide +kernel), List.mem_of_getElem? (i := 504) (by decide +kernel), ⟨by decide, by decide⟩, by decide +kernel⟩
theorem mv_B_addRow : MV M_B_addRow 0 1 := ⟨⟨by decide, rfl⟩, List.mem_of_getElem? (i := 507) (by decide +kernel), List.mem_of_getElem? (i := 15) (by decide +kernel), List.mem_of_getElem? (i := 59) (by decide +kernel), List.mem_of_getElem? (i := 508) (by decide +kernel), ⟨by decide, by decide⟩, by decide +kernel⟩
theorem mv_L_draw : MV M_L_draw 2 4 := ⟨⟨by decide, rfl⟩, List.mem_of_getElem? (i := 512) (by decide +kernel), List.mem_of_getElem? (i := 513) (by decide +kernel), List.mem_of_getElem? (i := 57) (by decide +kernel), List.mem_of_getElem? (i := 514) (by decide +kernel), ⟨by decide, by decide⟩, by decide +kernel⟩
theorem mv_R_takeWhole : MV M_R_takeWhole 3 0 := ⟨⟨by decide, rfl⟩, List.mem_of_getElem? (i := 516) (by decide +kernel), List.mem_of_getElem? (i := 517) (by decide +kernel), List.mem_of_getElem? (i := 55) (by decide +kernel), List.mem_of_getElem? (i := 518) (by decide +kernel), ⟨by decide, by decide⟩, by decide +kernel⟩
theorem mv_R_show : MV M_R_show 3 1 := ⟨⟨by decide, rfl⟩, List.mem_of_getElem? (i := 521) (by decide +kernel), List.mem_of_getElem? (i := 16) (by decide +kernel), List.mem_of_getElem? (i := 55) (by decide +kernel), List.mem_of_getElem? (i := 522) (by decide +kernel), ⟨by decide, by decide⟩, by decide +kernel⟩
theorem mv_P_copyFrom : MV M_P_copyFrom 1 1 := ⟨⟨by decide, rfl⟩, List.mem_of_getElem? (i := 524) (by decide +kernel), List.mem_of_getElem? (i := 525) (by decide +kernel), List.mem_of_getElem? (i := 56) (by decide +kernel), List.mem_of_getElem? (i := 526) (by decide +kernel), ⟨by decide, by decide⟩, by decide +kernel⟩
theorem mv_L_copyFrom : MV M_L_copyFrom 2 1 := ⟨⟨by decide, rfl⟩, List.mem_of_getElem? (i := 528) (by decide +kernel), List.mem_of_getElem? (i := 529) (by decide +kernel), List.mem_of_getElem? (i := 57) (by decide +kernel), List.mem_of_getElem? (i := 530) (by decide +kernel), ⟨by decide, by decide⟩, by decide +kernel⟩
theorem mv_R_finish : MV M_R_finish 3 0 := ⟨⟨by decide, rfl⟩, List.mem_of_getElem? (i := 534) (by decide +kernel), List.mem_of_getElem? (i := 535) (by decide +kernel), List.mem_of_getElem? (i := 55) (by decide +kernel), List.mem_of_getElem? (i := 536) (by decide +kernel), ⟨by decide, by decide⟩, by decide +kernel⟩
theorem mv_X_wrong : MV M_X_wrong 6 0 := ⟨⟨by decide, rfl⟩, List.mem_of_getElem? (i := 538) (by decide +kernel), List.mem_of_getElem? (i := 539) (by decide +kernel), List.mem_of_getElem? (i := 53) (by decide +kernel), List.mem_of_getElem? (i := 540) (by decide +kernel), ⟨by decide, by decide⟩, by decide +kernel⟩
theorem mv_X_dot : MV M_X_dot 6 4 := ⟨⟨by decide, rfl⟩, List.mem_of_getElem? (i := 542) (by decide +kernel), List.mem_of_getElem? (i := 543) (by decide +kernel), List.mem_of_getElem? (i := 53) (by decide +kernel), List.mem_of_getElem? (i := 544) (by decide +kernel), ⟨by decide, by decide⟩, by decide +kernel⟩
theorem mv_R_keptPlane : MV M_R_keptPlane 3 2 := ⟨⟨by decide, rfl⟩, List.mem_of_getElem? (i := 546) (by decide +kernel), List.mem_of_getElem? (i := 547) (by decide +kernel), List.mem_of_getElem? (i := 55) (by decide +kernel), List.mem_of_getElem? (i := 548) (by decide +kernel), ⟨by decide, by decide⟩, by decide +kernel⟩
theorem mv_R_keptPicture : MV M_R_keptPicture 3 1 := ⟨⟨by decide, rfl⟩, List.mem_of_getElem? (i := 550) (by decide +kernel), List.mem_of_getElem? (i := 551) (by decide +kernel), List.mem_of_getElem? (i := 55) (by decide +kernel), List.mem_of_getElem? (i := 552) (by decide +kernel), ⟨by decide, by decide⟩, by decide +kernel⟩
theorem mv_L_dotOrNone : MV M_L_dotOrNone 2 2 := ⟨⟨by decide, rfl⟩, List.mem_of_getElem? (i := 554) (by decide +kernel), List.mem_of_getElem? (i := 555) (by decide +kernel), List.mem_of_getElem? (i := 57) (by decide +kernel), List.mem_of_getElem? (i := 556) (by decide +kernel), ⟨by decide, by decide⟩, by decide +kernel⟩
theorem mv_X_sum : MV M_X_sum 6 2 := ⟨⟨by decide, rfl⟩, List.mem_of_getElem? (i := 558) (by decide +kernel), List.mem_of_getElem? (i := 559) (by decide +kernel), List.mem_of_getElem? (i := 53) (by decide +kernel), List.mem_of_getElem? (i := 560) (by decide +kernel), ⟨by decide, by decide⟩, by decide +kernel⟩
theorem mv_L_numberedTotal : MV M_L_numberedTotal 2 0 := ⟨⟨by decide, rfl⟩, List.mem_of_getElem? (i := 562) (by decide +kernel), List.mem_of_getElem? (i := 563) (by decide +kernel), List.mem_of_getElem? (i := 57) (by decide +kernel), List.mem_of_getElem? (i := 564) (by decide +kernel), ⟨by decide, by decide⟩, by decide +kernel⟩
theorem ms_W_look : MS M_W_look 3 := ⟨List.mem_of_getElem? (i := 566) (by decide +kernel), List.mem_of_getElem? (i := 52) (by decide +kernel), List.mem_of_getElem? (i := 567) (by decide +kernel), ⟨by decide, by decide⟩, by decide +kernel⟩
theorem mv_X_look : MV M_X_look 6 1 := ⟨⟨by decide, rfl⟩, List.mem_of_getElem? (i := 570) (by decide +kernel), List.mem_of_getElem? (i := 571) (by decide +kernel), List.mem_of_getElem? (i := 53) (by decide +kernel), List.mem_of_getElem? (i := 572) (by decide +kernel), ⟨by decide, by decide⟩, by decide +kernel⟩
theorem ms_W_shown : MS M_W_shown 4 := ⟨List.mem_of_getElem? (i := 589) (by decide +kernel), List.mem_of_getElem? (i := 52) (by decide +kernel), List.mem_of_getElem? (i := 590) (by decide +kernel), ⟨by decide, by decide⟩, by decide +kernel⟩
theorem mv_X_shown : MV M_X_shown 6 2 := ⟨⟨by decide, rfl⟩, List.mem_of_getElem? (i := 592) (by decide +kernel), List.mem_of_getElem? (i := 593) (by decide +kernel), List.mem_of_getElem? (i := 53) (by decide +kernel), List.mem_of_getElem? (i := 594) (by decide +kernel), ⟨by decide, by decide⟩, by decide +kernel⟩
theorem mv_M_thrown : MV M_M_thrown 7 0 := ⟨⟨by decide, rfl⟩, List.mem_of_getElem? (i := 597) (by decide +kernel), List.mem_of_getElem? (i := 598) (by decide +kernel), List.mem_of_getElem? (i := 60) (by decide +kernel), List.mem_of_getElem? (i := 599) (by decide +kernel), ⟨by decide, by decide⟩, by decide +kernel⟩
theorem mc_M_init : MC M_M_init 0 := ⟨rfl, List.mem_of_getElem? (i := 603) (by decide +kernel), List.mem_of_getElem? (i := 60) (by decide +kernel), List.mem_of_getElem? (i := 604) (by decide +kernel), ⟨by decide, by decide⟩, by decide +kernel⟩
theorem mv_M_feed : MV M_M_feed 7 5 := ⟨⟨by decide, rfl⟩, List.mem_of_getElem? (i := 738) (by decide +kernel), List.mem_of_getElem? (i := 739) (by decide +kernel), List.mem_of_getElem? (i := 60) (by decide +kernel), List.mem_of_getElem? (i := 740) (by decide +kernel), ⟨by decide, by decide⟩, by decide +kernel⟩
theorem mv_M_taped : MV M_M_taped 7 0 := ⟨⟨by decide, rfl⟩, List.mem_of_getElem? (i := 743) (by decide +kernel), List.mem_of_getElem? (i := 17) (by decide +kernel), List.mem_of_getElem? (i := 60) (by decide +kernel), List.mem_of_getElem? (i := 744) (by decide +kernel), ⟨by decide, by decide⟩, by decide +kernel⟩
theorem mv_M_end : MV M_M_end 7 1 := ⟨⟨by decide, rfl⟩, List.mem_of_getElem? (i := 746) (by decide +kernel), List.mem_of_getElem? (i := 747) (by decide +kernel), List.mem_of_getElem? (i := 60) (by decide +kernel), List.mem_of_getElem? (i := 748) (by decide +kernel), ⟨by decide, by decide⟩, by decide +kernel⟩
theorem mv_M_bits : MV M_M_bits 7 2 := ⟨⟨by decide, rfl⟩, List.mem_of_getElem? (i := 750) (by decide +kernel), List.mem_of_getElem? (i := 751) (by decide +kernel), List.mem_of_getElem? (i := 60) (by decide +kernel), List.mem_of_getElem? (i := 752) (by decide +kernel), ⟨by decide, by decide⟩, by decide +kernel⟩
theorem mv_M_read : MV M_M_read 7 0 := ⟨⟨by decide, rfl⟩, List.mem_of_getElem? (i := 754) (by decide +kernel), List.mem_of_getElem? (i := 755) (by decide +kernel), List.mem_of_getElem? (i := 60) (by decide +kernel), List.mem_of_getElem? (i := 756) (by decide +kernel), ⟨by decide, by decide⟩, by decide +kernel⟩
theorem mv_M_stream : MV M_M_stream 7 0 := ⟨⟨by decide, rfl⟩, List.mem_of_getElem? (i := 759) (by decide +kernel), List.mem_of_getElem? (i := 18) (by decide +kernel), List.mem_of_getElem? (i := 60) (by decide +kernel), List.mem_of_getElem? (i := 760) (by decide +kernel), ⟨by decide, by decide⟩, by decide +kernel⟩
theorem mv_M_isFirst : MV M_M_isFirst 7 3 := ⟨⟨by decide, rfl⟩, List.mem_of_getElem? (i := 763) (by decide +kernel), List.mem_of_getElem? (i := 19) (by decide +kernel), List.mem_of_getElem? (i := 60) (by decide +kernel), List.mem_of_getElem? (i := 764) (by decide +kernel), ⟨by decide, by decide⟩, by decide +kernel⟩
theorem mv_M_bit : MV M_M_bit 7 0 := ⟨⟨by decide, rfl⟩, List.mem_of_getElem? (i := 767) (by decide +kernel), List.mem_of_getElem? (i := 20) (by decide +kernel), List.mem_of_getElem? (i := 60) (by decide +kernel), List.mem_of_getElem? (i := 768) (by decide +kernel), ⟨by decide, by decide⟩, by decide +kernel⟩
theorem mv_M_isWrong : MV M_M_isWrong 7 1 := ⟨⟨by decide, rfl⟩, List.mem_of_getElem? (i := 771) (by decide +kernel), List.mem_of_getElem? (i := 21) (by decide +kernel), List.mem_of_getElem? (i := 60) (by decide +kernel), List.mem_of_getElem? (i := 772) (by decide +kernel), ⟨by decide, by decide⟩, by decide +kernel⟩
theorem mv_M_number : MV M_M_number 7 1 := ⟨⟨by decide, rfl⟩, List.mem_of_getElem? (i := 775) (by decide +kernel), List.mem_of_getElem? (i := 22) (by decide +kernel), List.mem_of_getElem? (i := 60) (by decide +kernel), List.mem_of_getElem? (i := 776) (by decide +kernel), ⟨by decide, by decide⟩, by decide +kernel⟩
theorem mv_M_align : MV M_M_align 7 0 := ⟨⟨by decide, rfl⟩, List.mem_of_getElem? (i := 779) (by decide +kernel), List.mem_of_getElem? (i := 23) (by decide +kernel), List.mem_of_getElem? (i := 60) (by decide +kernel), List.mem_of_getElem? (i := 780) (by decide +kernel), ⟨by decide, by decide⟩, by decide +kernel⟩
theorem mv_M_picture : MV M_M_picture 7 0 := ⟨⟨by decide, rfl⟩, List.mem_of_getElem? (i := 783) (by decide +kernel), List.mem_of_getElem? (i := 24) (by decide +kernel), List.mem_of_getElem? (i := 60) (by decide +kernel), List.mem_of_getElem? (i := 784) (by decide +kernel), ⟨by decide, by decide⟩, by decide +kernel⟩
theorem mv_M_numberAbove : MV M_M_numberAbove 7 1 := ⟨⟨by decide, rfl⟩, List.mem_of_getElem? (i := 787) (by decide +kernel), List.mem_of_getElem? (i := 25) (by decide +kernel), List.mem_of_getElem? (i := 60) (by decide +kernel), List.mem_of_getElem? (i := 788) (by decide +kernel), ⟨by decide, by decide⟩, by decide +kernel⟩
theorem mv_M_allSquares : MV M_M_allSquares 7 0 := ⟨⟨by decide, rfl⟩, List.mem_of_getElem? (i := 791) (by decide +kernel), List.mem_of_getElem? (i := 26) (by decide +kernel), List.mem_of_getElem? (i := 60) (by decide +kernel), List.mem_of_getElem? (i := 792) (by decide +kernel), ⟨by decide, by decide⟩, by decide +kernel⟩
theorem mv_M_readU : MV M_M_readU 7 0 := ⟨⟨by decide, rfl⟩, List.mem_of_getElem? (i := 795) (by decide +kernel), List.mem_of_getElem? (i := 27) (by decide +kernel), List.mem_of_getElem? (i := 60) (by decide +kernel), List.mem_of_getElem? (i := 796) (by decide +kernel), ⟨by decide, by decide⟩, by decide +kernel⟩
theorem mv_M_passes : MV M_M_passes 7 3 := ⟨⟨by decide, rfl⟩, List.mem_of_getElem? (i := 799) (by decide +kernel), List.mem_of_getElem? (i := 28) (by decide +kernel), List.mem_of_getElem? (i := 60) (by decide +kernel), List.mem_of_getElem? (i := 800) (by decide +kernel), ⟨by decide, by decide⟩, by decide +kernel⟩
theorem mv_M_begins : MV M_M_begins 7 0 := ⟨⟨by decide, rfl⟩, List.mem_of_getElem? (i := 803) (by decide +kernel), List.mem_of_getElem? (i := 29) (by decide +kernel), List.mem_of_getElem? (i := 60) (by decide +kernel), List.mem_of_getElem? (i := 804) (by decide +kernel), ⟨by decide, by decide⟩, by decide +kernel⟩
theorem mv_M_resetDcs : MV M_M_resetDcs 7 0 := ⟨⟨by decide, rfl⟩, List.mem_of_getElem? (i := 807) (by decide +kernel), List.mem_of_getElem? (i := 30) (by decide +kernel), List.mem_of_getElem? (i := 60) (by decide +kernel), List.mem_of_getElem? (i := 808) (by decide +kernel), ⟨by decide, by decide⟩, by decide +kernel⟩
theorem mv_M_resetVectors : MV M_M_resetVectors 7 0 := ⟨⟨by decide, rfl⟩, List.mem_of_getElem? (i := 811) (by decide +kernel), List.mem_of_getElem? (i := 31) (by decide +kernel), List.mem_of_getElem? (i := 60) (by decide +kernel), List.mem_of_getElem? (i := 812) (by decide +kernel), ⟨by decide, by decide⟩, by decide +kernel⟩
theorem mv_M_foretells : MV M_M_foretells 7 1 := ⟨⟨by decide, rfl⟩, List.mem_of_getElem? (i := 815) (by decide +kernel), List.mem_of_getElem? (i := 32) (by decide +kernel), List.mem_of_getElem? (i := 60) (by decide +kernel), List.mem_of_getElem? (i := 816) (by decide +kernel), ⟨by decide, by decide⟩, by decide +kernel⟩
theorem mv_M_planeAt : MV M_M_planeAt 7 1 := ⟨⟨by decide, rfl⟩, List.mem_of_getElem? (i := 819) (by decide +kernel), List.mem_of_getElem? (i := 33) (by decide +kernel), List.mem_of_getElem? (i := 60) (by decide +kernel), List.mem_of_getElem? (i := 820) (by decide +kernel), ⟨by decide, by decide⟩, by decide +kernel⟩
theorem mv_M_planeWidth : MV M_M_planeWidth 7 1 := ⟨⟨by decide, rfl⟩, List.mem_of_getElem? (i := 823) (by decide +kernel), List.mem_of_getElem? (i := 34) (by decide +kernel), List.mem_of_getElem? (i := 60) (by decide +kernel), List.mem_of_getElem? (i := 824) (by decide +kernel), ⟨by decide, by decide⟩, by decide +kernel⟩
theorem mv_M_foretoldDot : MV M_M_foretoldDot 7 3 := ⟨⟨by decide, rfl⟩, List.mem_of_getElem? (i := 827) (by decide +kernel), List.mem_of_getElem? (i := 35) (by decide +kernel), List.mem_of_getElem? (i := 60) (by decide +kernel), List.mem_of_getElem? (i := 828) (by decide +kernel), ⟨by decide, by decide⟩, by decide +kernel⟩
theorem mv_M_forward : MV M_M_forward 7 0 := ⟨⟨by decide, rfl⟩, List.mem_of_getElem? (i := 831) (by decide +kernel), List.mem_of_getElem? (i := 36) (by decide +kernel), List.mem_of_getElem? (i := 60) (by decide +kernel), List.mem_of_getElem? (i := 832) (by decide +kernel), ⟨by decide, by decide⟩, by decide +kernel⟩
theorem mv_M_moved : MV M_M_moved 7 5 := ⟨⟨by decide, rfl⟩, List.mem_of_getElem? (i := 835) (by decide +kernel), List.mem_of_getElem? (i := 37) (by decide +kernel), List.mem_of_getElem? (i := 60) (by decide +kernel), List.mem_of_getElem? (i := 836) (by decide +kernel), ⟨by decide, by decide⟩, by decide +kernel⟩
theorem mv_M_between : MV M_M_between 7 4 := ⟨⟨by decide, rfl⟩, List.mem_of_getElem? (i := 839) (by decide +kernel), List.mem_of_getElem? (i := 38) (by decide +kernel), List.mem_of_getElem? (i := 60) (by decide +kernel), List.mem_of_getElem? (i := 840) (by decide +kernel), ⟨by decide, by decide⟩, by decide +kernel⟩
theorem mv_M_dotOf : MV M_M_dotOf 7 4 := ⟨⟨by decide, rfl⟩, List.mem_of_getElem? (i := 843) (by decide +kernel), List.mem_of_getElem? (i := 39) (by decide +kernel), List.mem_of_getElem? (i := 60) (by decide +kernel), List.mem_of_getElem? (i := 844) (by decide +kernel), ⟨by decide, by decide⟩, by decide +kernel⟩
theorem mv_M_planeHeight : MV M_M_planeHeight 7 1 := ⟨⟨by decide, rfl⟩, List.mem_of_getElem? (i := 847) (by decide +kernel), List.mem_of_getElem? (i := 40) (by decide +kernel), List.mem_of_getElem? (i := 60) (by decide +kernel), List.mem_of_getElem? (i := 848) (by decide +kernel), ⟨by decide, by decide⟩, by decide +kernel⟩
theorem mv_M_square : MV M_M_square 7 1 := ⟨⟨by decide, rfl⟩, List.mem_of_getElem? (i := 851) (by decide +kernel), List.mem_of_getElem? (i := 41) (by decide +kernel), List.mem_of_getElem? (i := 60) (by decide +kernel), List.mem_of_getElem? (i := 852) (by decide +kernel), ⟨by decide, by decide⟩, by decide +kernel⟩
theorem mv_M_vector : MV M_M_vector 7 1 := ⟨⟨by decide, rfl⟩, List.mem_of_getElem? (i := 855) (by decide +kernel), List.mem_of_getElem? (i := 42) (by decide +kernel), List.mem_of_getElem? (i := 60) (by decide +kernel), List.mem_of_getElem? (i := 856) (by decide +kernel), ⟨by decide, by decide⟩, by decide +kernel⟩
theorem mv_M_readS : MV M_M_readS 7 0 := ⟨⟨by decide, rfl⟩, List.mem_of_getElem? (i := 859) (by decide +kernel), List.mem_of_getElem? (i := 43) (by decide +kernel), List.mem_of_getElem? (i := 60) (by decide +kernel), List.mem_of_getElem? (i := 860) (by decide +kernel), ⟨by decide, by decide⟩, by decide +kernel⟩
theorem mv_M_allBlocks : MV M_M_allBlocks 7 2 := ⟨⟨by decide, rfl⟩, List.mem_of_getElem? (i := 863) (by decide +kernel), List.mem_of_getElem? (i := 44) (by decide +kernel), List.mem_of_getElem? (i := 60) (by decide +kernel), List.mem_of_getElem? (i := 864) (by decide +kernel), ⟨by decide, by decide⟩, by decide +kernel⟩
theorem mv_M_block : MV M_M_block 7 1 := ⟨⟨by decide, rfl⟩, List.mem_of_getElem? (i := 867) (by decide +kernel), List.mem_of_getElem? (i := 45) (by decide +kernel), List.mem_of_getElem? (i := 60) (by decide +kernel), List.mem_of_getElem? (i := 868) (by decide +kernel), ⟨by decide, by decide⟩, by decide +kernel⟩
theorem mv_M_factor : MV M_M_factor 7 2 := ⟨⟨by decide, rfl⟩, List.mem_of_getElem? (i := 871) (by decide +kernel), List.mem_of_getElem? (i := 46) (by decide +kernel), List.mem_of_getElem? (i := 60) (by decide +kernel), List.mem_of_getElem? (i := 872) (by decide +kernel), ⟨by decide, by decide⟩, by decide +kernel⟩
theorem ms_M_held : MS M_M_held 3 := ⟨List.mem_of_getElem? (i := 874) (by decide +kernel), List.mem_of_getElem? (i := 60) (by decide +kernel), List.mem_of_getElem? (i := 875) (by decide +kernel), ⟨by decide, by decide⟩, by decide +kernel⟩
theorem mv_M_sums : MV M_M_sums 7 3 := ⟨⟨by decide, rfl⟩, List.mem_of_getElem? (i := 878) (by decide +kernel), List.mem_of_getElem? (i := 47) (by decide +kernel), List.mem_of_getElem? (i := 60) (by decide +kernel), List.mem_of_getElem? (i := 879) (by decide +kernel), ⟨by decide, by decide⟩, by decide +kernel⟩
theorem ms_M_wave : MS M_M_wave 2 := ⟨List.mem_of_getElem? (i := 881) (by decide +kernel), List.mem_of_getElem? (i := 60) (by decide +kernel), List.mem_of_getElem? (i := 882) (by decide +kernel), ⟨by decide, by decide⟩, by decide +kernel⟩
theorem mv_M_lands : MV M_M_lands 7 1 := ⟨⟨by decide, rfl⟩, List.mem_of_getElem? (i := 887) (by decide +kernel), List.mem_of_getElem? (i := 48) (by decide +kernel), List.mem_of_getElem? (i := 60) (by decide +kernel), List.mem_of_getElem? (i := 888) (by decide +kernel), ⟨by decide, by decide⟩, by decide +kernel⟩
theorem mv_M_shows : MV M_M_shows 7 5 := ⟨⟨by decide, rfl⟩, List.mem_of_getElem? (i := 891) (by decide +kernel), List.mem_of_getElem? (i := 49) (by decide +kernel), List.mem_of_getElem? (i := 60) (by decide +kernel), List.mem_of_getElem? (i := 892) (by decide +kernel), ⟨by decide, by decide⟩, by decide +kernel⟩
theorem mv_M_wrong : MV M_M_wrong 7 0 := ⟨⟨by decide, rfl⟩, List.mem_of_getElem? (i := 894) (by decide +kernel), List.mem_of_getElem? (i := 895) (by decide +kernel), List.mem_of_getElem? (i := 60) (by decide +kernel), List.mem_of_getElem? (i := 896) (by decide +kernel), ⟨by decide, by decide⟩, by decide +kernel⟩
theorem mv_M_look : MV M_M_look 7 1 := ⟨⟨by decide, rfl⟩, List.mem_of_getElem? (i := 898) (by decide +kernel), List.mem_of_getElem? (i := 899) (by decide +kernel), List.mem_of_getElem? (i := 60) (by decide +kernel), List.mem_of_getElem? (i := 900) (by decide +kernel), ⟨by decide, by decide⟩, by decide +kernel⟩
theorem mv_M_shown : MV M_M_shown 7 2 := ⟨⟨by decide, rfl⟩, List.mem_of_getElem? (i := 902) (by decide +kernel), List.mem_of_getElem? (i := 903) (by decide +kernel), List.mem_of_getElem? (i := 60) (by decide +kernel), List.mem_of_getElem? (i := 904) (by decide +kernel), ⟨by decide, by decide⟩, by decide +kernel⟩
theorem mv_M_noPicture : MV M_M_noPicture 7 1 := ⟨⟨by decide, rfl⟩, List.mem_of_getElem? (i := 907) (by decide +kernel), List.mem_of_getElem? (i := 50) (by decide +kernel), List.mem_of_getElem? (i := 60) (by decide +kernel), List.mem_of_getElem? (i := 908) (by decide +kernel), ⟨by decide, by decide⟩, by decide +kernel⟩
theorem mv_M_dot : MV M_M_dot 7 4 := ⟨⟨by decide, rfl⟩, List.mem_of_getElem? (i := 910) (by decide +kernel), List.mem_of_getElem? (i := 911) (by decide +kernel), List.mem_of_getElem? (i := 60) (by decide +kernel), List.mem_of_getElem? (i := 912) (by decide +kernel), ⟨by decide, by decide⟩, by decide +kernel⟩
theorem mv_M_noPlane : MV M_M_noPlane 7 2 := ⟨⟨by decide, rfl⟩, List.mem_of_getElem? (i := 915) (by decide +kernel), List.mem_of_getElem? (i := 51) (by decide +kernel), List.mem_of_getElem? (i := 60) (by decide +kernel), List.mem_of_getElem? (i := 916) (by decide +kernel), ⟨by decide, by decide⟩, by decide +kernel⟩
theorem mv_M_sum : MV M_M_sum 7 2 := ⟨⟨by decide, rfl⟩, List.mem_of_getElem? (i := 918) (by decide +kernel), List.mem_of_getElem? (i := 919) (by decide +kernel), List.mem_of_getElem? (i := 60) (by decide +kernel), List.mem_of_getElem? (i := 920) (by decide +kernel), ⟨by decide, by decide⟩, by decide +kernel⟩
theorem w_obj1 : Cond.instanceMethod Lib.objectInit ∈ lw_tbl := List.mem_of_getElem? (i := 75) (by decide +kernel)
theorem w_obj2 : Cond.code Lib.objectInit ⟨#[0xb1]⟩ 1 none ∈ lw_tbl := List.mem_of_getElem? (i := 76) (by decide +kernel)
theorem w_min1 : Cond.static Lib.Math.min.name ∈ lw_tbl := List.mem_of_getElem? (i := 494) (by decide +kernel)
theorem w_min2 : Cond.initialized "java/lang/Math" ∈ lw_tbl := List.mem_of_getElem? (i := 67) (by decide +kernel)
theorem w_min3 : Cond.code Lib.Math.min.name Lib.Math.min.code 2 (some .int) ∈ lw_tbl := List.mem_of_getElem? (i := 495) (by decide +kernel)
theorem w_cp1 : Cond.native arraycopyName ∈ lw_tbl := List.mem_of_getElem? (i := 444) (by decide +kernel)
theorem w_cp2 : Cond.static arraycopyName ∈ lw_tbl := List.mem_of_getElem? (i := 443) (by decide +kernel)
theorem w_cp3 : Cond.initialized "java/lang/System" ∈ lw_tbl := List.mem_of_getElem? (i := 66) (by decide +kernel)
theorem w_aint : Cond.arrayClass .int ∈ lw_tbl := List.mem_of_getElem? (i := 132) (by decide +kernel)
theorem w_abyte : Cond.arrayClass .byte ∈ lw_tbl := List.mem_of_getElem? (i := 98) (by decide +kernel)
theorem w_along : Cond.arrayClass .long ∈ lw_tbl := List.mem_of_getElem? (i := 921) (by decide +kernel)
theorem w_over1 : Cond.arrayOver (.object (cnm 1)) ∈ lw_tbl := List.mem_of_getElem? (i := 106) (by decide +kernel)
theorem w_over2 : Cond.arrayOver (.object (cnm 2)) ∈ lw_tbl := List.mem_of_getElem? (i := 113) (by decide +kernel)
theorem w_castISE : Cond.castable "java/lang/IllegalStateException" "java/lang/IllegalStateException" ∈ lw_tbl := List.mem_of_getElem? (i := 305) (by decide +kernel)
theorem w_iniISE : Cond.initialized "java/lang/IllegalStateException" ∈ lw_tbl := List.mem_of_getElem? (i := 65) (by decide +kernel)
theorem w_castNSE : Cond.castable "java/util/NoSuchElementException" "java/util/NoSuchElementException" ∈ lw_tbl := List.mem_of_getElem? (i := 575) (by decide +kernel)
theorem w_iniNSE : Cond.initialized "java/util/NoSuchElementException" ∈ lw_tbl := List.mem_of_getElem? (i := 68) (by decide +kernel)
theorem lX_1 : Cond.methodLink (cnm 6) 1 Lib.objectInit ∈ lw_tbl := List.mem_of_getElem? (i := 74) (by decide +kernel)
theorem lX_25 : Cond.methodLink (cnm 6) 25 (iY M_S_init) ∈ lw_tbl := List.mem_of_getElem? (i := 180) (by decide +kernel)
theorem lX_32 : Cond.methodLink (cnm 6) 32 (iY M_T_byteCount) ∈ lw_tbl := List.mem_of_getElem? (i := 249) (by decide +kernel)
theorem lX_36 : Cond.methodLink (cnm 6) 36 (iY M_T_cut) ∈ lw_tbl := List.mem_of_getElem? (i := 253) (by decide +kernel)
theorem lX_40 : Cond.methodLink (cnm 6) 40 (iY M_T_append) ∈ lw_tbl := List.mem_of_getElem? (i := 258) (by decide +kernel)
theorem lX_44 : Cond.methodLink (cnm 6) 44 (iY M_R_clear) ∈ lw_tbl := List.mem_of_getElem? (i := 279) (by decide +kernel)
theorem lX_47 : Cond.methodLink (cnm 6) 47 (iY M_T_rewind) ∈ lw_tbl := List.mem_of_getElem? (i := 286) (by decide +kernel)
theorem lX_50 : Cond.methodLink (cnm 6) 50 (iY M_S_readSize) ∈ lw_tbl := List.mem_of_getElem? (i := 291) (by decide +kernel)
theorem lX_53 : Cond.methodLink (cnm 6) 53 (iY M_S_pictureComes) ∈ lw_tbl := List.mem_of_getElem? (i := 382) (by decide +kernel)
theorem lX_57 : Cond.methodLink (cnm 6) 57 (iY M_S_readPicture) ∈ lw_tbl := List.mem_of_getElem? (i := 387) (by decide +kernel)
theorem lX_63 : Cond.methodLink (cnm 6) 63 (iY M_R_finish) ∈ lw_tbl := List.mem_of_getElem? (i := 533) (by decide +kernel)
theorem lX_77 : Cond.methodLink (cnm 6) 77 (iY M_R_keptPicture) ∈ lw_tbl := List.mem_of_getElem? (i := 595) (by decide +kernel)
theorem lX_86 : Cond.methodLink (cnm 6) 86 (iY M_R_keptPlane) ∈ lw_tbl := List.mem_of_getElem? (i := 545) (by decide +kernel)
theorem lX_90 : Cond.methodLink (cnm 6) 90 (iY M_L_dotOrNone) ∈ lw_tbl := List.mem_of_getElem? (i := 553) (by decide +kernel)
theorem lX_95 : Cond.methodLink (cnm 6) 95 (iY M_L_numberedTotal) ∈ lw_tbl := List.mem_of_getElem? (i := 561) (by decide +kernel)
theorem lB_1 : Cond.methodLink (cnm 0) 1 Lib.objectInit ∈ lw_tbl := List.mem_of_getElem? (i := 189) (by decide +kernel)
theorem lB_16 : Cond.methodLink (cnm 0) 16 (iY M_J_fill) ∈ lw_tbl := List.mem_of_getElem? (i := 478) (by decide +kernel)
theorem lB_29 : Cond.methodLink (cnm 0) 29 (iY M_B_put) ∈ lw_tbl := List.mem_of_getElem? (i := 483) (by decide +kernel)
theorem lB_36 : Cond.methodLink (cnm 0) 36 Lib.Math.min.name ∈ lw_tbl := List.mem_of_getElem? (i := 493) (by decide +kernel)
theorem lB_48 : Cond.methodLink (cnm 0) 48 (iY M_B_addRow) ∈ lw_tbl := List.mem_of_getElem? (i := 505) (by decide +kernel)
theorem lP_1 : Cond.methodLink (cnm 1) 1 Lib.objectInit ∈ lw_tbl := List.mem_of_getElem? (i := 111) (by decide +kernel)
theorem lP_9 : Cond.methodLink (cnm 1) 9 (iY M_L_init) ∈ lw_tbl := List.mem_of_getElem? (i := 115) (by decide +kernel)
theorem lP_22 : Cond.methodLink (cnm 1) 22 (iY M_L_resize) ∈ lw_tbl := List.mem_of_getElem? (i := 409) (by decide +kernel)
theorem lP_26 : Cond.methodLink (cnm 1) 26 (iY M_L_copyFrom) ∈ lw_tbl := List.mem_of_getElem? (i := 527) (by decide +kernel)
theorem lP_30 : Cond.methodLink (cnm 1) 30 arraycopyName ∈ lw_tbl := List.mem_of_getElem? (i := 531) (by decide +kernel)
theorem lL_3 : Cond.methodLink (cnm 2) 3 Lib.objectInit ∈ lw_tbl := List.mem_of_getElem? (i := 118) (by decide +kernel)
theorem lL_25 : Cond.methodLink (cnm 2) 25 arraycopyName ∈ lw_tbl := List.mem_of_getElem? (i := 442) (by decide +kernel)
theorem lL_31 : Cond.methodLink (cnm 2) 31 (iY M_L_foretellLine) ∈ lw_tbl := List.mem_of_getElem? (i := 445) (by decide +kernel)
theorem lR_3 : Cond.methodLink (cnm 3) 3 Lib.objectInit ∈ lw_tbl := List.mem_of_getElem? (i := 104) (by decide +kernel)
theorem lR_39 : Cond.methodLink (cnm 3) 39 (iY M_J_fill) ∈ lw_tbl := List.mem_of_getElem? (i := 283) (by decide +kernel)
theorem lR_48 : Cond.methodLink (cnm 3) 48 (iY M_P_resize) ∈ lw_tbl := List.mem_of_getElem? (i := 405) (by decide +kernel)
theorem lR_55 : Cond.methodLink (cnm 3) 55 (iY M_R_show) ∈ lw_tbl := List.mem_of_getElem? (i := 519) (by decide +kernel)
theorem lR_59 : Cond.methodLink (cnm 3) 59 Lib.Math.min.name ∈ lw_tbl := List.mem_of_getElem? (i := 532) (by decide +kernel)
theorem lR_65 : Cond.methodLink (cnm 3) 65 (iY M_P_copyFrom) ∈ lw_tbl := List.mem_of_getElem? (i := 523) (by decide +kernel)
theorem lR_68 : Cond.methodLink (cnm 3) 68 (iY M_R_keptPicture) ∈ lw_tbl := List.mem_of_getElem? (i := 549) (by decide +kernel)
theorem lS_3 : Cond.methodLink (cnm 4) 3 Lib.objectInit ∈ lw_tbl := List.mem_of_getElem? (i := 183) (by decide +kernel)
theorem lS_36 : Cond.methodLink (cnm 4) 36 (iY M_T_expect) ∈ lw_tbl := List.mem_of_getElem? (i := 295) (by decide +kernel)
theorem lS_42 : Cond.methodLink (cnm 4) 42 (iY M_T_number) ∈ lw_tbl := List.mem_of_getElem? (i := 369) (by decide +kernel)
theorem lS_46 : Cond.methodLink (cnm 4) 46 (iY M_R_setSize) ∈ lw_tbl := List.mem_of_getElem? (i := 373) (by decide +kernel)
theorem lS_51 : Cond.methodLink (cnm 4) 51 (iY M_T_align) ∈ lw_tbl := List.mem_of_getElem? (i := 377) (by decide +kernel)
theorem lS_54 : Cond.methodLink (cnm 4) 54 (iY M_T_next) ∈ lw_tbl := List.mem_of_getElem? (i := 386) (by decide +kernel)
theorem lS_58 : Cond.methodLink (cnm 4) 58 (iY M_S_readHead) ∈ lw_tbl := List.mem_of_getElem? (i := 391) (by decide +kernel)
theorem lS_65 : Cond.methodLink (cnm 4) 65 (iY M_R_begin) ∈ lw_tbl := List.mem_of_getElem? (i := 401) (by decide +kernel)
theorem lS_74 : Cond.methodLink (cnm 4) 74 (iY M_S_passOver) ∈ lw_tbl := List.mem_of_getElem? (i := 413) (by decide +kernel)
theorem lS_78 : Cond.methodLink (cnm 4) 78 (iY M_S_readSquare) ∈ lw_tbl := List.mem_of_getElem? (i := 452) (by decide +kernel)
theorem lS_82 : Cond.methodLink (cnm 4) 82 (iY M_R_takeWhole) ∈ lw_tbl := List.mem_of_getElem? (i := 515) (by decide +kernel)
theorem lS_88 : Cond.methodLink (cnm 4) 88 (iY M_T_nonZero) ∈ lw_tbl := List.mem_of_getElem? (i := 395) (by decide +kernel)
theorem lS_94 : Cond.methodLink (cnm 4) 94 (iY M_T_failAt) ∈ lw_tbl := List.mem_of_getElem? (i := 400) (by decide +kernel)
theorem lS_103 : Cond.methodLink (cnm 4) 103 (iY M_S_mostPassedInB) ∈ lw_tbl := List.mem_of_getElem? (i := 417) (by decide +kernel)
theorem lS_106 : Cond.methodLink (cnm 4) 106 (iY M_T_unsigned) ∈ lw_tbl := List.mem_of_getElem? (i := 421) (by decide +kernel)
theorem lS_112 : Cond.methodLink (cnm 4) 112 (iY M_S_foretellSquare) ∈ lw_tbl := List.mem_of_getElem? (i := 425) (by decide +kernel)
theorem lS_127 : Cond.methodLink (cnm 4) 127 (iY M_S_forgetDcs) ∈ lw_tbl := List.mem_of_getElem? (i := 429) (by decide +kernel)
theorem lS_130 : Cond.methodLink (cnm 4) 130 (iY M_S_forgetVectors) ∈ lw_tbl := List.mem_of_getElem? (i := 434) (by decide +kernel)
theorem lS_133 : Cond.methodLink (cnm 4) 133 (iY M_S_readWays) ∈ lw_tbl := List.mem_of_getElem? (i := 456) (by decide +kernel)
theorem lS_136 : Cond.methodLink (cnm 4) 136 (iY M_S_readVector) ∈ lw_tbl := List.mem_of_getElem? (i := 460) (by decide +kernel)
theorem lS_140 : Cond.methodLink (cnm 4) 140 (iY M_S_readBlock) ∈ lw_tbl := List.mem_of_getElem? (i := 470) (by decide +kernel)
theorem lS_144 : Cond.methodLink (cnm 4) 144 (iY M_S_drawBlock) ∈ lw_tbl := List.mem_of_getElem? (i := 497) (by decide +kernel)
theorem lS_148 : Cond.methodLink (cnm 4) 148 (iY M_T_signed) ∈ lw_tbl := List.mem_of_getElem? (i := 464) (by decide +kernel)
theorem lS_161 : Cond.methodLink (cnm 4) 161 (iY M_L_foretell) ∈ lw_tbl := List.mem_of_getElem? (i := 438) (by decide +kernel)
theorem lS_167 : Cond.methodLink (cnm 4) 167 (iY M_J_fill) ∈ lw_tbl := List.mem_of_getElem? (i := 433) (by decide +kernel)
theorem lS_173 : Cond.methodLink (cnm 4) 173 (iY M_B_clear) ∈ lw_tbl := List.mem_of_getElem? (i := 474) (by decide +kernel)
theorem lS_176 : Cond.methodLink (cnm 4) 176 (iY M_B_putDc) ∈ lw_tbl := List.mem_of_getElem? (i := 479) (by decide +kernel)
theorem lS_179 : Cond.methodLink (cnm 4) 179 (iY M_B_putLevel) ∈ lw_tbl := List.mem_of_getElem? (i := 487) (by decide +kernel)
theorem lS_183 : Cond.methodLink (cnm 4) 183 (iY M_B_makeSums) ∈ lw_tbl := List.mem_of_getElem? (i := 501) (by decide +kernel)
theorem lS_189 : Cond.methodLink (cnm 4) 189 (iY M_L_draw) ∈ lw_tbl := List.mem_of_getElem? (i := 511) (by decide +kernel)
theorem lT_5 : Cond.methodLink (cnm 5) 5 Lib.objectInit ∈ lw_tbl := List.mem_of_getElem? (i := 82) (by decide +kernel)
theorem lT_22 : Cond.methodLink (cnm 5) 22 (iY M_T_byteCount) ∈ lw_tbl := List.mem_of_getElem? (i := 257) (by decide +kernel)
theorem lT_26 : Cond.methodLink (cnm 5) 26 (iY M_T_appendBit) ∈ lw_tbl := List.mem_of_getElem? (i := 262) (by decide +kernel)
theorem lT_30 : Cond.methodLink (cnm 5) 30 (iY M_T_cut) ∈ lw_tbl := List.mem_of_getElem? (i := 290) (by decide +kernel)
theorem lT_40 : Cond.methodLink (cnm 5) 40 (iY M_T_next) ∈ lw_tbl := List.mem_of_getElem? (i := 299) (by decide +kernel)
theorem lT_43 : Cond.methodLink (cnm 5) 43 (iY M_T_number) ∈ lw_tbl := List.mem_of_getElem? (i := 399) (by decide +kernel)
theorem lT_47 : Cond.methodLink (cnm 5) 47 (iY M_T_failAt) ∈ lw_tbl := List.mem_of_getElem? (i := 365) (by decide +kernel)
theorem lT_50 : Cond.methodLink (cnm 5) 50 (iY M_T_expect) ∈ lw_tbl := List.mem_of_getElem? (i := 381) (by decide +kernel)
theorem lT_55 : Cond.methodLink (cnm 5) 55 (iY M_T_unsigned) ∈ lw_tbl := List.mem_of_getElem? (i := 469) (by decide +kernel)
theorem lW_7 : Cond.methodLink (cnm 8) 7 (iY M_X_look) ∈ lw_tbl := List.mem_of_getElem? (i := 569) (by decide +kernel)
theorem lW_15 : Cond.methodLink (cnm 8) 15 (iY M_X_shown) ∈ lw_tbl := List.mem_of_getElem? (i := 591) (by decide +kernel)
theorem lW_19 : Cond.methodLink (cnm 8) 19 (iY M_X_init) ∈ lw_tbl := List.mem_of_getElem? (i := 71) (by decide +kernel)
theorem lW_22 : Cond.methodLink (cnm 8) 22 (iY M_M_init) ∈ lw_tbl := List.mem_of_getElem? (i := 602) (by decide +kernel)
theorem lW_23 : Cond.methodLink (cnm 8) 23 (iY M_X_feed) ∈ lw_tbl := List.mem_of_getElem? (i := 245) (by decide +kernel)
theorem lW_27 : Cond.methodLink (cnm 8) 27 (iY M_M_feed) ∈ lw_tbl := List.mem_of_getElem? (i := 737) (by decide +kernel)
theorem lW_28 : Cond.methodLink (cnm 8) 28 (iY M_X_end) ∈ lw_tbl := List.mem_of_getElem? (i := 266) (by decide +kernel)
theorem lW_32 : Cond.methodLink (cnm 8) 32 (iY M_M_end) ∈ lw_tbl := List.mem_of_getElem? (i := 745) (by decide +kernel)
theorem lW_33 : Cond.methodLink (cnm 8) 33 (iY M_X_bits) ∈ lw_tbl := List.mem_of_getElem? (i := 270) (by decide +kernel)
theorem lW_36 : Cond.methodLink (cnm 8) 36 (iY M_M_bits) ∈ lw_tbl := List.mem_of_getElem? (i := 749) (by decide +kernel)
theorem lW_37 : Cond.methodLink (cnm 8) 37 (iY M_X_read) ∈ lw_tbl := List.mem_of_getElem? (i := 274) (by decide +kernel)
theorem lW_41 : Cond.methodLink (cnm 8) 41 (iY M_M_read) ∈ lw_tbl := List.mem_of_getElem? (i := 753) (by decide +kernel)
theorem lW_42 : Cond.methodLink (cnm 8) 42 (iY M_X_wrong) ∈ lw_tbl := List.mem_of_getElem? (i := 537) (by decide +kernel)
theorem lW_45 : Cond.methodLink (cnm 8) 45 (iY M_M_wrong) ∈ lw_tbl := List.mem_of_getElem? (i := 893) (by decide +kernel)
theorem lW_46 : Cond.methodLink (cnm 8) 46 (iY M_W_look) ∈ lw_tbl := List.mem_of_getElem? (i := 565) (by decide +kernel)
theorem lW_51 : Cond.methodLink (cnm 8) 51 (iY M_M_look) ∈ lw_tbl := List.mem_of_getElem? (i := 897) (by decide +kernel)
theorem lW_52 : Cond.methodLink (cnm 8) 52 (iY M_M_thrown) ∈ lw_tbl := List.mem_of_getElem? (i := 596) (by decide +kernel)
theorem lW_55 : Cond.methodLink (cnm 8) 55 (iY M_W_shown) ∈ lw_tbl := List.mem_of_getElem? (i := 588) (by decide +kernel)
theorem lW_58 : Cond.methodLink (cnm 8) 58 (iY M_M_shown) ∈ lw_tbl := List.mem_of_getElem? (i := 901) (by decide +kernel)
theorem lW_59 : Cond.methodLink (cnm 8) 59 (iY M_X_dot) ∈ lw_tbl := List.mem_of_getElem? (i := 541) (by decide +kernel)
theorem lW_63 : Cond.methodLink (cnm 8) 63 (iY M_M_dot) ∈ lw_tbl := List.mem_of_getElem? (i := 909) (by decide +kernel)
theorem lW_64 : Cond.methodLink (cnm 8) 64 (iY M_X_sum) ∈ lw_tbl := List.mem_of_getElem? (i := 557) (by decide +kernel)
theorem lW_67 : Cond.methodLink (cnm 8) 67 (iY M_M_sum) ∈ lw_tbl := List.mem_of_getElem? (i := 917) (by decide +kernel)
theorem lM_16 : Cond.methodLink (cnm 7) 16 (iY M_M_isWrong) ∈ lw_tbl := List.mem_of_getElem? (i := 769) (by decide +kernel)
theorem lM_24 : Cond.methodLink (cnm 7) 24 (iY M_M_bit) ∈ lw_tbl := List.mem_of_getElem? (i := 765) (by decide +kernel)
theorem lM_28 : Cond.methodLink (cnm 7) 28 (iY M_M_number) ∈ lw_tbl := List.mem_of_getElem? (i := 773) (by decide +kernel)
theorem lM_32 : Cond.methodLink (cnm 7) 32 (iY M_M_readU) ∈ lw_tbl := List.mem_of_getElem? (i := 793) (by decide +kernel)
theorem lM_51 : Cond.methodLink (cnm 7) 51 (iY M_M_planeWidth) ∈ lw_tbl := List.mem_of_getElem? (i := 821) (by decide +kernel)
theorem lM_54 : Cond.methodLink (cnm 7) 54 (iY M_M_planeHeight) ∈ lw_tbl := List.mem_of_getElem? (i := 845) (by decide +kernel)
theorem lM_57 : Cond.methodLink (cnm 7) 57 (iY M_M_planeAt) ∈ lw_tbl := List.mem_of_getElem? (i := 817) (by decide +kernel)
theorem lM_60 : Cond.methodLink (cnm 7) 60 (iY M_M_dotOf) ∈ lw_tbl := List.mem_of_getElem? (i := 841) (by decide +kernel)
theorem lM_67 : Cond.methodLink (cnm 7) 67 (iY M_M_between) ∈ lw_tbl := List.mem_of_getElem? (i := 837) (by decide +kernel)
theorem lM_86 : Cond.methodLink (cnm 7) 86 (iY M_M_forward) ∈ lw_tbl := List.mem_of_getElem? (i := 829) (by decide +kernel)
theorem lM_90 : Cond.methodLink (cnm 7) 90 (iY M_M_moved) ∈ lw_tbl := List.mem_of_getElem? (i := 833) (by decide +kernel)
theorem lM_97 : Cond.methodLink (cnm 7) 97 (iY M_M_foretoldDot) ∈ lw_tbl := List.mem_of_getElem? (i := 825) (by decide +kernel)
theorem lM_101 : Cond.methodLink (cnm 7) 101 Lib.objectInit ∈ lw_tbl := List.mem_of_getElem? (i := 605) (by decide +kernel)
theorem lM_138 : Cond.methodLink (cnm 7) 138 (iY M_M_held) ∈ lw_tbl := List.mem_of_getElem? (i := 873) (by decide +kernel)
theorem lM_141 : Cond.methodLink (cnm 7) 141 (iY M_M_wave) ∈ lw_tbl := List.mem_of_getElem? (i := 880) (by decide +kernel)
theorem lM_145 : Cond.methodLink (cnm 7) 145 (iY M_M_readS) ∈ lw_tbl := List.mem_of_getElem? (i := 857) (by decide +kernel)
theorem lM_148 : Cond.methodLink (cnm 7) 148 (iY M_M_factor) ∈ lw_tbl := List.mem_of_getElem? (i := 869) (by decide +kernel)
theorem lM_154 : Cond.methodLink (cnm 7) 154 (iY M_M_block) ∈ lw_tbl := List.mem_of_getElem? (i := 865) (by decide +kernel)
theorem lM_160 : Cond.methodLink (cnm 7) 160 (iY M_M_sums) ∈ lw_tbl := List.mem_of_getElem? (i := 876) (by decide +kernel)
theorem lM_167 : Cond.methodLink (cnm 7) 167 (iY M_M_numberAbove) ∈ lw_tbl := List.mem_of_getElem? (i := 785) (by decide +kernel)
theorem lM_170 : Cond.methodLink (cnm 7) 170 (iY M_M_vector) ∈ lw_tbl := List.mem_of_getElem? (i := 853) (by decide +kernel)
theorem lM_173 : Cond.methodLink (cnm 7) 173 (iY M_M_foretells) ∈ lw_tbl := List.mem_of_getElem? (i := 813) (by decide +kernel)
theorem lM_177 : Cond.methodLink (cnm 7) 177 (iY M_M_allBlocks) ∈ lw_tbl := List.mem_of_getElem? (i := 861) (by decide +kernel)
theorem lM_187 : Cond.methodLink (cnm 7) 187 (iY M_M_resetDcs) ∈ lw_tbl := List.mem_of_getElem? (i := 805) (by decide +kernel)
theorem lM_190 : Cond.methodLink (cnm 7) 190 (iY M_M_resetVectors) ∈ lw_tbl := List.mem_of_getElem? (i := 809) (by decide +kernel)
theorem lM_193 : Cond.methodLink (cnm 7) 193 (iY M_M_begins) ∈ lw_tbl := List.mem_of_getElem? (i := 801) (by decide +kernel)
theorem lM_202 : Cond.methodLink (cnm 7) 202 (iY M_M_passes) ∈ lw_tbl := List.mem_of_getElem? (i := 797) (by decide +kernel)
theorem lM_206 : Cond.methodLink (cnm 7) 206 (iY M_M_square) ∈ lw_tbl := List.mem_of_getElem? (i := 849) (by decide +kernel)
theorem lM_209 : Cond.methodLink (cnm 7) 209 (iY M_M_align) ∈ lw_tbl := List.mem_of_getElem? (i := 777) (by decide +kernel)
theorem lM_218 : Cond.methodLink (cnm 7) 218 (iY M_M_allSquares) ∈ lw_tbl := List.mem_of_getElem? (i := 789) (by decide +kernel)
theorem lM_225 : Cond.methodLink (cnm 7) 225 (iY M_M_shows) ∈ lw_tbl := List.mem_of_getElem? (i := 889) (by decide +kernel)
theorem lM_241 : Cond.methodLink (cnm 7) 241 (iY M_M_isFirst) ∈ lw_tbl := List.mem_of_getElem? (i := 761) (by decide +kernel)
theorem lM_250 : Cond.methodLink (cnm 7) 250 (iY M_M_picture) ∈ lw_tbl := List.mem_of_getElem? (i := 781) (by decide +kernel)
theorem lM_252 : Cond.methodLink (cnm 7) 252 (iY M_M_lands) ∈ lw_tbl := List.mem_of_getElem? (i := 885) (by decide +kernel)
theorem lM_258 : Cond.methodLink (cnm 7) 258 (iY M_M_taped) ∈ lw_tbl := List.mem_of_getElem? (i := 741) (by decide +kernel)
theorem lM_261 : Cond.methodLink (cnm 7) 261 (iY M_M_stream) ∈ lw_tbl := List.mem_of_getElem? (i := 757) (by decide +kernel)
theorem lM_264 : Cond.methodLink (cnm 7) 264 (iY M_M_noPicture) ∈ lw_tbl := List.mem_of_getElem? (i := 905) (by decide +kernel)
theorem lM_267 : Cond.methodLink (cnm 7) 267 (iY M_M_noPlane) ∈ lw_tbl := List.mem_of_getElem? (i := 913) (by decide +kernel)
theorem nX_9 : Cond.methodLinkNest (cnm 6) 9 (iY M_T_init) "ReelReader" ∈ lw_tbl := List.mem_of_getElem? (i := 79) (by decide +kernel)
theorem nX_18 : Cond.methodLinkNest (cnm 6) 18 (iY M_R_init) "ReelReader" ∈ lw_tbl := List.mem_of_getElem? (i := 101) (by decide +kernel)
theorem nB_42 : Cond.methodLinkNest (cnm 0) 42 (iY M_X_held) "ReelReader" ∈ lw_tbl := List.mem_of_getElem? (i := 496) (by decide +kernel)
theorem nL_35 : Cond.methodLinkNest (cnm 2) 35 (iY M_X_held) "ReelReader" ∈ lw_tbl := List.mem_of_getElem? (i := 449) (by decide +kernel)
theorem nR_28 : Cond.methodLinkNest (cnm 3) 28 (iY M_P_init) "ReelReader" ∈ lw_tbl := List.mem_of_getElem? (i := 108) (by decide +kernel)
theorem nS_11 : Cond.methodLinkNest (cnm 4) 11 (iY M_B_init) "ReelReader" ∈ lw_tbl := List.mem_of_getElem? (i := 186) (by decide +kernel)
theorem cX_7 : Cond.classLink (cnm 6) 7 (cnm 5) ∈ lw_tbl := List.mem_of_getElem? (i := 77) (by decide +kernel)
theorem cX_16 : Cond.classLink (cnm 6) 16 (cnm 3) ∈ lw_tbl := List.mem_of_getElem? (i := 99) (by decide +kernel)
theorem cX_23 : Cond.classLink (cnm 6) 23 (cnm 4) ∈ lw_tbl := List.mem_of_getElem? (i := 178) (by decide +kernel)
theorem cX_61 : Cond.classLink (cnm 6) 61 "java/lang/IllegalStateException" ∈ lw_tbl := List.mem_of_getElem? (i := 278) (by decide +kernel)
theorem cX_74 : Cond.classLink (cnm 6) 74 "java/util/NoSuchElementException" ∈ lw_tbl := List.mem_of_getElem? (i := 573) (by decide +kernel)
theorem cP_7 : Cond.classLink (cnm 1) 7 (cnm 2) ∈ lw_tbl := List.mem_of_getElem? (i := 112) (by decide +kernel)
theorem cR_15 : Cond.classLink (cnm 3) 15 (cnm 1) ∈ lw_tbl := List.mem_of_getElem? (i := 105) (by decide +kernel)
theorem cS_9 : Cond.classLink (cnm 4) 9 (cnm 0) ∈ lw_tbl := List.mem_of_getElem? (i := 184) (by decide +kernel)
theorem cT_37 : Cond.classLink (cnm 5) 37 "java/lang/IllegalStateException" ∈ lw_tbl := List.mem_of_getElem? (i := 303) (by decide +kernel)
theorem cW_8 : Cond.classLink (cnm 8) 8 (cnm 6) ∈ lw_tbl := List.mem_of_getElem? (i := 69) (by decide +kernel)
theorem cW_13 : Cond.classLink (cnm 8) 13 "java/util/NoSuchElementException" ∈ lw_tbl := List.mem_of_getElem? (i := 568) (by decide +kernel)
theorem cW_20 : Cond.classLink (cnm 8) 20 (cnm 7) ∈ lw_tbl := List.mem_of_getElem? (i := 600) (by decide +kernel)
theorem kT_54 : Cond.constant (cnm 5) 54 2097150 ∈ lw_tbl := List.mem_of_getElem? (i := 468) (by decide +kernel)
theorem kM_110 : Cond.constant (cnm 7) 110 122880 ∈ lw_tbl := List.mem_of_getElem? (i := 606) (by decide +kernel)
theorem sB_33 : Cond.fieldLink (cnm 0) 33 (sC 0) (sNm 0) "[I" ∈ lw_tbl := List.mem_of_getElem? (i := 491) (by decide +kernel)
theorem sB_52 : Cond.fieldLink (cnm 0) 52 (sC 1) (sNm 1) "[I" ∈ lw_tbl := List.mem_of_getElem? (i := 509) (by decide +kernel)
theorem sM_129 : Cond.fieldLink (cnm 7) 129 (sC 2) (sNm 2) "[I" ∈ lw_tbl := List.mem_of_getElem? (i := 883) (by decide +kernel)
set_option maxRecDepth 20000 in
theorem w_atISE : ∀ w ∈ vx_at0 (cnm 5) 39 "java/lang/IllegalStateException" ["java/lang/RuntimeException", "java/lang/Exception"], w ∈ lw_tbl ∧ w.onTables = true ∧ (goodWord w = true ∨ w.keepsFace = true) := by decide +kernel
set_option maxRecDepth 20000 in
theorem w_atNSE : ∀ w ∈ vx_at0 (cnm 6) 76 "java/util/NoSuchElementException" ["java/lang/RuntimeException", "java/lang/Exception"], w ∈ lw_tbl ∧ w.onTables = true ∧ (goodWord w = true ∨ w.keepsFace = true) := by decide +kernel
end
section
theorem d_T_init_0 : decode (iC M_T_init) 0 = .ok (.aload_n 0, 1) := by decide +kernel
theorem d_T_init_1 : decode (iC M_T_init) 1 = .ok (.invokespecial 5, 3) := by decide +kernel
theorem d_T_init_4 : decode (iC M_T_init) 4 = .ok (.aload_n 0, 1) := by decide +kernel
theorem d_T_init_5 : decode (iC M_T_init) 5 = .ok (.sipush 4000, 3) := by decide +kernel
theorem d_T_init_8 : decode (iC M_T_init) 8 = .ok (.newarray .byte, 2) := by decide +kernel
theorem d_T_init_10 : decode (iC M_T_init) 10 = .ok (.putfield 11, 3) := by decide +kernel
theorem d_T_init_13 : decode (iC M_T_init) 13 = .ok (.aload_n 0, 1) := by decide +kernel
theorem d_T_init_14 : decode (iC M_T_init) 14 = .ok (.iconst (-1), 1) := by decide +kernel
theorem d_T_init_15 : decode (iC M_T_init) 15 = .ok (.putfield 15, 3) := by decide +kernel
theorem d_T_init_18 : decode (iC M_T_init) 18 = .ok (.return_, 1) := by decide +kernel
theorem d_T_byteCount_0 : decode (iC M_T_byteCount) 0 = .ok (.aload_n 0, 1) := by decide +kernel
theorem d_T_byteCount_1 : decode (iC M_T_byteCount) 1 = .ok (.getfield 19, 3) := by decide +kernel
theorem d_T_byteCount_4 : decode (iC M_T_byteCount) 4 = .ok (.bipush 7, 2) := by decide +kernel
theorem d_T_byteCount_6 : decode (iC M_T_byteCount) 6 = .ok (.iadd, 1) := by decide +kernel
theorem d_T_byteCount_7 : decode (iC M_T_byteCount) 7 = .ok (.iconst 3, 1) := by decide +kernel
theorem d_T_byteCount_8 : decode (iC M_T_byteCount) 8 = .ok (.ishr, 1) := by decide +kernel
theorem d_T_byteCount_9 : decode (iC M_T_byteCount) 9 = .ok (.ireturn, 1) := by decide +kernel
theorem d_T_cut_0 : decode (iC M_T_cut) 0 = .ok (.iload_n 1, 1) := by decide +kernel
theorem d_T_cut_1 : decode (iC M_T_cut) 1 = .ok (.ifCond .lt 11, 3) := by decide +kernel
theorem d_T_cut_4 : decode (iC M_T_cut) 4 = .ok (.iload_n 1, 1) := by decide +kernel
theorem d_T_cut_5 : decode (iC M_T_cut) 5 = .ok (.aload_n 0, 1) := by decide +kernel
theorem d_T_cut_6 : decode (iC M_T_cut) 6 = .ok (.invokevirtual 22, 3) := by decide +kernel
theorem d_T_cut_9 : decode (iC M_T_cut) 9 = .ok (.if_icmp .le 5, 3) := by decide +kernel
theorem d_T_cut_12 : decode (iC M_T_cut) 12 = .ok (.iconst 0, 1) := by decide +kernel
theorem d_T_cut_13 : decode (iC M_T_cut) 13 = .ok (.ireturn, 1) := by decide +kernel
theorem d_T_cut_14 : decode (iC M_T_cut) 14 = .ok (.aload_n 0, 1) := by decide +kernel
theorem d_T_cut_15 : decode (iC M_T_cut) 15 = .ok (.bipush 8, 2) := by decide +kernel
theorem d_T_cut_17 : decode (iC M_T_cut) 17 = .ok (.iload_n 1, 1) := by decide +kernel
theorem d_T_cut_18 : decode (iC M_T_cut) 18 = .ok (.imul, 1) := by decide +kernel
theorem d_T_cut_19 : decode (iC M_T_cut) 19 = .ok (.putfield 19, 3) := by decide +kernel
theorem d_T_cut_22 : decode (iC M_T_cut) 22 = .ok (.iconst 1, 1) := by decide +kernel
theorem d_T_cut_23 : decode (iC M_T_cut) 23 = .ok (.ireturn, 1) := by decide +kernel
theorem d_T_append_0 : decode (iC M_T_append) 0 = .ok (.iload_n 2, 1) := by decide +kernel
theorem d_T_append_1 : decode (iC M_T_append) 1 = .ok (.iconst 1, 1) := by decide +kernel
theorem d_T_append_2 : decode (iC M_T_append) 2 = .ok (.if_icmp .lt 21, 3) := by decide +kernel
theorem d_T_append_5 : decode (iC M_T_append) 5 = .ok (.iload_n 2, 1) := by decide +kernel
theorem d_T_append_6 : decode (iC M_T_append) 6 = .ok (.bipush 32, 2) := by decide +kernel
theorem d_T_append_8 : decode (iC M_T_append) 8 = .ok (.if_icmp .gt 15, 3) := by decide +kernel
theorem d_T_append_11 : decode (iC M_T_append) 11 = .ok (.aload_n 0, 1) := by decide +kernel
theorem d_T_append_12 : decode (iC M_T_append) 12 = .ok (.getfield 19, 3) := by decide +kernel
theorem d_T_append_15 : decode (iC M_T_append) 15 = .ok (.iload_n 2, 1) := by decide +kernel
theorem d_T_append_16 : decode (iC M_T_append) 16 = .ok (.iadd, 1) := by decide +kernel
theorem d_T_append_17 : decode (iC M_T_append) 17 = .ok (.sipush 32000, 3) := by decide +kernel
theorem d_T_append_20 : decode (iC M_T_append) 20 = .ok (.if_icmp .le 5, 3) := by decide +kernel
theorem d_T_append_23 : decode (iC M_T_append) 23 = .ok (.iconst (-1), 1) := by decide +kernel
theorem d_T_append_24 : decode (iC M_T_append) 24 = .ok (.ireturn, 1) := by decide +kernel
theorem d_T_append_25 : decode (iC M_T_append) 25 = .ok (.iload_n 2, 1) := by decide +kernel
theorem d_T_append_26 : decode (iC M_T_append) 26 = .ok (.iconst 1, 1) := by decide +kernel
theorem d_T_append_27 : decode (iC M_T_append) 27 = .ok (.isub, 1) := by decide +kernel
theorem d_T_append_28 : decode (iC M_T_append) 28 = .ok (.istore_n 3, 1) := by decide +kernel
theorem d_T_append_29 : decode (iC M_T_append) 29 = .ok (.iload_n 3, 1) := by decide +kernel
theorem d_T_append_30 : decode (iC M_T_append) 30 = .ok (.ifCond .lt 18, 3) := by decide +kernel
theorem d_T_append_33 : decode (iC M_T_append) 33 = .ok (.aload_n 0, 1) := by decide +kernel
theorem d_T_append_34 : decode (iC M_T_append) 34 = .ok (.iload_n 1, 1) := by decide +kernel
theorem d_T_append_35 : decode (iC M_T_append) 35 = .ok (.iload_n 3, 1) := by decide +kernel
theorem d_T_append_36 : decode (iC M_T_append) 36 = .ok (.ishr, 1) := by decide +kernel
theorem d_T_append_37 : decode (iC M_T_append) 37 = .ok (.iconst 1, 1) := by decide +kernel
theorem d_T_append_38 : decode (iC M_T_append) 38 = .ok (.iand, 1) := by decide +kernel
theorem d_T_append_39 : decode (iC M_T_append) 39 = .ok (.invokevirtual 26, 3) := by decide +kernel
theorem d_T_append_42 : decode (iC M_T_append) 42 = .ok (.iinc 3 (-1), 3) := by decide +kernel
theorem d_T_append_45 : decode (iC M_T_append) 45 = .ok (.goto (-16), 3) := by decide +kernel
theorem d_T_append_48 : decode (iC M_T_append) 48 = .ok (.aload_n 0, 1) := by decide +kernel
theorem d_T_append_49 : decode (iC M_T_append) 49 = .ok (.getfield 19, 3) := by decide +kernel
theorem d_T_append_52 : decode (iC M_T_append) 52 = .ok (.ireturn, 1) := by decide +kernel
theorem d_T_appendBit_0 : decode (iC M_T_appendBit) 0 = .ok (.aload_n 0, 1) := by decide +kernel
theorem d_T_appendBit_1 : decode (iC M_T_appendBit) 1 = .ok (.getfield 19, 3) := by decide +kernel
theorem d_T_appendBit_4 : decode (iC M_T_appendBit) 4 = .ok (.iconst 3, 1) := by decide +kernel
theorem d_T_appendBit_5 : decode (iC M_T_appendBit) 5 = .ok (.ishr, 1) := by decide +kernel
theorem d_T_appendBit_6 : decode (iC M_T_appendBit) 6 = .ok (.istore_n 2, 1) := by decide +kernel
theorem d_T_appendBit_7 : decode (iC M_T_appendBit) 7 = .ok (.aload_n 0, 1) := by decide +kernel
theorem d_T_appendBit_8 : decode (iC M_T_appendBit) 8 = .ok (.getfield 19, 3) := by decide +kernel
theorem d_T_appendBit_11 : decode (iC M_T_appendBit) 11 = .ok (.bipush 7, 2) := by decide +kernel
theorem d_T_appendBit_13 : decode (iC M_T_appendBit) 13 = .ok (.iand, 1) := by decide +kernel
theorem d_T_appendBit_14 : decode (iC M_T_appendBit) 14 = .ok (.istore_n 3, 1) := by decide +kernel
theorem d_T_appendBit_15 : decode (iC M_T_appendBit) 15 = .ok (.iload_n 3, 1) := by decide +kernel
theorem d_T_appendBit_16 : decode (iC M_T_appendBit) 16 = .ok (.ifCond .ne 7, 3) := by decide +kernel
theorem d_T_appendBit_19 : decode (iC M_T_appendBit) 19 = .ok (.iconst 0, 1) := by decide +kernel
theorem d_T_appendBit_20 : decode (iC M_T_appendBit) 20 = .ok (.goto 9, 3) := by decide +kernel
theorem d_T_appendBit_23 : decode (iC M_T_appendBit) 23 = .ok (.aload_n 0, 1) := by decide +kernel
theorem d_T_appendBit_24 : decode (iC M_T_appendBit) 24 = .ok (.getfield 11, 3) := by decide +kernel
theorem d_T_appendBit_27 : decode (iC M_T_appendBit) 27 = .ok (.iload_n 2, 1) := by decide +kernel
theorem d_T_appendBit_28 : decode (iC M_T_appendBit) 28 = .ok (.baload, 1) := by decide +kernel
theorem d_T_appendBit_29 : decode (iC M_T_appendBit) 29 = .ok (.istore 4, 2) := by decide +kernel
theorem d_T_appendBit_31 : decode (iC M_T_appendBit) 31 = .ok (.aload_n 0, 1) := by decide +kernel
theorem d_T_appendBit_32 : decode (iC M_T_appendBit) 32 = .ok (.getfield 11, 3) := by decide +kernel
theorem d_T_appendBit_35 : decode (iC M_T_appendBit) 35 = .ok (.iload_n 2, 1) := by decide +kernel
theorem d_T_appendBit_36 : decode (iC M_T_appendBit) 36 = .ok (.iload 4, 2) := by decide +kernel
theorem d_T_appendBit_38 : decode (iC M_T_appendBit) 38 = .ok (.iload_n 1, 1) := by decide +kernel
theorem d_T_appendBit_39 : decode (iC M_T_appendBit) 39 = .ok (.bipush 7, 2) := by decide +kernel
theorem d_T_appendBit_41 : decode (iC M_T_appendBit) 41 = .ok (.iload_n 3, 1) := by decide +kernel
theorem d_T_appendBit_42 : decode (iC M_T_appendBit) 42 = .ok (.isub, 1) := by decide +kernel
theorem d_T_appendBit_43 : decode (iC M_T_appendBit) 43 = .ok (.ishl, 1) := by decide +kernel
theorem d_T_appendBit_44 : decode (iC M_T_appendBit) 44 = .ok (.ior, 1) := by decide +kernel
theorem d_T_appendBit_45 : decode (iC M_T_appendBit) 45 = .ok (.i2b, 1) := by decide +kernel
theorem d_T_appendBit_46 : decode (iC M_T_appendBit) 46 = .ok (.bastore, 1) := by decide +kernel
theorem d_T_appendBit_47 : decode (iC M_T_appendBit) 47 = .ok (.aload_n 0, 1) := by decide +kernel
theorem d_T_appendBit_48 : decode (iC M_T_appendBit) 48 = .ok (.dup, 1) := by decide +kernel
theorem d_T_appendBit_49 : decode (iC M_T_appendBit) 49 = .ok (.getfield 19, 3) := by decide +kernel
theorem d_T_appendBit_52 : decode (iC M_T_appendBit) 52 = .ok (.iconst 1, 1) := by decide +kernel
theorem d_T_appendBit_53 : decode (iC M_T_appendBit) 53 = .ok (.iadd, 1) := by decide +kernel
theorem d_T_appendBit_54 : decode (iC M_T_appendBit) 54 = .ok (.putfield 19, 3) := by decide +kernel
theorem d_T_appendBit_57 : decode (iC M_T_appendBit) 57 = .ok (.return_, 1) := by decide +kernel
theorem d_T_rewind_0 : decode (iC M_T_rewind) 0 = .ok (.aload_n 0, 1) := by decide +kernel
theorem d_T_rewind_1 : decode (iC M_T_rewind) 1 = .ok (.aload_n 0, 1) := by decide +kernel
theorem d_T_rewind_2 : decode (iC M_T_rewind) 2 = .ok (.invokevirtual 22, 3) := by decide +kernel
theorem d_T_rewind_5 : decode (iC M_T_rewind) 5 = .ok (.invokevirtual 30, 3) := by decide +kernel
theorem d_T_rewind_8 : decode (iC M_T_rewind) 8 = .ok (.pop, 1) := by decide +kernel
theorem d_T_rewind_9 : decode (iC M_T_rewind) 9 = .ok (.aload_n 0, 1) := by decide +kernel
theorem d_T_rewind_10 : decode (iC M_T_rewind) 10 = .ok (.iconst 0, 1) := by decide +kernel
theorem d_T_rewind_11 : decode (iC M_T_rewind) 11 = .ok (.putfield 34, 3) := by decide +kernel
theorem d_T_rewind_14 : decode (iC M_T_rewind) 14 = .ok (.aload_n 0, 1) := by decide +kernel
theorem d_T_rewind_15 : decode (iC M_T_rewind) 15 = .ok (.iconst (-1), 1) := by decide +kernel
theorem d_T_rewind_16 : decode (iC M_T_rewind) 16 = .ok (.putfield 15, 3) := by decide +kernel
theorem d_T_rewind_19 : decode (iC M_T_rewind) 19 = .ok (.return_, 1) := by decide +kernel
theorem d_T_expect_0 : decode (iC M_T_expect) 0 = .ok (.iload_n 2, 1) := by decide +kernel
theorem d_T_expect_1 : decode (iC M_T_expect) 1 = .ok (.iconst 1, 1) := by decide +kernel
theorem d_T_expect_2 : decode (iC M_T_expect) 2 = .ok (.isub, 1) := by decide +kernel
theorem d_T_expect_3 : decode (iC M_T_expect) 3 = .ok (.istore_n 3, 1) := by decide +kernel
theorem d_T_expect_4 : decode (iC M_T_expect) 4 = .ok (.iload_n 3, 1) := by decide +kernel
theorem d_T_expect_5 : decode (iC M_T_expect) 5 = .ok (.ifCond .lt 31, 3) := by decide +kernel
theorem d_T_expect_8 : decode (iC M_T_expect) 8 = .ok (.aload_n 0, 1) := by decide +kernel
theorem d_T_expect_9 : decode (iC M_T_expect) 9 = .ok (.invokevirtual 40, 3) := by decide +kernel
theorem d_T_expect_12 : decode (iC M_T_expect) 12 = .ok (.iload_n 1, 1) := by decide +kernel
theorem d_T_expect_13 : decode (iC M_T_expect) 13 = .ok (.iload_n 3, 1) := by decide +kernel
theorem d_T_expect_14 : decode (iC M_T_expect) 14 = .ok (.ishr, 1) := by decide +kernel
theorem d_T_expect_15 : decode (iC M_T_expect) 15 = .ok (.iconst 1, 1) := by decide +kernel
theorem d_T_expect_16 : decode (iC M_T_expect) 16 = .ok (.iand, 1) := by decide +kernel
theorem d_T_expect_17 : decode (iC M_T_expect) 17 = .ok (.if_icmp .eq 13, 3) := by decide +kernel
theorem d_T_expect_20 : decode (iC M_T_expect) 20 = .ok (.aload_n 0, 1) := by decide +kernel
theorem d_T_expect_21 : decode (iC M_T_expect) 21 = .ok (.aload_n 0, 1) := by decide +kernel
theorem d_T_expect_22 : decode (iC M_T_expect) 22 = .ok (.getfield 34, 3) := by decide +kernel
theorem d_T_expect_25 : decode (iC M_T_expect) 25 = .ok (.iconst 1, 1) := by decide +kernel
theorem d_T_expect_26 : decode (iC M_T_expect) 26 = .ok (.isub, 1) := by decide +kernel
theorem d_T_expect_27 : decode (iC M_T_expect) 27 = .ok (.invokevirtual 47, 3) := by decide +kernel
theorem d_T_expect_30 : decode (iC M_T_expect) 30 = .ok (.iinc 3 (-1), 3) := by decide +kernel
theorem d_T_expect_33 : decode (iC M_T_expect) 33 = .ok (.goto (-29), 3) := by decide +kernel
theorem d_T_expect_36 : decode (iC M_T_expect) 36 = .ok (.return_, 1) := by decide +kernel
theorem d_T_next_0 : decode (iC M_T_next) 0 = .ok (.aload_n 0, 1) := by decide +kernel
theorem d_T_next_1 : decode (iC M_T_next) 1 = .ok (.getfield 34, 3) := by decide +kernel
theorem d_T_next_4 : decode (iC M_T_next) 4 = .ok (.aload_n 0, 1) := by decide +kernel
theorem d_T_next_5 : decode (iC M_T_next) 5 = .ok (.getfield 19, 3) := by decide +kernel
theorem d_T_next_8 : decode (iC M_T_next) 8 = .ok (.if_icmp .lt 19, 3) := by decide +kernel
theorem d_T_next_11 : decode (iC M_T_next) 11 = .ok (.aload_n 0, 1) := by decide +kernel
theorem d_T_next_12 : decode (iC M_T_next) 12 = .ok (.aload_n 0, 1) := by decide +kernel
theorem d_T_next_13 : decode (iC M_T_next) 13 = .ok (.getfield 19, 3) := by decide +kernel
theorem d_T_next_16 : decode (iC M_T_next) 16 = .ok (.putfield 15, 3) := by decide +kernel
theorem d_T_next_19 : decode (iC M_T_next) 19 = .ok (.new 37, 3) := by decide +kernel
theorem d_T_next_22 : decode (iC M_T_next) 22 = .ok (.dup, 1) := by decide +kernel
theorem d_T_next_23 : decode (iC M_T_next) 23 = .ok (.invokespecial 39, 3) := by decide +kernel
theorem d_T_next_26 : decode (iC M_T_next) 26 = .ok (.athrow, 1) := by decide +kernel
theorem d_T_next_27 : decode (iC M_T_next) 27 = .ok (.aload_n 0, 1) := by decide +kernel
theorem d_T_next_28 : decode (iC M_T_next) 28 = .ok (.getfield 11, 3) := by decide +kernel
theorem d_T_next_31 : decode (iC M_T_next) 31 = .ok (.aload_n 0, 1) := by decide +kernel
theorem d_T_next_32 : decode (iC M_T_next) 32 = .ok (.getfield 34, 3) := by decide +kernel
theorem d_T_next_35 : decode (iC M_T_next) 35 = .ok (.iconst 3, 1) := by decide +kernel
theorem d_T_next_36 : decode (iC M_T_next) 36 = .ok (.ishr, 1) := by decide +kernel
theorem d_T_next_37 : decode (iC M_T_next) 37 = .ok (.baload, 1) := by decide +kernel
theorem d_T_next_38 : decode (iC M_T_next) 38 = .ok (.bipush 7, 2) := by decide +kernel
theorem d_T_next_40 : decode (iC M_T_next) 40 = .ok (.aload_n 0, 1) := by decide +kernel
theorem d_T_next_41 : decode (iC M_T_next) 41 = .ok (.getfield 34, 3) := by decide +kernel
theorem d_T_next_44 : decode (iC M_T_next) 44 = .ok (.bipush 7, 2) := by decide +kernel
theorem d_T_next_46 : decode (iC M_T_next) 46 = .ok (.iand, 1) := by decide +kernel
theorem d_T_next_47 : decode (iC M_T_next) 47 = .ok (.isub, 1) := by decide +kernel
theorem d_T_next_48 : decode (iC M_T_next) 48 = .ok (.ishr, 1) := by decide +kernel
theorem d_T_next_49 : decode (iC M_T_next) 49 = .ok (.iconst 1, 1) := by decide +kernel
theorem d_T_next_50 : decode (iC M_T_next) 50 = .ok (.iand, 1) := by decide +kernel
theorem d_T_next_51 : decode (iC M_T_next) 51 = .ok (.istore_n 1, 1) := by decide +kernel
theorem d_T_next_52 : decode (iC M_T_next) 52 = .ok (.aload_n 0, 1) := by decide +kernel
theorem d_T_next_53 : decode (iC M_T_next) 53 = .ok (.dup, 1) := by decide +kernel
theorem d_T_next_54 : decode (iC M_T_next) 54 = .ok (.getfield 34, 3) := by decide +kernel
theorem d_T_next_57 : decode (iC M_T_next) 57 = .ok (.iconst 1, 1) := by decide +kernel
theorem d_T_next_58 : decode (iC M_T_next) 58 = .ok (.iadd, 1) := by decide +kernel
theorem d_T_next_59 : decode (iC M_T_next) 59 = .ok (.putfield 34, 3) := by decide +kernel
theorem d_T_next_62 : decode (iC M_T_next) 62 = .ok (.iload_n 1, 1) := by decide +kernel
theorem d_T_next_63 : decode (iC M_T_next) 63 = .ok (.ireturn, 1) := by decide +kernel
theorem d_T_failAt_0 : decode (iC M_T_failAt) 0 = .ok (.aload_n 0, 1) := by decide +kernel
theorem d_T_failAt_1 : decode (iC M_T_failAt) 1 = .ok (.iload_n 1, 1) := by decide +kernel
theorem d_T_failAt_2 : decode (iC M_T_failAt) 2 = .ok (.putfield 15, 3) := by decide +kernel
theorem d_T_failAt_5 : decode (iC M_T_failAt) 5 = .ok (.new 37, 3) := by decide +kernel
theorem d_T_failAt_8 : decode (iC M_T_failAt) 8 = .ok (.dup, 1) := by decide +kernel
theorem d_T_failAt_9 : decode (iC M_T_failAt) 9 = .ok (.invokespecial 39, 3) := by decide +kernel
theorem d_T_failAt_12 : decode (iC M_T_failAt) 12 = .ok (.athrow, 1) := by decide +kernel
theorem d_T_number_0 : decode (iC M_T_number) 0 = .ok (.iconst 0, 1) := by decide +kernel
theorem d_T_number_1 : decode (iC M_T_number) 1 = .ok (.istore_n 2, 1) := by decide +kernel
theorem d_T_number_2 : decode (iC M_T_number) 2 = .ok (.iconst 0, 1) := by decide +kernel
theorem d_T_number_3 : decode (iC M_T_number) 3 = .ok (.istore_n 3, 1) := by decide +kernel
theorem d_T_number_4 : decode (iC M_T_number) 4 = .ok (.iload_n 3, 1) := by decide +kernel
theorem d_T_number_5 : decode (iC M_T_number) 5 = .ok (.iload_n 1, 1) := by decide +kernel
theorem d_T_number_6 : decode (iC M_T_number) 6 = .ok (.if_icmp .ge 18, 3) := by decide +kernel
theorem d_T_number_9 : decode (iC M_T_number) 9 = .ok (.iconst 2, 1) := by decide +kernel
theorem d_T_number_10 : decode (iC M_T_number) 10 = .ok (.iload_n 2, 1) := by decide +kernel
theorem d_T_number_11 : decode (iC M_T_number) 11 = .ok (.imul, 1) := by decide +kernel
theorem d_T_number_12 : decode (iC M_T_number) 12 = .ok (.aload_n 0, 1) := by decide +kernel
theorem d_T_number_13 : decode (iC M_T_number) 13 = .ok (.invokevirtual 40, 3) := by decide +kernel
theorem d_T_number_16 : decode (iC M_T_number) 16 = .ok (.iadd, 1) := by decide +kernel
theorem d_T_number_17 : decode (iC M_T_number) 17 = .ok (.istore_n 2, 1) := by decide +kernel
theorem d_T_number_18 : decode (iC M_T_number) 18 = .ok (.iinc 3 1, 3) := by decide +kernel
theorem d_T_number_21 : decode (iC M_T_number) 21 = .ok (.goto (-17), 3) := by decide +kernel
theorem d_T_number_24 : decode (iC M_T_number) 24 = .ok (.iload_n 2, 1) := by decide +kernel
theorem d_T_number_25 : decode (iC M_T_number) 25 = .ok (.ireturn, 1) := by decide +kernel
theorem d_T_align_0 : decode (iC M_T_align) 0 = .ok (.aload_n 0, 1) := by decide +kernel
theorem d_T_align_1 : decode (iC M_T_align) 1 = .ok (.iconst 0, 1) := by decide +kernel
theorem d_T_align_2 : decode (iC M_T_align) 2 = .ok (.aload_n 0, 1) := by decide +kernel
theorem d_T_align_3 : decode (iC M_T_align) 3 = .ok (.getfield 34, 3) := by decide +kernel
theorem d_T_align_6 : decode (iC M_T_align) 6 = .ok (.ineg, 1) := by decide +kernel
theorem d_T_align_7 : decode (iC M_T_align) 7 = .ok (.bipush 7, 2) := by decide +kernel
theorem d_T_align_9 : decode (iC M_T_align) 9 = .ok (.iand, 1) := by decide +kernel
theorem d_T_align_10 : decode (iC M_T_align) 10 = .ok (.invokevirtual 50, 3) := by decide +kernel
theorem d_T_align_13 : decode (iC M_T_align) 13 = .ok (.return_, 1) := by decide +kernel
theorem d_T_nonZero_0 : decode (iC M_T_nonZero) 0 = .ok (.aload_n 0, 1) := by decide +kernel
theorem d_T_nonZero_1 : decode (iC M_T_nonZero) 1 = .ok (.iload_n 1, 1) := by decide +kernel
theorem d_T_nonZero_2 : decode (iC M_T_nonZero) 2 = .ok (.invokevirtual 43, 3) := by decide +kernel
theorem d_T_nonZero_5 : decode (iC M_T_nonZero) 5 = .ok (.istore_n 2, 1) := by decide +kernel
theorem d_T_nonZero_6 : decode (iC M_T_nonZero) 6 = .ok (.iload_n 2, 1) := by decide +kernel
theorem d_T_nonZero_7 : decode (iC M_T_nonZero) 7 = .ok (.ifCond .ne 13, 3) := by decide +kernel
theorem d_T_nonZero_10 : decode (iC M_T_nonZero) 10 = .ok (.aload_n 0, 1) := by decide +kernel
theorem d_T_nonZero_11 : decode (iC M_T_nonZero) 11 = .ok (.aload_n 0, 1) := by decide +kernel
theorem d_T_nonZero_12 : decode (iC M_T_nonZero) 12 = .ok (.getfield 34, 3) := by decide +kernel
theorem d_T_nonZero_15 : decode (iC M_T_nonZero) 15 = .ok (.iconst 1, 1) := by decide +kernel
theorem d_T_nonZero_16 : decode (iC M_T_nonZero) 16 = .ok (.isub, 1) := by decide +kernel
theorem d_T_nonZero_17 : decode (iC M_T_nonZero) 17 = .ok (.invokevirtual 47, 3) := by decide +kernel
theorem d_T_nonZero_20 : decode (iC M_T_nonZero) 20 = .ok (.iload_n 2, 1) := by decide +kernel
theorem d_T_nonZero_21 : decode (iC M_T_nonZero) 21 = .ok (.ireturn, 1) := by decide +kernel
theorem d_T_unsigned_0 : decode (iC M_T_unsigned) 0 = .ok (.aload_n 0, 1) := by decide +kernel
theorem d_T_unsigned_1 : decode (iC M_T_unsigned) 1 = .ok (.getfield 34, 3) := by decide +kernel
theorem d_T_unsigned_4 : decode (iC M_T_unsigned) 4 = .ok (.istore_n 2, 1) := by decide +kernel
theorem d_T_unsigned_5 : decode (iC M_T_unsigned) 5 = .ok (.iconst 0, 1) := by decide +kernel
theorem d_T_unsigned_6 : decode (iC M_T_unsigned) 6 = .ok (.istore_n 3, 1) := by decide +kernel
theorem d_T_unsigned_7 : decode (iC M_T_unsigned) 7 = .ok (.iload_n 3, 1) := by decide +kernel
theorem d_T_unsigned_8 : decode (iC M_T_unsigned) 8 = .ok (.bipush 20, 2) := by decide +kernel
theorem d_T_unsigned_10 : decode (iC M_T_unsigned) 10 = .ok (.if_icmp .gt 16, 3) := by decide +kernel
theorem d_T_unsigned_13 : decode (iC M_T_unsigned) 13 = .ok (.aload_n 0, 1) := by decide +kernel
theorem d_T_unsigned_14 : decode (iC M_T_unsigned) 14 = .ok (.invokevirtual 40, 3) := by decide +kernel
theorem d_T_unsigned_17 : decode (iC M_T_unsigned) 17 = .ok (.ifCond .ne 9, 3) := by decide +kernel
theorem d_T_unsigned_20 : decode (iC M_T_unsigned) 20 = .ok (.iinc 3 1, 3) := by decide +kernel
theorem d_T_unsigned_23 : decode (iC M_T_unsigned) 23 = .ok (.goto (-16), 3) := by decide +kernel
theorem d_T_unsigned_26 : decode (iC M_T_unsigned) 26 = .ok (.iload_n 3, 1) := by decide +kernel
theorem d_T_unsigned_27 : decode (iC M_T_unsigned) 27 = .ok (.bipush 20, 2) := by decide +kernel
theorem d_T_unsigned_29 : decode (iC M_T_unsigned) 29 = .ok (.if_icmp .le 13, 3) := by decide +kernel
theorem d_T_unsigned_32 : decode (iC M_T_unsigned) 32 = .ok (.aload_n 0, 1) := by decide +kernel
theorem d_T_unsigned_33 : decode (iC M_T_unsigned) 33 = .ok (.aload_n 0, 1) := by decide +kernel
theorem d_T_unsigned_34 : decode (iC M_T_unsigned) 34 = .ok (.getfield 34, 3) := by decide +kernel
theorem d_T_unsigned_37 : decode (iC M_T_unsigned) 37 = .ok (.iconst 1, 1) := by decide +kernel
theorem d_T_unsigned_38 : decode (iC M_T_unsigned) 38 = .ok (.isub, 1) := by decide +kernel
theorem d_T_unsigned_39 : decode (iC M_T_unsigned) 39 = .ok (.invokevirtual 47, 3) := by decide +kernel
theorem d_T_unsigned_42 : decode (iC M_T_unsigned) 42 = .ok (.iconst 0, 1) := by decide +kernel
theorem d_T_unsigned_43 : decode (iC M_T_unsigned) 43 = .ok (.istore 4, 2) := by decide +kernel
theorem d_T_unsigned_45 : decode (iC M_T_unsigned) 45 = .ok (.iconst 0, 1) := by decide +kernel
theorem d_T_unsigned_46 : decode (iC M_T_unsigned) 46 = .ok (.istore 5, 2) := by decide +kernel
theorem d_T_unsigned_48 : decode (iC M_T_unsigned) 48 = .ok (.iload 5, 2) := by decide +kernel
theorem d_T_unsigned_50 : decode (iC M_T_unsigned) 50 = .ok (.iload_n 3, 1) := by decide +kernel
theorem d_T_unsigned_51 : decode (iC M_T_unsigned) 51 = .ok (.if_icmp .ge 20, 3) := by decide +kernel
theorem d_T_unsigned_54 : decode (iC M_T_unsigned) 54 = .ok (.iconst 2, 1) := by decide +kernel
theorem d_T_unsigned_55 : decode (iC M_T_unsigned) 55 = .ok (.iload 4, 2) := by decide +kernel
theorem d_T_unsigned_57 : decode (iC M_T_unsigned) 57 = .ok (.imul, 1) := by decide +kernel
theorem d_T_unsigned_58 : decode (iC M_T_unsigned) 58 = .ok (.aload_n 0, 1) := by decide +kernel
theorem d_T_unsigned_59 : decode (iC M_T_unsigned) 59 = .ok (.invokevirtual 40, 3) := by decide +kernel
theorem d_T_unsigned_62 : decode (iC M_T_unsigned) 62 = .ok (.iadd, 1) := by decide +kernel
theorem d_T_unsigned_63 : decode (iC M_T_unsigned) 63 = .ok (.istore 4, 2) := by decide +kernel
theorem d_T_unsigned_65 : decode (iC M_T_unsigned) 65 = .ok (.iinc 5 1, 3) := by decide +kernel
theorem d_T_unsigned_68 : decode (iC M_T_unsigned) 68 = .ok (.goto (-20), 3) := by decide +kernel
theorem d_T_unsigned_71 : decode (iC M_T_unsigned) 71 = .ok (.iconst 1, 1) := by decide +kernel
theorem d_T_unsigned_72 : decode (iC M_T_unsigned) 72 = .ok (.iload_n 3, 1) := by decide +kernel
theorem d_T_unsigned_73 : decode (iC M_T_unsigned) 73 = .ok (.ishl, 1) := by decide +kernel
theorem d_T_unsigned_74 : decode (iC M_T_unsigned) 74 = .ok (.iconst 1, 1) := by decide +kernel
theorem d_T_unsigned_75 : decode (iC M_T_unsigned) 75 = .ok (.isub, 1) := by decide +kernel
theorem d_T_unsigned_76 : decode (iC M_T_unsigned) 76 = .ok (.iload 4, 2) := by decide +kernel
theorem d_T_unsigned_78 : decode (iC M_T_unsigned) 78 = .ok (.iadd, 1) := by decide +kernel
theorem d_T_unsigned_79 : decode (iC M_T_unsigned) 79 = .ok (.istore 5, 2) := by decide +kernel
theorem d_T_unsigned_81 : decode (iC M_T_unsigned) 81 = .ok (.iload 5, 2) := by decide +kernel
theorem d_T_unsigned_83 : decode (iC M_T_unsigned) 83 = .ok (.iload_n 1, 1) := by decide +kernel
theorem d_T_unsigned_84 : decode (iC M_T_unsigned) 84 = .ok (.if_icmp .le 8, 3) := by decide +kernel
theorem d_T_unsigned_87 : decode (iC M_T_unsigned) 87 = .ok (.aload_n 0, 1) := by decide +kernel
theorem d_T_unsigned_88 : decode (iC M_T_unsigned) 88 = .ok (.iload_n 2, 1) := by decide +kernel
theorem d_T_unsigned_89 : decode (iC M_T_unsigned) 89 = .ok (.invokevirtual 47, 3) := by decide +kernel
theorem d_T_unsigned_92 : decode (iC M_T_unsigned) 92 = .ok (.iload 5, 2) := by decide +kernel
theorem d_T_unsigned_94 : decode (iC M_T_unsigned) 94 = .ok (.ireturn, 1) := by decide +kernel
theorem d_T_signed_0 : decode (iC M_T_signed) 0 = .ok (.aload_n 0, 1) := by decide +kernel
theorem d_T_signed_1 : decode (iC M_T_signed) 1 = .ok (.getfield 34, 3) := by decide +kernel
theorem d_T_signed_4 : decode (iC M_T_signed) 4 = .ok (.istore_n 3, 1) := by decide +kernel
theorem d_T_signed_5 : decode (iC M_T_signed) 5 = .ok (.aload_n 0, 1) := by decide +kernel
theorem d_T_signed_6 : decode (iC M_T_signed) 6 = .ok (.ldc 54, 2) := by decide +kernel
theorem d_T_signed_8 : decode (iC M_T_signed) 8 = .ok (.invokevirtual 55, 3) := by decide +kernel
theorem d_T_signed_11 : decode (iC M_T_signed) 11 = .ok (.istore 4, 2) := by decide +kernel
theorem d_T_signed_13 : decode (iC M_T_signed) 13 = .ok (.iload 4, 2) := by decide +kernel
theorem d_T_signed_15 : decode (iC M_T_signed) 15 = .ok (.iconst 1, 1) := by decide +kernel
theorem d_T_signed_16 : decode (iC M_T_signed) 16 = .ok (.iand, 1) := by decide +kernel
theorem d_T_signed_17 : decode (iC M_T_signed) 17 = .ok (.iconst 1, 1) := by decide +kernel
theorem d_T_signed_18 : decode (iC M_T_signed) 18 = .ok (.if_icmp .ne 12, 3) := by decide +kernel
theorem d_T_signed_21 : decode (iC M_T_signed) 21 = .ok (.iload 4, 2) := by decide +kernel
theorem d_T_signed_23 : decode (iC M_T_signed) 23 = .ok (.iconst 1, 1) := by decide +kernel
theorem d_T_signed_24 : decode (iC M_T_signed) 24 = .ok (.iadd, 1) := by decide +kernel
theorem d_T_signed_25 : decode (iC M_T_signed) 25 = .ok (.iconst 2, 1) := by decide +kernel
theorem d_T_signed_26 : decode (iC M_T_signed) 26 = .ok (.idiv, 1) := by decide +kernel
theorem d_T_signed_27 : decode (iC M_T_signed) 27 = .ok (.goto 8, 3) := by decide +kernel
theorem d_T_signed_30 : decode (iC M_T_signed) 30 = .ok (.iload 4, 2) := by decide +kernel
theorem d_T_signed_32 : decode (iC M_T_signed) 32 = .ok (.iconst 2, 1) := by decide +kernel
theorem d_T_signed_33 : decode (iC M_T_signed) 33 = .ok (.idiv, 1) := by decide +kernel
theorem d_T_signed_34 : decode (iC M_T_signed) 34 = .ok (.ineg, 1) := by decide +kernel
theorem d_T_signed_35 : decode (iC M_T_signed) 35 = .ok (.istore 5, 2) := by decide +kernel
theorem d_T_signed_37 : decode (iC M_T_signed) 37 = .ok (.iload 5, 2) := by decide +kernel
theorem d_T_signed_39 : decode (iC M_T_signed) 39 = .ok (.iload_n 1, 1) := by decide +kernel
theorem d_T_signed_40 : decode (iC M_T_signed) 40 = .ok (.if_icmp .lt 9, 3) := by decide +kernel
theorem d_T_signed_43 : decode (iC M_T_signed) 43 = .ok (.iload 5, 2) := by decide +kernel
theorem d_T_signed_45 : decode (iC M_T_signed) 45 = .ok (.iload_n 2, 1) := by decide +kernel
theorem d_T_signed_46 : decode (iC M_T_signed) 46 = .ok (.if_icmp .le 8, 3) := by decide +kernel
theorem d_T_signed_49 : decode (iC M_T_signed) 49 = .ok (.aload_n 0, 1) := by decide +kernel
theorem d_T_signed_50 : decode (iC M_T_signed) 50 = .ok (.iload_n 3, 1) := by decide +kernel
theorem d_T_signed_51 : decode (iC M_T_signed) 51 = .ok (.invokevirtual 47, 3) := by decide +kernel
theorem d_T_signed_54 : decode (iC M_T_signed) 54 = .ok (.iload 5, 2) := by decide +kernel
theorem d_T_signed_56 : decode (iC M_T_signed) 56 = .ok (.ireturn, 1) := by decide +kernel
end
section
theorem d_P_init_0 : decode (iC M_P_init) 0 = .ok (.aload_n 0, 1) := by decide +kernel
theorem d_P_init_1 : decode (iC M_P_init) 1 = .ok (.invokespecial 1, 3) := by decide +kernel
theorem d_P_init_4 : decode (iC M_P_init) 4 = .ok (.aload_n 0, 1) := by decide +kernel
theorem d_P_init_5 : decode (iC M_P_init) 5 = .ok (.iconst 3, 1) := by decide +kernel
theorem d_P_init_6 : decode (iC M_P_init) 6 = .ok (.anewarray 7, 3) := by decide +kernel
theorem d_P_init_9 : decode (iC M_P_init) 9 = .ok (.dup, 1) := by decide +kernel
theorem d_P_init_10 : decode (iC M_P_init) 10 = .ok (.iconst 0, 1) := by decide +kernel
theorem d_P_init_11 : decode (iC M_P_init) 11 = .ok (.new 7, 3) := by decide +kernel
theorem d_P_init_14 : decode (iC M_P_init) 14 = .ok (.dup, 1) := by decide +kernel
theorem d_P_init_15 : decode (iC M_P_init) 15 = .ok (.bipush 16, 2) := by decide +kernel
theorem d_P_init_17 : decode (iC M_P_init) 17 = .ok (.invokespecial 9, 3) := by decide +kernel
theorem d_P_init_20 : decode (iC M_P_init) 20 = .ok (.aastore, 1) := by decide +kernel
theorem d_P_init_21 : decode (iC M_P_init) 21 = .ok (.dup, 1) := by decide +kernel
theorem d_P_init_22 : decode (iC M_P_init) 22 = .ok (.iconst 1, 1) := by decide +kernel
theorem d_P_init_23 : decode (iC M_P_init) 23 = .ok (.new 7, 3) := by decide +kernel
theorem d_P_init_26 : decode (iC M_P_init) 26 = .ok (.dup, 1) := by decide +kernel
theorem d_P_init_27 : decode (iC M_P_init) 27 = .ok (.bipush 8, 2) := by decide +kernel
theorem d_P_init_29 : decode (iC M_P_init) 29 = .ok (.invokespecial 9, 3) := by decide +kernel
theorem d_P_init_32 : decode (iC M_P_init) 32 = .ok (.aastore, 1) := by decide +kernel
theorem d_P_init_33 : decode (iC M_P_init) 33 = .ok (.dup, 1) := by decide +kernel
theorem d_P_init_34 : decode (iC M_P_init) 34 = .ok (.iconst 2, 1) := by decide +kernel
theorem d_P_init_35 : decode (iC M_P_init) 35 = .ok (.new 7, 3) := by decide +kernel
theorem d_P_init_38 : decode (iC M_P_init) 38 = .ok (.dup, 1) := by decide +kernel
theorem d_P_init_39 : decode (iC M_P_init) 39 = .ok (.bipush 8, 2) := by decide +kernel
theorem d_P_init_41 : decode (iC M_P_init) 41 = .ok (.invokespecial 9, 3) := by decide +kernel
theorem d_P_init_44 : decode (iC M_P_init) 44 = .ok (.aastore, 1) := by decide +kernel
theorem d_P_init_45 : decode (iC M_P_init) 45 = .ok (.putfield 12, 3) := by decide +kernel
theorem d_P_init_48 : decode (iC M_P_init) 48 = .ok (.aload_n 0, 1) := by decide +kernel
theorem d_P_init_49 : decode (iC M_P_init) 49 = .ok (.iconst 4, 1) := by decide +kernel
theorem d_P_init_50 : decode (iC M_P_init) 50 = .ok (.newarray .int, 2) := by decide +kernel
theorem d_P_init_52 : decode (iC M_P_init) 52 = .ok (.putfield 18, 3) := by decide +kernel
theorem d_P_init_55 : decode (iC M_P_init) 55 = .ok (.return_, 1) := by decide +kernel
theorem d_L_init_0 : decode (iC M_L_init) 0 = .ok (.aload_n 0, 1) := by decide +kernel
theorem d_L_init_1 : decode (iC M_L_init) 1 = .ok (.invokespecial 3, 3) := by decide +kernel
theorem d_L_init_4 : decode (iC M_L_init) 4 = .ok (.aload_n 0, 1) := by decide +kernel
theorem d_L_init_5 : decode (iC M_L_init) 5 = .ok (.iconst 0, 1) := by decide +kernel
theorem d_L_init_6 : decode (iC M_L_init) 6 = .ok (.newarray .int, 2) := by decide +kernel
theorem d_L_init_8 : decode (iC M_L_init) 8 = .ok (.putfield 9, 3) := by decide +kernel
theorem d_L_init_11 : decode (iC M_L_init) 11 = .ok (.aload_n 0, 1) := by decide +kernel
theorem d_L_init_12 : decode (iC M_L_init) 12 = .ok (.iload_n 1, 1) := by decide +kernel
theorem d_L_init_13 : decode (iC M_L_init) 13 = .ok (.putfield 15, 3) := by decide +kernel
theorem d_L_init_16 : decode (iC M_L_init) 16 = .ok (.return_, 1) := by decide +kernel
theorem d_P_resize_0 : decode (iC M_P_resize) 0 = .ok (.iconst 0, 1) := by decide +kernel
theorem d_P_resize_1 : decode (iC M_P_resize) 1 = .ok (.istore_n 3, 1) := by decide +kernel
theorem d_P_resize_2 : decode (iC M_P_resize) 2 = .ok (.iload_n 3, 1) := by decide +kernel
theorem d_P_resize_3 : decode (iC M_P_resize) 3 = .ok (.aload_n 0, 1) := by decide +kernel
theorem d_P_resize_4 : decode (iC M_P_resize) 4 = .ok (.getfield 12, 3) := by decide +kernel
theorem d_P_resize_7 : decode (iC M_P_resize) 7 = .ok (.arraylength, 1) := by decide +kernel
theorem d_P_resize_8 : decode (iC M_P_resize) 8 = .ok (.if_icmp .ge 20, 3) := by decide +kernel
theorem d_P_resize_11 : decode (iC M_P_resize) 11 = .ok (.aload_n 0, 1) := by decide +kernel
theorem d_P_resize_12 : decode (iC M_P_resize) 12 = .ok (.getfield 12, 3) := by decide +kernel
theorem d_P_resize_15 : decode (iC M_P_resize) 15 = .ok (.iload_n 3, 1) := by decide +kernel
theorem d_P_resize_16 : decode (iC M_P_resize) 16 = .ok (.aaload, 1) := by decide +kernel
theorem d_P_resize_17 : decode (iC M_P_resize) 17 = .ok (.iload_n 1, 1) := by decide +kernel
theorem d_P_resize_18 : decode (iC M_P_resize) 18 = .ok (.iload_n 2, 1) := by decide +kernel
theorem d_P_resize_19 : decode (iC M_P_resize) 19 = .ok (.invokevirtual 22, 3) := by decide +kernel
theorem d_P_resize_22 : decode (iC M_P_resize) 22 = .ok (.iinc 3 1, 3) := by decide +kernel
theorem d_P_resize_25 : decode (iC M_P_resize) 25 = .ok (.goto (-23), 3) := by decide +kernel
theorem d_P_resize_28 : decode (iC M_P_resize) 28 = .ok (.return_, 1) := by decide +kernel
theorem d_L_resize_0 : decode (iC M_L_resize) 0 = .ok (.aload_n 0, 1) := by decide +kernel
theorem d_L_resize_1 : decode (iC M_L_resize) 1 = .ok (.aload_n 0, 1) := by decide +kernel
theorem d_L_resize_2 : decode (iC M_L_resize) 2 = .ok (.getfield 15, 3) := by decide +kernel
theorem d_L_resize_5 : decode (iC M_L_resize) 5 = .ok (.iload_n 1, 1) := by decide +kernel
theorem d_L_resize_6 : decode (iC M_L_resize) 6 = .ok (.imul, 1) := by decide +kernel
theorem d_L_resize_7 : decode (iC M_L_resize) 7 = .ok (.putfield 19, 3) := by decide +kernel
theorem d_L_resize_10 : decode (iC M_L_resize) 10 = .ok (.aload_n 0, 1) := by decide +kernel
theorem d_L_resize_11 : decode (iC M_L_resize) 11 = .ok (.aload_n 0, 1) := by decide +kernel
theorem d_L_resize_12 : decode (iC M_L_resize) 12 = .ok (.getfield 15, 3) := by decide +kernel
theorem d_L_resize_15 : decode (iC M_L_resize) 15 = .ok (.iload_n 2, 1) := by decide +kernel
theorem d_L_resize_16 : decode (iC M_L_resize) 16 = .ok (.imul, 1) := by decide +kernel
theorem d_L_resize_17 : decode (iC M_L_resize) 17 = .ok (.putfield 22, 3) := by decide +kernel
theorem d_L_resize_20 : decode (iC M_L_resize) 20 = .ok (.aload_n 0, 1) := by decide +kernel
theorem d_L_resize_21 : decode (iC M_L_resize) 21 = .ok (.getfield 9, 3) := by decide +kernel
theorem d_L_resize_24 : decode (iC M_L_resize) 24 = .ok (.arraylength, 1) := by decide +kernel
theorem d_L_resize_25 : decode (iC M_L_resize) 25 = .ok (.aload_n 0, 1) := by decide +kernel
theorem d_L_resize_26 : decode (iC M_L_resize) 26 = .ok (.getfield 19, 3) := by decide +kernel
theorem d_L_resize_29 : decode (iC M_L_resize) 29 = .ok (.aload_n 0, 1) := by decide +kernel
theorem d_L_resize_30 : decode (iC M_L_resize) 30 = .ok (.getfield 22, 3) := by decide +kernel
theorem d_L_resize_33 : decode (iC M_L_resize) 33 = .ok (.imul, 1) := by decide +kernel
theorem d_L_resize_34 : decode (iC M_L_resize) 34 = .ok (.if_icmp .ge 18, 3) := by decide +kernel
theorem d_L_resize_37 : decode (iC M_L_resize) 37 = .ok (.aload_n 0, 1) := by decide +kernel
theorem d_L_resize_38 : decode (iC M_L_resize) 38 = .ok (.aload_n 0, 1) := by decide +kernel
theorem d_L_resize_39 : decode (iC M_L_resize) 39 = .ok (.getfield 19, 3) := by decide +kernel
theorem d_L_resize_42 : decode (iC M_L_resize) 42 = .ok (.aload_n 0, 1) := by decide +kernel
theorem d_L_resize_43 : decode (iC M_L_resize) 43 = .ok (.getfield 22, 3) := by decide +kernel
theorem d_L_resize_46 : decode (iC M_L_resize) 46 = .ok (.imul, 1) := by decide +kernel
theorem d_L_resize_47 : decode (iC M_L_resize) 47 = .ok (.newarray .int, 2) := by decide +kernel
theorem d_L_resize_49 : decode (iC M_L_resize) 49 = .ok (.putfield 9, 3) := by decide +kernel
theorem d_L_resize_52 : decode (iC M_L_resize) 52 = .ok (.return_, 1) := by decide +kernel
theorem d_L_foretell_0 : decode (iC M_L_foretell) 0 = .ok (.aload_n 0, 1) := by decide +kernel
theorem d_L_foretell_1 : decode (iC M_L_foretell) 1 = .ok (.getfield 15, 3) := by decide +kernel
theorem d_L_foretell_4 : decode (iC M_L_foretell) 4 = .ok (.bipush 16, 2) := by decide +kernel
theorem d_L_foretell_6 : decode (iC M_L_foretell) 6 = .ok (.if_icmp .ne 10, 3) := by decide +kernel
theorem d_L_foretell_9 : decode (iC M_L_foretell) 9 = .ok (.aload 4, 2) := by decide +kernel
theorem d_L_foretell_11 : decode (iC M_L_foretell) 11 = .ok (.iconst 0, 1) := by decide +kernel
theorem d_L_foretell_12 : decode (iC M_L_foretell) 12 = .ok (.iaload, 1) := by decide +kernel
theorem d_L_foretell_13 : decode (iC M_L_foretell) 13 = .ok (.goto 9, 3) := by decide +kernel
theorem d_L_foretell_16 : decode (iC M_L_foretell) 16 = .ok (.aload 4, 2) := by decide +kernel
theorem d_L_foretell_18 : decode (iC M_L_foretell) 18 = .ok (.iconst 0, 1) := by decide +kernel
theorem d_L_foretell_19 : decode (iC M_L_foretell) 19 = .ok (.iaload, 1) := by decide +kernel
theorem d_L_foretell_20 : decode (iC M_L_foretell) 20 = .ok (.iconst 2, 1) := by decide +kernel
theorem d_L_foretell_21 : decode (iC M_L_foretell) 21 = .ok (.idiv, 1) := by decide +kernel
theorem d_L_foretell_22 : decode (iC M_L_foretell) 22 = .ok (.istore 6, 2) := by decide +kernel
theorem d_L_foretell_24 : decode (iC M_L_foretell) 24 = .ok (.aload_n 0, 1) := by decide +kernel
theorem d_L_foretell_25 : decode (iC M_L_foretell) 25 = .ok (.getfield 15, 3) := by decide +kernel
theorem d_L_foretell_28 : decode (iC M_L_foretell) 28 = .ok (.bipush 16, 2) := by decide +kernel
theorem d_L_foretell_30 : decode (iC M_L_foretell) 30 = .ok (.if_icmp .ne 10, 3) := by decide +kernel
theorem d_L_foretell_33 : decode (iC M_L_foretell) 33 = .ok (.aload 4, 2) := by decide +kernel
theorem d_L_foretell_35 : decode (iC M_L_foretell) 35 = .ok (.iconst 1, 1) := by decide +kernel
theorem d_L_foretell_36 : decode (iC M_L_foretell) 36 = .ok (.iaload, 1) := by decide +kernel
theorem d_L_foretell_37 : decode (iC M_L_foretell) 37 = .ok (.goto 9, 3) := by decide +kernel
theorem d_L_foretell_40 : decode (iC M_L_foretell) 40 = .ok (.aload 4, 2) := by decide +kernel
theorem d_L_foretell_42 : decode (iC M_L_foretell) 42 = .ok (.iconst 1, 1) := by decide +kernel
theorem d_L_foretell_43 : decode (iC M_L_foretell) 43 = .ok (.iaload, 1) := by decide +kernel
theorem d_L_foretell_44 : decode (iC M_L_foretell) 44 = .ok (.iconst 2, 1) := by decide +kernel
theorem d_L_foretell_45 : decode (iC M_L_foretell) 45 = .ok (.idiv, 1) := by decide +kernel
theorem d_L_foretell_46 : decode (iC M_L_foretell) 46 = .ok (.istore 7, 2) := by decide +kernel
theorem d_L_foretell_48 : decode (iC M_L_foretell) 48 = .ok (.aload_n 0, 1) := by decide +kernel
theorem d_L_foretell_49 : decode (iC M_L_foretell) 49 = .ok (.getfield 15, 3) := by decide +kernel
theorem d_L_foretell_52 : decode (iC M_L_foretell) 52 = .ok (.iload_n 2, 1) := by decide +kernel
theorem d_L_foretell_53 : decode (iC M_L_foretell) 53 = .ok (.imul, 1) := by decide +kernel
theorem d_L_foretell_54 : decode (iC M_L_foretell) 54 = .ok (.istore 8, 2) := by decide +kernel
theorem d_L_foretell_56 : decode (iC M_L_foretell) 56 = .ok (.aload_n 0, 1) := by decide +kernel
theorem d_L_foretell_57 : decode (iC M_L_foretell) 57 = .ok (.getfield 15, 3) := by decide +kernel
theorem d_L_foretell_60 : decode (iC M_L_foretell) 60 = .ok (.iload_n 3, 1) := by decide +kernel
theorem d_L_foretell_61 : decode (iC M_L_foretell) 61 = .ok (.imul, 1) := by decide +kernel
theorem d_L_foretell_62 : decode (iC M_L_foretell) 62 = .ok (.istore 9, 2) := by decide +kernel
theorem d_L_foretell_64 : decode (iC M_L_foretell) 64 = .ok (.iload 9, 2) := by decide +kernel
theorem d_L_foretell_66 : decode (iC M_L_foretell) 66 = .ok (.istore 10, 2) := by decide +kernel
theorem d_L_foretell_68 : decode (iC M_L_foretell) 68 = .ok (.iload 10, 2) := by decide +kernel
theorem d_L_foretell_70 : decode (iC M_L_foretell) 70 = .ok (.iload 9, 2) := by decide +kernel
theorem d_L_foretell_72 : decode (iC M_L_foretell) 72 = .ok (.aload_n 0, 1) := by decide +kernel
theorem d_L_foretell_73 : decode (iC M_L_foretell) 73 = .ok (.getfield 15, 3) := by decide +kernel
theorem d_L_foretell_76 : decode (iC M_L_foretell) 76 = .ok (.iadd, 1) := by decide +kernel
theorem d_L_foretell_77 : decode (iC M_L_foretell) 77 = .ok (.if_icmp .ge 81, 3) := by decide +kernel
theorem d_L_foretell_80 : decode (iC M_L_foretell) 80 = .ok (.iload 10, 2) := by decide +kernel
theorem d_L_foretell_82 : decode (iC M_L_foretell) 82 = .ok (.aload_n 0, 1) := by decide +kernel
theorem d_L_foretell_83 : decode (iC M_L_foretell) 83 = .ok (.getfield 19, 3) := by decide +kernel
theorem d_L_foretell_86 : decode (iC M_L_foretell) 86 = .ok (.imul, 1) := by decide +kernel
theorem d_L_foretell_87 : decode (iC M_L_foretell) 87 = .ok (.iload 8, 2) := by decide +kernel
theorem d_L_foretell_89 : decode (iC M_L_foretell) 89 = .ok (.iadd, 1) := by decide +kernel
theorem d_L_foretell_90 : decode (iC M_L_foretell) 90 = .ok (.istore 11, 2) := by decide +kernel
theorem d_L_foretell_92 : decode (iC M_L_foretell) 92 = .ok (.iload 6, 2) := by decide +kernel
theorem d_L_foretell_94 : decode (iC M_L_foretell) 94 = .ok (.ifCond .ne 35, 3) := by decide +kernel
theorem d_L_foretell_97 : decode (iC M_L_foretell) 97 = .ok (.iload 7, 2) := by decide +kernel
theorem d_L_foretell_99 : decode (iC M_L_foretell) 99 = .ok (.ifCond .ne 30, 3) := by decide +kernel
theorem d_L_foretell_102 : decode (iC M_L_foretell) 102 = .ok (.iload 5, 2) := by decide +kernel
theorem d_L_foretell_104 : decode (iC M_L_foretell) 104 = .ok (.ifCond .ne 25, 3) := by decide +kernel
theorem d_L_foretell_107 : decode (iC M_L_foretell) 107 = .ok (.aload_n 1, 1) := by decide +kernel
theorem d_L_foretell_108 : decode (iC M_L_foretell) 108 = .ok (.getfield 9, 3) := by decide +kernel
theorem d_L_foretell_111 : decode (iC M_L_foretell) 111 = .ok (.iload 11, 2) := by decide +kernel
theorem d_L_foretell_113 : decode (iC M_L_foretell) 113 = .ok (.aload_n 0, 1) := by decide +kernel
theorem d_L_foretell_114 : decode (iC M_L_foretell) 114 = .ok (.getfield 9, 3) := by decide +kernel
theorem d_L_foretell_117 : decode (iC M_L_foretell) 117 = .ok (.iload 11, 2) := by decide +kernel
theorem d_L_foretell_119 : decode (iC M_L_foretell) 119 = .ok (.aload_n 0, 1) := by decide +kernel
theorem d_L_foretell_120 : decode (iC M_L_foretell) 120 = .ok (.getfield 15, 3) := by decide +kernel
theorem d_L_foretell_123 : decode (iC M_L_foretell) 123 = .ok (.invokestatic 25, 3) := by decide +kernel
theorem d_L_foretell_126 : decode (iC M_L_foretell) 126 = .ok (.goto 26, 3) := by decide +kernel
theorem d_L_foretell_129 : decode (iC M_L_foretell) 129 = .ok (.aload_n 0, 1) := by decide +kernel
theorem d_L_foretell_130 : decode (iC M_L_foretell) 130 = .ok (.aload_n 1, 1) := by decide +kernel
theorem d_L_foretell_131 : decode (iC M_L_foretell) 131 = .ok (.iload 11, 2) := by decide +kernel
theorem d_L_foretell_133 : decode (iC M_L_foretell) 133 = .ok (.iconst 2, 1) := by decide +kernel
theorem d_L_foretell_134 : decode (iC M_L_foretell) 134 = .ok (.iload 8, 2) := by decide +kernel
theorem d_L_foretell_136 : decode (iC M_L_foretell) 136 = .ok (.imul, 1) := by decide +kernel
theorem d_L_foretell_137 : decode (iC M_L_foretell) 137 = .ok (.iload 6, 2) := by decide +kernel
theorem d_L_foretell_139 : decode (iC M_L_foretell) 139 = .ok (.iadd, 1) := by decide +kernel
theorem d_L_foretell_140 : decode (iC M_L_foretell) 140 = .ok (.iconst 2, 1) := by decide +kernel
theorem d_L_foretell_141 : decode (iC M_L_foretell) 141 = .ok (.iload 10, 2) := by decide +kernel
theorem d_L_foretell_143 : decode (iC M_L_foretell) 143 = .ok (.imul, 1) := by decide +kernel
theorem d_L_foretell_144 : decode (iC M_L_foretell) 144 = .ok (.iload 7, 2) := by decide +kernel
theorem d_L_foretell_146 : decode (iC M_L_foretell) 146 = .ok (.iadd, 1) := by decide +kernel
theorem d_L_foretell_147 : decode (iC M_L_foretell) 147 = .ok (.iload 5, 2) := by decide +kernel
theorem d_L_foretell_149 : decode (iC M_L_foretell) 149 = .ok (.invokevirtual 31, 3) := by decide +kernel
theorem d_L_foretell_152 : decode (iC M_L_foretell) 152 = .ok (.iinc 10 1, 3) := by decide +kernel
theorem d_L_foretell_155 : decode (iC M_L_foretell) 155 = .ok (.goto (-87), 3) := by decide +kernel
theorem d_L_foretell_158 : decode (iC M_L_foretell) 158 = .ok (.return_, 1) := by decide +kernel
theorem d_L_foretellLine_0 : decode (iC M_L_foretellLine) 0 = .ok (.aload_n 0, 1) := by decide +kernel
theorem d_L_foretellLine_1 : decode (iC M_L_foretellLine) 1 = .ok (.getfield 19, 3) := by decide +kernel
theorem d_L_foretellLine_4 : decode (iC M_L_foretellLine) 4 = .ok (.iload 4, 2) := by decide +kernel
theorem d_L_foretellLine_6 : decode (iC M_L_foretellLine) 6 = .ok (.iconst 1, 1) := by decide +kernel
theorem d_L_foretellLine_7 : decode (iC M_L_foretellLine) 7 = .ok (.ishr, 1) := by decide +kernel
theorem d_L_foretellLine_8 : decode (iC M_L_foretellLine) 8 = .ok (.iconst 0, 1) := by decide +kernel
theorem d_L_foretellLine_9 : decode (iC M_L_foretellLine) 9 = .ok (.aload_n 0, 1) := by decide +kernel
theorem d_L_foretellLine_10 : decode (iC M_L_foretellLine) 10 = .ok (.getfield 22, 3) := by decide +kernel
theorem d_L_foretellLine_13 : decode (iC M_L_foretellLine) 13 = .ok (.iconst 1, 1) := by decide +kernel
theorem d_L_foretellLine_14 : decode (iC M_L_foretellLine) 14 = .ok (.isub, 1) := by decide +kernel
theorem d_L_foretellLine_15 : decode (iC M_L_foretellLine) 15 = .ok (.invokestatic 35, 3) := by decide +kernel
theorem d_L_foretellLine_18 : decode (iC M_L_foretellLine) 18 = .ok (.imul, 1) := by decide +kernel
theorem d_L_foretellLine_19 : decode (iC M_L_foretellLine) 19 = .ok (.istore 6, 2) := by decide +kernel
theorem d_L_foretellLine_21 : decode (iC M_L_foretellLine) 21 = .ok (.aload_n 0, 1) := by decide +kernel
theorem d_L_foretellLine_22 : decode (iC M_L_foretellLine) 22 = .ok (.getfield 19, 3) := by decide +kernel
theorem d_L_foretellLine_25 : decode (iC M_L_foretellLine) 25 = .ok (.iload 4, 2) := by decide +kernel
theorem d_L_foretellLine_27 : decode (iC M_L_foretellLine) 27 = .ok (.iconst 1, 1) := by decide +kernel
theorem d_L_foretellLine_28 : decode (iC M_L_foretellLine) 28 = .ok (.iadd, 1) := by decide +kernel
theorem d_L_foretellLine_29 : decode (iC M_L_foretellLine) 29 = .ok (.iconst 1, 1) := by decide +kernel
theorem d_L_foretellLine_30 : decode (iC M_L_foretellLine) 30 = .ok (.ishr, 1) := by decide +kernel
theorem d_L_foretellLine_31 : decode (iC M_L_foretellLine) 31 = .ok (.iconst 0, 1) := by decide +kernel
theorem d_L_foretellLine_32 : decode (iC M_L_foretellLine) 32 = .ok (.aload_n 0, 1) := by decide +kernel
theorem d_L_foretellLine_33 : decode (iC M_L_foretellLine) 33 = .ok (.getfield 22, 3) := by decide +kernel
theorem d_L_foretellLine_36 : decode (iC M_L_foretellLine) 36 = .ok (.iconst 1, 1) := by decide +kernel
theorem d_L_foretellLine_37 : decode (iC M_L_foretellLine) 37 = .ok (.isub, 1) := by decide +kernel
theorem d_L_foretellLine_38 : decode (iC M_L_foretellLine) 38 = .ok (.invokestatic 35, 3) := by decide +kernel
theorem d_L_foretellLine_41 : decode (iC M_L_foretellLine) 41 = .ok (.imul, 1) := by decide +kernel
theorem d_L_foretellLine_42 : decode (iC M_L_foretellLine) 42 = .ok (.istore 7, 2) := by decide +kernel
theorem d_L_foretellLine_44 : decode (iC M_L_foretellLine) 44 = .ok (.iconst 0, 1) := by decide +kernel
theorem d_L_foretellLine_45 : decode (iC M_L_foretellLine) 45 = .ok (.istore 8, 2) := by decide +kernel
theorem d_L_foretellLine_47 : decode (iC M_L_foretellLine) 47 = .ok (.iload 8, 2) := by decide +kernel
theorem d_L_foretellLine_49 : decode (iC M_L_foretellLine) 49 = .ok (.aload_n 0, 1) := by decide +kernel
theorem d_L_foretellLine_50 : decode (iC M_L_foretellLine) 50 = .ok (.getfield 15, 3) := by decide +kernel
theorem d_L_foretellLine_53 : decode (iC M_L_foretellLine) 53 = .ok (.if_icmp .ge 135, 3) := by decide +kernel
theorem d_L_foretellLine_56 : decode (iC M_L_foretellLine) 56 = .ok (.iload_n 3, 1) := by decide +kernel
theorem d_L_foretellLine_57 : decode (iC M_L_foretellLine) 57 = .ok (.iconst 1, 1) := by decide +kernel
theorem d_L_foretellLine_58 : decode (iC M_L_foretellLine) 58 = .ok (.ishr, 1) := by decide +kernel
theorem d_L_foretellLine_59 : decode (iC M_L_foretellLine) 59 = .ok (.iload 8, 2) := by decide +kernel
theorem d_L_foretellLine_61 : decode (iC M_L_foretellLine) 61 = .ok (.iadd, 1) := by decide +kernel
theorem d_L_foretellLine_62 : decode (iC M_L_foretellLine) 62 = .ok (.iconst 0, 1) := by decide +kernel
theorem d_L_foretellLine_63 : decode (iC M_L_foretellLine) 63 = .ok (.aload_n 0, 1) := by decide +kernel
theorem d_L_foretellLine_64 : decode (iC M_L_foretellLine) 64 = .ok (.getfield 19, 3) := by decide +kernel
theorem d_L_foretellLine_67 : decode (iC M_L_foretellLine) 67 = .ok (.iconst 1, 1) := by decide +kernel
theorem d_L_foretellLine_68 : decode (iC M_L_foretellLine) 68 = .ok (.isub, 1) := by decide +kernel
theorem d_L_foretellLine_69 : decode (iC M_L_foretellLine) 69 = .ok (.invokestatic 35, 3) := by decide +kernel
theorem d_L_foretellLine_72 : decode (iC M_L_foretellLine) 72 = .ok (.istore 9, 2) := by decide +kernel
theorem d_L_foretellLine_74 : decode (iC M_L_foretellLine) 74 = .ok (.iload_n 3, 1) := by decide +kernel
theorem d_L_foretellLine_75 : decode (iC M_L_foretellLine) 75 = .ok (.iconst 1, 1) := by decide +kernel
theorem d_L_foretellLine_76 : decode (iC M_L_foretellLine) 76 = .ok (.iadd, 1) := by decide +kernel
theorem d_L_foretellLine_77 : decode (iC M_L_foretellLine) 77 = .ok (.iconst 1, 1) := by decide +kernel
theorem d_L_foretellLine_78 : decode (iC M_L_foretellLine) 78 = .ok (.ishr, 1) := by decide +kernel
theorem d_L_foretellLine_79 : decode (iC M_L_foretellLine) 79 = .ok (.iload 8, 2) := by decide +kernel
theorem d_L_foretellLine_81 : decode (iC M_L_foretellLine) 81 = .ok (.iadd, 1) := by decide +kernel
theorem d_L_foretellLine_82 : decode (iC M_L_foretellLine) 82 = .ok (.iconst 0, 1) := by decide +kernel
theorem d_L_foretellLine_83 : decode (iC M_L_foretellLine) 83 = .ok (.aload_n 0, 1) := by decide +kernel
theorem d_L_foretellLine_84 : decode (iC M_L_foretellLine) 84 = .ok (.getfield 19, 3) := by decide +kernel
theorem d_L_foretellLine_87 : decode (iC M_L_foretellLine) 87 = .ok (.iconst 1, 1) := by decide +kernel
theorem d_L_foretellLine_88 : decode (iC M_L_foretellLine) 88 = .ok (.isub, 1) := by decide +kernel
theorem d_L_foretellLine_89 : decode (iC M_L_foretellLine) 89 = .ok (.invokestatic 35, 3) := by decide +kernel
theorem d_L_foretellLine_92 : decode (iC M_L_foretellLine) 92 = .ok (.istore 10, 2) := by decide +kernel
theorem d_L_foretellLine_94 : decode (iC M_L_foretellLine) 94 = .ok (.aload_n 1, 1) := by decide +kernel
theorem d_L_foretellLine_95 : decode (iC M_L_foretellLine) 95 = .ok (.getfield 9, 3) := by decide +kernel
theorem d_L_foretellLine_98 : decode (iC M_L_foretellLine) 98 = .ok (.iload 6, 2) := by decide +kernel
theorem d_L_foretellLine_100 : decode (iC M_L_foretellLine) 100 = .ok (.iload 9, 2) := by decide +kernel
theorem d_L_foretellLine_102 : decode (iC M_L_foretellLine) 102 = .ok (.iadd, 1) := by decide +kernel
theorem d_L_foretellLine_103 : decode (iC M_L_foretellLine) 103 = .ok (.iaload, 1) := by decide +kernel
theorem d_L_foretellLine_104 : decode (iC M_L_foretellLine) 104 = .ok (.aload_n 1, 1) := by decide +kernel
theorem d_L_foretellLine_105 : decode (iC M_L_foretellLine) 105 = .ok (.getfield 9, 3) := by decide +kernel
theorem d_L_foretellLine_108 : decode (iC M_L_foretellLine) 108 = .ok (.iload 6, 2) := by decide +kernel
theorem d_L_foretellLine_110 : decode (iC M_L_foretellLine) 110 = .ok (.iload 10, 2) := by decide +kernel
theorem d_L_foretellLine_112 : decode (iC M_L_foretellLine) 112 = .ok (.iadd, 1) := by decide +kernel
theorem d_L_foretellLine_113 : decode (iC M_L_foretellLine) 113 = .ok (.iaload, 1) := by decide +kernel
theorem d_L_foretellLine_114 : decode (iC M_L_foretellLine) 114 = .ok (.iadd, 1) := by decide +kernel
theorem d_L_foretellLine_115 : decode (iC M_L_foretellLine) 115 = .ok (.aload_n 1, 1) := by decide +kernel
theorem d_L_foretellLine_116 : decode (iC M_L_foretellLine) 116 = .ok (.getfield 9, 3) := by decide +kernel
theorem d_L_foretellLine_119 : decode (iC M_L_foretellLine) 119 = .ok (.iload 7, 2) := by decide +kernel
theorem d_L_foretellLine_121 : decode (iC M_L_foretellLine) 121 = .ok (.iload 9, 2) := by decide +kernel
theorem d_L_foretellLine_123 : decode (iC M_L_foretellLine) 123 = .ok (.iadd, 1) := by decide +kernel
theorem d_L_foretellLine_124 : decode (iC M_L_foretellLine) 124 = .ok (.iaload, 1) := by decide +kernel
theorem d_L_foretellLine_125 : decode (iC M_L_foretellLine) 125 = .ok (.iadd, 1) := by decide +kernel
theorem d_L_foretellLine_126 : decode (iC M_L_foretellLine) 126 = .ok (.aload_n 1, 1) := by decide +kernel
theorem d_L_foretellLine_127 : decode (iC M_L_foretellLine) 127 = .ok (.getfield 9, 3) := by decide +kernel
theorem d_L_foretellLine_130 : decode (iC M_L_foretellLine) 130 = .ok (.iload 7, 2) := by decide +kernel
theorem d_L_foretellLine_132 : decode (iC M_L_foretellLine) 132 = .ok (.iload 10, 2) := by decide +kernel
theorem d_L_foretellLine_134 : decode (iC M_L_foretellLine) 134 = .ok (.iadd, 1) := by decide +kernel
theorem d_L_foretellLine_135 : decode (iC M_L_foretellLine) 135 = .ok (.iaload, 1) := by decide +kernel
theorem d_L_foretellLine_136 : decode (iC M_L_foretellLine) 136 = .ok (.iadd, 1) := by decide +kernel
theorem d_L_foretellLine_137 : decode (iC M_L_foretellLine) 137 = .ok (.istore 11, 2) := by decide +kernel
theorem d_L_foretellLine_139 : decode (iC M_L_foretellLine) 139 = .ok (.iload 11, 2) := by decide +kernel
theorem d_L_foretellLine_141 : decode (iC M_L_foretellLine) 141 = .ok (.iconst 2, 1) := by decide +kernel
theorem d_L_foretellLine_142 : decode (iC M_L_foretellLine) 142 = .ok (.iadd, 1) := by decide +kernel
theorem d_L_foretellLine_143 : decode (iC M_L_foretellLine) 143 = .ok (.iconst 2, 1) := by decide +kernel
theorem d_L_foretellLine_144 : decode (iC M_L_foretellLine) 144 = .ok (.ishr, 1) := by decide +kernel
theorem d_L_foretellLine_145 : decode (iC M_L_foretellLine) 145 = .ok (.istore 12, 2) := by decide +kernel
theorem d_L_foretellLine_147 : decode (iC M_L_foretellLine) 147 = .ok (.aload_n 0, 1) := by decide +kernel
theorem d_L_foretellLine_148 : decode (iC M_L_foretellLine) 148 = .ok (.getfield 9, 3) := by decide +kernel
theorem d_L_foretellLine_151 : decode (iC M_L_foretellLine) 151 = .ok (.iload_n 2, 1) := by decide +kernel
theorem d_L_foretellLine_152 : decode (iC M_L_foretellLine) 152 = .ok (.iload 8, 2) := by decide +kernel
theorem d_L_foretellLine_154 : decode (iC M_L_foretellLine) 154 = .ok (.iadd, 1) := by decide +kernel
theorem d_L_foretellLine_155 : decode (iC M_L_foretellLine) 155 = .ok (.iload 5, 2) := by decide +kernel
theorem d_L_foretellLine_157 : decode (iC M_L_foretellLine) 157 = .ok (.ifCond .eq 22, 3) := by decide +kernel
theorem d_L_foretellLine_160 : decode (iC M_L_foretellLine) 160 = .ok (.aload_n 0, 1) := by decide +kernel
theorem d_L_foretellLine_161 : decode (iC M_L_foretellLine) 161 = .ok (.getfield 9, 3) := by decide +kernel
theorem d_L_foretellLine_164 : decode (iC M_L_foretellLine) 164 = .ok (.iload_n 2, 1) := by decide +kernel
theorem d_L_foretellLine_165 : decode (iC M_L_foretellLine) 165 = .ok (.iload 8, 2) := by decide +kernel
theorem d_L_foretellLine_167 : decode (iC M_L_foretellLine) 167 = .ok (.iadd, 1) := by decide +kernel
theorem d_L_foretellLine_168 : decode (iC M_L_foretellLine) 168 = .ok (.iaload, 1) := by decide +kernel
theorem d_L_foretellLine_169 : decode (iC M_L_foretellLine) 169 = .ok (.iload 12, 2) := by decide +kernel
theorem d_L_foretellLine_171 : decode (iC M_L_foretellLine) 171 = .ok (.iadd, 1) := by decide +kernel
theorem d_L_foretellLine_172 : decode (iC M_L_foretellLine) 172 = .ok (.iconst 1, 1) := by decide +kernel
theorem d_L_foretellLine_173 : decode (iC M_L_foretellLine) 173 = .ok (.iadd, 1) := by decide +kernel
theorem d_L_foretellLine_174 : decode (iC M_L_foretellLine) 174 = .ok (.iconst 1, 1) := by decide +kernel
theorem d_L_foretellLine_175 : decode (iC M_L_foretellLine) 175 = .ok (.ishr, 1) := by decide +kernel
theorem d_L_foretellLine_176 : decode (iC M_L_foretellLine) 176 = .ok (.goto 5, 3) := by decide +kernel
theorem d_L_foretellLine_179 : decode (iC M_L_foretellLine) 179 = .ok (.iload 12, 2) := by decide +kernel
theorem d_L_foretellLine_181 : decode (iC M_L_foretellLine) 181 = .ok (.iastore, 1) := by decide +kernel
theorem d_L_foretellLine_182 : decode (iC M_L_foretellLine) 182 = .ok (.iinc 8 1, 3) := by decide +kernel
theorem d_L_foretellLine_185 : decode (iC M_L_foretellLine) 185 = .ok (.goto (-138), 3) := by decide +kernel
theorem d_L_foretellLine_188 : decode (iC M_L_foretellLine) 188 = .ok (.return_, 1) := by decide +kernel
theorem d_L_draw_0 : decode (iC M_L_draw) 0 = .ok (.iconst 0, 1) := by decide +kernel
theorem d_L_draw_1 : decode (iC M_L_draw) 1 = .ok (.istore 5, 2) := by decide +kernel
theorem d_L_draw_3 : decode (iC M_L_draw) 3 = .ok (.iload 5, 2) := by decide +kernel
theorem d_L_draw_5 : decode (iC M_L_draw) 5 = .ok (.bipush 8, 2) := by decide +kernel
theorem d_L_draw_7 : decode (iC M_L_draw) 7 = .ok (.if_icmp .ge 89, 3) := by decide +kernel
theorem d_L_draw_10 : decode (iC M_L_draw) 10 = .ok (.iload_n 3, 1) := by decide +kernel
theorem d_L_draw_11 : decode (iC M_L_draw) 11 = .ok (.iload 5, 2) := by decide +kernel
theorem d_L_draw_13 : decode (iC M_L_draw) 13 = .ok (.iadd, 1) := by decide +kernel
theorem d_L_draw_14 : decode (iC M_L_draw) 14 = .ok (.aload_n 0, 1) := by decide +kernel
theorem d_L_draw_15 : decode (iC M_L_draw) 15 = .ok (.getfield 19, 3) := by decide +kernel
theorem d_L_draw_18 : decode (iC M_L_draw) 18 = .ok (.imul, 1) := by decide +kernel
theorem d_L_draw_19 : decode (iC M_L_draw) 19 = .ok (.iload_n 2, 1) := by decide +kernel
theorem d_L_draw_20 : decode (iC M_L_draw) 20 = .ok (.iadd, 1) := by decide +kernel
theorem d_L_draw_21 : decode (iC M_L_draw) 21 = .ok (.istore 6, 2) := by decide +kernel
theorem d_L_draw_23 : decode (iC M_L_draw) 23 = .ok (.iconst 0, 1) := by decide +kernel
theorem d_L_draw_24 : decode (iC M_L_draw) 24 = .ok (.istore 7, 2) := by decide +kernel
theorem d_L_draw_26 : decode (iC M_L_draw) 26 = .ok (.iload 7, 2) := by decide +kernel
theorem d_L_draw_28 : decode (iC M_L_draw) 28 = .ok (.bipush 8, 2) := by decide +kernel
theorem d_L_draw_30 : decode (iC M_L_draw) 30 = .ok (.if_icmp .ge 60, 3) := by decide +kernel
theorem d_L_draw_33 : decode (iC M_L_draw) 33 = .ok (.iload 4, 2) := by decide +kernel
theorem d_L_draw_35 : decode (iC M_L_draw) 35 = .ok (.ifCond .eq 7, 3) := by decide +kernel
theorem d_L_draw_38 : decode (iC M_L_draw) 38 = .ok (.iconst 0, 1) := by decide +kernel
theorem d_L_draw_39 : decode (iC M_L_draw) 39 = .ok (.goto 13, 3) := by decide +kernel
theorem d_L_draw_42 : decode (iC M_L_draw) 42 = .ok (.aload_n 0, 1) := by decide +kernel
theorem d_L_draw_43 : decode (iC M_L_draw) 43 = .ok (.getfield 9, 3) := by decide +kernel
theorem d_L_draw_46 : decode (iC M_L_draw) 46 = .ok (.iload 6, 2) := by decide +kernel
theorem d_L_draw_48 : decode (iC M_L_draw) 48 = .ok (.iload 7, 2) := by decide +kernel
theorem d_L_draw_50 : decode (iC M_L_draw) 50 = .ok (.iadd, 1) := by decide +kernel
theorem d_L_draw_51 : decode (iC M_L_draw) 51 = .ok (.iaload, 1) := by decide +kernel
theorem d_L_draw_52 : decode (iC M_L_draw) 52 = .ok (.istore 8, 2) := by decide +kernel
theorem d_L_draw_54 : decode (iC M_L_draw) 54 = .ok (.aload_n 0, 1) := by decide +kernel
theorem d_L_draw_55 : decode (iC M_L_draw) 55 = .ok (.getfield 9, 3) := by decide +kernel
theorem d_L_draw_58 : decode (iC M_L_draw) 58 = .ok (.iload 6, 2) := by decide +kernel
theorem d_L_draw_60 : decode (iC M_L_draw) 60 = .ok (.iload 7, 2) := by decide +kernel
theorem d_L_draw_62 : decode (iC M_L_draw) 62 = .ok (.iadd, 1) := by decide +kernel
theorem d_L_draw_63 : decode (iC M_L_draw) 63 = .ok (.iload 8, 2) := by decide +kernel
theorem d_L_draw_65 : decode (iC M_L_draw) 65 = .ok (.aload_n 1, 1) := by decide +kernel
theorem d_L_draw_66 : decode (iC M_L_draw) 66 = .ok (.bipush 8, 2) := by decide +kernel
theorem d_L_draw_68 : decode (iC M_L_draw) 68 = .ok (.iload 5, 2) := by decide +kernel
theorem d_L_draw_70 : decode (iC M_L_draw) 70 = .ok (.imul, 1) := by decide +kernel
theorem d_L_draw_71 : decode (iC M_L_draw) 71 = .ok (.iload 7, 2) := by decide +kernel
theorem d_L_draw_73 : decode (iC M_L_draw) 73 = .ok (.iadd, 1) := by decide +kernel
theorem d_L_draw_74 : decode (iC M_L_draw) 74 = .ok (.iaload, 1) := by decide +kernel
theorem d_L_draw_75 : decode (iC M_L_draw) 75 = .ok (.iadd, 1) := by decide +kernel
theorem d_L_draw_76 : decode (iC M_L_draw) 76 = .ok (.iconst 0, 1) := by decide +kernel
theorem d_L_draw_77 : decode (iC M_L_draw) 77 = .ok (.sipush 255, 3) := by decide +kernel
theorem d_L_draw_80 : decode (iC M_L_draw) 80 = .ok (.invokestatic 35, 3) := by decide +kernel
theorem d_L_draw_83 : decode (iC M_L_draw) 83 = .ok (.iastore, 1) := by decide +kernel
theorem d_L_draw_84 : decode (iC M_L_draw) 84 = .ok (.iinc 7 1, 3) := by decide +kernel
theorem d_L_draw_87 : decode (iC M_L_draw) 87 = .ok (.goto (-61), 3) := by decide +kernel
theorem d_L_draw_90 : decode (iC M_L_draw) 90 = .ok (.iinc 5 1, 3) := by decide +kernel
theorem d_L_draw_93 : decode (iC M_L_draw) 93 = .ok (.goto (-90), 3) := by decide +kernel
theorem d_L_draw_96 : decode (iC M_L_draw) 96 = .ok (.return_, 1) := by decide +kernel
theorem d_P_copyFrom_0 : decode (iC M_P_copyFrom) 0 = .ok (.iconst 0, 1) := by decide +kernel
theorem d_P_copyFrom_1 : decode (iC M_P_copyFrom) 1 = .ok (.istore_n 2, 1) := by decide +kernel
theorem d_P_copyFrom_2 : decode (iC M_P_copyFrom) 2 = .ok (.iload_n 2, 1) := by decide +kernel
theorem d_P_copyFrom_3 : decode (iC M_P_copyFrom) 3 = .ok (.aload_n 0, 1) := by decide +kernel
theorem d_P_copyFrom_4 : decode (iC M_P_copyFrom) 4 = .ok (.getfield 12, 3) := by decide +kernel
theorem d_P_copyFrom_7 : decode (iC M_P_copyFrom) 7 = .ok (.arraylength, 1) := by decide +kernel
theorem d_P_copyFrom_8 : decode (iC M_P_copyFrom) 8 = .ok (.if_icmp .ge 24, 3) := by decide +kernel
theorem d_P_copyFrom_11 : decode (iC M_P_copyFrom) 11 = .ok (.aload_n 0, 1) := by decide +kernel
theorem d_P_copyFrom_12 : decode (iC M_P_copyFrom) 12 = .ok (.getfield 12, 3) := by decide +kernel
theorem d_P_copyFrom_15 : decode (iC M_P_copyFrom) 15 = .ok (.iload_n 2, 1) := by decide +kernel
theorem d_P_copyFrom_16 : decode (iC M_P_copyFrom) 16 = .ok (.aaload, 1) := by decide +kernel
theorem d_P_copyFrom_17 : decode (iC M_P_copyFrom) 17 = .ok (.aload_n 1, 1) := by decide +kernel
theorem d_P_copyFrom_18 : decode (iC M_P_copyFrom) 18 = .ok (.getfield 12, 3) := by decide +kernel
theorem d_P_copyFrom_21 : decode (iC M_P_copyFrom) 21 = .ok (.iload_n 2, 1) := by decide +kernel
theorem d_P_copyFrom_22 : decode (iC M_P_copyFrom) 22 = .ok (.aaload, 1) := by decide +kernel
theorem d_P_copyFrom_23 : decode (iC M_P_copyFrom) 23 = .ok (.invokevirtual 26, 3) := by decide +kernel
theorem d_P_copyFrom_26 : decode (iC M_P_copyFrom) 26 = .ok (.iinc 2 1, 3) := by decide +kernel
theorem d_P_copyFrom_29 : decode (iC M_P_copyFrom) 29 = .ok (.goto (-27), 3) := by decide +kernel
theorem d_P_copyFrom_32 : decode (iC M_P_copyFrom) 32 = .ok (.aload_n 1, 1) := by decide +kernel
theorem d_P_copyFrom_33 : decode (iC M_P_copyFrom) 33 = .ok (.getfield 18, 3) := by decide +kernel
theorem d_P_copyFrom_36 : decode (iC M_P_copyFrom) 36 = .ok (.iconst 0, 1) := by decide +kernel
theorem d_P_copyFrom_37 : decode (iC M_P_copyFrom) 37 = .ok (.aload_n 0, 1) := by decide +kernel
theorem d_P_copyFrom_38 : decode (iC M_P_copyFrom) 38 = .ok (.getfield 18, 3) := by decide +kernel
theorem d_P_copyFrom_41 : decode (iC M_P_copyFrom) 41 = .ok (.iconst 0, 1) := by decide +kernel
theorem d_P_copyFrom_42 : decode (iC M_P_copyFrom) 42 = .ok (.aload_n 0, 1) := by decide +kernel
theorem d_P_copyFrom_43 : decode (iC M_P_copyFrom) 43 = .ok (.getfield 18, 3) := by decide +kernel
theorem d_P_copyFrom_46 : decode (iC M_P_copyFrom) 46 = .ok (.arraylength, 1) := by decide +kernel
theorem d_P_copyFrom_47 : decode (iC M_P_copyFrom) 47 = .ok (.invokestatic 30, 3) := by decide +kernel
theorem d_P_copyFrom_50 : decode (iC M_P_copyFrom) 50 = .ok (.return_, 1) := by decide +kernel
theorem d_L_copyFrom_0 : decode (iC M_L_copyFrom) 0 = .ok (.aload_n 1, 1) := by decide +kernel
theorem d_L_copyFrom_1 : decode (iC M_L_copyFrom) 1 = .ok (.getfield 9, 3) := by decide +kernel
theorem d_L_copyFrom_4 : decode (iC M_L_copyFrom) 4 = .ok (.iconst 0, 1) := by decide +kernel
theorem d_L_copyFrom_5 : decode (iC M_L_copyFrom) 5 = .ok (.aload_n 0, 1) := by decide +kernel
theorem d_L_copyFrom_6 : decode (iC M_L_copyFrom) 6 = .ok (.getfield 9, 3) := by decide +kernel
theorem d_L_copyFrom_9 : decode (iC M_L_copyFrom) 9 = .ok (.iconst 0, 1) := by decide +kernel
theorem d_L_copyFrom_10 : decode (iC M_L_copyFrom) 10 = .ok (.aload_n 0, 1) := by decide +kernel
theorem d_L_copyFrom_11 : decode (iC M_L_copyFrom) 11 = .ok (.getfield 19, 3) := by decide +kernel
theorem d_L_copyFrom_14 : decode (iC M_L_copyFrom) 14 = .ok (.aload_n 0, 1) := by decide +kernel
theorem d_L_copyFrom_15 : decode (iC M_L_copyFrom) 15 = .ok (.getfield 22, 3) := by decide +kernel
theorem d_L_copyFrom_18 : decode (iC M_L_copyFrom) 18 = .ok (.imul, 1) := by decide +kernel
theorem d_L_copyFrom_19 : decode (iC M_L_copyFrom) 19 = .ok (.invokestatic 25, 3) := by decide +kernel
theorem d_L_copyFrom_22 : decode (iC M_L_copyFrom) 22 = .ok (.return_, 1) := by decide +kernel
theorem d_L_dotOrNone_0 : decode (iC M_L_dotOrNone) 0 = .ok (.iload_n 1, 1) := by decide +kernel
theorem d_L_dotOrNone_1 : decode (iC M_L_dotOrNone) 1 = .ok (.ifCond .lt 23, 3) := by decide +kernel
theorem d_L_dotOrNone_4 : decode (iC M_L_dotOrNone) 4 = .ok (.iload_n 1, 1) := by decide +kernel
theorem d_L_dotOrNone_5 : decode (iC M_L_dotOrNone) 5 = .ok (.aload_n 0, 1) := by decide +kernel
theorem d_L_dotOrNone_6 : decode (iC M_L_dotOrNone) 6 = .ok (.getfield 19, 3) := by decide +kernel
theorem d_L_dotOrNone_9 : decode (iC M_L_dotOrNone) 9 = .ok (.if_icmp .ge 15, 3) := by decide +kernel
theorem d_L_dotOrNone_12 : decode (iC M_L_dotOrNone) 12 = .ok (.iload_n 2, 1) := by decide +kernel
theorem d_L_dotOrNone_13 : decode (iC M_L_dotOrNone) 13 = .ok (.ifCond .lt 11, 3) := by decide +kernel
theorem d_L_dotOrNone_16 : decode (iC M_L_dotOrNone) 16 = .ok (.iload_n 2, 1) := by decide +kernel
theorem d_L_dotOrNone_17 : decode (iC M_L_dotOrNone) 17 = .ok (.aload_n 0, 1) := by decide +kernel
theorem d_L_dotOrNone_18 : decode (iC M_L_dotOrNone) 18 = .ok (.getfield 22, 3) := by decide +kernel
theorem d_L_dotOrNone_21 : decode (iC M_L_dotOrNone) 21 = .ok (.if_icmp .lt 5, 3) := by decide +kernel
theorem d_L_dotOrNone_24 : decode (iC M_L_dotOrNone) 24 = .ok (.iconst (-1), 1) := by decide +kernel
theorem d_L_dotOrNone_25 : decode (iC M_L_dotOrNone) 25 = .ok (.ireturn, 1) := by decide +kernel
theorem d_L_dotOrNone_26 : decode (iC M_L_dotOrNone) 26 = .ok (.aload_n 0, 1) := by decide +kernel
theorem d_L_dotOrNone_27 : decode (iC M_L_dotOrNone) 27 = .ok (.getfield 9, 3) := by decide +kernel
theorem d_L_dotOrNone_30 : decode (iC M_L_dotOrNone) 30 = .ok (.iload_n 2, 1) := by decide +kernel
theorem d_L_dotOrNone_31 : decode (iC M_L_dotOrNone) 31 = .ok (.aload_n 0, 1) := by decide +kernel
theorem d_L_dotOrNone_32 : decode (iC M_L_dotOrNone) 32 = .ok (.getfield 19, 3) := by decide +kernel
theorem d_L_dotOrNone_35 : decode (iC M_L_dotOrNone) 35 = .ok (.imul, 1) := by decide +kernel
theorem d_L_dotOrNone_36 : decode (iC M_L_dotOrNone) 36 = .ok (.iload_n 1, 1) := by decide +kernel
theorem d_L_dotOrNone_37 : decode (iC M_L_dotOrNone) 37 = .ok (.iadd, 1) := by decide +kernel
theorem d_L_dotOrNone_38 : decode (iC M_L_dotOrNone) 38 = .ok (.iaload, 1) := by decide +kernel
theorem d_L_dotOrNone_39 : decode (iC M_L_dotOrNone) 39 = .ok (.ireturn, 1) := by decide +kernel
theorem d_L_numberedTotal_0 : decode (iC M_L_numberedTotal) 0 = .ok (.iconst 0, 1) := by decide +kernel
theorem d_L_numberedTotal_1 : decode (iC M_L_numberedTotal) 1 = .ok (.istore_n 1, 1) := by decide +kernel
theorem d_L_numberedTotal_2 : decode (iC M_L_numberedTotal) 2 = .ok (.iconst 0, 1) := by decide +kernel
theorem d_L_numberedTotal_3 : decode (iC M_L_numberedTotal) 3 = .ok (.istore_n 2, 1) := by decide +kernel
theorem d_L_numberedTotal_4 : decode (iC M_L_numberedTotal) 4 = .ok (.iload_n 2, 1) := by decide +kernel
theorem d_L_numberedTotal_5 : decode (iC M_L_numberedTotal) 5 = .ok (.aload_n 0, 1) := by decide +kernel
theorem d_L_numberedTotal_6 : decode (iC M_L_numberedTotal) 6 = .ok (.getfield 19, 3) := by decide +kernel
theorem d_L_numberedTotal_9 : decode (iC M_L_numberedTotal) 9 = .ok (.aload_n 0, 1) := by decide +kernel
theorem d_L_numberedTotal_10 : decode (iC M_L_numberedTotal) 10 = .ok (.getfield 22, 3) := by decide +kernel
theorem d_L_numberedTotal_13 : decode (iC M_L_numberedTotal) 13 = .ok (.imul, 1) := by decide +kernel
theorem d_L_numberedTotal_14 : decode (iC M_L_numberedTotal) 14 = .ok (.if_icmp .ge 22, 3) := by decide +kernel
theorem d_L_numberedTotal_17 : decode (iC M_L_numberedTotal) 17 = .ok (.iload_n 1, 1) := by decide +kernel
theorem d_L_numberedTotal_18 : decode (iC M_L_numberedTotal) 18 = .ok (.aload_n 0, 1) := by decide +kernel
theorem d_L_numberedTotal_19 : decode (iC M_L_numberedTotal) 19 = .ok (.getfield 9, 3) := by decide +kernel
theorem d_L_numberedTotal_22 : decode (iC M_L_numberedTotal) 22 = .ok (.iload_n 2, 1) := by decide +kernel
theorem d_L_numberedTotal_23 : decode (iC M_L_numberedTotal) 23 = .ok (.iaload, 1) := by decide +kernel
theorem d_L_numberedTotal_24 : decode (iC M_L_numberedTotal) 24 = .ok (.iload_n 2, 1) := by decide +kernel
theorem d_L_numberedTotal_25 : decode (iC M_L_numberedTotal) 25 = .ok (.iconst 1, 1) := by decide +kernel
theorem d_L_numberedTotal_26 : decode (iC M_L_numberedTotal) 26 = .ok (.iadd, 1) := by decide +kernel
theorem d_L_numberedTotal_27 : decode (iC M_L_numberedTotal) 27 = .ok (.imul, 1) := by decide +kernel
theorem d_L_numberedTotal_28 : decode (iC M_L_numberedTotal) 28 = .ok (.iadd, 1) := by decide +kernel
theorem d_L_numberedTotal_29 : decode (iC M_L_numberedTotal) 29 = .ok (.istore_n 1, 1) := by decide +kernel
theorem d_L_numberedTotal_30 : decode (iC M_L_numberedTotal) 30 = .ok (.iinc 2 1, 3) := by decide +kernel
theorem d_L_numberedTotal_33 : decode (iC M_L_numberedTotal) 33 = .ok (.goto (-29), 3) := by decide +kernel
theorem d_L_numberedTotal_36 : decode (iC M_L_numberedTotal) 36 = .ok (.iload_n 1, 1) := by decide +kernel
theorem d_L_numberedTotal_37 : decode (iC M_L_numberedTotal) 37 = .ok (.ireturn, 1) := by decide +kernel
end
section
theorem d_X_init_0 : decode (iC M_X_init) 0 = .ok (.aload_n 0, 1) := by decide +kernel
theorem d_X_init_1 : decode (iC M_X_init) 1 = .ok (.invokespecial 1, 3) := by decide +kernel
theorem d_X_init_4 : decode (iC M_X_init) 4 = .ok (.aload_n 0, 1) := by decide +kernel
theorem d_X_init_5 : decode (iC M_X_init) 5 = .ok (.new 7, 3) := by decide +kernel
theorem d_X_init_8 : decode (iC M_X_init) 8 = .ok (.dup, 1) := by decide +kernel
theorem d_X_init_9 : decode (iC M_X_init) 9 = .ok (.invokespecial 9, 3) := by decide +kernel
theorem d_X_init_12 : decode (iC M_X_init) 12 = .ok (.putfield 10, 3) := by decide +kernel
theorem d_X_init_15 : decode (iC M_X_init) 15 = .ok (.aload_n 0, 1) := by decide +kernel
theorem d_X_init_16 : decode (iC M_X_init) 16 = .ok (.new 16, 3) := by decide +kernel
theorem d_X_init_19 : decode (iC M_X_init) 19 = .ok (.dup, 1) := by decide +kernel
theorem d_X_init_20 : decode (iC M_X_init) 20 = .ok (.invokespecial 18, 3) := by decide +kernel
theorem d_X_init_23 : decode (iC M_X_init) 23 = .ok (.putfield 19, 3) := by decide +kernel
theorem d_X_init_26 : decode (iC M_X_init) 26 = .ok (.aload_n 0, 1) := by decide +kernel
theorem d_X_init_27 : decode (iC M_X_init) 27 = .ok (.new 23, 3) := by decide +kernel
theorem d_X_init_30 : decode (iC M_X_init) 30 = .ok (.dup, 1) := by decide +kernel
theorem d_X_init_31 : decode (iC M_X_init) 31 = .ok (.aload_n 0, 1) := by decide +kernel
theorem d_X_init_32 : decode (iC M_X_init) 32 = .ok (.getfield 10, 3) := by decide +kernel
theorem d_X_init_35 : decode (iC M_X_init) 35 = .ok (.aload_n 0, 1) := by decide +kernel
theorem d_X_init_36 : decode (iC M_X_init) 36 = .ok (.getfield 19, 3) := by decide +kernel
theorem d_X_init_39 : decode (iC M_X_init) 39 = .ok (.invokespecial 25, 3) := by decide +kernel
theorem d_X_init_42 : decode (iC M_X_init) 42 = .ok (.putfield 28, 3) := by decide +kernel
theorem d_X_init_45 : decode (iC M_X_init) 45 = .ok (.return_, 1) := by decide +kernel
theorem d_R_init_0 : decode (iC M_R_init) 0 = .ok (.aload_n 0, 1) := by decide +kernel
theorem d_R_init_1 : decode (iC M_R_init) 1 = .ok (.invokespecial 3, 3) := by decide +kernel
theorem d_R_init_4 : decode (iC M_R_init) 4 = .ok (.aload_n 0, 1) := by decide +kernel
theorem d_R_init_5 : decode (iC M_R_init) 5 = .ok (.bipush 8, 2) := by decide +kernel
theorem d_R_init_7 : decode (iC M_R_init) 7 = .ok (.newarray .int, 2) := by decide +kernel
theorem d_R_init_9 : decode (iC M_R_init) 9 = .ok (.putfield 9, 3) := by decide +kernel
theorem d_R_init_12 : decode (iC M_R_init) 12 = .ok (.aload_n 0, 1) := by decide +kernel
theorem d_R_init_13 : decode (iC M_R_init) 13 = .ok (.bipush 20, 2) := by decide +kernel
theorem d_R_init_15 : decode (iC M_R_init) 15 = .ok (.anewarray 15, 3) := by decide +kernel
theorem d_R_init_18 : decode (iC M_R_init) 18 = .ok (.putfield 17, 3) := by decide +kernel
theorem d_R_init_21 : decode (iC M_R_init) 21 = .ok (.aload_n 0, 1) := by decide +kernel
theorem d_R_init_22 : decode (iC M_R_init) 22 = .ok (.iconst 1, 1) := by decide +kernel
theorem d_R_init_23 : decode (iC M_R_init) 23 = .ok (.putfield 21, 3) := by decide +kernel
theorem d_R_init_26 : decode (iC M_R_init) 26 = .ok (.aload_n 0, 1) := by decide +kernel
theorem d_R_init_27 : decode (iC M_R_init) 27 = .ok (.iconst 1, 1) := by decide +kernel
theorem d_R_init_28 : decode (iC M_R_init) 28 = .ok (.putfield 25, 3) := by decide +kernel
theorem d_R_init_31 : decode (iC M_R_init) 31 = .ok (.aload_n 0, 1) := by decide +kernel
theorem d_R_init_32 : decode (iC M_R_init) 32 = .ok (.new 15, 3) := by decide +kernel
theorem d_R_init_35 : decode (iC M_R_init) 35 = .ok (.dup, 1) := by decide +kernel
theorem d_R_init_36 : decode (iC M_R_init) 36 = .ok (.invokespecial 28, 3) := by decide +kernel
theorem d_R_init_39 : decode (iC M_R_init) 39 = .ok (.putfield 29, 3) := by decide +kernel
theorem d_R_init_42 : decode (iC M_R_init) 42 = .ok (.aload_n 0, 1) := by decide +kernel
theorem d_R_init_43 : decode (iC M_R_init) 43 = .ok (.new 15, 3) := by decide +kernel
theorem d_R_init_46 : decode (iC M_R_init) 46 = .ok (.dup, 1) := by decide +kernel
theorem d_R_init_47 : decode (iC M_R_init) 47 = .ok (.invokespecial 28, 3) := by decide +kernel
theorem d_R_init_50 : decode (iC M_R_init) 50 = .ok (.putfield 33, 3) := by decide +kernel
theorem d_R_init_53 : decode (iC M_R_init) 53 = .ok (.aload_n 0, 1) := by decide +kernel
theorem d_R_init_54 : decode (iC M_R_init) 54 = .ok (.new 15, 3) := by decide +kernel
theorem d_R_init_57 : decode (iC M_R_init) 57 = .ok (.dup, 1) := by decide +kernel
theorem d_R_init_58 : decode (iC M_R_init) 58 = .ok (.invokespecial 28, 3) := by decide +kernel
theorem d_R_init_61 : decode (iC M_R_init) 61 = .ok (.putfield 36, 3) := by decide +kernel
theorem d_R_init_64 : decode (iC M_R_init) 64 = .ok (.return_, 1) := by decide +kernel
theorem d_X_feed_0 : decode (iC M_X_feed) 0 = .ok (.aload_n 0, 1) := by decide +kernel
theorem d_X_feed_1 : decode (iC M_X_feed) 1 = .ok (.getfield 10, 3) := by decide +kernel
theorem d_X_feed_4 : decode (iC M_X_feed) 4 = .ok (.invokevirtual 32, 3) := by decide +kernel
theorem d_X_feed_7 : decode (iC M_X_feed) 7 = .ok (.istore 6, 2) := by decide +kernel
theorem d_X_feed_9 : decode (iC M_X_feed) 9 = .ok (.iload 6, 2) := by decide +kernel
theorem d_X_feed_11 : decode (iC M_X_feed) 11 = .ok (.bipush 20, 2) := by decide +kernel
theorem d_X_feed_13 : decode (iC M_X_feed) 13 = .ok (.iadd, 1) := by decide +kernel
theorem d_X_feed_14 : decode (iC M_X_feed) 14 = .ok (.sipush 4000, 3) := by decide +kernel
theorem d_X_feed_17 : decode (iC M_X_feed) 17 = .ok (.if_icmp .le 5, 3) := by decide +kernel
theorem d_X_feed_20 : decode (iC M_X_feed) 20 = .ok (.iconst (-1), 1) := by decide +kernel
theorem d_X_feed_21 : decode (iC M_X_feed) 21 = .ok (.ireturn, 1) := by decide +kernel
theorem d_X_feed_22 : decode (iC M_X_feed) 22 = .ok (.aload_n 0, 1) := by decide +kernel
theorem d_X_feed_23 : decode (iC M_X_feed) 23 = .ok (.getfield 10, 3) := by decide +kernel
theorem d_X_feed_26 : decode (iC M_X_feed) 26 = .ok (.iload 6, 2) := by decide +kernel
theorem d_X_feed_28 : decode (iC M_X_feed) 28 = .ok (.invokevirtual 36, 3) := by decide +kernel
theorem d_X_feed_31 : decode (iC M_X_feed) 31 = .ok (.pop, 1) := by decide +kernel
theorem d_X_feed_32 : decode (iC M_X_feed) 32 = .ok (.aload_n 0, 1) := by decide +kernel
theorem d_X_feed_33 : decode (iC M_X_feed) 33 = .ok (.getfield 10, 3) := by decide +kernel
theorem d_X_feed_36 : decode (iC M_X_feed) 36 = .ok (.iload_n 1, 1) := by decide +kernel
theorem d_X_feed_37 : decode (iC M_X_feed) 37 = .ok (.bipush 32, 2) := by decide +kernel
theorem d_X_feed_39 : decode (iC M_X_feed) 39 = .ok (.invokevirtual 40, 3) := by decide +kernel
theorem d_X_feed_42 : decode (iC M_X_feed) 42 = .ok (.pop, 1) := by decide +kernel
theorem d_X_feed_43 : decode (iC M_X_feed) 43 = .ok (.aload_n 0, 1) := by decide +kernel
theorem d_X_feed_44 : decode (iC M_X_feed) 44 = .ok (.getfield 10, 3) := by decide +kernel
theorem d_X_feed_47 : decode (iC M_X_feed) 47 = .ok (.iload_n 2, 1) := by decide +kernel
theorem d_X_feed_48 : decode (iC M_X_feed) 48 = .ok (.bipush 32, 2) := by decide +kernel
theorem d_X_feed_50 : decode (iC M_X_feed) 50 = .ok (.invokevirtual 40, 3) := by decide +kernel
theorem d_X_feed_53 : decode (iC M_X_feed) 53 = .ok (.pop, 1) := by decide +kernel
theorem d_X_feed_54 : decode (iC M_X_feed) 54 = .ok (.aload_n 0, 1) := by decide +kernel
theorem d_X_feed_55 : decode (iC M_X_feed) 55 = .ok (.getfield 10, 3) := by decide +kernel
theorem d_X_feed_58 : decode (iC M_X_feed) 58 = .ok (.iload_n 3, 1) := by decide +kernel
theorem d_X_feed_59 : decode (iC M_X_feed) 59 = .ok (.bipush 32, 2) := by decide +kernel
theorem d_X_feed_61 : decode (iC M_X_feed) 61 = .ok (.invokevirtual 40, 3) := by decide +kernel
theorem d_X_feed_64 : decode (iC M_X_feed) 64 = .ok (.pop, 1) := by decide +kernel
theorem d_X_feed_65 : decode (iC M_X_feed) 65 = .ok (.aload_n 0, 1) := by decide +kernel
theorem d_X_feed_66 : decode (iC M_X_feed) 66 = .ok (.getfield 10, 3) := by decide +kernel
theorem d_X_feed_69 : decode (iC M_X_feed) 69 = .ok (.iload 4, 2) := by decide +kernel
theorem d_X_feed_71 : decode (iC M_X_feed) 71 = .ok (.bipush 32, 2) := by decide +kernel
theorem d_X_feed_73 : decode (iC M_X_feed) 73 = .ok (.invokevirtual 40, 3) := by decide +kernel
theorem d_X_feed_76 : decode (iC M_X_feed) 76 = .ok (.pop, 1) := by decide +kernel
theorem d_X_feed_77 : decode (iC M_X_feed) 77 = .ok (.aload_n 0, 1) := by decide +kernel
theorem d_X_feed_78 : decode (iC M_X_feed) 78 = .ok (.getfield 10, 3) := by decide +kernel
theorem d_X_feed_81 : decode (iC M_X_feed) 81 = .ok (.iload 5, 2) := by decide +kernel
theorem d_X_feed_83 : decode (iC M_X_feed) 83 = .ok (.bipush 32, 2) := by decide +kernel
theorem d_X_feed_85 : decode (iC M_X_feed) 85 = .ok (.invokevirtual 40, 3) := by decide +kernel
theorem d_X_feed_88 : decode (iC M_X_feed) 88 = .ok (.pop, 1) := by decide +kernel
theorem d_X_feed_89 : decode (iC M_X_feed) 89 = .ok (.aload_n 0, 1) := by decide +kernel
theorem d_X_feed_90 : decode (iC M_X_feed) 90 = .ok (.getfield 10, 3) := by decide +kernel
theorem d_X_feed_93 : decode (iC M_X_feed) 93 = .ok (.invokevirtual 32, 3) := by decide +kernel
theorem d_X_feed_96 : decode (iC M_X_feed) 96 = .ok (.ireturn, 1) := by decide +kernel
theorem d_X_end_0 : decode (iC M_X_end) 0 = .ok (.aload_n 0, 1) := by decide +kernel
theorem d_X_end_1 : decode (iC M_X_end) 1 = .ok (.getfield 10, 3) := by decide +kernel
theorem d_X_end_4 : decode (iC M_X_end) 4 = .ok (.iload_n 1, 1) := by decide +kernel
theorem d_X_end_5 : decode (iC M_X_end) 5 = .ok (.invokevirtual 36, 3) := by decide +kernel
theorem d_X_end_8 : decode (iC M_X_end) 8 = .ok (.ireturn, 1) := by decide +kernel
theorem d_X_bits_0 : decode (iC M_X_bits) 0 = .ok (.aload_n 0, 1) := by decide +kernel
theorem d_X_bits_1 : decode (iC M_X_bits) 1 = .ok (.getfield 10, 3) := by decide +kernel
theorem d_X_bits_4 : decode (iC M_X_bits) 4 = .ok (.iload_n 1, 1) := by decide +kernel
theorem d_X_bits_5 : decode (iC M_X_bits) 5 = .ok (.iload_n 2, 1) := by decide +kernel
theorem d_X_bits_6 : decode (iC M_X_bits) 6 = .ok (.invokevirtual 40, 3) := by decide +kernel
theorem d_X_bits_9 : decode (iC M_X_bits) 9 = .ok (.ireturn, 1) := by decide +kernel
theorem d_X_read_0 : decode (iC M_X_read) 0 = .ok (.aload_n 0, 1) := by decide +kernel
theorem d_X_read_1 : decode (iC M_X_read) 1 = .ok (.getfield 19, 3) := by decide +kernel
theorem d_X_read_4 : decode (iC M_X_read) 4 = .ok (.invokevirtual 44, 3) := by decide +kernel
theorem d_X_read_7 : decode (iC M_X_read) 7 = .ok (.aload_n 0, 1) := by decide +kernel
theorem d_X_read_8 : decode (iC M_X_read) 8 = .ok (.getfield 10, 3) := by decide +kernel
theorem d_X_read_11 : decode (iC M_X_read) 11 = .ok (.invokevirtual 47, 3) := by decide +kernel
theorem d_X_read_14 : decode (iC M_X_read) 14 = .ok (.aload_n 0, 1) := by decide +kernel
theorem d_X_read_15 : decode (iC M_X_read) 15 = .ok (.getfield 28, 3) := by decide +kernel
theorem d_X_read_18 : decode (iC M_X_read) 18 = .ok (.invokevirtual 50, 3) := by decide +kernel
theorem d_X_read_21 : decode (iC M_X_read) 21 = .ok (.iconst 0, 1) := by decide +kernel
theorem d_X_read_22 : decode (iC M_X_read) 22 = .ok (.istore_n 1, 1) := by decide +kernel
theorem d_X_read_23 : decode (iC M_X_read) 23 = .ok (.iload_n 1, 1) := by decide +kernel
theorem d_X_read_24 : decode (iC M_X_read) 24 = .ok (.sipush 4000, 3) := by decide +kernel
theorem d_X_read_27 : decode (iC M_X_read) 27 = .ok (.if_icmp .ge 27, 3) := by decide +kernel
theorem d_X_read_30 : decode (iC M_X_read) 30 = .ok (.aload_n 0, 1) := by decide +kernel
theorem d_X_read_31 : decode (iC M_X_read) 31 = .ok (.getfield 28, 3) := by decide +kernel
theorem d_X_read_34 : decode (iC M_X_read) 34 = .ok (.invokevirtual 53, 3) := by decide +kernel
theorem d_X_read_37 : decode (iC M_X_read) 37 = .ok (.ifCond .eq 17, 3) := by decide +kernel
theorem d_X_read_40 : decode (iC M_X_read) 40 = .ok (.aload_n 0, 1) := by decide +kernel
theorem d_X_read_41 : decode (iC M_X_read) 41 = .ok (.getfield 28, 3) := by decide +kernel
theorem d_X_read_44 : decode (iC M_X_read) 44 = .ok (.iload_n 1, 1) := by decide +kernel
theorem d_X_read_45 : decode (iC M_X_read) 45 = .ok (.invokevirtual 57, 3) := by decide +kernel
theorem d_X_read_48 : decode (iC M_X_read) 48 = .ok (.iinc 1 1, 3) := by decide +kernel
theorem d_X_read_51 : decode (iC M_X_read) 51 = .ok (.goto (-28), 3) := by decide +kernel
theorem d_X_read_54 : decode (iC M_X_read) 54 = .ok (.goto 4, 3) := by decide +kernel
theorem d_X_read_57 : decode (iC M_X_read) 57 = .ok (.astore_n 1, 1) := by decide +kernel
theorem d_X_read_58 : decode (iC M_X_read) 58 = .ok (.aload_n 0, 1) := by decide +kernel
theorem d_X_read_59 : decode (iC M_X_read) 59 = .ok (.getfield 19, 3) := by decide +kernel
theorem d_X_read_62 : decode (iC M_X_read) 62 = .ok (.invokevirtual 63, 3) := by decide +kernel
theorem d_X_read_65 : decode (iC M_X_read) 65 = .ok (.aload_n 0, 1) := by decide +kernel
theorem d_X_read_66 : decode (iC M_X_read) 66 = .ok (.getfield 10, 3) := by decide +kernel
theorem d_X_read_69 : decode (iC M_X_read) 69 = .ok (.iconst 0, 1) := by decide +kernel
theorem d_X_read_70 : decode (iC M_X_read) 70 = .ok (.invokevirtual 36, 3) := by decide +kernel
theorem d_X_read_73 : decode (iC M_X_read) 73 = .ok (.pop, 1) := by decide +kernel
theorem d_X_read_74 : decode (iC M_X_read) 74 = .ok (.aload_n 0, 1) := by decide +kernel
theorem d_X_read_75 : decode (iC M_X_read) 75 = .ok (.getfield 19, 3) := by decide +kernel
theorem d_X_read_78 : decode (iC M_X_read) 78 = .ok (.getfield 66, 3) := by decide +kernel
theorem d_X_read_81 : decode (iC M_X_read) 81 = .ok (.iconst 2, 1) := by decide +kernel
theorem d_X_read_82 : decode (iC M_X_read) 82 = .ok (.iaload, 1) := by decide +kernel
theorem d_X_read_83 : decode (iC M_X_read) 83 = .ok (.ireturn, 1) := by decide +kernel
theorem d_R_clear_0 : decode (iC M_R_clear) 0 = .ok (.aload_n 0, 1) := by decide +kernel
theorem d_R_clear_1 : decode (iC M_R_clear) 1 = .ok (.getfield 9, 3) := by decide +kernel
theorem d_R_clear_4 : decode (iC M_R_clear) 4 = .ok (.iconst 0, 1) := by decide +kernel
theorem d_R_clear_5 : decode (iC M_R_clear) 5 = .ok (.invokestatic 39, 3) := by decide +kernel
theorem d_R_clear_8 : decode (iC M_R_clear) 8 = .ok (.aload_n 0, 1) := by decide +kernel
theorem d_R_clear_9 : decode (iC M_R_clear) 9 = .ok (.iconst 0, 1) := by decide +kernel
theorem d_R_clear_10 : decode (iC M_R_clear) 10 = .ok (.putfield 45, 3) := by decide +kernel
theorem d_R_clear_13 : decode (iC M_R_clear) 13 = .ok (.return_, 1) := by decide +kernel
theorem d_R_setSize_0 : decode (iC M_R_setSize) 0 = .ok (.aload_n 0, 1) := by decide +kernel
theorem d_R_setSize_1 : decode (iC M_R_setSize) 1 = .ok (.iload_n 1, 1) := by decide +kernel
theorem d_R_setSize_2 : decode (iC M_R_setSize) 2 = .ok (.putfield 21, 3) := by decide +kernel
theorem d_R_setSize_5 : decode (iC M_R_setSize) 5 = .ok (.aload_n 0, 1) := by decide +kernel
theorem d_R_setSize_6 : decode (iC M_R_setSize) 6 = .ok (.iload_n 2, 1) := by decide +kernel
theorem d_R_setSize_7 : decode (iC M_R_setSize) 7 = .ok (.putfield 25, 3) := by decide +kernel
theorem d_R_setSize_10 : decode (iC M_R_setSize) 10 = .ok (.aload_n 0, 1) := by decide +kernel
theorem d_R_setSize_11 : decode (iC M_R_setSize) 11 = .ok (.getfield 9, 3) := by decide +kernel
theorem d_R_setSize_14 : decode (iC M_R_setSize) 14 = .ok (.iconst 0, 1) := by decide +kernel
theorem d_R_setSize_15 : decode (iC M_R_setSize) 15 = .ok (.bipush 16, 2) := by decide +kernel
theorem d_R_setSize_17 : decode (iC M_R_setSize) 17 = .ok (.aload_n 0, 1) := by decide +kernel
theorem d_R_setSize_18 : decode (iC M_R_setSize) 18 = .ok (.getfield 21, 3) := by decide +kernel
theorem d_R_setSize_21 : decode (iC M_R_setSize) 21 = .ok (.imul, 1) := by decide +kernel
theorem d_R_setSize_22 : decode (iC M_R_setSize) 22 = .ok (.iastore, 1) := by decide +kernel
theorem d_R_setSize_23 : decode (iC M_R_setSize) 23 = .ok (.aload_n 0, 1) := by decide +kernel
theorem d_R_setSize_24 : decode (iC M_R_setSize) 24 = .ok (.getfield 9, 3) := by decide +kernel
theorem d_R_setSize_27 : decode (iC M_R_setSize) 27 = .ok (.iconst 1, 1) := by decide +kernel
theorem d_R_setSize_28 : decode (iC M_R_setSize) 28 = .ok (.bipush 16, 2) := by decide +kernel
theorem d_R_setSize_30 : decode (iC M_R_setSize) 30 = .ok (.aload_n 0, 1) := by decide +kernel
theorem d_R_setSize_31 : decode (iC M_R_setSize) 31 = .ok (.getfield 25, 3) := by decide +kernel
theorem d_R_setSize_34 : decode (iC M_R_setSize) 34 = .ok (.imul, 1) := by decide +kernel
theorem d_R_setSize_35 : decode (iC M_R_setSize) 35 = .ok (.iastore, 1) := by decide +kernel
theorem d_R_setSize_36 : decode (iC M_R_setSize) 36 = .ok (.return_, 1) := by decide +kernel
theorem d_R_begin_0 : decode (iC M_R_begin) 0 = .ok (.aload_n 0, 1) := by decide +kernel
theorem d_R_begin_1 : decode (iC M_R_begin) 1 = .ok (.getfield 29, 3) := by decide +kernel
theorem d_R_begin_4 : decode (iC M_R_begin) 4 = .ok (.aload_n 0, 1) := by decide +kernel
theorem d_R_begin_5 : decode (iC M_R_begin) 5 = .ok (.getfield 21, 3) := by decide +kernel
theorem d_R_begin_8 : decode (iC M_R_begin) 8 = .ok (.aload_n 0, 1) := by decide +kernel
theorem d_R_begin_9 : decode (iC M_R_begin) 9 = .ok (.getfield 25, 3) := by decide +kernel
theorem d_R_begin_12 : decode (iC M_R_begin) 12 = .ok (.invokevirtual 48, 3) := by decide +kernel
theorem d_R_begin_15 : decode (iC M_R_begin) 15 = .ok (.aload_n 0, 1) := by decide +kernel
theorem d_R_begin_16 : decode (iC M_R_begin) 16 = .ok (.getfield 29, 3) := by decide +kernel
theorem d_R_begin_19 : decode (iC M_R_begin) 19 = .ok (.getfield 52, 3) := by decide +kernel
theorem d_R_begin_22 : decode (iC M_R_begin) 22 = .ok (.iconst 0, 1) := by decide +kernel
theorem d_R_begin_23 : decode (iC M_R_begin) 23 = .ok (.iload_n 1, 1) := by decide +kernel
theorem d_R_begin_24 : decode (iC M_R_begin) 24 = .ok (.iastore, 1) := by decide +kernel
theorem d_R_begin_25 : decode (iC M_R_begin) 25 = .ok (.aload_n 0, 1) := by decide +kernel
theorem d_R_begin_26 : decode (iC M_R_begin) 26 = .ok (.getfield 29, 3) := by decide +kernel
theorem d_R_begin_29 : decode (iC M_R_begin) 29 = .ok (.getfield 52, 3) := by decide +kernel
theorem d_R_begin_32 : decode (iC M_R_begin) 32 = .ok (.iconst 1, 1) := by decide +kernel
theorem d_R_begin_33 : decode (iC M_R_begin) 33 = .ok (.iload_n 2, 1) := by decide +kernel
theorem d_R_begin_34 : decode (iC M_R_begin) 34 = .ok (.iastore, 1) := by decide +kernel
theorem d_R_begin_35 : decode (iC M_R_begin) 35 = .ok (.aload_n 0, 1) := by decide +kernel
theorem d_R_begin_36 : decode (iC M_R_begin) 36 = .ok (.getfield 29, 3) := by decide +kernel
theorem d_R_begin_39 : decode (iC M_R_begin) 39 = .ok (.getfield 52, 3) := by decide +kernel
theorem d_R_begin_42 : decode (iC M_R_begin) 42 = .ok (.iconst 2, 1) := by decide +kernel
theorem d_R_begin_43 : decode (iC M_R_begin) 43 = .ok (.iconst 0, 1) := by decide +kernel
theorem d_R_begin_44 : decode (iC M_R_begin) 44 = .ok (.iastore, 1) := by decide +kernel
theorem d_R_begin_45 : decode (iC M_R_begin) 45 = .ok (.aload_n 0, 1) := by decide +kernel
theorem d_R_begin_46 : decode (iC M_R_begin) 46 = .ok (.getfield 29, 3) := by decide +kernel
theorem d_R_begin_49 : decode (iC M_R_begin) 49 = .ok (.getfield 52, 3) := by decide +kernel
theorem d_R_begin_52 : decode (iC M_R_begin) 52 = .ok (.iconst 3, 1) := by decide +kernel
theorem d_R_begin_53 : decode (iC M_R_begin) 53 = .ok (.iconst 0, 1) := by decide +kernel
theorem d_R_begin_54 : decode (iC M_R_begin) 54 = .ok (.iastore, 1) := by decide +kernel
theorem d_R_begin_55 : decode (iC M_R_begin) 55 = .ok (.return_, 1) := by decide +kernel
theorem d_X_held_0 : decode (iC M_X_held) 0 = .ok (.iload_n 0, 1) := by decide +kernel
theorem d_X_held_1 : decode (iC M_X_held) 1 = .ok (.iload_n 1, 1) := by decide +kernel
theorem d_X_held_2 : decode (iC M_X_held) 2 = .ok (.if_icmp .ge 7, 3) := by decide +kernel
theorem d_X_held_5 : decode (iC M_X_held) 5 = .ok (.iload_n 1, 1) := by decide +kernel
theorem d_X_held_6 : decode (iC M_X_held) 6 = .ok (.goto 13, 3) := by decide +kernel
theorem d_X_held_9 : decode (iC M_X_held) 9 = .ok (.iload_n 0, 1) := by decide +kernel
theorem d_X_held_10 : decode (iC M_X_held) 10 = .ok (.iload_n 2, 1) := by decide +kernel
theorem d_X_held_11 : decode (iC M_X_held) 11 = .ok (.if_icmp .le 7, 3) := by decide +kernel
theorem d_X_held_14 : decode (iC M_X_held) 14 = .ok (.iload_n 2, 1) := by decide +kernel
theorem d_X_held_15 : decode (iC M_X_held) 15 = .ok (.goto 4, 3) := by decide +kernel
theorem d_X_held_18 : decode (iC M_X_held) 18 = .ok (.iload_n 0, 1) := by decide +kernel
theorem d_X_held_19 : decode (iC M_X_held) 19 = .ok (.ireturn, 1) := by decide +kernel
theorem d_R_takeWhole_0 : decode (iC M_R_takeWhole) 0 = .ok (.aload_n 0, 1) := by decide +kernel
theorem d_R_takeWhole_1 : decode (iC M_R_takeWhole) 1 = .ok (.getfield 9, 3) := by decide +kernel
theorem d_R_takeWhole_4 : decode (iC M_R_takeWhole) 4 = .ok (.iconst 3, 1) := by decide +kernel
theorem d_R_takeWhole_5 : decode (iC M_R_takeWhole) 5 = .ok (.dup2, 1) := by decide +kernel
theorem d_R_takeWhole_6 : decode (iC M_R_takeWhole) 6 = .ok (.iaload, 1) := by decide +kernel
theorem d_R_takeWhole_7 : decode (iC M_R_takeWhole) 7 = .ok (.iconst 1, 1) := by decide +kernel
theorem d_R_takeWhole_8 : decode (iC M_R_takeWhole) 8 = .ok (.iadd, 1) := by decide +kernel
theorem d_R_takeWhole_9 : decode (iC M_R_takeWhole) 9 = .ok (.iastore, 1) := by decide +kernel
theorem d_R_takeWhole_10 : decode (iC M_R_takeWhole) 10 = .ok (.aload_n 0, 1) := by decide +kernel
theorem d_R_takeWhole_11 : decode (iC M_R_takeWhole) 11 = .ok (.getfield 29, 3) := by decide +kernel
theorem d_R_takeWhole_14 : decode (iC M_R_takeWhole) 14 = .ok (.getfield 52, 3) := by decide +kernel
theorem d_R_takeWhole_17 : decode (iC M_R_takeWhole) 17 = .ok (.iconst 0, 1) := by decide +kernel
theorem d_R_takeWhole_18 : decode (iC M_R_takeWhole) 18 = .ok (.iaload, 1) := by decide +kernel
theorem d_R_takeWhole_19 : decode (iC M_R_takeWhole) 19 = .ok (.istore_n 1, 1) := by decide +kernel
theorem d_R_takeWhole_20 : decode (iC M_R_takeWhole) 20 = .ok (.iload_n 1, 1) := by decide +kernel
theorem d_R_takeWhole_21 : decode (iC M_R_takeWhole) 21 = .ok (.iconst 1, 1) := by decide +kernel
theorem d_R_takeWhole_22 : decode (iC M_R_takeWhole) 22 = .ok (.if_icmp .eq 17, 3) := by decide +kernel
theorem d_R_takeWhole_25 : decode (iC M_R_takeWhole) 25 = .ok (.iload_n 1, 1) := by decide +kernel
theorem d_R_takeWhole_26 : decode (iC M_R_takeWhole) 26 = .ok (.iconst 2, 1) := by decide +kernel
theorem d_R_takeWhole_27 : decode (iC M_R_takeWhole) 27 = .ok (.if_icmp .eq 12, 3) := by decide +kernel
theorem d_R_takeWhole_30 : decode (iC M_R_takeWhole) 30 = .ok (.aload_n 0, 1) := by decide +kernel
theorem d_R_takeWhole_31 : decode (iC M_R_takeWhole) 31 = .ok (.aload_n 0, 1) := by decide +kernel
theorem d_R_takeWhole_32 : decode (iC M_R_takeWhole) 32 = .ok (.getfield 29, 3) := by decide +kernel
theorem d_R_takeWhole_35 : decode (iC M_R_takeWhole) 35 = .ok (.invokevirtual 55, 3) := by decide +kernel
theorem d_R_takeWhole_38 : decode (iC M_R_takeWhole) 38 = .ok (.return_, 1) := by decide +kernel
theorem d_R_takeWhole_39 : decode (iC M_R_takeWhole) 39 = .ok (.aload_n 0, 1) := by decide +kernel
theorem d_R_takeWhole_40 : decode (iC M_R_takeWhole) 40 = .ok (.getfield 45, 3) := by decide +kernel
theorem d_R_takeWhole_43 : decode (iC M_R_takeWhole) 43 = .ok (.ifCond .le 11, 3) := by decide +kernel
theorem d_R_takeWhole_46 : decode (iC M_R_takeWhole) 46 = .ok (.aload_n 0, 1) := by decide +kernel
theorem d_R_takeWhole_47 : decode (iC M_R_takeWhole) 47 = .ok (.aload_n 0, 1) := by decide +kernel
theorem d_R_takeWhole_48 : decode (iC M_R_takeWhole) 48 = .ok (.getfield 33, 3) := by decide +kernel
theorem d_R_takeWhole_51 : decode (iC M_R_takeWhole) 51 = .ok (.invokevirtual 55, 3) := by decide +kernel
theorem d_R_takeWhole_54 : decode (iC M_R_takeWhole) 54 = .ok (.aload_n 0, 1) := by decide +kernel
theorem d_R_takeWhole_55 : decode (iC M_R_takeWhole) 55 = .ok (.getfield 36, 3) := by decide +kernel
theorem d_R_takeWhole_58 : decode (iC M_R_takeWhole) 58 = .ok (.astore_n 2, 1) := by decide +kernel
theorem d_R_takeWhole_59 : decode (iC M_R_takeWhole) 59 = .ok (.aload_n 0, 1) := by decide +kernel
theorem d_R_takeWhole_60 : decode (iC M_R_takeWhole) 60 = .ok (.aload_n 0, 1) := by decide +kernel
theorem d_R_takeWhole_61 : decode (iC M_R_takeWhole) 61 = .ok (.getfield 33, 3) := by decide +kernel
theorem d_R_takeWhole_64 : decode (iC M_R_takeWhole) 64 = .ok (.putfield 36, 3) := by decide +kernel
theorem d_R_takeWhole_67 : decode (iC M_R_takeWhole) 67 = .ok (.aload_n 0, 1) := by decide +kernel
theorem d_R_takeWhole_68 : decode (iC M_R_takeWhole) 68 = .ok (.aload_n 0, 1) := by decide +kernel
theorem d_R_takeWhole_69 : decode (iC M_R_takeWhole) 69 = .ok (.getfield 29, 3) := by decide +kernel
theorem d_R_takeWhole_72 : decode (iC M_R_takeWhole) 72 = .ok (.putfield 33, 3) := by decide +kernel
theorem d_R_takeWhole_75 : decode (iC M_R_takeWhole) 75 = .ok (.aload_n 0, 1) := by decide +kernel
theorem d_R_takeWhole_76 : decode (iC M_R_takeWhole) 76 = .ok (.aload_n 2, 1) := by decide +kernel
theorem d_R_takeWhole_77 : decode (iC M_R_takeWhole) 77 = .ok (.putfield 29, 3) := by decide +kernel
theorem d_R_takeWhole_80 : decode (iC M_R_takeWhole) 80 = .ok (.aload_n 0, 1) := by decide +kernel
theorem d_R_takeWhole_81 : decode (iC M_R_takeWhole) 81 = .ok (.iconst 2, 1) := by decide +kernel
theorem d_R_takeWhole_82 : decode (iC M_R_takeWhole) 82 = .ok (.aload_n 0, 1) := by decide +kernel
theorem d_R_takeWhole_83 : decode (iC M_R_takeWhole) 83 = .ok (.getfield 45, 3) := by decide +kernel
theorem d_R_takeWhole_86 : decode (iC M_R_takeWhole) 86 = .ok (.iconst 1, 1) := by decide +kernel
theorem d_R_takeWhole_87 : decode (iC M_R_takeWhole) 87 = .ok (.iadd, 1) := by decide +kernel
theorem d_R_takeWhole_88 : decode (iC M_R_takeWhole) 88 = .ok (.invokestatic 59, 3) := by decide +kernel
theorem d_R_takeWhole_91 : decode (iC M_R_takeWhole) 91 = .ok (.putfield 45, 3) := by decide +kernel
theorem d_R_takeWhole_94 : decode (iC M_R_takeWhole) 94 = .ok (.return_, 1) := by decide +kernel
theorem d_R_show_0 : decode (iC M_R_show) 0 = .ok (.aload_n 0, 1) := by decide +kernel
theorem d_R_show_1 : decode (iC M_R_show) 1 = .ok (.getfield 9, 3) := by decide +kernel
theorem d_R_show_4 : decode (iC M_R_show) 4 = .ok (.iconst 2, 1) := by decide +kernel
theorem d_R_show_5 : decode (iC M_R_show) 5 = .ok (.iaload, 1) := by decide +kernel
theorem d_R_show_6 : decode (iC M_R_show) 6 = .ok (.istore_n 2, 1) := by decide +kernel
theorem d_R_show_7 : decode (iC M_R_show) 7 = .ok (.aload_n 0, 1) := by decide +kernel
theorem d_R_show_8 : decode (iC M_R_show) 8 = .ok (.getfield 9, 3) := by decide +kernel
theorem d_R_show_11 : decode (iC M_R_show) 11 = .ok (.iconst 2, 1) := by decide +kernel
theorem d_R_show_12 : decode (iC M_R_show) 12 = .ok (.dup2, 1) := by decide +kernel
theorem d_R_show_13 : decode (iC M_R_show) 13 = .ok (.iaload, 1) := by decide +kernel
theorem d_R_show_14 : decode (iC M_R_show) 14 = .ok (.iconst 1, 1) := by decide +kernel
theorem d_R_show_15 : decode (iC M_R_show) 15 = .ok (.iadd, 1) := by decide +kernel
theorem d_R_show_16 : decode (iC M_R_show) 16 = .ok (.iastore, 1) := by decide +kernel
theorem d_R_show_17 : decode (iC M_R_show) 17 = .ok (.iload_n 2, 1) := by decide +kernel
theorem d_R_show_18 : decode (iC M_R_show) 18 = .ok (.bipush 20, 2) := by decide +kernel
theorem d_R_show_20 : decode (iC M_R_show) 20 = .ok (.if_icmp .lt 4, 3) := by decide +kernel
theorem d_R_show_23 : decode (iC M_R_show) 23 = .ok (.return_, 1) := by decide +kernel
theorem d_R_show_24 : decode (iC M_R_show) 24 = .ok (.aload_n 0, 1) := by decide +kernel
theorem d_R_show_25 : decode (iC M_R_show) 25 = .ok (.getfield 17, 3) := by decide +kernel
theorem d_R_show_28 : decode (iC M_R_show) 28 = .ok (.iload_n 2, 1) := by decide +kernel
theorem d_R_show_29 : decode (iC M_R_show) 29 = .ok (.aaload, 1) := by decide +kernel
theorem d_R_show_30 : decode (iC M_R_show) 30 = .ok (.astore_n 3, 1) := by decide +kernel
theorem d_R_show_31 : decode (iC M_R_show) 31 = .ok (.aload_n 3, 1) := by decide +kernel
theorem d_R_show_32 : decode (iC M_R_show) 32 = .ok (.ifnonnull 18, 3) := by decide +kernel
theorem d_R_show_35 : decode (iC M_R_show) 35 = .ok (.new 15, 3) := by decide +kernel
theorem d_R_show_38 : decode (iC M_R_show) 38 = .ok (.dup, 1) := by decide +kernel
theorem d_R_show_39 : decode (iC M_R_show) 39 = .ok (.invokespecial 28, 3) := by decide +kernel
theorem d_R_show_42 : decode (iC M_R_show) 42 = .ok (.astore_n 3, 1) := by decide +kernel
theorem d_R_show_43 : decode (iC M_R_show) 43 = .ok (.aload_n 0, 1) := by decide +kernel
theorem d_R_show_44 : decode (iC M_R_show) 44 = .ok (.getfield 17, 3) := by decide +kernel
theorem d_R_show_47 : decode (iC M_R_show) 47 = .ok (.iload_n 2, 1) := by decide +kernel
theorem d_R_show_48 : decode (iC M_R_show) 48 = .ok (.aload_n 3, 1) := by decide +kernel
theorem d_R_show_49 : decode (iC M_R_show) 49 = .ok (.aastore, 1) := by decide +kernel
theorem d_R_show_50 : decode (iC M_R_show) 50 = .ok (.aload_n 3, 1) := by decide +kernel
theorem d_R_show_51 : decode (iC M_R_show) 51 = .ok (.aload_n 0, 1) := by decide +kernel
theorem d_R_show_52 : decode (iC M_R_show) 52 = .ok (.getfield 21, 3) := by decide +kernel
theorem d_R_show_55 : decode (iC M_R_show) 55 = .ok (.aload_n 0, 1) := by decide +kernel
theorem d_R_show_56 : decode (iC M_R_show) 56 = .ok (.getfield 25, 3) := by decide +kernel
theorem d_R_show_59 : decode (iC M_R_show) 59 = .ok (.invokevirtual 48, 3) := by decide +kernel
theorem d_R_show_62 : decode (iC M_R_show) 62 = .ok (.aload_n 3, 1) := by decide +kernel
theorem d_R_show_63 : decode (iC M_R_show) 63 = .ok (.aload_n 1, 1) := by decide +kernel
theorem d_R_show_64 : decode (iC M_R_show) 64 = .ok (.invokevirtual 65, 3) := by decide +kernel
theorem d_R_show_67 : decode (iC M_R_show) 67 = .ok (.return_, 1) := by decide +kernel
theorem d_R_finish_0 : decode (iC M_R_finish) 0 = .ok (.aload_n 0, 1) := by decide +kernel
theorem d_R_finish_1 : decode (iC M_R_finish) 1 = .ok (.getfield 45, 3) := by decide +kernel
theorem d_R_finish_4 : decode (iC M_R_finish) 4 = .ok (.ifCond .le 11, 3) := by decide +kernel
theorem d_R_finish_7 : decode (iC M_R_finish) 7 = .ok (.aload_n 0, 1) := by decide +kernel
theorem d_R_finish_8 : decode (iC M_R_finish) 8 = .ok (.aload_n 0, 1) := by decide +kernel
theorem d_R_finish_9 : decode (iC M_R_finish) 9 = .ok (.getfield 33, 3) := by decide +kernel
theorem d_R_finish_12 : decode (iC M_R_finish) 12 = .ok (.invokevirtual 55, 3) := by decide +kernel
theorem d_R_finish_15 : decode (iC M_R_finish) 15 = .ok (.return_, 1) := by decide +kernel
theorem d_X_wrong_0 : decode (iC M_X_wrong) 0 = .ok (.aload_n 0, 1) := by decide +kernel
theorem d_X_wrong_1 : decode (iC M_X_wrong) 1 = .ok (.getfield 10, 3) := by decide +kernel
theorem d_X_wrong_4 : decode (iC M_X_wrong) 4 = .ok (.getfield 70, 3) := by decide +kernel
theorem d_X_wrong_7 : decode (iC M_X_wrong) 7 = .ok (.ireturn, 1) := by decide +kernel
theorem d_X_dot_0 : decode (iC M_X_dot) 0 = .ok (.aload_n 0, 1) := by decide +kernel
theorem d_X_dot_1 : decode (iC M_X_dot) 1 = .ok (.getfield 19, 3) := by decide +kernel
theorem d_X_dot_4 : decode (iC M_X_dot) 4 = .ok (.iload_n 1, 1) := by decide +kernel
theorem d_X_dot_5 : decode (iC M_X_dot) 5 = .ok (.iload_n 2, 1) := by decide +kernel
theorem d_X_dot_6 : decode (iC M_X_dot) 6 = .ok (.invokevirtual 86, 3) := by decide +kernel
theorem d_X_dot_9 : decode (iC M_X_dot) 9 = .ok (.astore 5, 2) := by decide +kernel
theorem d_X_dot_11 : decode (iC M_X_dot) 11 = .ok (.aload 5, 2) := by decide +kernel
theorem d_X_dot_13 : decode (iC M_X_dot) 13 = .ok (.ifnonnull 7, 3) := by decide +kernel
theorem d_X_dot_16 : decode (iC M_X_dot) 16 = .ok (.iconst (-1), 1) := by decide +kernel
theorem d_X_dot_17 : decode (iC M_X_dot) 17 = .ok (.goto 11, 3) := by decide +kernel
theorem d_X_dot_20 : decode (iC M_X_dot) 20 = .ok (.aload 5, 2) := by decide +kernel
theorem d_X_dot_22 : decode (iC M_X_dot) 22 = .ok (.iload_n 3, 1) := by decide +kernel
theorem d_X_dot_23 : decode (iC M_X_dot) 23 = .ok (.iload 4, 2) := by decide +kernel
theorem d_X_dot_25 : decode (iC M_X_dot) 25 = .ok (.invokevirtual 90, 3) := by decide +kernel
theorem d_X_dot_28 : decode (iC M_X_dot) 28 = .ok (.ireturn, 1) := by decide +kernel
theorem d_R_keptPlane_0 : decode (iC M_R_keptPlane) 0 = .ok (.aload_n 0, 1) := by decide +kernel
theorem d_R_keptPlane_1 : decode (iC M_R_keptPlane) 1 = .ok (.iload_n 1, 1) := by decide +kernel
theorem d_R_keptPlane_2 : decode (iC M_R_keptPlane) 2 = .ok (.invokevirtual 68, 3) := by decide +kernel
theorem d_R_keptPlane_5 : decode (iC M_R_keptPlane) 5 = .ok (.astore_n 3, 1) := by decide +kernel
theorem d_R_keptPlane_6 : decode (iC M_R_keptPlane) 6 = .ok (.aload_n 3, 1) := by decide +kernel
theorem d_R_keptPlane_7 : decode (iC M_R_keptPlane) 7 = .ok (.ifnull 16, 3) := by decide +kernel
theorem d_R_keptPlane_10 : decode (iC M_R_keptPlane) 10 = .ok (.iload_n 2, 1) := by decide +kernel
theorem d_R_keptPlane_11 : decode (iC M_R_keptPlane) 11 = .ok (.ifCond .lt 12, 3) := by decide +kernel
theorem d_R_keptPlane_14 : decode (iC M_R_keptPlane) 14 = .ok (.iload_n 2, 1) := by decide +kernel
theorem d_R_keptPlane_15 : decode (iC M_R_keptPlane) 15 = .ok (.aload_n 3, 1) := by decide +kernel
theorem d_R_keptPlane_16 : decode (iC M_R_keptPlane) 16 = .ok (.getfield 72, 3) := by decide +kernel
theorem d_R_keptPlane_19 : decode (iC M_R_keptPlane) 19 = .ok (.arraylength, 1) := by decide +kernel
theorem d_R_keptPlane_20 : decode (iC M_R_keptPlane) 20 = .ok (.if_icmp .lt 5, 3) := by decide +kernel
theorem d_R_keptPlane_23 : decode (iC M_R_keptPlane) 23 = .ok (.aconst_null, 1) := by decide +kernel
theorem d_R_keptPlane_24 : decode (iC M_R_keptPlane) 24 = .ok (.areturn, 1) := by decide +kernel
theorem d_R_keptPlane_25 : decode (iC M_R_keptPlane) 25 = .ok (.aload_n 3, 1) := by decide +kernel
theorem d_R_keptPlane_26 : decode (iC M_R_keptPlane) 26 = .ok (.getfield 72, 3) := by decide +kernel
theorem d_R_keptPlane_29 : decode (iC M_R_keptPlane) 29 = .ok (.iload_n 2, 1) := by decide +kernel
theorem d_R_keptPlane_30 : decode (iC M_R_keptPlane) 30 = .ok (.aaload, 1) := by decide +kernel
theorem d_R_keptPlane_31 : decode (iC M_R_keptPlane) 31 = .ok (.areturn, 1) := by decide +kernel
theorem d_R_keptPicture_0 : decode (iC M_R_keptPicture) 0 = .ok (.iload_n 1, 1) := by decide +kernel
theorem d_R_keptPicture_1 : decode (iC M_R_keptPicture) 1 = .ok (.ifCond .lt 19, 3) := by decide +kernel
theorem d_R_keptPicture_4 : decode (iC M_R_keptPicture) 4 = .ok (.iload_n 1, 1) := by decide +kernel
theorem d_R_keptPicture_5 : decode (iC M_R_keptPicture) 5 = .ok (.bipush 20, 2) := by decide +kernel
theorem d_R_keptPicture_7 : decode (iC M_R_keptPicture) 7 = .ok (.if_icmp .ge 13, 3) := by decide +kernel
theorem d_R_keptPicture_10 : decode (iC M_R_keptPicture) 10 = .ok (.iload_n 1, 1) := by decide +kernel
theorem d_R_keptPicture_11 : decode (iC M_R_keptPicture) 11 = .ok (.aload_n 0, 1) := by decide +kernel
theorem d_R_keptPicture_12 : decode (iC M_R_keptPicture) 12 = .ok (.getfield 9, 3) := by decide +kernel
theorem d_R_keptPicture_15 : decode (iC M_R_keptPicture) 15 = .ok (.iconst 2, 1) := by decide +kernel
theorem d_R_keptPicture_16 : decode (iC M_R_keptPicture) 16 = .ok (.iaload, 1) := by decide +kernel
theorem d_R_keptPicture_17 : decode (iC M_R_keptPicture) 17 = .ok (.if_icmp .lt 7, 3) := by decide +kernel
theorem d_R_keptPicture_20 : decode (iC M_R_keptPicture) 20 = .ok (.aconst_null, 1) := by decide +kernel
theorem d_R_keptPicture_21 : decode (iC M_R_keptPicture) 21 = .ok (.goto 9, 3) := by decide +kernel
theorem d_R_keptPicture_24 : decode (iC M_R_keptPicture) 24 = .ok (.aload_n 0, 1) := by decide +kernel
theorem d_R_keptPicture_25 : decode (iC M_R_keptPicture) 25 = .ok (.getfield 17, 3) := by decide +kernel
theorem d_R_keptPicture_28 : decode (iC M_R_keptPicture) 28 = .ok (.iload_n 1, 1) := by decide +kernel
theorem d_R_keptPicture_29 : decode (iC M_R_keptPicture) 29 = .ok (.aaload, 1) := by decide +kernel
theorem d_R_keptPicture_30 : decode (iC M_R_keptPicture) 30 = .ok (.areturn, 1) := by decide +kernel
theorem d_X_sum_0 : decode (iC M_X_sum) 0 = .ok (.aload_n 0, 1) := by decide +kernel
theorem d_X_sum_1 : decode (iC M_X_sum) 1 = .ok (.getfield 19, 3) := by decide +kernel
theorem d_X_sum_4 : decode (iC M_X_sum) 4 = .ok (.iload_n 1, 1) := by decide +kernel
theorem d_X_sum_5 : decode (iC M_X_sum) 5 = .ok (.iload_n 2, 1) := by decide +kernel
theorem d_X_sum_6 : decode (iC M_X_sum) 6 = .ok (.invokevirtual 86, 3) := by decide +kernel
theorem d_X_sum_9 : decode (iC M_X_sum) 9 = .ok (.astore_n 3, 1) := by decide +kernel
theorem d_X_sum_10 : decode (iC M_X_sum) 10 = .ok (.aload_n 3, 1) := by decide +kernel
theorem d_X_sum_11 : decode (iC M_X_sum) 11 = .ok (.ifnonnull 7, 3) := by decide +kernel
theorem d_X_sum_14 : decode (iC M_X_sum) 14 = .ok (.iconst (-1), 1) := by decide +kernel
theorem d_X_sum_15 : decode (iC M_X_sum) 15 = .ok (.goto 7, 3) := by decide +kernel
theorem d_X_sum_18 : decode (iC M_X_sum) 18 = .ok (.aload_n 3, 1) := by decide +kernel
theorem d_X_sum_19 : decode (iC M_X_sum) 19 = .ok (.invokevirtual 95, 3) := by decide +kernel
theorem d_X_sum_22 : decode (iC M_X_sum) 22 = .ok (.ireturn, 1) := by decide +kernel
theorem d_X_look_0 : decode (iC M_X_look) 0 = .ok (.iload_n 1, 1) := by decide +kernel
theorem d_X_look_1 : decode (iC M_X_look) 1 = .ok (.ifCond .lt 15, 3) := by decide +kernel
theorem d_X_look_4 : decode (iC M_X_look) 4 = .ok (.iload_n 1, 1) := by decide +kernel
theorem d_X_look_5 : decode (iC M_X_look) 5 = .ok (.aload_n 0, 1) := by decide +kernel
theorem d_X_look_6 : decode (iC M_X_look) 6 = .ok (.getfield 19, 3) := by decide +kernel
theorem d_X_look_9 : decode (iC M_X_look) 9 = .ok (.getfield 66, 3) := by decide +kernel
theorem d_X_look_12 : decode (iC M_X_look) 12 = .ok (.arraylength, 1) := by decide +kernel
theorem d_X_look_13 : decode (iC M_X_look) 13 = .ok (.if_icmp .lt 11, 3) := by decide +kernel
theorem d_X_look_16 : decode (iC M_X_look) 16 = .ok (.new 74, 3) := by decide +kernel
theorem d_X_look_19 : decode (iC M_X_look) 19 = .ok (.dup, 1) := by decide +kernel
theorem d_X_look_20 : decode (iC M_X_look) 20 = .ok (.invokespecial 76, 3) := by decide +kernel
theorem d_X_look_23 : decode (iC M_X_look) 23 = .ok (.athrow, 1) := by decide +kernel
theorem d_X_look_24 : decode (iC M_X_look) 24 = .ok (.aload_n 0, 1) := by decide +kernel
theorem d_X_look_25 : decode (iC M_X_look) 25 = .ok (.getfield 19, 3) := by decide +kernel
theorem d_X_look_28 : decode (iC M_X_look) 28 = .ok (.getfield 66, 3) := by decide +kernel
theorem d_X_look_31 : decode (iC M_X_look) 31 = .ok (.iload_n 1, 1) := by decide +kernel
theorem d_X_look_32 : decode (iC M_X_look) 32 = .ok (.iaload, 1) := by decide +kernel
theorem d_X_look_33 : decode (iC M_X_look) 33 = .ok (.ireturn, 1) := by decide +kernel
theorem d_X_shown_0 : decode (iC M_X_shown) 0 = .ok (.aload_n 0, 1) := by decide +kernel
theorem d_X_shown_1 : decode (iC M_X_shown) 1 = .ok (.getfield 19, 3) := by decide +kernel
theorem d_X_shown_4 : decode (iC M_X_shown) 4 = .ok (.iload_n 1, 1) := by decide +kernel
theorem d_X_shown_5 : decode (iC M_X_shown) 5 = .ok (.invokevirtual 77, 3) := by decide +kernel
theorem d_X_shown_8 : decode (iC M_X_shown) 8 = .ok (.astore_n 3, 1) := by decide +kernel
theorem d_X_shown_9 : decode (iC M_X_shown) 9 = .ok (.aload_n 3, 1) := by decide +kernel
theorem d_X_shown_10 : decode (iC M_X_shown) 10 = .ok (.ifnull 16, 3) := by decide +kernel
theorem d_X_shown_13 : decode (iC M_X_shown) 13 = .ok (.iload_n 2, 1) := by decide +kernel
theorem d_X_shown_14 : decode (iC M_X_shown) 14 = .ok (.ifCond .lt 12, 3) := by decide +kernel
theorem d_X_shown_17 : decode (iC M_X_shown) 17 = .ok (.iload_n 2, 1) := by decide +kernel
theorem d_X_shown_18 : decode (iC M_X_shown) 18 = .ok (.aload_n 3, 1) := by decide +kernel
theorem d_X_shown_19 : decode (iC M_X_shown) 19 = .ok (.getfield 81, 3) := by decide +kernel
theorem d_X_shown_22 : decode (iC M_X_shown) 22 = .ok (.arraylength, 1) := by decide +kernel
theorem d_X_shown_23 : decode (iC M_X_shown) 23 = .ok (.if_icmp .lt 11, 3) := by decide +kernel
theorem d_X_shown_26 : decode (iC M_X_shown) 26 = .ok (.new 74, 3) := by decide +kernel
theorem d_X_shown_29 : decode (iC M_X_shown) 29 = .ok (.dup, 1) := by decide +kernel
theorem d_X_shown_30 : decode (iC M_X_shown) 30 = .ok (.invokespecial 76, 3) := by decide +kernel
theorem d_X_shown_33 : decode (iC M_X_shown) 33 = .ok (.athrow, 1) := by decide +kernel
theorem d_X_shown_34 : decode (iC M_X_shown) 34 = .ok (.aload_n 3, 1) := by decide +kernel
theorem d_X_shown_35 : decode (iC M_X_shown) 35 = .ok (.getfield 81, 3) := by decide +kernel
theorem d_X_shown_38 : decode (iC M_X_shown) 38 = .ok (.iload_n 2, 1) := by decide +kernel
theorem d_X_shown_39 : decode (iC M_X_shown) 39 = .ok (.iaload, 1) := by decide +kernel
theorem d_X_shown_40 : decode (iC M_X_shown) 40 = .ok (.ireturn, 1) := by decide +kernel
end
section
theorem d_B_init_0 : decode (iC M_B_init) 0 = .ok (.aload_n 0, 1) := by decide +kernel
theorem d_B_init_1 : decode (iC M_B_init) 1 = .ok (.invokespecial 1, 3) := by decide +kernel
theorem d_B_init_4 : decode (iC M_B_init) 4 = .ok (.aload_n 0, 1) := by decide +kernel
theorem d_B_init_5 : decode (iC M_B_init) 5 = .ok (.bipush 64, 2) := by decide +kernel
theorem d_B_init_7 : decode (iC M_B_init) 7 = .ok (.newarray .int, 2) := by decide +kernel
theorem d_B_init_9 : decode (iC M_B_init) 9 = .ok (.putfield 7, 3) := by decide +kernel
theorem d_B_init_12 : decode (iC M_B_init) 12 = .ok (.aload_n 0, 1) := by decide +kernel
theorem d_B_init_13 : decode (iC M_B_init) 13 = .ok (.bipush 64, 2) := by decide +kernel
theorem d_B_init_15 : decode (iC M_B_init) 15 = .ok (.newarray .int, 2) := by decide +kernel
theorem d_B_init_17 : decode (iC M_B_init) 17 = .ok (.putfield 13, 3) := by decide +kernel
theorem d_B_init_20 : decode (iC M_B_init) 20 = .ok (.return_, 1) := by decide +kernel
theorem d_J_fill_0 : decode (iC M_J_fill) 0 = .ok (.iconst 0, 1) := by decide +kernel
theorem d_J_fill_1 : decode (iC M_J_fill) 1 = .ok (.istore_n 2, 1) := by decide +kernel
theorem d_J_fill_2 : decode (iC M_J_fill) 2 = .ok (.aload_n 0, 1) := by decide +kernel
theorem d_J_fill_3 : decode (iC M_J_fill) 3 = .ok (.arraylength, 1) := by decide +kernel
theorem d_J_fill_4 : decode (iC M_J_fill) 4 = .ok (.istore_n 3, 1) := by decide +kernel
theorem d_J_fill_5 : decode (iC M_J_fill) 5 = .ok (.iload_n 2, 1) := by decide +kernel
theorem d_J_fill_6 : decode (iC M_J_fill) 6 = .ok (.iload_n 3, 1) := by decide +kernel
theorem d_J_fill_7 : decode (iC M_J_fill) 7 = .ok (.if_icmp .ge 13, 3) := by decide +kernel
theorem d_J_fill_10 : decode (iC M_J_fill) 10 = .ok (.aload_n 0, 1) := by decide +kernel
theorem d_J_fill_11 : decode (iC M_J_fill) 11 = .ok (.iload_n 2, 1) := by decide +kernel
theorem d_J_fill_12 : decode (iC M_J_fill) 12 = .ok (.iload_n 1, 1) := by decide +kernel
theorem d_J_fill_13 : decode (iC M_J_fill) 13 = .ok (.iastore, 1) := by decide +kernel
theorem d_J_fill_14 : decode (iC M_J_fill) 14 = .ok (.iinc 2 1, 3) := by decide +kernel
theorem d_J_fill_17 : decode (iC M_J_fill) 17 = .ok (.goto (-12), 3) := by decide +kernel
theorem d_J_fill_20 : decode (iC M_J_fill) 20 = .ok (.return_, 1) := by decide +kernel
theorem d_B_clear_0 : decode (iC M_B_clear) 0 = .ok (.aload_n 0, 1) := by decide +kernel
theorem d_B_clear_1 : decode (iC M_B_clear) 1 = .ok (.getfield 7, 3) := by decide +kernel
theorem d_B_clear_4 : decode (iC M_B_clear) 4 = .ok (.iconst 0, 1) := by decide +kernel
theorem d_B_clear_5 : decode (iC M_B_clear) 5 = .ok (.invokestatic 16, 3) := by decide +kernel
theorem d_B_clear_8 : decode (iC M_B_clear) 8 = .ok (.aload_n 0, 1) := by decide +kernel
theorem d_B_clear_9 : decode (iC M_B_clear) 9 = .ok (.iconst 0, 1) := by decide +kernel
theorem d_B_clear_10 : decode (iC M_B_clear) 10 = .ok (.putfield 22, 3) := by decide +kernel
theorem d_B_clear_13 : decode (iC M_B_clear) 13 = .ok (.aload_n 0, 1) := by decide +kernel
theorem d_B_clear_14 : decode (iC M_B_clear) 14 = .ok (.iconst 0, 1) := by decide +kernel
theorem d_B_clear_15 : decode (iC M_B_clear) 15 = .ok (.putfield 26, 3) := by decide +kernel
theorem d_B_clear_18 : decode (iC M_B_clear) 18 = .ok (.return_, 1) := by decide +kernel
theorem d_B_putDc_0 : decode (iC M_B_putDc) 0 = .ok (.aload_n 0, 1) := by decide +kernel
theorem d_B_putDc_1 : decode (iC M_B_putDc) 1 = .ok (.iconst 0, 1) := by decide +kernel
theorem d_B_putDc_2 : decode (iC M_B_putDc) 2 = .ok (.bipush 8, 2) := by decide +kernel
theorem d_B_putDc_4 : decode (iC M_B_putDc) 4 = .ok (.iload_n 1, 1) := by decide +kernel
theorem d_B_putDc_5 : decode (iC M_B_putDc) 5 = .ok (.imul, 1) := by decide +kernel
theorem d_B_putDc_6 : decode (iC M_B_putDc) 6 = .ok (.invokevirtual 29, 3) := by decide +kernel
theorem d_B_putDc_9 : decode (iC M_B_putDc) 9 = .ok (.return_, 1) := by decide +kernel
theorem d_B_put_0 : decode (iC M_B_put) 0 = .ok (.aload_n 0, 1) := by decide +kernel
theorem d_B_put_1 : decode (iC M_B_put) 1 = .ok (.getfield 7, 3) := by decide +kernel
theorem d_B_put_4 : decode (iC M_B_put) 4 = .ok (.iload_n 1, 1) := by decide +kernel
theorem d_B_put_5 : decode (iC M_B_put) 5 = .ok (.iload_n 2, 1) := by decide +kernel
theorem d_B_put_6 : decode (iC M_B_put) 6 = .ok (.iastore, 1) := by decide +kernel
theorem d_B_put_7 : decode (iC M_B_put) 7 = .ok (.aload_n 0, 1) := by decide +kernel
theorem d_B_put_8 : decode (iC M_B_put) 8 = .ok (.dup, 1) := by decide +kernel
theorem d_B_put_9 : decode (iC M_B_put) 9 = .ok (.getfield 22, 3) := by decide +kernel
theorem d_B_put_12 : decode (iC M_B_put) 12 = .ok (.iload_n 2, 1) := by decide +kernel
theorem d_B_put_13 : decode (iC M_B_put) 13 = .ok (.iadd, 1) := by decide +kernel
theorem d_B_put_14 : decode (iC M_B_put) 14 = .ok (.putfield 22, 3) := by decide +kernel
theorem d_B_put_17 : decode (iC M_B_put) 17 = .ok (.aload_n 0, 1) := by decide +kernel
theorem d_B_put_18 : decode (iC M_B_put) 18 = .ok (.dup, 1) := by decide +kernel
theorem d_B_put_19 : decode (iC M_B_put) 19 = .ok (.getfield 26, 3) := by decide +kernel
theorem d_B_put_22 : decode (iC M_B_put) 22 = .ok (.iconst 1, 1) := by decide +kernel
theorem d_B_put_23 : decode (iC M_B_put) 23 = .ok (.iload_n 1, 1) := by decide +kernel
theorem d_B_put_24 : decode (iC M_B_put) 24 = .ok (.iconst 3, 1) := by decide +kernel
theorem d_B_put_25 : decode (iC M_B_put) 25 = .ok (.ishr, 1) := by decide +kernel
theorem d_B_put_26 : decode (iC M_B_put) 26 = .ok (.ishl, 1) := by decide +kernel
theorem d_B_put_27 : decode (iC M_B_put) 27 = .ok (.ior, 1) := by decide +kernel
theorem d_B_put_28 : decode (iC M_B_put) 28 = .ok (.putfield 26, 3) := by decide +kernel
theorem d_B_put_31 : decode (iC M_B_put) 31 = .ok (.return_, 1) := by decide +kernel
theorem d_B_putLevel_0 : decode (iC M_B_putLevel) 0 = .ok (.getstatic 33, 3) := by decide +kernel
theorem d_B_putLevel_3 : decode (iC M_B_putLevel) 3 = .ok (.iload_n 1, 1) := by decide +kernel
theorem d_B_putLevel_4 : decode (iC M_B_putLevel) 4 = .ok (.iaload, 1) := by decide +kernel
theorem d_B_putLevel_5 : decode (iC M_B_putLevel) 5 = .ok (.istore 5, 2) := by decide +kernel
theorem d_B_putLevel_7 : decode (iC M_B_putLevel) 7 = .ok (.bipush 38, 2) := by decide +kernel
theorem d_B_putLevel_9 : decode (iC M_B_putLevel) 9 = .ok (.bipush 8, 2) := by decide +kernel
theorem d_B_putLevel_11 : decode (iC M_B_putLevel) 11 = .ok (.iconst 2, 1) := by decide +kernel
theorem d_B_putLevel_12 : decode (iC M_B_putLevel) 12 = .ok (.iload 5, 2) := by decide +kernel
theorem d_B_putLevel_14 : decode (iC M_B_putLevel) 14 = .ok (.bipush 7, 2) := by decide +kernel
theorem d_B_putLevel_16 : decode (iC M_B_putLevel) 16 = .ok (.iand, 1) := by decide +kernel
theorem d_B_putLevel_17 : decode (iC M_B_putLevel) 17 = .ok (.iload 5, 2) := by decide +kernel
theorem d_B_putLevel_19 : decode (iC M_B_putLevel) 19 = .ok (.iconst 3, 1) := by decide +kernel
theorem d_B_putLevel_20 : decode (iC M_B_putLevel) 20 = .ok (.ishr, 1) := by decide +kernel
theorem d_B_putLevel_21 : decode (iC M_B_putLevel) 21 = .ok (.iadd, 1) := by decide +kernel
theorem d_B_putLevel_22 : decode (iC M_B_putLevel) 22 = .ok (.imul, 1) := by decide +kernel
theorem d_B_putLevel_23 : decode (iC M_B_putLevel) 23 = .ok (.iadd, 1) := by decide +kernel
theorem d_B_putLevel_24 : decode (iC M_B_putLevel) 24 = .ok (.invokestatic 36, 3) := by decide +kernel
theorem d_B_putLevel_27 : decode (iC M_B_putLevel) 27 = .ok (.istore 6, 2) := by decide +kernel
theorem d_B_putLevel_29 : decode (iC M_B_putLevel) 29 = .ok (.iload 4, 2) := by decide +kernel
theorem d_B_putLevel_31 : decode (iC M_B_putLevel) 31 = .ok (.ifCond .eq 15, 3) := by decide +kernel
theorem d_B_putLevel_34 : decode (iC M_B_putLevel) 34 = .ok (.iload_n 2, 1) := by decide +kernel
theorem d_B_putLevel_35 : decode (iC M_B_putLevel) 35 = .ok (.iload 6, 2) := by decide +kernel
theorem d_B_putLevel_37 : decode (iC M_B_putLevel) 37 = .ok (.imul, 1) := by decide +kernel
theorem d_B_putLevel_38 : decode (iC M_B_putLevel) 38 = .ok (.iload_n 3, 1) := by decide +kernel
theorem d_B_putLevel_39 : decode (iC M_B_putLevel) 39 = .ok (.imul, 1) := by decide +kernel
theorem d_B_putLevel_40 : decode (iC M_B_putLevel) 40 = .ok (.bipush 8, 2) := by decide +kernel
theorem d_B_putLevel_42 : decode (iC M_B_putLevel) 42 = .ok (.idiv, 1) := by decide +kernel
theorem d_B_putLevel_43 : decode (iC M_B_putLevel) 43 = .ok (.goto 18, 3) := by decide +kernel
theorem d_B_putLevel_46 : decode (iC M_B_putLevel) 46 = .ok (.iconst 2, 1) := by decide +kernel
theorem d_B_putLevel_47 : decode (iC M_B_putLevel) 47 = .ok (.iload_n 2, 1) := by decide +kernel
theorem d_B_putLevel_48 : decode (iC M_B_putLevel) 48 = .ok (.imul, 1) := by decide +kernel
theorem d_B_putLevel_49 : decode (iC M_B_putLevel) 49 = .ok (.iload_n 2, 1) := by decide +kernel
theorem d_B_putLevel_50 : decode (iC M_B_putLevel) 50 = .ok (.ifCond .le 7, 3) := by decide +kernel
theorem d_B_putLevel_53 : decode (iC M_B_putLevel) 53 = .ok (.iconst 1, 1) := by decide +kernel
theorem d_B_putLevel_54 : decode (iC M_B_putLevel) 54 = .ok (.goto 4, 3) := by decide +kernel
theorem d_B_putLevel_57 : decode (iC M_B_putLevel) 57 = .ok (.iconst (-1), 1) := by decide +kernel
theorem d_B_putLevel_58 : decode (iC M_B_putLevel) 58 = .ok (.iadd, 1) := by decide +kernel
theorem d_B_putLevel_59 : decode (iC M_B_putLevel) 59 = .ok (.iload_n 3, 1) := by decide +kernel
theorem d_B_putLevel_60 : decode (iC M_B_putLevel) 60 = .ok (.imul, 1) := by decide +kernel
theorem d_B_putLevel_61 : decode (iC M_B_putLevel) 61 = .ok (.istore 7, 2) := by decide +kernel
theorem d_B_putLevel_63 : decode (iC M_B_putLevel) 63 = .ok (.aload_n 0, 1) := by decide +kernel
theorem d_B_putLevel_64 : decode (iC M_B_putLevel) 64 = .ok (.iload 5, 2) := by decide +kernel
theorem d_B_putLevel_66 : decode (iC M_B_putLevel) 66 = .ok (.iload 7, 2) := by decide +kernel
theorem d_B_putLevel_68 : decode (iC M_B_putLevel) 68 = .ok (.sipush (-2048), 3) := by decide +kernel
theorem d_B_putLevel_71 : decode (iC M_B_putLevel) 71 = .ok (.sipush 2047, 3) := by decide +kernel
theorem d_B_putLevel_74 : decode (iC M_B_putLevel) 74 = .ok (.invokestatic 42, 3) := by decide +kernel
theorem d_B_putLevel_77 : decode (iC M_B_putLevel) 77 = .ok (.invokevirtual 29, 3) := by decide +kernel
theorem d_B_putLevel_80 : decode (iC M_B_putLevel) 80 = .ok (.return_, 1) := by decide +kernel
theorem d_B_makeSums_0 : decode (iC M_B_makeSums) 0 = .ok (.aload_n 0, 1) := by decide +kernel
theorem d_B_makeSums_1 : decode (iC M_B_makeSums) 1 = .ok (.getfield 22, 3) := by decide +kernel
theorem d_B_makeSums_4 : decode (iC M_B_makeSums) 4 = .ok (.iconst 1, 1) := by decide +kernel
theorem d_B_makeSums_5 : decode (iC M_B_makeSums) 5 = .ok (.iand, 1) := by decide +kernel
theorem d_B_makeSums_6 : decode (iC M_B_makeSums) 6 = .ok (.ifCond .ne 26, 3) := by decide +kernel
theorem d_B_makeSums_9 : decode (iC M_B_makeSums) 9 = .ok (.aload_n 0, 1) := by decide +kernel
theorem d_B_makeSums_10 : decode (iC M_B_makeSums) 10 = .ok (.getfield 7, 3) := by decide +kernel
theorem d_B_makeSums_13 : decode (iC M_B_makeSums) 13 = .ok (.bipush 63, 2) := by decide +kernel
theorem d_B_makeSums_15 : decode (iC M_B_makeSums) 15 = .ok (.dup2, 1) := by decide +kernel
theorem d_B_makeSums_16 : decode (iC M_B_makeSums) 16 = .ok (.iaload, 1) := by decide +kernel
theorem d_B_makeSums_17 : decode (iC M_B_makeSums) 17 = .ok (.iconst 1, 1) := by decide +kernel
theorem d_B_makeSums_18 : decode (iC M_B_makeSums) 18 = .ok (.ixor, 1) := by decide +kernel
theorem d_B_makeSums_19 : decode (iC M_B_makeSums) 19 = .ok (.iastore, 1) := by decide +kernel
theorem d_B_makeSums_20 : decode (iC M_B_makeSums) 20 = .ok (.aload_n 0, 1) := by decide +kernel
theorem d_B_makeSums_21 : decode (iC M_B_makeSums) 21 = .ok (.dup, 1) := by decide +kernel
theorem d_B_makeSums_22 : decode (iC M_B_makeSums) 22 = .ok (.getfield 26, 3) := by decide +kernel
theorem d_B_makeSums_25 : decode (iC M_B_makeSums) 25 = .ok (.sipush 128, 3) := by decide +kernel
theorem d_B_makeSums_28 : decode (iC M_B_makeSums) 28 = .ok (.ior, 1) := by decide +kernel
theorem d_B_makeSums_29 : decode (iC M_B_makeSums) 29 = .ok (.putfield 26, 3) := by decide +kernel
theorem d_B_makeSums_32 : decode (iC M_B_makeSums) 32 = .ok (.aload_n 0, 1) := by decide +kernel
theorem d_B_makeSums_33 : decode (iC M_B_makeSums) 33 = .ok (.getfield 13, 3) := by decide +kernel
theorem d_B_makeSums_36 : decode (iC M_B_makeSums) 36 = .ok (.sipush 16384, 3) := by decide +kernel
theorem d_B_makeSums_39 : decode (iC M_B_makeSums) 39 = .ok (.invokestatic 16, 3) := by decide +kernel
theorem d_B_makeSums_42 : decode (iC M_B_makeSums) 42 = .ok (.iconst 0, 1) := by decide +kernel
theorem d_B_makeSums_43 : decode (iC M_B_makeSums) 43 = .ok (.istore_n 1, 1) := by decide +kernel
theorem d_B_makeSums_44 : decode (iC M_B_makeSums) 44 = .ok (.iload_n 1, 1) := by decide +kernel
theorem d_B_makeSums_45 : decode (iC M_B_makeSums) 45 = .ok (.bipush 8, 2) := by decide +kernel
theorem d_B_makeSums_47 : decode (iC M_B_makeSums) 47 = .ok (.if_icmp .ge 26, 3) := by decide +kernel
theorem d_B_makeSums_50 : decode (iC M_B_makeSums) 50 = .ok (.aload_n 0, 1) := by decide +kernel
theorem d_B_makeSums_51 : decode (iC M_B_makeSums) 51 = .ok (.getfield 26, 3) := by decide +kernel
theorem d_B_makeSums_54 : decode (iC M_B_makeSums) 54 = .ok (.iload_n 1, 1) := by decide +kernel
theorem d_B_makeSums_55 : decode (iC M_B_makeSums) 55 = .ok (.ishr, 1) := by decide +kernel
theorem d_B_makeSums_56 : decode (iC M_B_makeSums) 56 = .ok (.iconst 1, 1) := by decide +kernel
theorem d_B_makeSums_57 : decode (iC M_B_makeSums) 57 = .ok (.iand, 1) := by decide +kernel
theorem d_B_makeSums_58 : decode (iC M_B_makeSums) 58 = .ok (.iconst 1, 1) := by decide +kernel
theorem d_B_makeSums_59 : decode (iC M_B_makeSums) 59 = .ok (.if_icmp .ne 8, 3) := by decide +kernel
theorem d_B_makeSums_62 : decode (iC M_B_makeSums) 62 = .ok (.aload_n 0, 1) := by decide +kernel
theorem d_B_makeSums_63 : decode (iC M_B_makeSums) 63 = .ok (.iload_n 1, 1) := by decide +kernel
theorem d_B_makeSums_64 : decode (iC M_B_makeSums) 64 = .ok (.invokevirtual 48, 3) := by decide +kernel
theorem d_B_makeSums_67 : decode (iC M_B_makeSums) 67 = .ok (.iinc 1 1, 3) := by decide +kernel
theorem d_B_makeSums_70 : decode (iC M_B_makeSums) 70 = .ok (.goto (-26), 3) := by decide +kernel
theorem d_B_makeSums_73 : decode (iC M_B_makeSums) 73 = .ok (.iconst 0, 1) := by decide +kernel
theorem d_B_makeSums_74 : decode (iC M_B_makeSums) 74 = .ok (.istore_n 1, 1) := by decide +kernel
theorem d_B_makeSums_75 : decode (iC M_B_makeSums) 75 = .ok (.iload_n 1, 1) := by decide +kernel
theorem d_B_makeSums_76 : decode (iC M_B_makeSums) 76 = .ok (.aload_n 0, 1) := by decide +kernel
theorem d_B_makeSums_77 : decode (iC M_B_makeSums) 77 = .ok (.getfield 13, 3) := by decide +kernel
theorem d_B_makeSums_80 : decode (iC M_B_makeSums) 80 = .ok (.arraylength, 1) := by decide +kernel
theorem d_B_makeSums_81 : decode (iC M_B_makeSums) 81 = .ok (.if_icmp .ge 20, 3) := by decide +kernel
theorem d_B_makeSums_84 : decode (iC M_B_makeSums) 84 = .ok (.aload_n 0, 1) := by decide +kernel
theorem d_B_makeSums_85 : decode (iC M_B_makeSums) 85 = .ok (.getfield 13, 3) := by decide +kernel
theorem d_B_makeSums_88 : decode (iC M_B_makeSums) 88 = .ok (.iload_n 1, 1) := by decide +kernel
theorem d_B_makeSums_89 : decode (iC M_B_makeSums) 89 = .ok (.dup2, 1) := by decide +kernel
theorem d_B_makeSums_90 : decode (iC M_B_makeSums) 90 = .ok (.iaload, 1) := by decide +kernel
theorem d_B_makeSums_91 : decode (iC M_B_makeSums) 91 = .ok (.bipush 15, 2) := by decide +kernel
theorem d_B_makeSums_93 : decode (iC M_B_makeSums) 93 = .ok (.ishr, 1) := by decide +kernel
theorem d_B_makeSums_94 : decode (iC M_B_makeSums) 94 = .ok (.iastore, 1) := by decide +kernel
theorem d_B_makeSums_95 : decode (iC M_B_makeSums) 95 = .ok (.iinc 1 1, 3) := by decide +kernel
theorem d_B_makeSums_98 : decode (iC M_B_makeSums) 98 = .ok (.goto (-23), 3) := by decide +kernel
theorem d_B_makeSums_101 : decode (iC M_B_makeSums) 101 = .ok (.return_, 1) := by decide +kernel
theorem d_B_addRow_0 : decode (iC M_B_addRow) 0 = .ok (.iconst 0, 1) := by decide +kernel
theorem d_B_addRow_1 : decode (iC M_B_addRow) 1 = .ok (.istore_n 2, 1) := by decide +kernel
theorem d_B_addRow_2 : decode (iC M_B_addRow) 2 = .ok (.iload_n 2, 1) := by decide +kernel
theorem d_B_addRow_3 : decode (iC M_B_addRow) 3 = .ok (.bipush 8, 2) := by decide +kernel
theorem d_B_addRow_5 : decode (iC M_B_addRow) 5 = .ok (.if_icmp .ge 105, 3) := by decide +kernel
theorem d_B_addRow_8 : decode (iC M_B_addRow) 8 = .ok (.sipush 1024, 3) := by decide +kernel
theorem d_B_addRow_11 : decode (iC M_B_addRow) 11 = .ok (.istore_n 3, 1) := by decide +kernel
theorem d_B_addRow_12 : decode (iC M_B_addRow) 12 = .ok (.iconst 0, 1) := by decide +kernel
theorem d_B_addRow_13 : decode (iC M_B_addRow) 13 = .ok (.istore 4, 2) := by decide +kernel
theorem d_B_addRow_15 : decode (iC M_B_addRow) 15 = .ok (.iload 4, 2) := by decide +kernel
theorem d_B_addRow_17 : decode (iC M_B_addRow) 17 = .ok (.bipush 8, 2) := by decide +kernel
theorem d_B_addRow_19 : decode (iC M_B_addRow) 19 = .ok (.if_icmp .ge 36, 3) := by decide +kernel
theorem d_B_addRow_22 : decode (iC M_B_addRow) 22 = .ok (.iload_n 3, 1) := by decide +kernel
theorem d_B_addRow_23 : decode (iC M_B_addRow) 23 = .ok (.aload_n 0, 1) := by decide +kernel
theorem d_B_addRow_24 : decode (iC M_B_addRow) 24 = .ok (.getfield 7, 3) := by decide +kernel
theorem d_B_addRow_27 : decode (iC M_B_addRow) 27 = .ok (.bipush 8, 2) := by decide +kernel
theorem d_B_addRow_29 : decode (iC M_B_addRow) 29 = .ok (.iload_n 1, 1) := by decide +kernel
theorem d_B_addRow_30 : decode (iC M_B_addRow) 30 = .ok (.imul, 1) := by decide +kernel
theorem d_B_addRow_31 : decode (iC M_B_addRow) 31 = .ok (.iload 4, 2) := by decide +kernel
theorem d_B_addRow_33 : decode (iC M_B_addRow) 33 = .ok (.iadd, 1) := by decide +kernel
theorem d_B_addRow_34 : decode (iC M_B_addRow) 34 = .ok (.iaload, 1) := by decide +kernel
theorem d_B_addRow_35 : decode (iC M_B_addRow) 35 = .ok (.getstatic 52, 3) := by decide +kernel
theorem d_B_addRow_38 : decode (iC M_B_addRow) 38 = .ok (.bipush 8, 2) := by decide +kernel
theorem d_B_addRow_40 : decode (iC M_B_addRow) 40 = .ok (.iload 4, 2) := by decide +kernel
theorem d_B_addRow_42 : decode (iC M_B_addRow) 42 = .ok (.imul, 1) := by decide +kernel
theorem d_B_addRow_43 : decode (iC M_B_addRow) 43 = .ok (.iload_n 2, 1) := by decide +kernel
theorem d_B_addRow_44 : decode (iC M_B_addRow) 44 = .ok (.iadd, 1) := by decide +kernel
theorem d_B_addRow_45 : decode (iC M_B_addRow) 45 = .ok (.iaload, 1) := by decide +kernel
theorem d_B_addRow_46 : decode (iC M_B_addRow) 46 = .ok (.imul, 1) := by decide +kernel
theorem d_B_addRow_47 : decode (iC M_B_addRow) 47 = .ok (.iadd, 1) := by decide +kernel
theorem d_B_addRow_48 : decode (iC M_B_addRow) 48 = .ok (.istore_n 3, 1) := by decide +kernel
theorem d_B_addRow_49 : decode (iC M_B_addRow) 49 = .ok (.iinc 4 1, 3) := by decide +kernel
theorem d_B_addRow_52 : decode (iC M_B_addRow) 52 = .ok (.goto (-37), 3) := by decide +kernel
theorem d_B_addRow_55 : decode (iC M_B_addRow) 55 = .ok (.iload_n 3, 1) := by decide +kernel
theorem d_B_addRow_56 : decode (iC M_B_addRow) 56 = .ok (.bipush 11, 2) := by decide +kernel
theorem d_B_addRow_58 : decode (iC M_B_addRow) 58 = .ok (.ishr, 1) := by decide +kernel
theorem d_B_addRow_59 : decode (iC M_B_addRow) 59 = .ok (.istore_n 3, 1) := by decide +kernel
theorem d_B_addRow_60 : decode (iC M_B_addRow) 60 = .ok (.iconst 0, 1) := by decide +kernel
theorem d_B_addRow_61 : decode (iC M_B_addRow) 61 = .ok (.istore 4, 2) := by decide +kernel
theorem d_B_addRow_63 : decode (iC M_B_addRow) 63 = .ok (.iload 4, 2) := by decide +kernel
theorem d_B_addRow_65 : decode (iC M_B_addRow) 65 = .ok (.bipush 8, 2) := by decide +kernel
theorem d_B_addRow_67 : decode (iC M_B_addRow) 67 = .ok (.if_icmp .ge 37, 3) := by decide +kernel
theorem d_B_addRow_70 : decode (iC M_B_addRow) 70 = .ok (.aload_n 0, 1) := by decide +kernel
theorem d_B_addRow_71 : decode (iC M_B_addRow) 71 = .ok (.getfield 13, 3) := by decide +kernel
theorem d_B_addRow_74 : decode (iC M_B_addRow) 74 = .ok (.bipush 8, 2) := by decide +kernel
theorem d_B_addRow_76 : decode (iC M_B_addRow) 76 = .ok (.iload 4, 2) := by decide +kernel
theorem d_B_addRow_78 : decode (iC M_B_addRow) 78 = .ok (.imul, 1) := by decide +kernel
theorem d_B_addRow_79 : decode (iC M_B_addRow) 79 = .ok (.iload_n 2, 1) := by decide +kernel
theorem d_B_addRow_80 : decode (iC M_B_addRow) 80 = .ok (.iadd, 1) := by decide +kernel
theorem d_B_addRow_81 : decode (iC M_B_addRow) 81 = .ok (.dup2, 1) := by decide +kernel
theorem d_B_addRow_82 : decode (iC M_B_addRow) 82 = .ok (.iaload, 1) := by decide +kernel
theorem d_B_addRow_83 : decode (iC M_B_addRow) 83 = .ok (.iload_n 3, 1) := by decide +kernel
theorem d_B_addRow_84 : decode (iC M_B_addRow) 84 = .ok (.getstatic 52, 3) := by decide +kernel
theorem d_B_addRow_87 : decode (iC M_B_addRow) 87 = .ok (.bipush 8, 2) := by decide +kernel
theorem d_B_addRow_89 : decode (iC M_B_addRow) 89 = .ok (.iload_n 1, 1) := by decide +kernel
theorem d_B_addRow_90 : decode (iC M_B_addRow) 90 = .ok (.imul, 1) := by decide +kernel
theorem d_B_addRow_91 : decode (iC M_B_addRow) 91 = .ok (.iload 4, 2) := by decide +kernel
theorem d_B_addRow_93 : decode (iC M_B_addRow) 93 = .ok (.iadd, 1) := by decide +kernel
theorem d_B_addRow_94 : decode (iC M_B_addRow) 94 = .ok (.iaload, 1) := by decide +kernel
theorem d_B_addRow_95 : decode (iC M_B_addRow) 95 = .ok (.imul, 1) := by decide +kernel
theorem d_B_addRow_96 : decode (iC M_B_addRow) 96 = .ok (.iadd, 1) := by decide +kernel
theorem d_B_addRow_97 : decode (iC M_B_addRow) 97 = .ok (.iastore, 1) := by decide +kernel
theorem d_B_addRow_98 : decode (iC M_B_addRow) 98 = .ok (.iinc 4 1, 3) := by decide +kernel
theorem d_B_addRow_101 : decode (iC M_B_addRow) 101 = .ok (.goto (-38), 3) := by decide +kernel
theorem d_B_addRow_104 : decode (iC M_B_addRow) 104 = .ok (.iinc 2 1, 3) := by decide +kernel
theorem d_B_addRow_107 : decode (iC M_B_addRow) 107 = .ok (.goto (-105), 3) := by decide +kernel
theorem d_B_addRow_110 : decode (iC M_B_addRow) 110 = .ok (.return_, 1) := by decide +kernel
end
section
theorem d_S_init_0 : decode (iC M_S_init) 0 = .ok (.aload_n 0, 1) := by decide +kernel
theorem d_S_init_1 : decode (iC M_S_init) 1 = .ok (.invokespecial 3, 3) := by decide +kernel
theorem d_S_init_4 : decode (iC M_S_init) 4 = .ok (.aload_n 0, 1) := by decide +kernel
theorem d_S_init_5 : decode (iC M_S_init) 5 = .ok (.new 9, 3) := by decide +kernel
theorem d_S_init_8 : decode (iC M_S_init) 8 = .ok (.dup, 1) := by decide +kernel
theorem d_S_init_9 : decode (iC M_S_init) 9 = .ok (.invokespecial 11, 3) := by decide +kernel
theorem d_S_init_12 : decode (iC M_S_init) 12 = .ok (.putfield 12, 3) := by decide +kernel
theorem d_S_init_15 : decode (iC M_S_init) 15 = .ok (.aload_n 0, 1) := by decide +kernel
theorem d_S_init_16 : decode (iC M_S_init) 16 = .ok (.iconst 3, 1) := by decide +kernel
theorem d_S_init_17 : decode (iC M_S_init) 17 = .ok (.newarray .int, 2) := by decide +kernel
theorem d_S_init_19 : decode (iC M_S_init) 19 = .ok (.putfield 18, 3) := by decide +kernel
theorem d_S_init_22 : decode (iC M_S_init) 22 = .ok (.aload_n 0, 1) := by decide +kernel
theorem d_S_init_23 : decode (iC M_S_init) 23 = .ok (.iconst 2, 1) := by decide +kernel
theorem d_S_init_24 : decode (iC M_S_init) 24 = .ok (.newarray .int, 2) := by decide +kernel
theorem d_S_init_26 : decode (iC M_S_init) 26 = .ok (.putfield 22, 3) := by decide +kernel
theorem d_S_init_29 : decode (iC M_S_init) 29 = .ok (.aload_n 0, 1) := by decide +kernel
theorem d_S_init_30 : decode (iC M_S_init) 30 = .ok (.iconst 2, 1) := by decide +kernel
theorem d_S_init_31 : decode (iC M_S_init) 31 = .ok (.newarray .int, 2) := by decide +kernel
theorem d_S_init_33 : decode (iC M_S_init) 33 = .ok (.putfield 25, 3) := by decide +kernel
theorem d_S_init_36 : decode (iC M_S_init) 36 = .ok (.aload_n 0, 1) := by decide +kernel
theorem d_S_init_37 : decode (iC M_S_init) 37 = .ok (.aload_n 1, 1) := by decide +kernel
theorem d_S_init_38 : decode (iC M_S_init) 38 = .ok (.putfield 28, 3) := by decide +kernel
theorem d_S_init_41 : decode (iC M_S_init) 41 = .ok (.aload_n 0, 1) := by decide +kernel
theorem d_S_init_42 : decode (iC M_S_init) 42 = .ok (.aload_n 2, 1) := by decide +kernel
theorem d_S_init_43 : decode (iC M_S_init) 43 = .ok (.putfield 32, 3) := by decide +kernel
theorem d_S_init_46 : decode (iC M_S_init) 46 = .ok (.return_, 1) := by decide +kernel
theorem d_S_readSize_0 : decode (iC M_S_readSize) 0 = .ok (.aload_n 0, 1) := by decide +kernel
theorem d_S_readSize_1 : decode (iC M_S_readSize) 1 = .ok (.getfield 28, 3) := by decide +kernel
theorem d_S_readSize_4 : decode (iC M_S_readSize) 4 = .ok (.sipush 21074, 3) := by decide +kernel
theorem d_S_readSize_7 : decode (iC M_S_readSize) 7 = .ok (.bipush 16, 2) := by decide +kernel
theorem d_S_readSize_9 : decode (iC M_S_readSize) 9 = .ok (.invokevirtual 36, 3) := by decide +kernel
theorem d_S_readSize_12 : decode (iC M_S_readSize) 12 = .ok (.aload_n 0, 1) := by decide +kernel
theorem d_S_readSize_13 : decode (iC M_S_readSize) 13 = .ok (.getfield 28, 3) := by decide +kernel
theorem d_S_readSize_16 : decode (iC M_S_readSize) 16 = .ok (.iconst 2, 1) := by decide +kernel
theorem d_S_readSize_17 : decode (iC M_S_readSize) 17 = .ok (.invokevirtual 42, 3) := by decide +kernel
theorem d_S_readSize_20 : decode (iC M_S_readSize) 20 = .ok (.iconst 1, 1) := by decide +kernel
theorem d_S_readSize_21 : decode (iC M_S_readSize) 21 = .ok (.iadd, 1) := by decide +kernel
theorem d_S_readSize_22 : decode (iC M_S_readSize) 22 = .ok (.istore_n 1, 1) := by decide +kernel
theorem d_S_readSize_23 : decode (iC M_S_readSize) 23 = .ok (.aload_n 0, 1) := by decide +kernel
theorem d_S_readSize_24 : decode (iC M_S_readSize) 24 = .ok (.getfield 28, 3) := by decide +kernel
theorem d_S_readSize_27 : decode (iC M_S_readSize) 27 = .ok (.iconst 2, 1) := by decide +kernel
theorem d_S_readSize_28 : decode (iC M_S_readSize) 28 = .ok (.invokevirtual 42, 3) := by decide +kernel
theorem d_S_readSize_31 : decode (iC M_S_readSize) 31 = .ok (.iconst 1, 1) := by decide +kernel
theorem d_S_readSize_32 : decode (iC M_S_readSize) 32 = .ok (.iadd, 1) := by decide +kernel
theorem d_S_readSize_33 : decode (iC M_S_readSize) 33 = .ok (.istore_n 2, 1) := by decide +kernel
theorem d_S_readSize_34 : decode (iC M_S_readSize) 34 = .ok (.aload_n 0, 1) := by decide +kernel
theorem d_S_readSize_35 : decode (iC M_S_readSize) 35 = .ok (.getfield 32, 3) := by decide +kernel
theorem d_S_readSize_38 : decode (iC M_S_readSize) 38 = .ok (.iload_n 1, 1) := by decide +kernel
theorem d_S_readSize_39 : decode (iC M_S_readSize) 39 = .ok (.iload_n 2, 1) := by decide +kernel
theorem d_S_readSize_40 : decode (iC M_S_readSize) 40 = .ok (.invokevirtual 46, 3) := by decide +kernel
theorem d_S_readSize_43 : decode (iC M_S_readSize) 43 = .ok (.aload_n 0, 1) := by decide +kernel
theorem d_S_readSize_44 : decode (iC M_S_readSize) 44 = .ok (.getfield 28, 3) := by decide +kernel
theorem d_S_readSize_47 : decode (iC M_S_readSize) 47 = .ok (.invokevirtual 51, 3) := by decide +kernel
theorem d_S_readSize_50 : decode (iC M_S_readSize) 50 = .ok (.return_, 1) := by decide +kernel
theorem d_S_pictureComes_0 : decode (iC M_S_pictureComes) 0 = .ok (.aload_n 0, 1) := by decide +kernel
theorem d_S_pictureComes_1 : decode (iC M_S_pictureComes) 1 = .ok (.getfield 28, 3) := by decide +kernel
theorem d_S_pictureComes_4 : decode (iC M_S_pictureComes) 4 = .ok (.iconst 1, 1) := by decide +kernel
theorem d_S_pictureComes_5 : decode (iC M_S_pictureComes) 5 = .ok (.bipush 24, 2) := by decide +kernel
theorem d_S_pictureComes_7 : decode (iC M_S_pictureComes) 7 = .ok (.invokevirtual 36, 3) := by decide +kernel
theorem d_S_pictureComes_10 : decode (iC M_S_pictureComes) 10 = .ok (.aload_n 0, 1) := by decide +kernel
theorem d_S_pictureComes_11 : decode (iC M_S_pictureComes) 11 = .ok (.getfield 28, 3) := by decide +kernel
theorem d_S_pictureComes_14 : decode (iC M_S_pictureComes) 14 = .ok (.invokevirtual 54, 3) := by decide +kernel
theorem d_S_pictureComes_17 : decode (iC M_S_pictureComes) 17 = .ok (.ifCond .ne 7, 3) := by decide +kernel
theorem d_S_pictureComes_20 : decode (iC M_S_pictureComes) 20 = .ok (.iconst 1, 1) := by decide +kernel
theorem d_S_pictureComes_21 : decode (iC M_S_pictureComes) 21 = .ok (.goto 4, 3) := by decide +kernel
theorem d_S_pictureComes_24 : decode (iC M_S_pictureComes) 24 = .ok (.iconst 0, 1) := by decide +kernel
theorem d_S_pictureComes_25 : decode (iC M_S_pictureComes) 25 = .ok (.istore_n 1, 1) := by decide +kernel
theorem d_S_pictureComes_26 : decode (iC M_S_pictureComes) 26 = .ok (.aload_n 0, 1) := by decide +kernel
theorem d_S_pictureComes_27 : decode (iC M_S_pictureComes) 27 = .ok (.getfield 28, 3) := by decide +kernel
theorem d_S_pictureComes_30 : decode (iC M_S_pictureComes) 30 = .ok (.iload_n 1, 1) := by decide +kernel
theorem d_S_pictureComes_31 : decode (iC M_S_pictureComes) 31 = .ok (.ifCond .eq 9, 3) := by decide +kernel
theorem d_S_pictureComes_34 : decode (iC M_S_pictureComes) 34 = .ok (.sipush 256, 3) := by decide +kernel
theorem d_S_pictureComes_37 : decode (iC M_S_pictureComes) 37 = .ok (.goto 6, 3) := by decide +kernel
theorem d_S_pictureComes_40 : decode (iC M_S_pictureComes) 40 = .ok (.sipush 439, 3) := by decide +kernel
theorem d_S_pictureComes_43 : decode (iC M_S_pictureComes) 43 = .ok (.bipush 7, 2) := by decide +kernel
theorem d_S_pictureComes_45 : decode (iC M_S_pictureComes) 45 = .ok (.invokevirtual 36, 3) := by decide +kernel
theorem d_S_pictureComes_48 : decode (iC M_S_pictureComes) 48 = .ok (.iload_n 1, 1) := by decide +kernel
theorem d_S_pictureComes_49 : decode (iC M_S_pictureComes) 49 = .ok (.ireturn, 1) := by decide +kernel
theorem d_S_readPicture_0 : decode (iC M_S_readPicture) 0 = .ok (.aload_n 0, 1) := by decide +kernel
theorem d_S_readPicture_1 : decode (iC M_S_readPicture) 1 = .ok (.invokevirtual 58, 3) := by decide +kernel
theorem d_S_readPicture_4 : decode (iC M_S_readPicture) 4 = .ok (.aload_n 0, 1) := by decide +kernel
theorem d_S_readPicture_5 : decode (iC M_S_readPicture) 5 = .ok (.getfield 32, 3) := by decide +kernel
theorem d_S_readPicture_8 : decode (iC M_S_readPicture) 8 = .ok (.aload_n 0, 1) := by decide +kernel
theorem d_S_readPicture_9 : decode (iC M_S_readPicture) 9 = .ok (.getfield 61, 3) := by decide +kernel
theorem d_S_readPicture_12 : decode (iC M_S_readPicture) 12 = .ok (.iload_n 1, 1) := by decide +kernel
theorem d_S_readPicture_13 : decode (iC M_S_readPicture) 13 = .ok (.invokevirtual 65, 3) := by decide +kernel
theorem d_S_readPicture_16 : decode (iC M_S_readPicture) 16 = .ok (.aload_n 0, 1) := by decide +kernel
theorem d_S_readPicture_17 : decode (iC M_S_readPicture) 17 = .ok (.getfield 32, 3) := by decide +kernel
theorem d_S_readPicture_20 : decode (iC M_S_readPicture) 20 = .ok (.getfield 68, 3) := by decide +kernel
theorem d_S_readPicture_23 : decode (iC M_S_readPicture) 23 = .ok (.aload_n 0, 1) := by decide +kernel
theorem d_S_readPicture_24 : decode (iC M_S_readPicture) 24 = .ok (.getfield 32, 3) := by decide +kernel
theorem d_S_readPicture_27 : decode (iC M_S_readPicture) 27 = .ok (.getfield 71, 3) := by decide +kernel
theorem d_S_readPicture_30 : decode (iC M_S_readPicture) 30 = .ok (.imul, 1) := by decide +kernel
theorem d_S_readPicture_31 : decode (iC M_S_readPicture) 31 = .ok (.istore_n 2, 1) := by decide +kernel
theorem d_S_readPicture_32 : decode (iC M_S_readPicture) 32 = .ok (.iconst 0, 1) := by decide +kernel
theorem d_S_readPicture_33 : decode (iC M_S_readPicture) 33 = .ok (.istore_n 3, 1) := by decide +kernel
theorem d_S_readPicture_34 : decode (iC M_S_readPicture) 34 = .ok (.iload_n 3, 1) := by decide +kernel
theorem d_S_readPicture_35 : decode (iC M_S_readPicture) 35 = .ok (.iload_n 2, 1) := by decide +kernel
theorem d_S_readPicture_36 : decode (iC M_S_readPicture) 36 = .ok (.if_icmp .ge 36, 3) := by decide +kernel
theorem d_S_readPicture_39 : decode (iC M_S_readPicture) 39 = .ok (.aload_n 0, 1) := by decide +kernel
theorem d_S_readPicture_40 : decode (iC M_S_readPicture) 40 = .ok (.getfield 61, 3) := by decide +kernel
theorem d_S_readPicture_43 : decode (iC M_S_readPicture) 43 = .ok (.iconst 1, 1) := by decide +kernel
theorem d_S_readPicture_44 : decode (iC M_S_readPicture) 44 = .ok (.if_icmp .eq 12, 3) := by decide +kernel
theorem d_S_readPicture_47 : decode (iC M_S_readPicture) 47 = .ok (.iload_n 3, 1) := by decide +kernel
theorem d_S_readPicture_48 : decode (iC M_S_readPicture) 48 = .ok (.aload_n 0, 1) := by decide +kernel
theorem d_S_readPicture_49 : decode (iC M_S_readPicture) 49 = .ok (.iload_n 3, 1) := by decide +kernel
theorem d_S_readPicture_50 : decode (iC M_S_readPicture) 50 = .ok (.iload_n 2, 1) := by decide +kernel
theorem d_S_readPicture_51 : decode (iC M_S_readPicture) 51 = .ok (.invokevirtual 74, 3) := by decide +kernel
theorem d_S_readPicture_54 : decode (iC M_S_readPicture) 54 = .ok (.iadd, 1) := by decide +kernel
theorem d_S_readPicture_55 : decode (iC M_S_readPicture) 55 = .ok (.istore_n 3, 1) := by decide +kernel
theorem d_S_readPicture_56 : decode (iC M_S_readPicture) 56 = .ok (.iload_n 3, 1) := by decide +kernel
theorem d_S_readPicture_57 : decode (iC M_S_readPicture) 57 = .ok (.iload_n 2, 1) := by decide +kernel
theorem d_S_readPicture_58 : decode (iC M_S_readPicture) 58 = .ok (.if_icmp .ge 8, 3) := by decide +kernel
theorem d_S_readPicture_61 : decode (iC M_S_readPicture) 61 = .ok (.aload_n 0, 1) := by decide +kernel
theorem d_S_readPicture_62 : decode (iC M_S_readPicture) 62 = .ok (.iload_n 3, 1) := by decide +kernel
theorem d_S_readPicture_63 : decode (iC M_S_readPicture) 63 = .ok (.invokevirtual 78, 3) := by decide +kernel
theorem d_S_readPicture_66 : decode (iC M_S_readPicture) 66 = .ok (.iinc 3 1, 3) := by decide +kernel
theorem d_S_readPicture_69 : decode (iC M_S_readPicture) 69 = .ok (.goto (-35), 3) := by decide +kernel
theorem d_S_readPicture_72 : decode (iC M_S_readPicture) 72 = .ok (.aload_n 0, 1) := by decide +kernel
theorem d_S_readPicture_73 : decode (iC M_S_readPicture) 73 = .ok (.getfield 28, 3) := by decide +kernel
theorem d_S_readPicture_76 : decode (iC M_S_readPicture) 76 = .ok (.invokevirtual 51, 3) := by decide +kernel
theorem d_S_readPicture_79 : decode (iC M_S_readPicture) 79 = .ok (.aload_n 0, 1) := by decide +kernel
theorem d_S_readPicture_80 : decode (iC M_S_readPicture) 80 = .ok (.getfield 32, 3) := by decide +kernel
theorem d_S_readPicture_83 : decode (iC M_S_readPicture) 83 = .ok (.invokevirtual 82, 3) := by decide +kernel
theorem d_S_readPicture_86 : decode (iC M_S_readPicture) 86 = .ok (.return_, 1) := by decide +kernel
theorem d_S_readHead_0 : decode (iC M_S_readHead) 0 = .ok (.aload_n 0, 1) := by decide +kernel
theorem d_S_readHead_1 : decode (iC M_S_readHead) 1 = .ok (.getfield 28, 3) := by decide +kernel
theorem d_S_readHead_4 : decode (iC M_S_readHead) 4 = .ok (.getfield 85, 3) := by decide +kernel
theorem d_S_readHead_7 : decode (iC M_S_readHead) 7 = .ok (.istore_n 1, 1) := by decide +kernel
theorem d_S_readHead_8 : decode (iC M_S_readHead) 8 = .ok (.aload_n 0, 1) := by decide +kernel
theorem d_S_readHead_9 : decode (iC M_S_readHead) 9 = .ok (.aload_n 0, 1) := by decide +kernel
theorem d_S_readHead_10 : decode (iC M_S_readHead) 10 = .ok (.getfield 28, 3) := by decide +kernel
theorem d_S_readHead_13 : decode (iC M_S_readHead) 13 = .ok (.iconst 2, 1) := by decide +kernel
theorem d_S_readHead_14 : decode (iC M_S_readHead) 14 = .ok (.invokevirtual 88, 3) := by decide +kernel
theorem d_S_readHead_17 : decode (iC M_S_readHead) 17 = .ok (.putfield 61, 3) := by decide +kernel
theorem d_S_readHead_20 : decode (iC M_S_readHead) 20 = .ok (.aload_n 0, 1) := by decide +kernel
theorem d_S_readHead_21 : decode (iC M_S_readHead) 21 = .ok (.getfield 61, 3) := by decide +kernel
theorem d_S_readHead_24 : decode (iC M_S_readHead) 24 = .ok (.iconst 1, 1) := by decide +kernel
theorem d_S_readHead_25 : decode (iC M_S_readHead) 25 = .ok (.if_icmp .ne 7, 3) := by decide +kernel
theorem d_S_readHead_28 : decode (iC M_S_readHead) 28 = .ok (.iconst 0, 1) := by decide +kernel
theorem d_S_readHead_29 : decode (iC M_S_readHead) 29 = .ok (.goto 16, 3) := by decide +kernel
theorem d_S_readHead_32 : decode (iC M_S_readHead) 32 = .ok (.aload_n 0, 1) := by decide +kernel
theorem d_S_readHead_33 : decode (iC M_S_readHead) 33 = .ok (.getfield 61, 3) := by decide +kernel
theorem d_S_readHead_36 : decode (iC M_S_readHead) 36 = .ok (.iconst 2, 1) := by decide +kernel
theorem d_S_readHead_37 : decode (iC M_S_readHead) 37 = .ok (.if_icmp .ne 7, 3) := by decide +kernel
theorem d_S_readHead_40 : decode (iC M_S_readHead) 40 = .ok (.iconst 1, 1) := by decide +kernel
theorem d_S_readHead_41 : decode (iC M_S_readHead) 41 = .ok (.goto 4, 3) := by decide +kernel
theorem d_S_readHead_44 : decode (iC M_S_readHead) 44 = .ok (.iconst 2, 1) := by decide +kernel
theorem d_S_readHead_45 : decode (iC M_S_readHead) 45 = .ok (.istore_n 2, 1) := by decide +kernel
theorem d_S_readHead_46 : decode (iC M_S_readHead) 46 = .ok (.iload_n 2, 1) := by decide +kernel
theorem d_S_readHead_47 : decode (iC M_S_readHead) 47 = .ok (.aload_n 0, 1) := by decide +kernel
theorem d_S_readHead_48 : decode (iC M_S_readHead) 48 = .ok (.getfield 32, 3) := by decide +kernel
theorem d_S_readHead_51 : decode (iC M_S_readHead) 51 = .ok (.getfield 91, 3) := by decide +kernel
theorem d_S_readHead_54 : decode (iC M_S_readHead) 54 = .ok (.if_icmp .le 11, 3) := by decide +kernel
theorem d_S_readHead_57 : decode (iC M_S_readHead) 57 = .ok (.aload_n 0, 1) := by decide +kernel
theorem d_S_readHead_58 : decode (iC M_S_readHead) 58 = .ok (.getfield 28, 3) := by decide +kernel
theorem d_S_readHead_61 : decode (iC M_S_readHead) 61 = .ok (.iload_n 1, 1) := by decide +kernel
theorem d_S_readHead_62 : decode (iC M_S_readHead) 62 = .ok (.invokevirtual 94, 3) := by decide +kernel
theorem d_S_readHead_65 : decode (iC M_S_readHead) 65 = .ok (.aload_n 0, 1) := by decide +kernel
theorem d_S_readHead_66 : decode (iC M_S_readHead) 66 = .ok (.aload_n 0, 1) := by decide +kernel
theorem d_S_readHead_67 : decode (iC M_S_readHead) 67 = .ok (.getfield 28, 3) := by decide +kernel
theorem d_S_readHead_70 : decode (iC M_S_readHead) 70 = .ok (.iconst 5, 1) := by decide +kernel
theorem d_S_readHead_71 : decode (iC M_S_readHead) 71 = .ok (.invokevirtual 88, 3) := by decide +kernel
theorem d_S_readHead_74 : decode (iC M_S_readHead) 74 = .ok (.putfield 97, 3) := by decide +kernel
theorem d_S_readHead_77 : decode (iC M_S_readHead) 77 = .ok (.aload_n 0, 1) := by decide +kernel
theorem d_S_readHead_78 : decode (iC M_S_readHead) 78 = .ok (.aload_n 0, 1) := by decide +kernel
theorem d_S_readHead_79 : decode (iC M_S_readHead) 79 = .ok (.getfield 61, 3) := by decide +kernel
theorem d_S_readHead_82 : decode (iC M_S_readHead) 82 = .ok (.iconst 1, 1) := by decide +kernel
theorem d_S_readHead_83 : decode (iC M_S_readHead) 83 = .ok (.if_icmp .ne 7, 3) := by decide +kernel
theorem d_S_readHead_86 : decode (iC M_S_readHead) 86 = .ok (.iconst 0, 1) := by decide +kernel
theorem d_S_readHead_87 : decode (iC M_S_readHead) 87 = .ok (.goto 14, 3) := by decide +kernel
theorem d_S_readHead_90 : decode (iC M_S_readHead) 90 = .ok (.bipush 16, 2) := by decide +kernel
theorem d_S_readHead_92 : decode (iC M_S_readHead) 92 = .ok (.aload_n 0, 1) := by decide +kernel
theorem d_S_readHead_93 : decode (iC M_S_readHead) 93 = .ok (.getfield 28, 3) := by decide +kernel
theorem d_S_readHead_96 : decode (iC M_S_readHead) 96 = .ok (.iconst 3, 1) := by decide +kernel
theorem d_S_readHead_97 : decode (iC M_S_readHead) 97 = .ok (.invokevirtual 88, 3) := by decide +kernel
theorem d_S_readHead_100 : decode (iC M_S_readHead) 100 = .ok (.ishl, 1) := by decide +kernel
theorem d_S_readHead_101 : decode (iC M_S_readHead) 101 = .ok (.putfield 100, 3) := by decide +kernel
theorem d_S_readHead_104 : decode (iC M_S_readHead) 104 = .ok (.return_, 1) := by decide +kernel
theorem d_S_passOver_0 : decode (iC M_S_passOver) 0 = .ok (.aload_n 0, 1) := by decide +kernel
theorem d_S_passOver_1 : decode (iC M_S_passOver) 1 = .ok (.getfield 28, 3) := by decide +kernel
theorem d_S_passOver_4 : decode (iC M_S_passOver) 4 = .ok (.aload_n 0, 1) := by decide +kernel
theorem d_S_passOver_5 : decode (iC M_S_passOver) 5 = .ok (.getfield 61, 3) := by decide +kernel
theorem d_S_passOver_8 : decode (iC M_S_passOver) 8 = .ok (.iconst 2, 1) := by decide +kernel
theorem d_S_passOver_9 : decode (iC M_S_passOver) 9 = .ok (.if_icmp .ne 9, 3) := by decide +kernel
theorem d_S_passOver_12 : decode (iC M_S_passOver) 12 = .ok (.iload_n 2, 1) := by decide +kernel
theorem d_S_passOver_13 : decode (iC M_S_passOver) 13 = .ok (.iload_n 1, 1) := by decide +kernel
theorem d_S_passOver_14 : decode (iC M_S_passOver) 14 = .ok (.isub, 1) := by decide +kernel
theorem d_S_passOver_15 : decode (iC M_S_passOver) 15 = .ok (.goto 8, 3) := by decide +kernel
theorem d_S_passOver_18 : decode (iC M_S_passOver) 18 = .ok (.aload_n 0, 1) := by decide +kernel
theorem d_S_passOver_19 : decode (iC M_S_passOver) 19 = .ok (.iload_n 1, 1) := by decide +kernel
theorem d_S_passOver_20 : decode (iC M_S_passOver) 20 = .ok (.invokevirtual 103, 3) := by decide +kernel
theorem d_S_passOver_23 : decode (iC M_S_passOver) 23 = .ok (.invokevirtual 106, 3) := by decide +kernel
theorem d_S_passOver_26 : decode (iC M_S_passOver) 26 = .ok (.istore_n 3, 1) := by decide +kernel
theorem d_S_passOver_27 : decode (iC M_S_passOver) 27 = .ok (.iconst 0, 1) := by decide +kernel
theorem d_S_passOver_28 : decode (iC M_S_passOver) 28 = .ok (.istore 4, 2) := by decide +kernel
theorem d_S_passOver_30 : decode (iC M_S_passOver) 30 = .ok (.iload 4, 2) := by decide +kernel
theorem d_S_passOver_32 : decode (iC M_S_passOver) 32 = .ok (.iload_n 3, 1) := by decide +kernel
theorem d_S_passOver_33 : decode (iC M_S_passOver) 33 = .ok (.if_icmp .ge 33, 3) := by decide +kernel
theorem d_S_passOver_36 : decode (iC M_S_passOver) 36 = .ok (.aload_n 0, 1) := by decide +kernel
theorem d_S_passOver_37 : decode (iC M_S_passOver) 37 = .ok (.iload_n 1, 1) := by decide +kernel
theorem d_S_passOver_38 : decode (iC M_S_passOver) 38 = .ok (.iload 4, 2) := by decide +kernel
theorem d_S_passOver_40 : decode (iC M_S_passOver) 40 = .ok (.iadd, 1) := by decide +kernel
theorem d_S_passOver_41 : decode (iC M_S_passOver) 41 = .ok (.aload_n 0, 1) := by decide +kernel
theorem d_S_passOver_42 : decode (iC M_S_passOver) 42 = .ok (.getfield 61, 3) := by decide +kernel
theorem d_S_passOver_45 : decode (iC M_S_passOver) 45 = .ok (.iconst 2, 1) := by decide +kernel
theorem d_S_passOver_46 : decode (iC M_S_passOver) 46 = .ok (.if_icmp .ne 7, 3) := by decide +kernel
theorem d_S_passOver_49 : decode (iC M_S_passOver) 49 = .ok (.iconst 0, 1) := by decide +kernel
theorem d_S_passOver_50 : decode (iC M_S_passOver) 50 = .ok (.goto 7, 3) := by decide +kernel
theorem d_S_passOver_53 : decode (iC M_S_passOver) 53 = .ok (.aload_n 0, 1) := by decide +kernel
theorem d_S_passOver_54 : decode (iC M_S_passOver) 54 = .ok (.getfield 109, 3) := by decide +kernel
theorem d_S_passOver_57 : decode (iC M_S_passOver) 57 = .ok (.invokevirtual 112, 3) := by decide +kernel
theorem d_S_passOver_60 : decode (iC M_S_passOver) 60 = .ok (.iinc 4 1, 3) := by decide +kernel
theorem d_S_passOver_63 : decode (iC M_S_passOver) 63 = .ok (.goto (-33), 3) := by decide +kernel
theorem d_S_passOver_66 : decode (iC M_S_passOver) 66 = .ok (.aload_n 0, 1) := by decide +kernel
theorem d_S_passOver_67 : decode (iC M_S_passOver) 67 = .ok (.getfield 32, 3) := by decide +kernel
theorem d_S_passOver_70 : decode (iC M_S_passOver) 70 = .ok (.getfield 115, 3) := by decide +kernel
theorem d_S_passOver_73 : decode (iC M_S_passOver) 73 = .ok (.getfield 119, 3) := by decide +kernel
theorem d_S_passOver_76 : decode (iC M_S_passOver) 76 = .ok (.iconst 3, 1) := by decide +kernel
theorem d_S_passOver_77 : decode (iC M_S_passOver) 77 = .ok (.dup2, 1) := by decide +kernel
theorem d_S_passOver_78 : decode (iC M_S_passOver) 78 = .ok (.iaload, 1) := by decide +kernel
theorem d_S_passOver_79 : decode (iC M_S_passOver) 79 = .ok (.iload_n 3, 1) := by decide +kernel
theorem d_S_passOver_80 : decode (iC M_S_passOver) 80 = .ok (.iadd, 1) := by decide +kernel
theorem d_S_passOver_81 : decode (iC M_S_passOver) 81 = .ok (.iastore, 1) := by decide +kernel
theorem d_S_passOver_82 : decode (iC M_S_passOver) 82 = .ok (.aload_n 0, 1) := by decide +kernel
theorem d_S_passOver_83 : decode (iC M_S_passOver) 83 = .ok (.getfield 32, 3) := by decide +kernel
theorem d_S_passOver_86 : decode (iC M_S_passOver) 86 = .ok (.getfield 124, 3) := by decide +kernel
theorem d_S_passOver_89 : decode (iC M_S_passOver) 89 = .ok (.iconst 5, 1) := by decide +kernel
theorem d_S_passOver_90 : decode (iC M_S_passOver) 90 = .ok (.dup2, 1) := by decide +kernel
theorem d_S_passOver_91 : decode (iC M_S_passOver) 91 = .ok (.iaload, 1) := by decide +kernel
theorem d_S_passOver_92 : decode (iC M_S_passOver) 92 = .ok (.iload_n 3, 1) := by decide +kernel
theorem d_S_passOver_93 : decode (iC M_S_passOver) 93 = .ok (.iadd, 1) := by decide +kernel
theorem d_S_passOver_94 : decode (iC M_S_passOver) 94 = .ok (.iastore, 1) := by decide +kernel
theorem d_S_passOver_95 : decode (iC M_S_passOver) 95 = .ok (.iload_n 3, 1) := by decide +kernel
theorem d_S_passOver_96 : decode (iC M_S_passOver) 96 = .ok (.ireturn, 1) := by decide +kernel
theorem d_S_mostPassedInB_0 : decode (iC M_S_mostPassedInB) 0 = .ok (.iload_n 1, 1) := by decide +kernel
theorem d_S_mostPassedInB_1 : decode (iC M_S_mostPassedInB) 1 = .ok (.aload_n 0, 1) := by decide +kernel
theorem d_S_mostPassedInB_2 : decode (iC M_S_mostPassedInB) 2 = .ok (.getfield 32, 3) := by decide +kernel
theorem d_S_mostPassedInB_5 : decode (iC M_S_mostPassedInB) 5 = .ok (.getfield 68, 3) := by decide +kernel
theorem d_S_mostPassedInB_8 : decode (iC M_S_mostPassedInB) 8 = .ok (.irem, 1) := by decide +kernel
theorem d_S_mostPassedInB_9 : decode (iC M_S_mostPassedInB) 9 = .ok (.istore_n 2, 1) := by decide +kernel
theorem d_S_mostPassedInB_10 : decode (iC M_S_mostPassedInB) 10 = .ok (.iload_n 2, 1) := by decide +kernel
theorem d_S_mostPassedInB_11 : decode (iC M_S_mostPassedInB) 11 = .ok (.ifCond .eq 10, 3) := by decide +kernel
theorem d_S_mostPassedInB_14 : decode (iC M_S_mostPassedInB) 14 = .ok (.aload_n 0, 1) := by decide +kernel
theorem d_S_mostPassedInB_15 : decode (iC M_S_mostPassedInB) 15 = .ok (.getfield 109, 3) := by decide +kernel
theorem d_S_mostPassedInB_18 : decode (iC M_S_mostPassedInB) 18 = .ok (.ifCond .ne 7, 3) := by decide +kernel
theorem d_S_mostPassedInB_21 : decode (iC M_S_mostPassedInB) 21 = .ok (.iconst 0, 1) := by decide +kernel
theorem d_S_mostPassedInB_22 : decode (iC M_S_mostPassedInB) 22 = .ok (.goto 12, 3) := by decide +kernel
theorem d_S_mostPassedInB_25 : decode (iC M_S_mostPassedInB) 25 = .ok (.aload_n 0, 1) := by decide +kernel
theorem d_S_mostPassedInB_26 : decode (iC M_S_mostPassedInB) 26 = .ok (.getfield 32, 3) := by decide +kernel
theorem d_S_mostPassedInB_29 : decode (iC M_S_mostPassedInB) 29 = .ok (.getfield 68, 3) := by decide +kernel
theorem d_S_mostPassedInB_32 : decode (iC M_S_mostPassedInB) 32 = .ok (.iload_n 2, 1) := by decide +kernel
theorem d_S_mostPassedInB_33 : decode (iC M_S_mostPassedInB) 33 = .ok (.isub, 1) := by decide +kernel
theorem d_S_mostPassedInB_34 : decode (iC M_S_mostPassedInB) 34 = .ok (.ireturn, 1) := by decide +kernel
theorem d_S_foretellSquare_0 : decode (iC M_S_foretellSquare) 0 = .ok (.aload_n 0, 1) := by decide +kernel
theorem d_S_foretellSquare_1 : decode (iC M_S_foretellSquare) 1 = .ok (.invokevirtual 127, 3) := by decide +kernel
theorem d_S_foretellSquare_4 : decode (iC M_S_foretellSquare) 4 = .ok (.iload_n 2, 1) := by decide +kernel
theorem d_S_foretellSquare_5 : decode (iC M_S_foretellSquare) 5 = .ok (.ifCond .ne 7, 3) := by decide +kernel
theorem d_S_foretellSquare_8 : decode (iC M_S_foretellSquare) 8 = .ok (.aload_n 0, 1) := by decide +kernel
theorem d_S_foretellSquare_9 : decode (iC M_S_foretellSquare) 9 = .ok (.invokevirtual 130, 3) := by decide +kernel
theorem d_S_foretellSquare_12 : decode (iC M_S_foretellSquare) 12 = .ok (.aload_n 0, 1) := by decide +kernel
theorem d_S_foretellSquare_13 : decode (iC M_S_foretellSquare) 13 = .ok (.iload_n 2, 1) := by decide +kernel
theorem d_S_foretellSquare_14 : decode (iC M_S_foretellSquare) 14 = .ok (.putfield 109, 3) := by decide +kernel
theorem d_S_foretellSquare_17 : decode (iC M_S_foretellSquare) 17 = .ok (.iload_n 2, 1) := by decide +kernel
theorem d_S_foretellSquare_18 : decode (iC M_S_foretellSquare) 18 = .ok (.iconst 1, 1) := by decide +kernel
theorem d_S_foretellSquare_19 : decode (iC M_S_foretellSquare) 19 = .ok (.iand, 1) := by decide +kernel
theorem d_S_foretellSquare_20 : decode (iC M_S_foretellSquare) 20 = .ok (.ifCond .eq 7, 3) := by decide +kernel
theorem d_S_foretellSquare_23 : decode (iC M_S_foretellSquare) 23 = .ok (.iconst 1, 1) := by decide +kernel
theorem d_S_foretellSquare_24 : decode (iC M_S_foretellSquare) 24 = .ok (.goto 4, 3) := by decide +kernel
theorem d_S_foretellSquare_27 : decode (iC M_S_foretellSquare) 27 = .ok (.iconst 0, 1) := by decide +kernel
theorem d_S_foretellSquare_28 : decode (iC M_S_foretellSquare) 28 = .ok (.istore_n 3, 1) := by decide +kernel
theorem d_S_foretellSquare_29 : decode (iC M_S_foretellSquare) 29 = .ok (.iload_n 2, 1) := by decide +kernel
theorem d_S_foretellSquare_30 : decode (iC M_S_foretellSquare) 30 = .ok (.ifCond .eq 9, 3) := by decide +kernel
theorem d_S_foretellSquare_33 : decode (iC M_S_foretellSquare) 33 = .ok (.iload_n 2, 1) := by decide +kernel
theorem d_S_foretellSquare_34 : decode (iC M_S_foretellSquare) 34 = .ok (.iconst 2, 1) := by decide +kernel
theorem d_S_foretellSquare_35 : decode (iC M_S_foretellSquare) 35 = .ok (.iand, 1) := by decide +kernel
theorem d_S_foretellSquare_36 : decode (iC M_S_foretellSquare) 36 = .ok (.ifCond .eq 7, 3) := by decide +kernel
theorem d_S_foretellSquare_39 : decode (iC M_S_foretellSquare) 39 = .ok (.iconst 1, 1) := by decide +kernel
theorem d_S_foretellSquare_40 : decode (iC M_S_foretellSquare) 40 = .ok (.goto 4, 3) := by decide +kernel
theorem d_S_foretellSquare_43 : decode (iC M_S_foretellSquare) 43 = .ok (.iconst 0, 1) := by decide +kernel
theorem d_S_foretellSquare_44 : decode (iC M_S_foretellSquare) 44 = .ok (.istore 4, 2) := by decide +kernel
theorem d_S_foretellSquare_46 : decode (iC M_S_foretellSquare) 46 = .ok (.iload_n 1, 1) := by decide +kernel
theorem d_S_foretellSquare_47 : decode (iC M_S_foretellSquare) 47 = .ok (.aload_n 0, 1) := by decide +kernel
theorem d_S_foretellSquare_48 : decode (iC M_S_foretellSquare) 48 = .ok (.getfield 32, 3) := by decide +kernel
theorem d_S_foretellSquare_51 : decode (iC M_S_foretellSquare) 51 = .ok (.getfield 68, 3) := by decide +kernel
theorem d_S_foretellSquare_54 : decode (iC M_S_foretellSquare) 54 = .ok (.irem, 1) := by decide +kernel
theorem d_S_foretellSquare_55 : decode (iC M_S_foretellSquare) 55 = .ok (.istore 5, 2) := by decide +kernel
theorem d_S_foretellSquare_57 : decode (iC M_S_foretellSquare) 57 = .ok (.iload_n 1, 1) := by decide +kernel
theorem d_S_foretellSquare_58 : decode (iC M_S_foretellSquare) 58 = .ok (.aload_n 0, 1) := by decide +kernel
theorem d_S_foretellSquare_59 : decode (iC M_S_foretellSquare) 59 = .ok (.getfield 32, 3) := by decide +kernel
theorem d_S_foretellSquare_62 : decode (iC M_S_foretellSquare) 62 = .ok (.getfield 68, 3) := by decide +kernel
theorem d_S_foretellSquare_65 : decode (iC M_S_foretellSquare) 65 = .ok (.idiv, 1) := by decide +kernel
theorem d_S_foretellSquare_66 : decode (iC M_S_foretellSquare) 66 = .ok (.istore 6, 2) := by decide +kernel
theorem d_S_foretellSquare_68 : decode (iC M_S_foretellSquare) 68 = .ok (.aload_n 0, 1) := by decide +kernel
theorem d_S_foretellSquare_69 : decode (iC M_S_foretellSquare) 69 = .ok (.getfield 61, 3) := by decide +kernel
theorem d_S_foretellSquare_72 : decode (iC M_S_foretellSquare) 72 = .ok (.iconst 2, 1) := by decide +kernel
theorem d_S_foretellSquare_73 : decode (iC M_S_foretellSquare) 73 = .ok (.if_icmp .ne 13, 3) := by decide +kernel
theorem d_S_foretellSquare_76 : decode (iC M_S_foretellSquare) 76 = .ok (.aload_n 0, 1) := by decide +kernel
theorem d_S_foretellSquare_77 : decode (iC M_S_foretellSquare) 77 = .ok (.getfield 32, 3) := by decide +kernel
theorem d_S_foretellSquare_80 : decode (iC M_S_foretellSquare) 80 = .ok (.getfield 151, 3) := by decide +kernel
theorem d_S_foretellSquare_83 : decode (iC M_S_foretellSquare) 83 = .ok (.goto 10, 3) := by decide +kernel
theorem d_S_foretellSquare_86 : decode (iC M_S_foretellSquare) 86 = .ok (.aload_n 0, 1) := by decide +kernel
theorem d_S_foretellSquare_87 : decode (iC M_S_foretellSquare) 87 = .ok (.getfield 32, 3) := by decide +kernel
theorem d_S_foretellSquare_90 : decode (iC M_S_foretellSquare) 90 = .ok (.getfield 154, 3) := by decide +kernel
theorem d_S_foretellSquare_93 : decode (iC M_S_foretellSquare) 93 = .ok (.astore 7, 2) := by decide +kernel
theorem d_S_foretellSquare_95 : decode (iC M_S_foretellSquare) 95 = .ok (.iconst 0, 1) := by decide +kernel
theorem d_S_foretellSquare_96 : decode (iC M_S_foretellSquare) 96 = .ok (.istore 8, 2) := by decide +kernel
theorem d_S_foretellSquare_98 : decode (iC M_S_foretellSquare) 98 = .ok (.iload 8, 2) := by decide +kernel
theorem d_S_foretellSquare_100 : decode (iC M_S_foretellSquare) 100 = .ok (.iconst 3, 1) := by decide +kernel
theorem d_S_foretellSquare_101 : decode (iC M_S_foretellSquare) 101 = .ok (.if_icmp .ge 83, 3) := by decide +kernel
theorem d_S_foretellSquare_104 : decode (iC M_S_foretellSquare) 104 = .ok (.aload_n 0, 1) := by decide +kernel
theorem d_S_foretellSquare_105 : decode (iC M_S_foretellSquare) 105 = .ok (.getfield 32, 3) := by decide +kernel
theorem d_S_foretellSquare_108 : decode (iC M_S_foretellSquare) 108 = .ok (.getfield 115, 3) := by decide +kernel
theorem d_S_foretellSquare_111 : decode (iC M_S_foretellSquare) 111 = .ok (.getfield 157, 3) := by decide +kernel
theorem d_S_foretellSquare_114 : decode (iC M_S_foretellSquare) 114 = .ok (.iload 8, 2) := by decide +kernel
theorem d_S_foretellSquare_116 : decode (iC M_S_foretellSquare) 116 = .ok (.aaload, 1) := by decide +kernel
theorem d_S_foretellSquare_117 : decode (iC M_S_foretellSquare) 117 = .ok (.astore 9, 2) := by decide +kernel
theorem d_S_foretellSquare_119 : decode (iC M_S_foretellSquare) 119 = .ok (.iload 4, 2) := by decide +kernel
theorem d_S_foretellSquare_121 : decode (iC M_S_foretellSquare) 121 = .ok (.ifCond .eq 25, 3) := by decide +kernel
theorem d_S_foretellSquare_124 : decode (iC M_S_foretellSquare) 124 = .ok (.aload 9, 2) := by decide +kernel
theorem d_S_foretellSquare_126 : decode (iC M_S_foretellSquare) 126 = .ok (.aload 7, 2) := by decide +kernel
theorem d_S_foretellSquare_128 : decode (iC M_S_foretellSquare) 128 = .ok (.getfield 157, 3) := by decide +kernel
theorem d_S_foretellSquare_131 : decode (iC M_S_foretellSquare) 131 = .ok (.iload 8, 2) := by decide +kernel
theorem d_S_foretellSquare_133 : decode (iC M_S_foretellSquare) 133 = .ok (.aaload, 1) := by decide +kernel
theorem d_S_foretellSquare_134 : decode (iC M_S_foretellSquare) 134 = .ok (.iload 5, 2) := by decide +kernel
theorem d_S_foretellSquare_136 : decode (iC M_S_foretellSquare) 136 = .ok (.iload 6, 2) := by decide +kernel
theorem d_S_foretellSquare_138 : decode (iC M_S_foretellSquare) 138 = .ok (.aload_n 0, 1) := by decide +kernel
theorem d_S_foretellSquare_139 : decode (iC M_S_foretellSquare) 139 = .ok (.getfield 22, 3) := by decide +kernel
theorem d_S_foretellSquare_142 : decode (iC M_S_foretellSquare) 142 = .ok (.iconst 0, 1) := by decide +kernel
theorem d_S_foretellSquare_143 : decode (iC M_S_foretellSquare) 143 = .ok (.invokevirtual 161, 3) := by decide +kernel
theorem d_S_foretellSquare_146 : decode (iC M_S_foretellSquare) 146 = .ok (.iload_n 3, 1) := by decide +kernel
theorem d_S_foretellSquare_147 : decode (iC M_S_foretellSquare) 147 = .ok (.ifCond .eq 31, 3) := by decide +kernel
theorem d_S_foretellSquare_150 : decode (iC M_S_foretellSquare) 150 = .ok (.aload 9, 2) := by decide +kernel
theorem d_S_foretellSquare_152 : decode (iC M_S_foretellSquare) 152 = .ok (.aload_n 0, 1) := by decide +kernel
theorem d_S_foretellSquare_153 : decode (iC M_S_foretellSquare) 153 = .ok (.getfield 32, 3) := by decide +kernel
theorem d_S_foretellSquare_156 : decode (iC M_S_foretellSquare) 156 = .ok (.getfield 151, 3) := by decide +kernel
theorem d_S_foretellSquare_159 : decode (iC M_S_foretellSquare) 159 = .ok (.getfield 157, 3) := by decide +kernel
theorem d_S_foretellSquare_162 : decode (iC M_S_foretellSquare) 162 = .ok (.iload 8, 2) := by decide +kernel
theorem d_S_foretellSquare_164 : decode (iC M_S_foretellSquare) 164 = .ok (.aaload, 1) := by decide +kernel
theorem d_S_foretellSquare_165 : decode (iC M_S_foretellSquare) 165 = .ok (.iload 5, 2) := by decide +kernel
theorem d_S_foretellSquare_167 : decode (iC M_S_foretellSquare) 167 = .ok (.iload 6, 2) := by decide +kernel
theorem d_S_foretellSquare_169 : decode (iC M_S_foretellSquare) 169 = .ok (.aload_n 0, 1) := by decide +kernel
theorem d_S_foretellSquare_170 : decode (iC M_S_foretellSquare) 170 = .ok (.getfield 25, 3) := by decide +kernel
theorem d_S_foretellSquare_173 : decode (iC M_S_foretellSquare) 173 = .ok (.iload 4, 2) := by decide +kernel
theorem d_S_foretellSquare_175 : decode (iC M_S_foretellSquare) 175 = .ok (.invokevirtual 161, 3) := by decide +kernel
theorem d_S_foretellSquare_178 : decode (iC M_S_foretellSquare) 178 = .ok (.iinc 8 1, 3) := by decide +kernel
theorem d_S_foretellSquare_181 : decode (iC M_S_foretellSquare) 181 = .ok (.goto (-83), 3) := by decide +kernel
theorem d_S_foretellSquare_184 : decode (iC M_S_foretellSquare) 184 = .ok (.return_, 1) := by decide +kernel
theorem d_S_forgetDcs_0 : decode (iC M_S_forgetDcs) 0 = .ok (.aload_n 0, 1) := by decide +kernel
theorem d_S_forgetDcs_1 : decode (iC M_S_forgetDcs) 1 = .ok (.getfield 18, 3) := by decide +kernel
theorem d_S_forgetDcs_4 : decode (iC M_S_forgetDcs) 4 = .ok (.sipush 128, 3) := by decide +kernel
theorem d_S_forgetDcs_7 : decode (iC M_S_forgetDcs) 7 = .ok (.invokestatic 167, 3) := by decide +kernel
theorem d_S_forgetDcs_10 : decode (iC M_S_forgetDcs) 10 = .ok (.return_, 1) := by decide +kernel
theorem d_S_forgetVectors_0 : decode (iC M_S_forgetVectors) 0 = .ok (.aload_n 0, 1) := by decide +kernel
theorem d_S_forgetVectors_1 : decode (iC M_S_forgetVectors) 1 = .ok (.getfield 22, 3) := by decide +kernel
theorem d_S_forgetVectors_4 : decode (iC M_S_forgetVectors) 4 = .ok (.iconst 0, 1) := by decide +kernel
theorem d_S_forgetVectors_5 : decode (iC M_S_forgetVectors) 5 = .ok (.invokestatic 167, 3) := by decide +kernel
theorem d_S_forgetVectors_8 : decode (iC M_S_forgetVectors) 8 = .ok (.aload_n 0, 1) := by decide +kernel
theorem d_S_forgetVectors_9 : decode (iC M_S_forgetVectors) 9 = .ok (.getfield 25, 3) := by decide +kernel
theorem d_S_forgetVectors_12 : decode (iC M_S_forgetVectors) 12 = .ok (.iconst 0, 1) := by decide +kernel
theorem d_S_forgetVectors_13 : decode (iC M_S_forgetVectors) 13 = .ok (.invokestatic 167, 3) := by decide +kernel
theorem d_S_forgetVectors_16 : decode (iC M_S_forgetVectors) 16 = .ok (.return_, 1) := by decide +kernel
theorem d_S_readSquare_0 : decode (iC M_S_readSquare) 0 = .ok (.iload_n 1, 1) := by decide +kernel
theorem d_S_readSquare_1 : decode (iC M_S_readSquare) 1 = .ok (.aload_n 0, 1) := by decide +kernel
theorem d_S_readSquare_2 : decode (iC M_S_readSquare) 2 = .ok (.getfield 32, 3) := by decide +kernel
theorem d_S_readSquare_5 : decode (iC M_S_readSquare) 5 = .ok (.getfield 68, 3) := by decide +kernel
theorem d_S_readSquare_8 : decode (iC M_S_readSquare) 8 = .ok (.irem, 1) := by decide +kernel
theorem d_S_readSquare_9 : decode (iC M_S_readSquare) 9 = .ok (.ifCond .ne 11, 3) := by decide +kernel
theorem d_S_readSquare_12 : decode (iC M_S_readSquare) 12 = .ok (.aload_n 0, 1) := by decide +kernel
theorem d_S_readSquare_13 : decode (iC M_S_readSquare) 13 = .ok (.invokevirtual 127, 3) := by decide +kernel
theorem d_S_readSquare_16 : decode (iC M_S_readSquare) 16 = .ok (.aload_n 0, 1) := by decide +kernel
theorem d_S_readSquare_17 : decode (iC M_S_readSquare) 17 = .ok (.invokevirtual 130, 3) := by decide +kernel
theorem d_S_readSquare_20 : decode (iC M_S_readSquare) 20 = .ok (.aload_n 0, 1) := by decide +kernel
theorem d_S_readSquare_21 : decode (iC M_S_readSquare) 21 = .ok (.getfield 61, 3) := by decide +kernel
theorem d_S_readSquare_24 : decode (iC M_S_readSquare) 24 = .ok (.iconst 1, 1) := by decide +kernel
theorem d_S_readSquare_25 : decode (iC M_S_readSquare) 25 = .ok (.if_icmp .eq 14, 3) := by decide +kernel
theorem d_S_readSquare_28 : decode (iC M_S_readSquare) 28 = .ok (.aload_n 0, 1) := by decide +kernel
theorem d_S_readSquare_29 : decode (iC M_S_readSquare) 29 = .ok (.getfield 28, 3) := by decide +kernel
theorem d_S_readSquare_32 : decode (iC M_S_readSquare) 32 = .ok (.invokevirtual 54, 3) := by decide +kernel
theorem d_S_readSquare_35 : decode (iC M_S_readSquare) 35 = .ok (.iconst 1, 1) := by decide +kernel
theorem d_S_readSquare_36 : decode (iC M_S_readSquare) 36 = .ok (.if_icmp .ne 7, 3) := by decide +kernel
theorem d_S_readSquare_39 : decode (iC M_S_readSquare) 39 = .ok (.iconst 1, 1) := by decide +kernel
theorem d_S_readSquare_40 : decode (iC M_S_readSquare) 40 = .ok (.goto 4, 3) := by decide +kernel
theorem d_S_readSquare_43 : decode (iC M_S_readSquare) 43 = .ok (.iconst 0, 1) := by decide +kernel
theorem d_S_readSquare_44 : decode (iC M_S_readSquare) 44 = .ok (.istore_n 2, 1) := by decide +kernel
theorem d_S_readSquare_45 : decode (iC M_S_readSquare) 45 = .ok (.iload_n 2, 1) := by decide +kernel
theorem d_S_readSquare_46 : decode (iC M_S_readSquare) 46 = .ok (.ifCond .eq 7, 3) := by decide +kernel
theorem d_S_readSquare_49 : decode (iC M_S_readSquare) 49 = .ok (.iconst 0, 1) := by decide +kernel
theorem d_S_readSquare_50 : decode (iC M_S_readSquare) 50 = .ok (.goto 7, 3) := by decide +kernel
theorem d_S_readSquare_53 : decode (iC M_S_readSquare) 53 = .ok (.aload_n 0, 1) := by decide +kernel
theorem d_S_readSquare_54 : decode (iC M_S_readSquare) 54 = .ok (.invokevirtual 133, 3) := by decide +kernel
theorem d_S_readSquare_57 : decode (iC M_S_readSquare) 57 = .ok (.istore_n 3, 1) := by decide +kernel
theorem d_S_readSquare_58 : decode (iC M_S_readSquare) 58 = .ok (.iload_n 2, 1) := by decide +kernel
theorem d_S_readSquare_59 : decode (iC M_S_readSquare) 59 = .ok (.ifCond .ne 14, 3) := by decide +kernel
theorem d_S_readSquare_62 : decode (iC M_S_readSquare) 62 = .ok (.aload_n 0, 1) := by decide +kernel
theorem d_S_readSquare_63 : decode (iC M_S_readSquare) 63 = .ok (.getfield 28, 3) := by decide +kernel
theorem d_S_readSquare_66 : decode (iC M_S_readSquare) 66 = .ok (.invokevirtual 54, 3) := by decide +kernel
theorem d_S_readSquare_69 : decode (iC M_S_readSquare) 69 = .ok (.iconst 1, 1) := by decide +kernel
theorem d_S_readSquare_70 : decode (iC M_S_readSquare) 70 = .ok (.if_icmp .ne 7, 3) := by decide +kernel
theorem d_S_readSquare_73 : decode (iC M_S_readSquare) 73 = .ok (.iconst 1, 1) := by decide +kernel
theorem d_S_readSquare_74 : decode (iC M_S_readSquare) 74 = .ok (.goto 4, 3) := by decide +kernel
theorem d_S_readSquare_77 : decode (iC M_S_readSquare) 77 = .ok (.iconst 0, 1) := by decide +kernel
theorem d_S_readSquare_78 : decode (iC M_S_readSquare) 78 = .ok (.istore 4, 2) := by decide +kernel
theorem d_S_readSquare_80 : decode (iC M_S_readSquare) 80 = .ok (.iload 4, 2) := by decide +kernel
theorem d_S_readSquare_82 : decode (iC M_S_readSquare) 82 = .ok (.ifCond .eq 26, 3) := by decide +kernel
theorem d_S_readSquare_85 : decode (iC M_S_readSquare) 85 = .ok (.aload_n 0, 1) := by decide +kernel
theorem d_S_readSquare_86 : decode (iC M_S_readSquare) 86 = .ok (.getfield 28, 3) := by decide +kernel
theorem d_S_readSquare_89 : decode (iC M_S_readSquare) 89 = .ok (.invokevirtual 54, 3) := by decide +kernel
theorem d_S_readSquare_92 : decode (iC M_S_readSquare) 92 = .ok (.iconst 1, 1) := by decide +kernel
theorem d_S_readSquare_93 : decode (iC M_S_readSquare) 93 = .ok (.if_icmp .ne 15, 3) := by decide +kernel
theorem d_S_readSquare_96 : decode (iC M_S_readSquare) 96 = .ok (.aload_n 0, 1) := by decide +kernel
theorem d_S_readSquare_97 : decode (iC M_S_readSquare) 97 = .ok (.aload_n 0, 1) := by decide +kernel
theorem d_S_readSquare_98 : decode (iC M_S_readSquare) 98 = .ok (.getfield 28, 3) := by decide +kernel
theorem d_S_readSquare_101 : decode (iC M_S_readSquare) 101 = .ok (.iconst 5, 1) := by decide +kernel
theorem d_S_readSquare_102 : decode (iC M_S_readSquare) 102 = .ok (.invokevirtual 88, 3) := by decide +kernel
theorem d_S_readSquare_105 : decode (iC M_S_readSquare) 105 = .ok (.putfield 97, 3) := by decide +kernel
theorem d_S_readSquare_108 : decode (iC M_S_readSquare) 108 = .ok (.iload_n 3, 1) := by decide +kernel
theorem d_S_readSquare_109 : decode (iC M_S_readSquare) 109 = .ok (.iconst 2, 1) := by decide +kernel
theorem d_S_readSquare_110 : decode (iC M_S_readSquare) 110 = .ok (.iand, 1) := by decide +kernel
theorem d_S_readSquare_111 : decode (iC M_S_readSquare) 111 = .ok (.ifCond .eq 11, 3) := by decide +kernel
theorem d_S_readSquare_114 : decode (iC M_S_readSquare) 114 = .ok (.aload_n 0, 1) := by decide +kernel
theorem d_S_readSquare_115 : decode (iC M_S_readSquare) 115 = .ok (.aload_n 0, 1) := by decide +kernel
theorem d_S_readSquare_116 : decode (iC M_S_readSquare) 116 = .ok (.getfield 22, 3) := by decide +kernel
theorem d_S_readSquare_119 : decode (iC M_S_readSquare) 119 = .ok (.invokevirtual 136, 3) := by decide +kernel
theorem d_S_readSquare_122 : decode (iC M_S_readSquare) 122 = .ok (.iload_n 3, 1) := by decide +kernel
theorem d_S_readSquare_123 : decode (iC M_S_readSquare) 123 = .ok (.iconst 1, 1) := by decide +kernel
theorem d_S_readSquare_124 : decode (iC M_S_readSquare) 124 = .ok (.iand, 1) := by decide +kernel
theorem d_S_readSquare_125 : decode (iC M_S_readSquare) 125 = .ok (.ifCond .eq 11, 3) := by decide +kernel
theorem d_S_readSquare_128 : decode (iC M_S_readSquare) 128 = .ok (.aload_n 0, 1) := by decide +kernel
theorem d_S_readSquare_129 : decode (iC M_S_readSquare) 129 = .ok (.aload_n 0, 1) := by decide +kernel
theorem d_S_readSquare_130 : decode (iC M_S_readSquare) 130 = .ok (.getfield 25, 3) := by decide +kernel
theorem d_S_readSquare_133 : decode (iC M_S_readSquare) 133 = .ok (.invokevirtual 136, 3) := by decide +kernel
theorem d_S_readSquare_136 : decode (iC M_S_readSquare) 136 = .ok (.iload_n 2, 1) := by decide +kernel
theorem d_S_readSquare_137 : decode (iC M_S_readSquare) 137 = .ok (.ifCond .eq 8, 3) := by decide +kernel
theorem d_S_readSquare_140 : decode (iC M_S_readSquare) 140 = .ok (.bipush 63, 2) := by decide +kernel
theorem d_S_readSquare_142 : decode (iC M_S_readSquare) 142 = .ok (.goto 21, 3) := by decide +kernel
theorem d_S_readSquare_145 : decode (iC M_S_readSquare) 145 = .ok (.iload 4, 2) := by decide +kernel
theorem d_S_readSquare_147 : decode (iC M_S_readSquare) 147 = .ok (.ifCond .eq 15, 3) := by decide +kernel
theorem d_S_readSquare_150 : decode (iC M_S_readSquare) 150 = .ok (.aload_n 0, 1) := by decide +kernel
theorem d_S_readSquare_151 : decode (iC M_S_readSquare) 151 = .ok (.getfield 28, 3) := by decide +kernel
theorem d_S_readSquare_154 : decode (iC M_S_readSquare) 154 = .ok (.bipush 6, 2) := by decide +kernel
theorem d_S_readSquare_156 : decode (iC M_S_readSquare) 156 = .ok (.invokevirtual 42, 3) := by decide +kernel
theorem d_S_readSquare_159 : decode (iC M_S_readSquare) 159 = .ok (.goto 4, 3) := by decide +kernel
theorem d_S_readSquare_162 : decode (iC M_S_readSquare) 162 = .ok (.iconst 0, 1) := by decide +kernel
theorem d_S_readSquare_163 : decode (iC M_S_readSquare) 163 = .ok (.istore 5, 2) := by decide +kernel
theorem d_S_readSquare_165 : decode (iC M_S_readSquare) 165 = .ok (.iload_n 2, 1) := by decide +kernel
theorem d_S_readSquare_166 : decode (iC M_S_readSquare) 166 = .ok (.ifCond .eq 31, 3) := by decide +kernel
theorem d_S_readSquare_169 : decode (iC M_S_readSquare) 169 = .ok (.aload_n 0, 1) := by decide +kernel
theorem d_S_readSquare_170 : decode (iC M_S_readSquare) 170 = .ok (.invokevirtual 130, 3) := by decide +kernel
theorem d_S_readSquare_173 : decode (iC M_S_readSquare) 173 = .ok (.aload_n 0, 1) := by decide +kernel
theorem d_S_readSquare_174 : decode (iC M_S_readSquare) 174 = .ok (.iconst 0, 1) := by decide +kernel
theorem d_S_readSquare_175 : decode (iC M_S_readSquare) 175 = .ok (.putfield 109, 3) := by decide +kernel
theorem d_S_readSquare_178 : decode (iC M_S_readSquare) 178 = .ok (.aload_n 0, 1) := by decide +kernel
theorem d_S_readSquare_179 : decode (iC M_S_readSquare) 179 = .ok (.getfield 32, 3) := by decide +kernel
theorem d_S_readSquare_182 : decode (iC M_S_readSquare) 182 = .ok (.getfield 115, 3) := by decide +kernel
theorem d_S_readSquare_185 : decode (iC M_S_readSquare) 185 = .ok (.getfield 119, 3) := by decide +kernel
theorem d_S_readSquare_188 : decode (iC M_S_readSquare) 188 = .ok (.iconst 2, 1) := by decide +kernel
theorem d_S_readSquare_189 : decode (iC M_S_readSquare) 189 = .ok (.dup2, 1) := by decide +kernel
theorem d_S_readSquare_190 : decode (iC M_S_readSquare) 190 = .ok (.iaload, 1) := by decide +kernel
theorem d_S_readSquare_191 : decode (iC M_S_readSquare) 191 = .ok (.iconst 1, 1) := by decide +kernel
theorem d_S_readSquare_192 : decode (iC M_S_readSquare) 192 = .ok (.iadd, 1) := by decide +kernel
theorem d_S_readSquare_193 : decode (iC M_S_readSquare) 193 = .ok (.iastore, 1) := by decide +kernel
theorem d_S_readSquare_194 : decode (iC M_S_readSquare) 194 = .ok (.goto 9, 3) := by decide +kernel
theorem d_S_readSquare_197 : decode (iC M_S_readSquare) 197 = .ok (.aload_n 0, 1) := by decide +kernel
theorem d_S_readSquare_198 : decode (iC M_S_readSquare) 198 = .ok (.iload_n 1, 1) := by decide +kernel
theorem d_S_readSquare_199 : decode (iC M_S_readSquare) 199 = .ok (.iload_n 3, 1) := by decide +kernel
theorem d_S_readSquare_200 : decode (iC M_S_readSquare) 200 = .ok (.invokevirtual 112, 3) := by decide +kernel
theorem d_S_readSquare_203 : decode (iC M_S_readSquare) 203 = .ok (.iconst 0, 1) := by decide +kernel
theorem d_S_readSquare_204 : decode (iC M_S_readSquare) 204 = .ok (.istore 6, 2) := by decide +kernel
theorem d_S_readSquare_206 : decode (iC M_S_readSquare) 206 = .ok (.iload 6, 2) := by decide +kernel
theorem d_S_readSquare_208 : decode (iC M_S_readSquare) 208 = .ok (.bipush 6, 2) := by decide +kernel
theorem d_S_readSquare_210 : decode (iC M_S_readSquare) 210 = .ok (.if_icmp .ge 49, 3) := by decide +kernel
theorem d_S_readSquare_213 : decode (iC M_S_readSquare) 213 = .ok (.iload 5, 2) := by decide +kernel
theorem d_S_readSquare_215 : decode (iC M_S_readSquare) 215 = .ok (.iconst 5, 1) := by decide +kernel
theorem d_S_readSquare_216 : decode (iC M_S_readSquare) 216 = .ok (.iload 6, 2) := by decide +kernel
theorem d_S_readSquare_218 : decode (iC M_S_readSquare) 218 = .ok (.isub, 1) := by decide +kernel
theorem d_S_readSquare_219 : decode (iC M_S_readSquare) 219 = .ok (.ishr, 1) := by decide +kernel
theorem d_S_readSquare_220 : decode (iC M_S_readSquare) 220 = .ok (.iconst 1, 1) := by decide +kernel
theorem d_S_readSquare_221 : decode (iC M_S_readSquare) 221 = .ok (.iand, 1) := by decide +kernel
theorem d_S_readSquare_222 : decode (iC M_S_readSquare) 222 = .ok (.iconst 1, 1) := by decide +kernel
theorem d_S_readSquare_223 : decode (iC M_S_readSquare) 223 = .ok (.if_icmp .ne 30, 3) := by decide +kernel
theorem d_S_readSquare_226 : decode (iC M_S_readSquare) 226 = .ok (.aload_n 0, 1) := by decide +kernel
theorem d_S_readSquare_227 : decode (iC M_S_readSquare) 227 = .ok (.iload 6, 2) := by decide +kernel
theorem d_S_readSquare_229 : decode (iC M_S_readSquare) 229 = .ok (.iconst 4, 1) := by decide +kernel
theorem d_S_readSquare_230 : decode (iC M_S_readSquare) 230 = .ok (.if_icmp .ge 7, 3) := by decide +kernel
theorem d_S_readSquare_233 : decode (iC M_S_readSquare) 233 = .ok (.iconst 0, 1) := by decide +kernel
theorem d_S_readSquare_234 : decode (iC M_S_readSquare) 234 = .ok (.goto 7, 3) := by decide +kernel
theorem d_S_readSquare_237 : decode (iC M_S_readSquare) 237 = .ok (.iload 6, 2) := by decide +kernel
theorem d_S_readSquare_239 : decode (iC M_S_readSquare) 239 = .ok (.iconst 3, 1) := by decide +kernel
theorem d_S_readSquare_240 : decode (iC M_S_readSquare) 240 = .ok (.isub, 1) := by decide +kernel
theorem d_S_readSquare_241 : decode (iC M_S_readSquare) 241 = .ok (.iload_n 2, 1) := by decide +kernel
theorem d_S_readSquare_242 : decode (iC M_S_readSquare) 242 = .ok (.invokevirtual 140, 3) := by decide +kernel
theorem d_S_readSquare_245 : decode (iC M_S_readSquare) 245 = .ok (.aload_n 0, 1) := by decide +kernel
theorem d_S_readSquare_246 : decode (iC M_S_readSquare) 246 = .ok (.iload_n 1, 1) := by decide +kernel
theorem d_S_readSquare_247 : decode (iC M_S_readSquare) 247 = .ok (.iload 6, 2) := by decide +kernel
theorem d_S_readSquare_249 : decode (iC M_S_readSquare) 249 = .ok (.iload_n 2, 1) := by decide +kernel
theorem d_S_readSquare_250 : decode (iC M_S_readSquare) 250 = .ok (.invokevirtual 144, 3) := by decide +kernel
theorem d_S_readSquare_253 : decode (iC M_S_readSquare) 253 = .ok (.iinc 6 1, 3) := by decide +kernel
theorem d_S_readSquare_256 : decode (iC M_S_readSquare) 256 = .ok (.goto (-50), 3) := by decide +kernel
theorem d_S_readSquare_259 : decode (iC M_S_readSquare) 259 = .ok (.aload_n 0, 1) := by decide +kernel
theorem d_S_readSquare_260 : decode (iC M_S_readSquare) 260 = .ok (.getfield 32, 3) := by decide +kernel
theorem d_S_readSquare_263 : decode (iC M_S_readSquare) 263 = .ok (.getfield 124, 3) := by decide +kernel
theorem d_S_readSquare_266 : decode (iC M_S_readSquare) 266 = .ok (.iconst 4, 1) := by decide +kernel
theorem d_S_readSquare_267 : decode (iC M_S_readSquare) 267 = .ok (.dup2, 1) := by decide +kernel
theorem d_S_readSquare_268 : decode (iC M_S_readSquare) 268 = .ok (.iaload, 1) := by decide +kernel
theorem d_S_readSquare_269 : decode (iC M_S_readSquare) 269 = .ok (.iconst 1, 1) := by decide +kernel
theorem d_S_readSquare_270 : decode (iC M_S_readSquare) 270 = .ok (.iadd, 1) := by decide +kernel
theorem d_S_readSquare_271 : decode (iC M_S_readSquare) 271 = .ok (.iastore, 1) := by decide +kernel
theorem d_S_readSquare_272 : decode (iC M_S_readSquare) 272 = .ok (.return_, 1) := by decide +kernel
theorem d_S_readWays_0 : decode (iC M_S_readWays) 0 = .ok (.aload_n 0, 1) := by decide +kernel
theorem d_S_readWays_1 : decode (iC M_S_readWays) 1 = .ok (.getfield 61, 3) := by decide +kernel
theorem d_S_readWays_4 : decode (iC M_S_readWays) 4 = .ok (.iconst 2, 1) := by decide +kernel
theorem d_S_readWays_5 : decode (iC M_S_readWays) 5 = .ok (.if_icmp .ne 20, 3) := by decide +kernel
theorem d_S_readWays_8 : decode (iC M_S_readWays) 8 = .ok (.aload_n 0, 1) := by decide +kernel
theorem d_S_readWays_9 : decode (iC M_S_readWays) 9 = .ok (.getfield 28, 3) := by decide +kernel
theorem d_S_readWays_12 : decode (iC M_S_readWays) 12 = .ok (.invokevirtual 54, 3) := by decide +kernel
theorem d_S_readWays_15 : decode (iC M_S_readWays) 15 = .ok (.iconst 1, 1) := by decide +kernel
theorem d_S_readWays_16 : decode (iC M_S_readWays) 16 = .ok (.if_icmp .ne 7, 3) := by decide +kernel
theorem d_S_readWays_19 : decode (iC M_S_readWays) 19 = .ok (.iconst 2, 1) := by decide +kernel
theorem d_S_readWays_20 : decode (iC M_S_readWays) 20 = .ok (.goto 4, 3) := by decide +kernel
theorem d_S_readWays_23 : decode (iC M_S_readWays) 23 = .ok (.iconst 0, 1) := by decide +kernel
theorem d_S_readWays_24 : decode (iC M_S_readWays) 24 = .ok (.ireturn, 1) := by decide +kernel
theorem d_S_readWays_25 : decode (iC M_S_readWays) 25 = .ok (.aload_n 0, 1) := by decide +kernel
theorem d_S_readWays_26 : decode (iC M_S_readWays) 26 = .ok (.getfield 28, 3) := by decide +kernel
theorem d_S_readWays_29 : decode (iC M_S_readWays) 29 = .ok (.iconst 2, 1) := by decide +kernel
theorem d_S_readWays_30 : decode (iC M_S_readWays) 30 = .ok (.invokevirtual 88, 3) := by decide +kernel
theorem d_S_readWays_33 : decode (iC M_S_readWays) 33 = .ok (.ireturn, 1) := by decide +kernel
theorem d_S_readVector_0 : decode (iC M_S_readVector) 0 = .ok (.aload_n 0, 1) := by decide +kernel
theorem d_S_readVector_1 : decode (iC M_S_readVector) 1 = .ok (.getfield 100, 3) := by decide +kernel
theorem d_S_readVector_4 : decode (iC M_S_readVector) 4 = .ok (.iconst 2, 1) := by decide +kernel
theorem d_S_readVector_5 : decode (iC M_S_readVector) 5 = .ok (.idiv, 1) := by decide +kernel
theorem d_S_readVector_6 : decode (iC M_S_readVector) 6 = .ok (.istore_n 2, 1) := by decide +kernel
theorem d_S_readVector_7 : decode (iC M_S_readVector) 7 = .ok (.iconst 0, 1) := by decide +kernel
theorem d_S_readVector_8 : decode (iC M_S_readVector) 8 = .ok (.istore_n 3, 1) := by decide +kernel
theorem d_S_readVector_9 : decode (iC M_S_readVector) 9 = .ok (.iload_n 3, 1) := by decide +kernel
theorem d_S_readVector_10 : decode (iC M_S_readVector) 10 = .ok (.aload_n 1, 1) := by decide +kernel
theorem d_S_readVector_11 : decode (iC M_S_readVector) 11 = .ok (.arraylength, 1) := by decide +kernel
theorem d_S_readVector_12 : decode (iC M_S_readVector) 12 = .ok (.if_icmp .ge 65, 3) := by decide +kernel
theorem d_S_readVector_15 : decode (iC M_S_readVector) 15 = .ok (.aload_n 1, 1) := by decide +kernel
theorem d_S_readVector_16 : decode (iC M_S_readVector) 16 = .ok (.iload_n 3, 1) := by decide +kernel
theorem d_S_readVector_17 : decode (iC M_S_readVector) 17 = .ok (.iaload, 1) := by decide +kernel
theorem d_S_readVector_18 : decode (iC M_S_readVector) 18 = .ok (.aload_n 0, 1) := by decide +kernel
theorem d_S_readVector_19 : decode (iC M_S_readVector) 19 = .ok (.getfield 28, 3) := by decide +kernel
theorem d_S_readVector_22 : decode (iC M_S_readVector) 22 = .ok (.iload_n 2, 1) := by decide +kernel
theorem d_S_readVector_23 : decode (iC M_S_readVector) 23 = .ok (.ineg, 1) := by decide +kernel
theorem d_S_readVector_24 : decode (iC M_S_readVector) 24 = .ok (.iload_n 2, 1) := by decide +kernel
theorem d_S_readVector_25 : decode (iC M_S_readVector) 25 = .ok (.iconst 1, 1) := by decide +kernel
theorem d_S_readVector_26 : decode (iC M_S_readVector) 26 = .ok (.isub, 1) := by decide +kernel
theorem d_S_readVector_27 : decode (iC M_S_readVector) 27 = .ok (.invokevirtual 148, 3) := by decide +kernel
theorem d_S_readVector_30 : decode (iC M_S_readVector) 30 = .ok (.iadd, 1) := by decide +kernel
theorem d_S_readVector_31 : decode (iC M_S_readVector) 31 = .ok (.istore 4, 2) := by decide +kernel
theorem d_S_readVector_33 : decode (iC M_S_readVector) 33 = .ok (.aload_n 1, 1) := by decide +kernel
theorem d_S_readVector_34 : decode (iC M_S_readVector) 34 = .ok (.iload_n 3, 1) := by decide +kernel
theorem d_S_readVector_35 : decode (iC M_S_readVector) 35 = .ok (.iload 4, 2) := by decide +kernel
theorem d_S_readVector_37 : decode (iC M_S_readVector) 37 = .ok (.iload_n 2, 1) := by decide +kernel
theorem d_S_readVector_38 : decode (iC M_S_readVector) 38 = .ok (.ineg, 1) := by decide +kernel
theorem d_S_readVector_39 : decode (iC M_S_readVector) 39 = .ok (.if_icmp .ge 13, 3) := by decide +kernel
theorem d_S_readVector_42 : decode (iC M_S_readVector) 42 = .ok (.iload 4, 2) := by decide +kernel
theorem d_S_readVector_44 : decode (iC M_S_readVector) 44 = .ok (.aload_n 0, 1) := by decide +kernel
theorem d_S_readVector_45 : decode (iC M_S_readVector) 45 = .ok (.getfield 100, 3) := by decide +kernel
theorem d_S_readVector_48 : decode (iC M_S_readVector) 48 = .ok (.iadd, 1) := by decide +kernel
theorem d_S_readVector_49 : decode (iC M_S_readVector) 49 = .ok (.goto 21, 3) := by decide +kernel
theorem d_S_readVector_52 : decode (iC M_S_readVector) 52 = .ok (.iload 4, 2) := by decide +kernel
theorem d_S_readVector_54 : decode (iC M_S_readVector) 54 = .ok (.iload_n 2, 1) := by decide +kernel
theorem d_S_readVector_55 : decode (iC M_S_readVector) 55 = .ok (.if_icmp .lt 13, 3) := by decide +kernel
theorem d_S_readVector_58 : decode (iC M_S_readVector) 58 = .ok (.iload 4, 2) := by decide +kernel
theorem d_S_readVector_60 : decode (iC M_S_readVector) 60 = .ok (.aload_n 0, 1) := by decide +kernel
theorem d_S_readVector_61 : decode (iC M_S_readVector) 61 = .ok (.getfield 100, 3) := by decide +kernel
theorem d_S_readVector_64 : decode (iC M_S_readVector) 64 = .ok (.isub, 1) := by decide +kernel
theorem d_S_readVector_65 : decode (iC M_S_readVector) 65 = .ok (.goto 5, 3) := by decide +kernel
theorem d_S_readVector_68 : decode (iC M_S_readVector) 68 = .ok (.iload 4, 2) := by decide +kernel
theorem d_S_readVector_70 : decode (iC M_S_readVector) 70 = .ok (.iastore, 1) := by decide +kernel
theorem d_S_readVector_71 : decode (iC M_S_readVector) 71 = .ok (.iinc 3 1, 3) := by decide +kernel
theorem d_S_readVector_74 : decode (iC M_S_readVector) 74 = .ok (.goto (-65), 3) := by decide +kernel
theorem d_S_readVector_77 : decode (iC M_S_readVector) 77 = .ok (.return_, 1) := by decide +kernel
theorem d_S_readBlock_0 : decode (iC M_S_readBlock) 0 = .ok (.aload_n 0, 1) := by decide +kernel
theorem d_S_readBlock_1 : decode (iC M_S_readBlock) 1 = .ok (.getfield 12, 3) := by decide +kernel
theorem d_S_readBlock_4 : decode (iC M_S_readBlock) 4 = .ok (.invokevirtual 173, 3) := by decide +kernel
theorem d_S_readBlock_7 : decode (iC M_S_readBlock) 7 = .ok (.iconst 0, 1) := by decide +kernel
theorem d_S_readBlock_8 : decode (iC M_S_readBlock) 8 = .ok (.istore_n 3, 1) := by decide +kernel
theorem d_S_readBlock_9 : decode (iC M_S_readBlock) 9 = .ok (.iload_n 2, 1) := by decide +kernel
theorem d_S_readBlock_10 : decode (iC M_S_readBlock) 10 = .ok (.ifCond .eq 51, 3) := by decide +kernel
theorem d_S_readBlock_13 : decode (iC M_S_readBlock) 13 = .ok (.aload_n 0, 1) := by decide +kernel
theorem d_S_readBlock_14 : decode (iC M_S_readBlock) 14 = .ok (.getfield 18, 3) := by decide +kernel
theorem d_S_readBlock_17 : decode (iC M_S_readBlock) 17 = .ok (.iload_n 1, 1) := by decide +kernel
theorem d_S_readBlock_18 : decode (iC M_S_readBlock) 18 = .ok (.dup2, 1) := by decide +kernel
theorem d_S_readBlock_19 : decode (iC M_S_readBlock) 19 = .ok (.iaload, 1) := by decide +kernel
theorem d_S_readBlock_20 : decode (iC M_S_readBlock) 20 = .ok (.aload_n 0, 1) := by decide +kernel
theorem d_S_readBlock_21 : decode (iC M_S_readBlock) 21 = .ok (.getfield 28, 3) := by decide +kernel
theorem d_S_readBlock_24 : decode (iC M_S_readBlock) 24 = .ok (.aload_n 0, 1) := by decide +kernel
theorem d_S_readBlock_25 : decode (iC M_S_readBlock) 25 = .ok (.getfield 18, 3) := by decide +kernel
theorem d_S_readBlock_28 : decode (iC M_S_readBlock) 28 = .ok (.iload_n 1, 1) := by decide +kernel
theorem d_S_readBlock_29 : decode (iC M_S_readBlock) 29 = .ok (.iaload, 1) := by decide +kernel
theorem d_S_readBlock_30 : decode (iC M_S_readBlock) 30 = .ok (.ineg, 1) := by decide +kernel
theorem d_S_readBlock_31 : decode (iC M_S_readBlock) 31 = .ok (.sipush 255, 3) := by decide +kernel
theorem d_S_readBlock_34 : decode (iC M_S_readBlock) 34 = .ok (.aload_n 0, 1) := by decide +kernel
theorem d_S_readBlock_35 : decode (iC M_S_readBlock) 35 = .ok (.getfield 18, 3) := by decide +kernel
theorem d_S_readBlock_38 : decode (iC M_S_readBlock) 38 = .ok (.iload_n 1, 1) := by decide +kernel
theorem d_S_readBlock_39 : decode (iC M_S_readBlock) 39 = .ok (.iaload, 1) := by decide +kernel
theorem d_S_readBlock_40 : decode (iC M_S_readBlock) 40 = .ok (.isub, 1) := by decide +kernel
theorem d_S_readBlock_41 : decode (iC M_S_readBlock) 41 = .ok (.invokevirtual 148, 3) := by decide +kernel
theorem d_S_readBlock_44 : decode (iC M_S_readBlock) 44 = .ok (.iadd, 1) := by decide +kernel
theorem d_S_readBlock_45 : decode (iC M_S_readBlock) 45 = .ok (.iastore, 1) := by decide +kernel
theorem d_S_readBlock_46 : decode (iC M_S_readBlock) 46 = .ok (.aload_n 0, 1) := by decide +kernel
theorem d_S_readBlock_47 : decode (iC M_S_readBlock) 47 = .ok (.getfield 12, 3) := by decide +kernel
theorem d_S_readBlock_50 : decode (iC M_S_readBlock) 50 = .ok (.aload_n 0, 1) := by decide +kernel
theorem d_S_readBlock_51 : decode (iC M_S_readBlock) 51 = .ok (.getfield 18, 3) := by decide +kernel
theorem d_S_readBlock_54 : decode (iC M_S_readBlock) 54 = .ok (.iload_n 1, 1) := by decide +kernel
theorem d_S_readBlock_55 : decode (iC M_S_readBlock) 55 = .ok (.iaload, 1) := by decide +kernel
theorem d_S_readBlock_56 : decode (iC M_S_readBlock) 56 = .ok (.invokevirtual 176, 3) := by decide +kernel
theorem d_S_readBlock_59 : decode (iC M_S_readBlock) 59 = .ok (.iconst 1, 1) := by decide +kernel
theorem d_S_readBlock_60 : decode (iC M_S_readBlock) 60 = .ok (.istore_n 3, 1) := by decide +kernel
theorem d_S_readBlock_61 : decode (iC M_S_readBlock) 61 = .ok (.iconst 0, 1) := by decide +kernel
theorem d_S_readBlock_62 : decode (iC M_S_readBlock) 62 = .ok (.istore 4, 2) := by decide +kernel
theorem d_S_readBlock_64 : decode (iC M_S_readBlock) 64 = .ok (.iload 4, 2) := by decide +kernel
theorem d_S_readBlock_66 : decode (iC M_S_readBlock) 66 = .ok (.bipush 64, 2) := by decide +kernel
theorem d_S_readBlock_68 : decode (iC M_S_readBlock) 68 = .ok (.if_icmp .gt 104, 3) := by decide +kernel
theorem d_S_readBlock_71 : decode (iC M_S_readBlock) 71 = .ok (.aload_n 0, 1) := by decide +kernel
theorem d_S_readBlock_72 : decode (iC M_S_readBlock) 72 = .ok (.getfield 28, 3) := by decide +kernel
theorem d_S_readBlock_75 : decode (iC M_S_readBlock) 75 = .ok (.bipush 64, 2) := by decide +kernel
theorem d_S_readBlock_77 : decode (iC M_S_readBlock) 77 = .ok (.iload_n 3, 1) := by decide +kernel
theorem d_S_readBlock_78 : decode (iC M_S_readBlock) 78 = .ok (.isub, 1) := by decide +kernel
theorem d_S_readBlock_79 : decode (iC M_S_readBlock) 79 = .ok (.invokevirtual 106, 3) := by decide +kernel
theorem d_S_readBlock_82 : decode (iC M_S_readBlock) 82 = .ok (.istore 5, 2) := by decide +kernel
theorem d_S_readBlock_84 : decode (iC M_S_readBlock) 84 = .ok (.iload 5, 2) := by decide +kernel
theorem d_S_readBlock_86 : decode (iC M_S_readBlock) 86 = .ok (.ifCond .ne 6, 3) := by decide +kernel
theorem d_S_readBlock_89 : decode (iC M_S_readBlock) 89 = .ok (.goto 83, 3) := by decide +kernel
theorem d_S_readBlock_92 : decode (iC M_S_readBlock) 92 = .ok (.iload_n 3, 1) := by decide +kernel
theorem d_S_readBlock_93 : decode (iC M_S_readBlock) 93 = .ok (.iload 5, 2) := by decide +kernel
theorem d_S_readBlock_95 : decode (iC M_S_readBlock) 95 = .ok (.iadd, 1) := by decide +kernel
theorem d_S_readBlock_96 : decode (iC M_S_readBlock) 96 = .ok (.istore_n 3, 1) := by decide +kernel
theorem d_S_readBlock_97 : decode (iC M_S_readBlock) 97 = .ok (.aload_n 0, 1) := by decide +kernel
theorem d_S_readBlock_98 : decode (iC M_S_readBlock) 98 = .ok (.getfield 28, 3) := by decide +kernel
theorem d_S_readBlock_101 : decode (iC M_S_readBlock) 101 = .ok (.getfield 85, 3) := by decide +kernel
theorem d_S_readBlock_104 : decode (iC M_S_readBlock) 104 = .ok (.istore 6, 2) := by decide +kernel
theorem d_S_readBlock_106 : decode (iC M_S_readBlock) 106 = .ok (.aload_n 0, 1) := by decide +kernel
theorem d_S_readBlock_107 : decode (iC M_S_readBlock) 107 = .ok (.getfield 28, 3) := by decide +kernel
theorem d_S_readBlock_110 : decode (iC M_S_readBlock) 110 = .ok (.sipush (-2047), 3) := by decide +kernel
theorem d_S_readBlock_113 : decode (iC M_S_readBlock) 113 = .ok (.sipush 2047, 3) := by decide +kernel
theorem d_S_readBlock_116 : decode (iC M_S_readBlock) 116 = .ok (.invokevirtual 148, 3) := by decide +kernel
theorem d_S_readBlock_119 : decode (iC M_S_readBlock) 119 = .ok (.istore 7, 2) := by decide +kernel
theorem d_S_readBlock_121 : decode (iC M_S_readBlock) 121 = .ok (.iload 7, 2) := by decide +kernel
theorem d_S_readBlock_123 : decode (iC M_S_readBlock) 123 = .ok (.ifCond .ne 12, 3) := by decide +kernel
theorem d_S_readBlock_126 : decode (iC M_S_readBlock) 126 = .ok (.aload_n 0, 1) := by decide +kernel
theorem d_S_readBlock_127 : decode (iC M_S_readBlock) 127 = .ok (.getfield 28, 3) := by decide +kernel
theorem d_S_readBlock_130 : decode (iC M_S_readBlock) 130 = .ok (.iload 6, 2) := by decide +kernel
theorem d_S_readBlock_132 : decode (iC M_S_readBlock) 132 = .ok (.invokevirtual 94, 3) := by decide +kernel
theorem d_S_readBlock_135 : decode (iC M_S_readBlock) 135 = .ok (.aload_n 0, 1) := by decide +kernel
theorem d_S_readBlock_136 : decode (iC M_S_readBlock) 136 = .ok (.getfield 12, 3) := by decide +kernel
theorem d_S_readBlock_139 : decode (iC M_S_readBlock) 139 = .ok (.iload_n 3, 1) := by decide +kernel
theorem d_S_readBlock_140 : decode (iC M_S_readBlock) 140 = .ok (.iconst 1, 1) := by decide +kernel
theorem d_S_readBlock_141 : decode (iC M_S_readBlock) 141 = .ok (.isub, 1) := by decide +kernel
theorem d_S_readBlock_142 : decode (iC M_S_readBlock) 142 = .ok (.iload 7, 2) := by decide +kernel
theorem d_S_readBlock_144 : decode (iC M_S_readBlock) 144 = .ok (.aload_n 0, 1) := by decide +kernel
theorem d_S_readBlock_145 : decode (iC M_S_readBlock) 145 = .ok (.getfield 97, 3) := by decide +kernel
theorem d_S_readBlock_148 : decode (iC M_S_readBlock) 148 = .ok (.iload_n 2, 1) := by decide +kernel
theorem d_S_readBlock_149 : decode (iC M_S_readBlock) 149 = .ok (.invokevirtual 179, 3) := by decide +kernel
theorem d_S_readBlock_152 : decode (iC M_S_readBlock) 152 = .ok (.aload_n 0, 1) := by decide +kernel
theorem d_S_readBlock_153 : decode (iC M_S_readBlock) 153 = .ok (.getfield 32, 3) := by decide +kernel
theorem d_S_readBlock_156 : decode (iC M_S_readBlock) 156 = .ok (.getfield 124, 3) := by decide +kernel
theorem d_S_readBlock_159 : decode (iC M_S_readBlock) 159 = .ok (.bipush 7, 2) := by decide +kernel
theorem d_S_readBlock_161 : decode (iC M_S_readBlock) 161 = .ok (.dup2, 1) := by decide +kernel
theorem d_S_readBlock_162 : decode (iC M_S_readBlock) 162 = .ok (.iaload, 1) := by decide +kernel
theorem d_S_readBlock_163 : decode (iC M_S_readBlock) 163 = .ok (.iconst 1, 1) := by decide +kernel
theorem d_S_readBlock_164 : decode (iC M_S_readBlock) 164 = .ok (.iadd, 1) := by decide +kernel
theorem d_S_readBlock_165 : decode (iC M_S_readBlock) 165 = .ok (.iastore, 1) := by decide +kernel
theorem d_S_readBlock_166 : decode (iC M_S_readBlock) 166 = .ok (.iinc 4 1, 3) := by decide +kernel
theorem d_S_readBlock_169 : decode (iC M_S_readBlock) 169 = .ok (.goto (-105), 3) := by decide +kernel
theorem d_S_readBlock_172 : decode (iC M_S_readBlock) 172 = .ok (.aload_n 0, 1) := by decide +kernel
theorem d_S_readBlock_173 : decode (iC M_S_readBlock) 173 = .ok (.getfield 32, 3) := by decide +kernel
theorem d_S_readBlock_176 : decode (iC M_S_readBlock) 176 = .ok (.getfield 124, 3) := by decide +kernel
theorem d_S_readBlock_179 : decode (iC M_S_readBlock) 179 = .ok (.bipush 6, 2) := by decide +kernel
theorem d_S_readBlock_181 : decode (iC M_S_readBlock) 181 = .ok (.dup2, 1) := by decide +kernel
theorem d_S_readBlock_182 : decode (iC M_S_readBlock) 182 = .ok (.iaload, 1) := by decide +kernel
theorem d_S_readBlock_183 : decode (iC M_S_readBlock) 183 = .ok (.iconst 1, 1) := by decide +kernel
theorem d_S_readBlock_184 : decode (iC M_S_readBlock) 184 = .ok (.iadd, 1) := by decide +kernel
theorem d_S_readBlock_185 : decode (iC M_S_readBlock) 185 = .ok (.iastore, 1) := by decide +kernel
theorem d_S_readBlock_186 : decode (iC M_S_readBlock) 186 = .ok (.return_, 1) := by decide +kernel
theorem d_S_drawBlock_0 : decode (iC M_S_drawBlock) 0 = .ok (.aload_n 0, 1) := by decide +kernel
theorem d_S_drawBlock_1 : decode (iC M_S_drawBlock) 1 = .ok (.getfield 12, 3) := by decide +kernel
theorem d_S_drawBlock_4 : decode (iC M_S_drawBlock) 4 = .ok (.invokevirtual 183, 3) := by decide +kernel
theorem d_S_drawBlock_7 : decode (iC M_S_drawBlock) 7 = .ok (.iload_n 1, 1) := by decide +kernel
theorem d_S_drawBlock_8 : decode (iC M_S_drawBlock) 8 = .ok (.aload_n 0, 1) := by decide +kernel
theorem d_S_drawBlock_9 : decode (iC M_S_drawBlock) 9 = .ok (.getfield 32, 3) := by decide +kernel
theorem d_S_drawBlock_12 : decode (iC M_S_drawBlock) 12 = .ok (.getfield 68, 3) := by decide +kernel
theorem d_S_drawBlock_15 : decode (iC M_S_drawBlock) 15 = .ok (.irem, 1) := by decide +kernel
theorem d_S_drawBlock_16 : decode (iC M_S_drawBlock) 16 = .ok (.istore 4, 2) := by decide +kernel
theorem d_S_drawBlock_18 : decode (iC M_S_drawBlock) 18 = .ok (.iload_n 1, 1) := by decide +kernel
theorem d_S_drawBlock_19 : decode (iC M_S_drawBlock) 19 = .ok (.aload_n 0, 1) := by decide +kernel
theorem d_S_drawBlock_20 : decode (iC M_S_drawBlock) 20 = .ok (.getfield 32, 3) := by decide +kernel
theorem d_S_drawBlock_23 : decode (iC M_S_drawBlock) 23 = .ok (.getfield 68, 3) := by decide +kernel
theorem d_S_drawBlock_26 : decode (iC M_S_drawBlock) 26 = .ok (.idiv, 1) := by decide +kernel
theorem d_S_drawBlock_27 : decode (iC M_S_drawBlock) 27 = .ok (.istore 5, 2) := by decide +kernel
theorem d_S_drawBlock_29 : decode (iC M_S_drawBlock) 29 = .ok (.iload_n 2, 1) := by decide +kernel
theorem d_S_drawBlock_30 : decode (iC M_S_drawBlock) 30 = .ok (.iconst 4, 1) := by decide +kernel
theorem d_S_drawBlock_31 : decode (iC M_S_drawBlock) 31 = .ok (.if_icmp .ge 61, 3) := by decide +kernel
theorem d_S_drawBlock_34 : decode (iC M_S_drawBlock) 34 = .ok (.bipush 16, 2) := by decide +kernel
theorem d_S_drawBlock_36 : decode (iC M_S_drawBlock) 36 = .ok (.iload 4, 2) := by decide +kernel
theorem d_S_drawBlock_38 : decode (iC M_S_drawBlock) 38 = .ok (.imul, 1) := by decide +kernel
theorem d_S_drawBlock_39 : decode (iC M_S_drawBlock) 39 = .ok (.bipush 8, 2) := by decide +kernel
theorem d_S_drawBlock_41 : decode (iC M_S_drawBlock) 41 = .ok (.iload_n 2, 1) := by decide +kernel
theorem d_S_drawBlock_42 : decode (iC M_S_drawBlock) 42 = .ok (.iconst 1, 1) := by decide +kernel
theorem d_S_drawBlock_43 : decode (iC M_S_drawBlock) 43 = .ok (.iand, 1) := by decide +kernel
theorem d_S_drawBlock_44 : decode (iC M_S_drawBlock) 44 = .ok (.imul, 1) := by decide +kernel
theorem d_S_drawBlock_45 : decode (iC M_S_drawBlock) 45 = .ok (.iadd, 1) := by decide +kernel
theorem d_S_drawBlock_46 : decode (iC M_S_drawBlock) 46 = .ok (.istore 6, 2) := by decide +kernel
theorem d_S_drawBlock_48 : decode (iC M_S_drawBlock) 48 = .ok (.bipush 16, 2) := by decide +kernel
theorem d_S_drawBlock_50 : decode (iC M_S_drawBlock) 50 = .ok (.iload 5, 2) := by decide +kernel
theorem d_S_drawBlock_52 : decode (iC M_S_drawBlock) 52 = .ok (.imul, 1) := by decide +kernel
theorem d_S_drawBlock_53 : decode (iC M_S_drawBlock) 53 = .ok (.bipush 8, 2) := by decide +kernel
theorem d_S_drawBlock_55 : decode (iC M_S_drawBlock) 55 = .ok (.iload_n 2, 1) := by decide +kernel
theorem d_S_drawBlock_56 : decode (iC M_S_drawBlock) 56 = .ok (.iconst 1, 1) := by decide +kernel
theorem d_S_drawBlock_57 : decode (iC M_S_drawBlock) 57 = .ok (.ishr, 1) := by decide +kernel
theorem d_S_drawBlock_58 : decode (iC M_S_drawBlock) 58 = .ok (.imul, 1) := by decide +kernel
theorem d_S_drawBlock_59 : decode (iC M_S_drawBlock) 59 = .ok (.iadd, 1) := by decide +kernel
theorem d_S_drawBlock_60 : decode (iC M_S_drawBlock) 60 = .ok (.istore 7, 2) := by decide +kernel
theorem d_S_drawBlock_62 : decode (iC M_S_drawBlock) 62 = .ok (.aload_n 0, 1) := by decide +kernel
theorem d_S_drawBlock_63 : decode (iC M_S_drawBlock) 63 = .ok (.getfield 32, 3) := by decide +kernel
theorem d_S_drawBlock_66 : decode (iC M_S_drawBlock) 66 = .ok (.getfield 115, 3) := by decide +kernel
theorem d_S_drawBlock_69 : decode (iC M_S_drawBlock) 69 = .ok (.getfield 157, 3) := by decide +kernel
theorem d_S_drawBlock_72 : decode (iC M_S_drawBlock) 72 = .ok (.iconst 0, 1) := by decide +kernel
theorem d_S_drawBlock_73 : decode (iC M_S_drawBlock) 73 = .ok (.aaload, 1) := by decide +kernel
theorem d_S_drawBlock_74 : decode (iC M_S_drawBlock) 74 = .ok (.aload_n 0, 1) := by decide +kernel
theorem d_S_drawBlock_75 : decode (iC M_S_drawBlock) 75 = .ok (.getfield 12, 3) := by decide +kernel
theorem d_S_drawBlock_78 : decode (iC M_S_drawBlock) 78 = .ok (.getfield 186, 3) := by decide +kernel
theorem d_S_drawBlock_81 : decode (iC M_S_drawBlock) 81 = .ok (.iload 6, 2) := by decide +kernel
theorem d_S_drawBlock_83 : decode (iC M_S_drawBlock) 83 = .ok (.iload 7, 2) := by decide +kernel
theorem d_S_drawBlock_85 : decode (iC M_S_drawBlock) 85 = .ok (.iload_n 3, 1) := by decide +kernel
theorem d_S_drawBlock_86 : decode (iC M_S_drawBlock) 86 = .ok (.invokevirtual 189, 3) := by decide +kernel
theorem d_S_drawBlock_89 : decode (iC M_S_drawBlock) 89 = .ok (.goto 38, 3) := by decide +kernel
theorem d_S_drawBlock_92 : decode (iC M_S_drawBlock) 92 = .ok (.aload_n 0, 1) := by decide +kernel
theorem d_S_drawBlock_93 : decode (iC M_S_drawBlock) 93 = .ok (.getfield 32, 3) := by decide +kernel
theorem d_S_drawBlock_96 : decode (iC M_S_drawBlock) 96 = .ok (.getfield 115, 3) := by decide +kernel
theorem d_S_drawBlock_99 : decode (iC M_S_drawBlock) 99 = .ok (.getfield 157, 3) := by decide +kernel
theorem d_S_drawBlock_102 : decode (iC M_S_drawBlock) 102 = .ok (.iload_n 2, 1) := by decide +kernel
theorem d_S_drawBlock_103 : decode (iC M_S_drawBlock) 103 = .ok (.iconst 3, 1) := by decide +kernel
theorem d_S_drawBlock_104 : decode (iC M_S_drawBlock) 104 = .ok (.isub, 1) := by decide +kernel
theorem d_S_drawBlock_105 : decode (iC M_S_drawBlock) 105 = .ok (.aaload, 1) := by decide +kernel
theorem d_S_drawBlock_106 : decode (iC M_S_drawBlock) 106 = .ok (.aload_n 0, 1) := by decide +kernel
theorem d_S_drawBlock_107 : decode (iC M_S_drawBlock) 107 = .ok (.getfield 12, 3) := by decide +kernel
theorem d_S_drawBlock_110 : decode (iC M_S_drawBlock) 110 = .ok (.getfield 186, 3) := by decide +kernel
theorem d_S_drawBlock_113 : decode (iC M_S_drawBlock) 113 = .ok (.bipush 8, 2) := by decide +kernel
theorem d_S_drawBlock_115 : decode (iC M_S_drawBlock) 115 = .ok (.iload 4, 2) := by decide +kernel
theorem d_S_drawBlock_117 : decode (iC M_S_drawBlock) 117 = .ok (.imul, 1) := by decide +kernel
theorem d_S_drawBlock_118 : decode (iC M_S_drawBlock) 118 = .ok (.bipush 8, 2) := by decide +kernel
theorem d_S_drawBlock_120 : decode (iC M_S_drawBlock) 120 = .ok (.iload 5, 2) := by decide +kernel
theorem d_S_drawBlock_122 : decode (iC M_S_drawBlock) 122 = .ok (.imul, 1) := by decide +kernel
theorem d_S_drawBlock_123 : decode (iC M_S_drawBlock) 123 = .ok (.iload_n 3, 1) := by decide +kernel
theorem d_S_drawBlock_124 : decode (iC M_S_drawBlock) 124 = .ok (.invokevirtual 189, 3) := by decide +kernel
theorem d_S_drawBlock_127 : decode (iC M_S_drawBlock) 127 = .ok (.return_, 1) := by decide +kernel
end
section
theorem d_M_thrown_0 : decode (iC M_M_thrown) 0 = .ok (.aload_n 0, 1) := by decide +kernel
theorem d_M_thrown_1 : decode (iC M_M_thrown) 1 = .ok (.getfield 1, 3) := by decide +kernel
theorem d_M_thrown_4 : decode (iC M_M_thrown) 4 = .ok (.ireturn, 1) := by decide +kernel
theorem d_M_init_0 : decode (iC M_M_init) 0 = .ok (.aload_n 0, 1) := by decide +kernel
theorem d_M_init_1 : decode (iC M_M_init) 1 = .ok (.invokespecial 101, 3) := by decide +kernel
theorem d_M_init_4 : decode (iC M_M_init) 4 = .ok (.aload_n 0, 1) := by decide +kernel
theorem d_M_init_5 : decode (iC M_M_init) 5 = .ok (.sipush 4000, 3) := by decide +kernel
theorem d_M_init_8 : decode (iC M_M_init) 8 = .ok (.newarray .byte, 2) := by decide +kernel
theorem d_M_init_10 : decode (iC M_M_init) 10 = .ok (.putfield 107, 3) := by decide +kernel
theorem d_M_init_13 : decode (iC M_M_init) 13 = .ok (.aload_n 0, 1) := by decide +kernel
theorem d_M_init_14 : decode (iC M_M_init) 14 = .ok (.sipush 32000, 3) := by decide +kernel
theorem d_M_init_17 : decode (iC M_M_init) 17 = .ok (.newarray .byte, 2) := by decide +kernel
theorem d_M_init_19 : decode (iC M_M_init) 19 = .ok (.putfield 20, 3) := by decide +kernel
theorem d_M_init_22 : decode (iC M_M_init) 22 = .ok (.aload_n 0, 1) := by decide +kernel
theorem d_M_init_23 : decode (iC M_M_init) 23 = .ok (.iconst (-1), 1) := by decide +kernel
theorem d_M_init_24 : decode (iC M_M_init) 24 = .ok (.putfield 7, 3) := by decide +kernel
theorem d_M_init_27 : decode (iC M_M_init) 27 = .ok (.aload_n 0, 1) := by decide +kernel
theorem d_M_init_28 : decode (iC M_M_init) 28 = .ok (.sipush 6144, 3) := by decide +kernel
theorem d_M_init_31 : decode (iC M_M_init) 31 = .ok (.newarray .int, 2) := by decide +kernel
theorem d_M_init_33 : decode (iC M_M_init) 33 = .ok (.putfield 94, 3) := by decide +kernel
theorem d_M_init_36 : decode (iC M_M_init) 36 = .ok (.aload_n 0, 1) := by decide +kernel
theorem d_M_init_37 : decode (iC M_M_init) 37 = .ok (.sipush 6144, 3) := by decide +kernel
theorem d_M_init_40 : decode (iC M_M_init) 40 = .ok (.newarray .int, 2) := by decide +kernel
theorem d_M_init_42 : decode (iC M_M_init) 42 = .ok (.putfield 73, 3) := by decide +kernel
theorem d_M_init_45 : decode (iC M_M_init) 45 = .ok (.aload_n 0, 1) := by decide +kernel
theorem d_M_init_46 : decode (iC M_M_init) 46 = .ok (.sipush 6144, 3) := by decide +kernel
theorem d_M_init_49 : decode (iC M_M_init) 49 = .ok (.newarray .int, 2) := by decide +kernel
theorem d_M_init_51 : decode (iC M_M_init) 51 = .ok (.putfield 76, 3) := by decide +kernel
theorem d_M_init_54 : decode (iC M_M_init) 54 = .ok (.aload_n 0, 1) := by decide +kernel
theorem d_M_init_55 : decode (iC M_M_init) 55 = .ok (.ldc 110, 2) := by decide +kernel
theorem d_M_init_57 : decode (iC M_M_init) 57 = .ok (.newarray .byte, 2) := by decide +kernel
theorem d_M_init_59 : decode (iC M_M_init) 59 = .ok (.putfield 44, 3) := by decide +kernel
theorem d_M_init_62 : decode (iC M_M_init) 62 = .ok (.aload_n 0, 1) := by decide +kernel
theorem d_M_init_63 : decode (iC M_M_init) 63 = .ok (.bipush 80, 2) := by decide +kernel
theorem d_M_init_65 : decode (iC M_M_init) 65 = .ok (.newarray .int, 2) := by decide +kernel
theorem d_M_init_67 : decode (iC M_M_init) 67 = .ok (.putfield 47, 3) := by decide +kernel
theorem d_M_init_70 : decode (iC M_M_init) 70 = .ok (.aload_n 0, 1) := by decide +kernel
theorem d_M_init_71 : decode (iC M_M_init) 71 = .ok (.iconst 4, 1) := by decide +kernel
theorem d_M_init_72 : decode (iC M_M_init) 72 = .ok (.newarray .int, 2) := by decide +kernel
theorem d_M_init_74 : decode (iC M_M_init) 74 = .ok (.putfield 64, 3) := by decide +kernel
theorem d_M_init_77 : decode (iC M_M_init) 77 = .ok (.aload_n 0, 1) := by decide +kernel
theorem d_M_init_78 : decode (iC M_M_init) 78 = .ok (.iconst 4, 1) := by decide +kernel
theorem d_M_init_79 : decode (iC M_M_init) 79 = .ok (.newarray .int, 2) := by decide +kernel
theorem d_M_init_81 : decode (iC M_M_init) 81 = .ok (.putfield 111, 3) := by decide +kernel
theorem d_M_init_84 : decode (iC M_M_init) 84 = .ok (.aload_n 0, 1) := by decide +kernel
theorem d_M_init_85 : decode (iC M_M_init) 85 = .ok (.iconst 3, 1) := by decide +kernel
theorem d_M_init_86 : decode (iC M_M_init) 86 = .ok (.newarray .int, 2) := by decide +kernel
theorem d_M_init_88 : decode (iC M_M_init) 88 = .ok (.putfield 114, 3) := by decide +kernel
theorem d_M_init_91 : decode (iC M_M_init) 91 = .ok (.aload_n 0, 1) := by decide +kernel
theorem d_M_init_92 : decode (iC M_M_init) 92 = .ok (.bipush 64, 2) := by decide +kernel
theorem d_M_init_94 : decode (iC M_M_init) 94 = .ok (.newarray .int, 2) := by decide +kernel
theorem d_M_init_96 : decode (iC M_M_init) 96 = .ok (.putfield 117, 3) := by decide +kernel
theorem d_M_init_99 : decode (iC M_M_init) 99 = .ok (.aload_n 0, 1) := by decide +kernel
theorem d_M_init_100 : decode (iC M_M_init) 100 = .ok (.bipush 64, 2) := by decide +kernel
theorem d_M_init_102 : decode (iC M_M_init) 102 = .ok (.newarray .int, 2) := by decide +kernel
theorem d_M_init_104 : decode (iC M_M_init) 104 = .ok (.putfield 120, 3) := by decide +kernel
theorem d_M_init_107 : decode (iC M_M_init) 107 = .ok (.aload_n 0, 1) := by decide +kernel
theorem d_M_init_108 : decode (iC M_M_init) 108 = .ok (.bipush 64, 2) := by decide +kernel
theorem d_M_init_110 : decode (iC M_M_init) 110 = .ok (.newarray .int, 2) := by decide +kernel
theorem d_M_init_112 : decode (iC M_M_init) 112 = .ok (.putfield 123, 3) := by decide +kernel
theorem d_M_init_115 : decode (iC M_M_init) 115 = .ok (.aload_n 0, 1) := by decide +kernel
theorem d_M_init_116 : decode (iC M_M_init) 116 = .ok (.iconst 5, 1) := by decide +kernel
theorem d_M_init_117 : decode (iC M_M_init) 117 = .ok (.newarray .int, 2) := by decide +kernel
theorem d_M_init_119 : decode (iC M_M_init) 119 = .ok (.putfield 126, 3) := by decide +kernel
theorem d_M_init_122 : decode (iC M_M_init) 122 = .ok (.iconst 0, 1) := by decide +kernel
theorem d_M_init_123 : decode (iC M_M_init) 123 = .ok (.istore_n 1, 1) := by decide +kernel
theorem d_M_init_124 : decode (iC M_M_init) 124 = .ok (.iconst 0, 1) := by decide +kernel
theorem d_M_init_125 : decode (iC M_M_init) 125 = .ok (.istore_n 2, 1) := by decide +kernel
theorem d_M_init_126 : decode (iC M_M_init) 126 = .ok (.iload_n 2, 1) := by decide +kernel
theorem d_M_init_127 : decode (iC M_M_init) 127 = .ok (.bipush 15, 2) := by decide +kernel
theorem d_M_init_129 : decode (iC M_M_init) 129 = .ok (.if_icmp .ge 78, 3) := by decide +kernel
theorem d_M_init_132 : decode (iC M_M_init) 132 = .ok (.iconst 0, 1) := by decide +kernel
theorem d_M_init_133 : decode (iC M_M_init) 133 = .ok (.istore_n 3, 1) := by decide +kernel
theorem d_M_init_134 : decode (iC M_M_init) 134 = .ok (.iload_n 3, 1) := by decide +kernel
theorem d_M_init_135 : decode (iC M_M_init) 135 = .ok (.iload_n 2, 1) := by decide +kernel
theorem d_M_init_136 : decode (iC M_M_init) 136 = .ok (.if_icmp .gt 65, 3) := by decide +kernel
theorem d_M_init_139 : decode (iC M_M_init) 139 = .ok (.iload_n 2, 1) := by decide +kernel
theorem d_M_init_140 : decode (iC M_M_init) 140 = .ok (.iconst 2, 1) := by decide +kernel
theorem d_M_init_141 : decode (iC M_M_init) 141 = .ok (.irem, 1) := by decide +kernel
theorem d_M_init_142 : decode (iC M_M_init) 142 = .ok (.iconst 1, 1) := by decide +kernel
theorem d_M_init_143 : decode (iC M_M_init) 143 = .ok (.if_icmp .ne 7, 3) := by decide +kernel
theorem d_M_init_146 : decode (iC M_M_init) 146 = .ok (.iload_n 3, 1) := by decide +kernel
theorem d_M_init_147 : decode (iC M_M_init) 147 = .ok (.goto 6, 3) := by decide +kernel
theorem d_M_init_150 : decode (iC M_M_init) 150 = .ok (.iload_n 2, 1) := by decide +kernel
theorem d_M_init_151 : decode (iC M_M_init) 151 = .ok (.iload_n 3, 1) := by decide +kernel
theorem d_M_init_152 : decode (iC M_M_init) 152 = .ok (.isub, 1) := by decide +kernel
theorem d_M_init_153 : decode (iC M_M_init) 153 = .ok (.istore 4, 2) := by decide +kernel
theorem d_M_init_155 : decode (iC M_M_init) 155 = .ok (.iload_n 2, 1) := by decide +kernel
theorem d_M_init_156 : decode (iC M_M_init) 156 = .ok (.iload 4, 2) := by decide +kernel
theorem d_M_init_158 : decode (iC M_M_init) 158 = .ok (.isub, 1) := by decide +kernel
theorem d_M_init_159 : decode (iC M_M_init) 159 = .ok (.istore 5, 2) := by decide +kernel
theorem d_M_init_161 : decode (iC M_M_init) 161 = .ok (.iload 5, 2) := by decide +kernel
theorem d_M_init_163 : decode (iC M_M_init) 163 = .ok (.bipush 7, 2) := by decide +kernel
theorem d_M_init_165 : decode (iC M_M_init) 165 = .ok (.if_icmp .gt 30, 3) := by decide +kernel
theorem d_M_init_168 : decode (iC M_M_init) 168 = .ok (.iload 4, 2) := by decide +kernel
theorem d_M_init_170 : decode (iC M_M_init) 170 = .ok (.bipush 7, 2) := by decide +kernel
theorem d_M_init_172 : decode (iC M_M_init) 172 = .ok (.if_icmp .le 6, 3) := by decide +kernel
theorem d_M_init_175 : decode (iC M_M_init) 175 = .ok (.goto 20, 3) := by decide +kernel
theorem d_M_init_178 : decode (iC M_M_init) 178 = .ok (.aload_n 0, 1) := by decide +kernel
theorem d_M_init_179 : decode (iC M_M_init) 179 = .ok (.getfield 117, 3) := by decide +kernel
theorem d_M_init_182 : decode (iC M_M_init) 182 = .ok (.iload_n 1, 1) := by decide +kernel
theorem d_M_init_183 : decode (iC M_M_init) 183 = .ok (.bipush 8, 2) := by decide +kernel
theorem d_M_init_185 : decode (iC M_M_init) 185 = .ok (.iload 4, 2) := by decide +kernel
theorem d_M_init_187 : decode (iC M_M_init) 187 = .ok (.imul, 1) := by decide +kernel
theorem d_M_init_188 : decode (iC M_M_init) 188 = .ok (.iload 5, 2) := by decide +kernel
theorem d_M_init_190 : decode (iC M_M_init) 190 = .ok (.iadd, 1) := by decide +kernel
theorem d_M_init_191 : decode (iC M_M_init) 191 = .ok (.iastore, 1) := by decide +kernel
theorem d_M_init_192 : decode (iC M_M_init) 192 = .ok (.iinc 1 1, 3) := by decide +kernel
theorem d_M_init_195 : decode (iC M_M_init) 195 = .ok (.iinc 3 1, 3) := by decide +kernel
theorem d_M_init_198 : decode (iC M_M_init) 198 = .ok (.goto (-64), 3) := by decide +kernel
theorem d_M_init_201 : decode (iC M_M_init) 201 = .ok (.iinc 2 1, 3) := by decide +kernel
theorem d_M_init_204 : decode (iC M_M_init) 204 = .ok (.goto (-78), 3) := by decide +kernel
theorem d_M_init_207 : decode (iC M_M_init) 207 = .ok (.return_, 1) := by decide +kernel
theorem d_M_feed_0 : decode (iC M_M_feed) 0 = .ok (.aload_n 0, 1) := by decide +kernel
theorem d_M_feed_1 : decode (iC M_M_feed) 1 = .ok (.iconst 0, 1) := by decide +kernel
theorem d_M_feed_2 : decode (iC M_M_feed) 2 = .ok (.putfield 1, 3) := by decide +kernel
theorem d_M_feed_5 : decode (iC M_M_feed) 5 = .ok (.aload_n 0, 1) := by decide +kernel
theorem d_M_feed_6 : decode (iC M_M_feed) 6 = .ok (.invokevirtual 258, 3) := by decide +kernel
theorem d_M_feed_9 : decode (iC M_M_feed) 9 = .ok (.istore 6, 2) := by decide +kernel
theorem d_M_feed_11 : decode (iC M_M_feed) 11 = .ok (.iload 6, 2) := by decide +kernel
theorem d_M_feed_13 : decode (iC M_M_feed) 13 = .ok (.bipush 20, 2) := by decide +kernel
theorem d_M_feed_15 : decode (iC M_M_feed) 15 = .ok (.iadd, 1) := by decide +kernel
theorem d_M_feed_16 : decode (iC M_M_feed) 16 = .ok (.sipush 4000, 3) := by decide +kernel
theorem d_M_feed_19 : decode (iC M_M_feed) 19 = .ok (.if_icmp .le 5, 3) := by decide +kernel
theorem d_M_feed_22 : decode (iC M_M_feed) 22 = .ok (.iconst (-1), 1) := by decide +kernel
theorem d_M_feed_23 : decode (iC M_M_feed) 23 = .ok (.ireturn, 1) := by decide +kernel
theorem d_M_feed_24 : decode (iC M_M_feed) 24 = .ok (.aload_n 0, 1) := by decide +kernel
theorem d_M_feed_25 : decode (iC M_M_feed) 25 = .ok (.getfield 126, 3) := by decide +kernel
theorem d_M_feed_28 : decode (iC M_M_feed) 28 = .ok (.iconst 0, 1) := by decide +kernel
theorem d_M_feed_29 : decode (iC M_M_feed) 29 = .ok (.iload_n 1, 1) := by decide +kernel
theorem d_M_feed_30 : decode (iC M_M_feed) 30 = .ok (.iastore, 1) := by decide +kernel
theorem d_M_feed_31 : decode (iC M_M_feed) 31 = .ok (.aload_n 0, 1) := by decide +kernel
theorem d_M_feed_32 : decode (iC M_M_feed) 32 = .ok (.getfield 126, 3) := by decide +kernel
theorem d_M_feed_35 : decode (iC M_M_feed) 35 = .ok (.iconst 1, 1) := by decide +kernel
theorem d_M_feed_36 : decode (iC M_M_feed) 36 = .ok (.iload_n 2, 1) := by decide +kernel
theorem d_M_feed_37 : decode (iC M_M_feed) 37 = .ok (.iastore, 1) := by decide +kernel
theorem d_M_feed_38 : decode (iC M_M_feed) 38 = .ok (.aload_n 0, 1) := by decide +kernel
theorem d_M_feed_39 : decode (iC M_M_feed) 39 = .ok (.getfield 126, 3) := by decide +kernel
theorem d_M_feed_42 : decode (iC M_M_feed) 42 = .ok (.iconst 2, 1) := by decide +kernel
theorem d_M_feed_43 : decode (iC M_M_feed) 43 = .ok (.iload_n 3, 1) := by decide +kernel
theorem d_M_feed_44 : decode (iC M_M_feed) 44 = .ok (.iastore, 1) := by decide +kernel
theorem d_M_feed_45 : decode (iC M_M_feed) 45 = .ok (.aload_n 0, 1) := by decide +kernel
theorem d_M_feed_46 : decode (iC M_M_feed) 46 = .ok (.getfield 126, 3) := by decide +kernel
theorem d_M_feed_49 : decode (iC M_M_feed) 49 = .ok (.iconst 3, 1) := by decide +kernel
theorem d_M_feed_50 : decode (iC M_M_feed) 50 = .ok (.iload 4, 2) := by decide +kernel
theorem d_M_feed_52 : decode (iC M_M_feed) 52 = .ok (.iastore, 1) := by decide +kernel
theorem d_M_feed_53 : decode (iC M_M_feed) 53 = .ok (.aload_n 0, 1) := by decide +kernel
theorem d_M_feed_54 : decode (iC M_M_feed) 54 = .ok (.getfield 126, 3) := by decide +kernel
theorem d_M_feed_57 : decode (iC M_M_feed) 57 = .ok (.iconst 4, 1) := by decide +kernel
theorem d_M_feed_58 : decode (iC M_M_feed) 58 = .ok (.iload 5, 2) := by decide +kernel
theorem d_M_feed_60 : decode (iC M_M_feed) 60 = .ok (.iastore, 1) := by decide +kernel
theorem d_M_feed_61 : decode (iC M_M_feed) 61 = .ok (.iconst 0, 1) := by decide +kernel
theorem d_M_feed_62 : decode (iC M_M_feed) 62 = .ok (.istore 7, 2) := by decide +kernel
theorem d_M_feed_64 : decode (iC M_M_feed) 64 = .ok (.iload 7, 2) := by decide +kernel
theorem d_M_feed_66 : decode (iC M_M_feed) 66 = .ok (.bipush 20, 2) := by decide +kernel
theorem d_M_feed_68 : decode (iC M_M_feed) 68 = .ok (.if_icmp .ge 40, 3) := by decide +kernel
theorem d_M_feed_71 : decode (iC M_M_feed) 71 = .ok (.aload_n 0, 1) := by decide +kernel
theorem d_M_feed_72 : decode (iC M_M_feed) 72 = .ok (.getfield 107, 3) := by decide +kernel
theorem d_M_feed_75 : decode (iC M_M_feed) 75 = .ok (.iload 6, 2) := by decide +kernel
theorem d_M_feed_77 : decode (iC M_M_feed) 77 = .ok (.iload 7, 2) := by decide +kernel
theorem d_M_feed_79 : decode (iC M_M_feed) 79 = .ok (.iadd, 1) := by decide +kernel
theorem d_M_feed_80 : decode (iC M_M_feed) 80 = .ok (.aload_n 0, 1) := by decide +kernel
theorem d_M_feed_81 : decode (iC M_M_feed) 81 = .ok (.getfield 126, 3) := by decide +kernel
theorem d_M_feed_84 : decode (iC M_M_feed) 84 = .ok (.iload 7, 2) := by decide +kernel
theorem d_M_feed_86 : decode (iC M_M_feed) 86 = .ok (.iconst 4, 1) := by decide +kernel
theorem d_M_feed_87 : decode (iC M_M_feed) 87 = .ok (.idiv, 1) := by decide +kernel
theorem d_M_feed_88 : decode (iC M_M_feed) 88 = .ok (.iaload, 1) := by decide +kernel
theorem d_M_feed_89 : decode (iC M_M_feed) 89 = .ok (.bipush 24, 2) := by decide +kernel
theorem d_M_feed_91 : decode (iC M_M_feed) 91 = .ok (.bipush 8, 2) := by decide +kernel
theorem d_M_feed_93 : decode (iC M_M_feed) 93 = .ok (.iload 7, 2) := by decide +kernel
theorem d_M_feed_95 : decode (iC M_M_feed) 95 = .ok (.iconst 4, 1) := by decide +kernel
theorem d_M_feed_96 : decode (iC M_M_feed) 96 = .ok (.irem, 1) := by decide +kernel
theorem d_M_feed_97 : decode (iC M_M_feed) 97 = .ok (.imul, 1) := by decide +kernel
theorem d_M_feed_98 : decode (iC M_M_feed) 98 = .ok (.isub, 1) := by decide +kernel
theorem d_M_feed_99 : decode (iC M_M_feed) 99 = .ok (.ishr, 1) := by decide +kernel
theorem d_M_feed_100 : decode (iC M_M_feed) 100 = .ok (.i2b, 1) := by decide +kernel
theorem d_M_feed_101 : decode (iC M_M_feed) 101 = .ok (.bastore, 1) := by decide +kernel
theorem d_M_feed_102 : decode (iC M_M_feed) 102 = .ok (.iinc 7 1, 3) := by decide +kernel
theorem d_M_feed_105 : decode (iC M_M_feed) 105 = .ok (.goto (-41), 3) := by decide +kernel
theorem d_M_feed_108 : decode (iC M_M_feed) 108 = .ok (.aload_n 0, 1) := by decide +kernel
theorem d_M_feed_109 : decode (iC M_M_feed) 109 = .ok (.bipush 8, 2) := by decide +kernel
theorem d_M_feed_111 : decode (iC M_M_feed) 111 = .ok (.iload 6, 2) := by decide +kernel
theorem d_M_feed_113 : decode (iC M_M_feed) 113 = .ok (.bipush 20, 2) := by decide +kernel
theorem d_M_feed_115 : decode (iC M_M_feed) 115 = .ok (.iadd, 1) := by decide +kernel
theorem d_M_feed_116 : decode (iC M_M_feed) 116 = .ok (.imul, 1) := by decide +kernel
theorem d_M_feed_117 : decode (iC M_M_feed) 117 = .ok (.putfield 255, 3) := by decide +kernel
theorem d_M_feed_120 : decode (iC M_M_feed) 120 = .ok (.iload 6, 2) := by decide +kernel
theorem d_M_feed_122 : decode (iC M_M_feed) 122 = .ok (.bipush 20, 2) := by decide +kernel
theorem d_M_feed_124 : decode (iC M_M_feed) 124 = .ok (.iadd, 1) := by decide +kernel
theorem d_M_feed_125 : decode (iC M_M_feed) 125 = .ok (.ireturn, 1) := by decide +kernel
theorem d_M_taped_0 : decode (iC M_M_taped) 0 = .ok (.aload_n 0, 1) := by decide +kernel
theorem d_M_taped_1 : decode (iC M_M_taped) 1 = .ok (.getfield 255, 3) := by decide +kernel
theorem d_M_taped_4 : decode (iC M_M_taped) 4 = .ok (.bipush 7, 2) := by decide +kernel
theorem d_M_taped_6 : decode (iC M_M_taped) 6 = .ok (.iadd, 1) := by decide +kernel
theorem d_M_taped_7 : decode (iC M_M_taped) 7 = .ok (.bipush 8, 2) := by decide +kernel
theorem d_M_taped_9 : decode (iC M_M_taped) 9 = .ok (.idiv, 1) := by decide +kernel
theorem d_M_taped_10 : decode (iC M_M_taped) 10 = .ok (.ireturn, 1) := by decide +kernel
theorem d_M_end_0 : decode (iC M_M_end) 0 = .ok (.aload_n 0, 1) := by decide +kernel
theorem d_M_end_1 : decode (iC M_M_end) 1 = .ok (.iconst 0, 1) := by decide +kernel
theorem d_M_end_2 : decode (iC M_M_end) 2 = .ok (.putfield 1, 3) := by decide +kernel
theorem d_M_end_5 : decode (iC M_M_end) 5 = .ok (.iload_n 1, 1) := by decide +kernel
theorem d_M_end_6 : decode (iC M_M_end) 6 = .ok (.ifCond .lt 11, 3) := by decide +kernel
theorem d_M_end_9 : decode (iC M_M_end) 9 = .ok (.iload_n 1, 1) := by decide +kernel
theorem d_M_end_10 : decode (iC M_M_end) 10 = .ok (.aload_n 0, 1) := by decide +kernel
theorem d_M_end_11 : decode (iC M_M_end) 11 = .ok (.invokevirtual 258, 3) := by decide +kernel
theorem d_M_end_14 : decode (iC M_M_end) 14 = .ok (.if_icmp .le 5, 3) := by decide +kernel
theorem d_M_end_17 : decode (iC M_M_end) 17 = .ok (.iconst 0, 1) := by decide +kernel
theorem d_M_end_18 : decode (iC M_M_end) 18 = .ok (.ireturn, 1) := by decide +kernel
theorem d_M_end_19 : decode (iC M_M_end) 19 = .ok (.aload_n 0, 1) := by decide +kernel
theorem d_M_end_20 : decode (iC M_M_end) 20 = .ok (.bipush 8, 2) := by decide +kernel
theorem d_M_end_22 : decode (iC M_M_end) 22 = .ok (.iload_n 1, 1) := by decide +kernel
theorem d_M_end_23 : decode (iC M_M_end) 23 = .ok (.imul, 1) := by decide +kernel
theorem d_M_end_24 : decode (iC M_M_end) 24 = .ok (.putfield 255, 3) := by decide +kernel
theorem d_M_end_27 : decode (iC M_M_end) 27 = .ok (.iconst 1, 1) := by decide +kernel
theorem d_M_end_28 : decode (iC M_M_end) 28 = .ok (.ireturn, 1) := by decide +kernel
theorem d_M_bits_0 : decode (iC M_M_bits) 0 = .ok (.aload_n 0, 1) := by decide +kernel
theorem d_M_bits_1 : decode (iC M_M_bits) 1 = .ok (.iconst 0, 1) := by decide +kernel
theorem d_M_bits_2 : decode (iC M_M_bits) 2 = .ok (.putfield 1, 3) := by decide +kernel
theorem d_M_bits_5 : decode (iC M_M_bits) 5 = .ok (.iload_n 2, 1) := by decide +kernel
theorem d_M_bits_6 : decode (iC M_M_bits) 6 = .ok (.iconst 1, 1) := by decide +kernel
theorem d_M_bits_7 : decode (iC M_M_bits) 7 = .ok (.if_icmp .lt 21, 3) := by decide +kernel
theorem d_M_bits_10 : decode (iC M_M_bits) 10 = .ok (.iload_n 2, 1) := by decide +kernel
theorem d_M_bits_11 : decode (iC M_M_bits) 11 = .ok (.bipush 32, 2) := by decide +kernel
theorem d_M_bits_13 : decode (iC M_M_bits) 13 = .ok (.if_icmp .gt 15, 3) := by decide +kernel
theorem d_M_bits_16 : decode (iC M_M_bits) 16 = .ok (.aload_n 0, 1) := by decide +kernel
theorem d_M_bits_17 : decode (iC M_M_bits) 17 = .ok (.getfield 255, 3) := by decide +kernel
theorem d_M_bits_20 : decode (iC M_M_bits) 20 = .ok (.iload_n 2, 1) := by decide +kernel
theorem d_M_bits_21 : decode (iC M_M_bits) 21 = .ok (.iadd, 1) := by decide +kernel
theorem d_M_bits_22 : decode (iC M_M_bits) 22 = .ok (.sipush 32000, 3) := by decide +kernel
theorem d_M_bits_25 : decode (iC M_M_bits) 25 = .ok (.if_icmp .le 5, 3) := by decide +kernel
theorem d_M_bits_28 : decode (iC M_M_bits) 28 = .ok (.iconst (-1), 1) := by decide +kernel
theorem d_M_bits_29 : decode (iC M_M_bits) 29 = .ok (.ireturn, 1) := by decide +kernel
theorem d_M_bits_30 : decode (iC M_M_bits) 30 = .ok (.iload_n 2, 1) := by decide +kernel
theorem d_M_bits_31 : decode (iC M_M_bits) 31 = .ok (.iconst 1, 1) := by decide +kernel
theorem d_M_bits_32 : decode (iC M_M_bits) 32 = .ok (.isub, 1) := by decide +kernel
theorem d_M_bits_33 : decode (iC M_M_bits) 33 = .ok (.istore_n 3, 1) := by decide +kernel
theorem d_M_bits_34 : decode (iC M_M_bits) 34 = .ok (.iload_n 3, 1) := by decide +kernel
theorem d_M_bits_35 : decode (iC M_M_bits) 35 = .ok (.ifCond .lt 73, 3) := by decide +kernel
theorem d_M_bits_38 : decode (iC M_M_bits) 38 = .ok (.aload_n 0, 1) := by decide +kernel
theorem d_M_bits_39 : decode (iC M_M_bits) 39 = .ok (.getfield 255, 3) := by decide +kernel
theorem d_M_bits_42 : decode (iC M_M_bits) 42 = .ok (.bipush 8, 2) := by decide +kernel
theorem d_M_bits_44 : decode (iC M_M_bits) 44 = .ok (.idiv, 1) := by decide +kernel
theorem d_M_bits_45 : decode (iC M_M_bits) 45 = .ok (.istore 4, 2) := by decide +kernel
theorem d_M_bits_47 : decode (iC M_M_bits) 47 = .ok (.aload_n 0, 1) := by decide +kernel
theorem d_M_bits_48 : decode (iC M_M_bits) 48 = .ok (.getfield 255, 3) := by decide +kernel
theorem d_M_bits_51 : decode (iC M_M_bits) 51 = .ok (.bipush 8, 2) := by decide +kernel
theorem d_M_bits_53 : decode (iC M_M_bits) 53 = .ok (.irem, 1) := by decide +kernel
theorem d_M_bits_54 : decode (iC M_M_bits) 54 = .ok (.ifCond .ne 11, 3) := by decide +kernel
theorem d_M_bits_57 : decode (iC M_M_bits) 57 = .ok (.aload_n 0, 1) := by decide +kernel
theorem d_M_bits_58 : decode (iC M_M_bits) 58 = .ok (.getfield 107, 3) := by decide +kernel
theorem d_M_bits_61 : decode (iC M_M_bits) 61 = .ok (.iload 4, 2) := by decide +kernel
theorem d_M_bits_63 : decode (iC M_M_bits) 63 = .ok (.iconst 0, 1) := by decide +kernel
theorem d_M_bits_64 : decode (iC M_M_bits) 64 = .ok (.bastore, 1) := by decide +kernel
theorem d_M_bits_65 : decode (iC M_M_bits) 65 = .ok (.aload_n 0, 1) := by decide +kernel
theorem d_M_bits_66 : decode (iC M_M_bits) 66 = .ok (.getfield 107, 3) := by decide +kernel
theorem d_M_bits_69 : decode (iC M_M_bits) 69 = .ok (.iload 4, 2) := by decide +kernel
theorem d_M_bits_71 : decode (iC M_M_bits) 71 = .ok (.dup2, 1) := by decide +kernel
theorem d_M_bits_72 : decode (iC M_M_bits) 72 = .ok (.baload, 1) := by decide +kernel
theorem d_M_bits_73 : decode (iC M_M_bits) 73 = .ok (.iload_n 1, 1) := by decide +kernel
theorem d_M_bits_74 : decode (iC M_M_bits) 74 = .ok (.iload_n 3, 1) := by decide +kernel
theorem d_M_bits_75 : decode (iC M_M_bits) 75 = .ok (.ishr, 1) := by decide +kernel
theorem d_M_bits_76 : decode (iC M_M_bits) 76 = .ok (.iconst 1, 1) := by decide +kernel
theorem d_M_bits_77 : decode (iC M_M_bits) 77 = .ok (.iand, 1) := by decide +kernel
theorem d_M_bits_78 : decode (iC M_M_bits) 78 = .ok (.bipush 7, 2) := by decide +kernel
theorem d_M_bits_80 : decode (iC M_M_bits) 80 = .ok (.aload_n 0, 1) := by decide +kernel
theorem d_M_bits_81 : decode (iC M_M_bits) 81 = .ok (.getfield 255, 3) := by decide +kernel
theorem d_M_bits_84 : decode (iC M_M_bits) 84 = .ok (.bipush 8, 2) := by decide +kernel
theorem d_M_bits_86 : decode (iC M_M_bits) 86 = .ok (.irem, 1) := by decide +kernel
theorem d_M_bits_87 : decode (iC M_M_bits) 87 = .ok (.isub, 1) := by decide +kernel
theorem d_M_bits_88 : decode (iC M_M_bits) 88 = .ok (.ishl, 1) := by decide +kernel
theorem d_M_bits_89 : decode (iC M_M_bits) 89 = .ok (.ior, 1) := by decide +kernel
theorem d_M_bits_90 : decode (iC M_M_bits) 90 = .ok (.i2b, 1) := by decide +kernel
theorem d_M_bits_91 : decode (iC M_M_bits) 91 = .ok (.bastore, 1) := by decide +kernel
theorem d_M_bits_92 : decode (iC M_M_bits) 92 = .ok (.aload_n 0, 1) := by decide +kernel
theorem d_M_bits_93 : decode (iC M_M_bits) 93 = .ok (.dup, 1) := by decide +kernel
theorem d_M_bits_94 : decode (iC M_M_bits) 94 = .ok (.getfield 255, 3) := by decide +kernel
theorem d_M_bits_97 : decode (iC M_M_bits) 97 = .ok (.iconst 1, 1) := by decide +kernel
theorem d_M_bits_98 : decode (iC M_M_bits) 98 = .ok (.iadd, 1) := by decide +kernel
theorem d_M_bits_99 : decode (iC M_M_bits) 99 = .ok (.putfield 255, 3) := by decide +kernel
theorem d_M_bits_102 : decode (iC M_M_bits) 102 = .ok (.iinc 3 (-1), 3) := by decide +kernel
theorem d_M_bits_105 : decode (iC M_M_bits) 105 = .ok (.goto (-71), 3) := by decide +kernel
theorem d_M_bits_108 : decode (iC M_M_bits) 108 = .ok (.aload_n 0, 1) := by decide +kernel
theorem d_M_bits_109 : decode (iC M_M_bits) 109 = .ok (.getfield 255, 3) := by decide +kernel
theorem d_M_bits_112 : decode (iC M_M_bits) 112 = .ok (.ireturn, 1) := by decide +kernel
theorem d_M_read_0 : decode (iC M_M_read) 0 = .ok (.aload_n 0, 1) := by decide +kernel
theorem d_M_read_1 : decode (iC M_M_read) 1 = .ok (.iconst 0, 1) := by decide +kernel
theorem d_M_read_2 : decode (iC M_M_read) 2 = .ok (.putfield 1, 3) := by decide +kernel
theorem d_M_read_5 : decode (iC M_M_read) 5 = .ok (.aload_n 0, 1) := by decide +kernel
theorem d_M_read_6 : decode (iC M_M_read) 6 = .ok (.invokevirtual 258, 3) := by decide +kernel
theorem d_M_read_9 : decode (iC M_M_read) 9 = .ok (.istore_n 1, 1) := by decide +kernel
theorem d_M_read_10 : decode (iC M_M_read) 10 = .ok (.iconst 0, 1) := by decide +kernel
theorem d_M_read_11 : decode (iC M_M_read) 11 = .ok (.istore_n 2, 1) := by decide +kernel
theorem d_M_read_12 : decode (iC M_M_read) 12 = .ok (.iload_n 2, 1) := by decide +kernel
theorem d_M_read_13 : decode (iC M_M_read) 13 = .ok (.bipush 8, 2) := by decide +kernel
theorem d_M_read_15 : decode (iC M_M_read) 15 = .ok (.iload_n 1, 1) := by decide +kernel
theorem d_M_read_16 : decode (iC M_M_read) 16 = .ok (.imul, 1) := by decide +kernel
theorem d_M_read_17 : decode (iC M_M_read) 17 = .ok (.if_icmp .ge 35, 3) := by decide +kernel
theorem d_M_read_20 : decode (iC M_M_read) 20 = .ok (.aload_n 0, 1) := by decide +kernel
theorem d_M_read_21 : decode (iC M_M_read) 21 = .ok (.getfield 20, 3) := by decide +kernel
theorem d_M_read_24 : decode (iC M_M_read) 24 = .ok (.iload_n 2, 1) := by decide +kernel
theorem d_M_read_25 : decode (iC M_M_read) 25 = .ok (.aload_n 0, 1) := by decide +kernel
theorem d_M_read_26 : decode (iC M_M_read) 26 = .ok (.getfield 107, 3) := by decide +kernel
theorem d_M_read_29 : decode (iC M_M_read) 29 = .ok (.iload_n 2, 1) := by decide +kernel
theorem d_M_read_30 : decode (iC M_M_read) 30 = .ok (.bipush 8, 2) := by decide +kernel
theorem d_M_read_32 : decode (iC M_M_read) 32 = .ok (.idiv, 1) := by decide +kernel
theorem d_M_read_33 : decode (iC M_M_read) 33 = .ok (.baload, 1) := by decide +kernel
theorem d_M_read_34 : decode (iC M_M_read) 34 = .ok (.bipush 7, 2) := by decide +kernel
theorem d_M_read_36 : decode (iC M_M_read) 36 = .ok (.iload_n 2, 1) := by decide +kernel
theorem d_M_read_37 : decode (iC M_M_read) 37 = .ok (.bipush 8, 2) := by decide +kernel
theorem d_M_read_39 : decode (iC M_M_read) 39 = .ok (.irem, 1) := by decide +kernel
theorem d_M_read_40 : decode (iC M_M_read) 40 = .ok (.isub, 1) := by decide +kernel
theorem d_M_read_41 : decode (iC M_M_read) 41 = .ok (.ishr, 1) := by decide +kernel
theorem d_M_read_42 : decode (iC M_M_read) 42 = .ok (.iconst 1, 1) := by decide +kernel
theorem d_M_read_43 : decode (iC M_M_read) 43 = .ok (.iand, 1) := by decide +kernel
theorem d_M_read_44 : decode (iC M_M_read) 44 = .ok (.i2b, 1) := by decide +kernel
theorem d_M_read_45 : decode (iC M_M_read) 45 = .ok (.bastore, 1) := by decide +kernel
theorem d_M_read_46 : decode (iC M_M_read) 46 = .ok (.iinc 2 1, 3) := by decide +kernel
theorem d_M_read_49 : decode (iC M_M_read) 49 = .ok (.goto (-37), 3) := by decide +kernel
theorem d_M_read_52 : decode (iC M_M_read) 52 = .ok (.aload_n 0, 1) := by decide +kernel
theorem d_M_read_53 : decode (iC M_M_read) 53 = .ok (.iconst 0, 1) := by decide +kernel
theorem d_M_read_54 : decode (iC M_M_read) 54 = .ok (.putfield 255, 3) := by decide +kernel
theorem d_M_read_57 : decode (iC M_M_read) 57 = .ok (.aload_n 0, 1) := by decide +kernel
theorem d_M_read_58 : decode (iC M_M_read) 58 = .ok (.iconst 0, 1) := by decide +kernel
theorem d_M_read_59 : decode (iC M_M_read) 59 = .ok (.putfield 10, 3) := by decide +kernel
theorem d_M_read_62 : decode (iC M_M_read) 62 = .ok (.aload_n 0, 1) := by decide +kernel
theorem d_M_read_63 : decode (iC M_M_read) 63 = .ok (.bipush 8, 2) := by decide +kernel
theorem d_M_read_65 : decode (iC M_M_read) 65 = .ok (.iload_n 1, 1) := by decide +kernel
theorem d_M_read_66 : decode (iC M_M_read) 66 = .ok (.imul, 1) := by decide +kernel
theorem d_M_read_67 : decode (iC M_M_read) 67 = .ok (.putfield 13, 3) := by decide +kernel
theorem d_M_read_70 : decode (iC M_M_read) 70 = .ok (.aload_n 0, 1) := by decide +kernel
theorem d_M_read_71 : decode (iC M_M_read) 71 = .ok (.iconst (-1), 1) := by decide +kernel
theorem d_M_read_72 : decode (iC M_M_read) 72 = .ok (.putfield 7, 3) := by decide +kernel
theorem d_M_read_75 : decode (iC M_M_read) 75 = .ok (.aload_n 0, 1) := by decide +kernel
theorem d_M_read_76 : decode (iC M_M_read) 76 = .ok (.iconst 0, 1) := by decide +kernel
theorem d_M_read_77 : decode (iC M_M_read) 77 = .ok (.putfield 212, 3) := by decide +kernel
theorem d_M_read_80 : decode (iC M_M_read) 80 = .ok (.aload_n 0, 1) := by decide +kernel
theorem d_M_read_81 : decode (iC M_M_read) 81 = .ok (.iconst 0, 1) := by decide +kernel
theorem d_M_read_82 : decode (iC M_M_read) 82 = .ok (.putfield 215, 3) := by decide +kernel
theorem d_M_read_85 : decode (iC M_M_read) 85 = .ok (.aload_n 0, 1) := by decide +kernel
theorem d_M_read_86 : decode (iC M_M_read) 86 = .ok (.iconst 0, 1) := by decide +kernel
theorem d_M_read_87 : decode (iC M_M_read) 87 = .ok (.putfield 244, 3) := by decide +kernel
theorem d_M_read_90 : decode (iC M_M_read) 90 = .ok (.aload_n 0, 1) := by decide +kernel
theorem d_M_read_91 : decode (iC M_M_read) 91 = .ok (.iconst 0, 1) := by decide +kernel
theorem d_M_read_92 : decode (iC M_M_read) 92 = .ok (.putfield 247, 3) := by decide +kernel
theorem d_M_read_95 : decode (iC M_M_read) 95 = .ok (.aload_n 0, 1) := by decide +kernel
theorem d_M_read_96 : decode (iC M_M_read) 96 = .ok (.iconst 0, 1) := by decide +kernel
theorem d_M_read_97 : decode (iC M_M_read) 97 = .ok (.putfield 41, 3) := by decide +kernel
theorem d_M_read_100 : decode (iC M_M_read) 100 = .ok (.aload_n 0, 1) := by decide +kernel
theorem d_M_read_101 : decode (iC M_M_read) 101 = .ok (.iconst 0, 1) := by decide +kernel
theorem d_M_read_102 : decode (iC M_M_read) 102 = .ok (.putfield 222, 3) := by decide +kernel
theorem d_M_read_105 : decode (iC M_M_read) 105 = .ok (.aload_n 0, 1) := by decide +kernel
theorem d_M_read_106 : decode (iC M_M_read) 106 = .ok (.iconst 0, 1) := by decide +kernel
theorem d_M_read_107 : decode (iC M_M_read) 107 = .ok (.putfield 181, 3) := by decide +kernel
theorem d_M_read_110 : decode (iC M_M_read) 110 = .ok (.aload_n 0, 1) := by decide +kernel
theorem d_M_read_111 : decode (iC M_M_read) 111 = .ok (.iconst 0, 1) := by decide +kernel
theorem d_M_read_112 : decode (iC M_M_read) 112 = .ok (.putfield 196, 3) := by decide +kernel
theorem d_M_read_115 : decode (iC M_M_read) 115 = .ok (.aload_n 0, 1) := by decide +kernel
theorem d_M_read_116 : decode (iC M_M_read) 116 = .ok (.iconst 0, 1) := by decide +kernel
theorem d_M_read_117 : decode (iC M_M_read) 117 = .ok (.putfield 157, 3) := by decide +kernel
theorem d_M_read_120 : decode (iC M_M_read) 120 = .ok (.aload_n 0, 1) := by decide +kernel
theorem d_M_read_121 : decode (iC M_M_read) 121 = .ok (.iconst 0, 1) := by decide +kernel
theorem d_M_read_122 : decode (iC M_M_read) 122 = .ok (.putfield 151, 3) := by decide +kernel
theorem d_M_read_125 : decode (iC M_M_read) 125 = .ok (.aload_n 0, 1) := by decide +kernel
theorem d_M_read_126 : decode (iC M_M_read) 126 = .ok (.invokevirtual 261, 3) := by decide +kernel
theorem d_M_read_129 : decode (iC M_M_read) 129 = .ok (.aload_n 0, 1) := by decide +kernel
theorem d_M_read_130 : decode (iC M_M_read) 130 = .ok (.getfield 41, 3) := by decide +kernel
theorem d_M_read_133 : decode (iC M_M_read) 133 = .ok (.ireturn, 1) := by decide +kernel
theorem d_M_stream_0 : decode (iC M_M_stream) 0 = .ok (.aload_n 0, 1) := by decide +kernel
theorem d_M_stream_1 : decode (iC M_M_stream) 1 = .ok (.sipush 21074, 3) := by decide +kernel
theorem d_M_stream_4 : decode (iC M_M_stream) 4 = .ok (.sipush 21074, 3) := by decide +kernel
theorem d_M_stream_7 : decode (iC M_M_stream) 7 = .ok (.bipush 16, 2) := by decide +kernel
theorem d_M_stream_9 : decode (iC M_M_stream) 9 = .ok (.invokevirtual 241, 3) := by decide +kernel
theorem d_M_stream_12 : decode (iC M_M_stream) 12 = .ok (.istore_n 1, 1) := by decide +kernel
theorem d_M_stream_13 : decode (iC M_M_stream) 13 = .ok (.aload_n 0, 1) := by decide +kernel
theorem d_M_stream_14 : decode (iC M_M_stream) 14 = .ok (.getfield 7, 3) := by decide +kernel
theorem d_M_stream_17 : decode (iC M_M_stream) 17 = .ok (.ifCond .lt 4, 3) := by decide +kernel
theorem d_M_stream_20 : decode (iC M_M_stream) 20 = .ok (.return_, 1) := by decide +kernel
theorem d_M_stream_21 : decode (iC M_M_stream) 21 = .ok (.iconst 1, 1) := by decide +kernel
theorem d_M_stream_22 : decode (iC M_M_stream) 22 = .ok (.aload_n 0, 1) := by decide +kernel
theorem d_M_stream_23 : decode (iC M_M_stream) 23 = .ok (.iconst 2, 1) := by decide +kernel
theorem d_M_stream_24 : decode (iC M_M_stream) 24 = .ok (.invokevirtual 28, 3) := by decide +kernel
theorem d_M_stream_27 : decode (iC M_M_stream) 27 = .ok (.iadd, 1) := by decide +kernel
theorem d_M_stream_28 : decode (iC M_M_stream) 28 = .ok (.istore_n 2, 1) := by decide +kernel
theorem d_M_stream_29 : decode (iC M_M_stream) 29 = .ok (.iconst 1, 1) := by decide +kernel
theorem d_M_stream_30 : decode (iC M_M_stream) 30 = .ok (.aload_n 0, 1) := by decide +kernel
theorem d_M_stream_31 : decode (iC M_M_stream) 31 = .ok (.iconst 2, 1) := by decide +kernel
theorem d_M_stream_32 : decode (iC M_M_stream) 32 = .ok (.invokevirtual 28, 3) := by decide +kernel
theorem d_M_stream_35 : decode (iC M_M_stream) 35 = .ok (.iadd, 1) := by decide +kernel
theorem d_M_stream_36 : decode (iC M_M_stream) 36 = .ok (.istore_n 3, 1) := by decide +kernel
theorem d_M_stream_37 : decode (iC M_M_stream) 37 = .ok (.aload_n 0, 1) := by decide +kernel
theorem d_M_stream_38 : decode (iC M_M_stream) 38 = .ok (.getfield 7, 3) := by decide +kernel
theorem d_M_stream_41 : decode (iC M_M_stream) 41 = .ok (.ifCond .lt 4, 3) := by decide +kernel
theorem d_M_stream_44 : decode (iC M_M_stream) 44 = .ok (.return_, 1) := by decide +kernel
theorem d_M_stream_45 : decode (iC M_M_stream) 45 = .ok (.aload_n 0, 1) := by decide +kernel
theorem d_M_stream_46 : decode (iC M_M_stream) 46 = .ok (.iload_n 2, 1) := by decide +kernel
theorem d_M_stream_47 : decode (iC M_M_stream) 47 = .ok (.putfield 35, 3) := by decide +kernel
theorem d_M_stream_50 : decode (iC M_M_stream) 50 = .ok (.aload_n 0, 1) := by decide +kernel
theorem d_M_stream_51 : decode (iC M_M_stream) 51 = .ok (.iload_n 3, 1) := by decide +kernel
theorem d_M_stream_52 : decode (iC M_M_stream) 52 = .ok (.putfield 38, 3) := by decide +kernel
theorem d_M_stream_55 : decode (iC M_M_stream) 55 = .ok (.aload_n 0, 1) := by decide +kernel
theorem d_M_stream_56 : decode (iC M_M_stream) 56 = .ok (.bipush 16, 2) := by decide +kernel
theorem d_M_stream_58 : decode (iC M_M_stream) 58 = .ok (.iload_n 2, 1) := by decide +kernel
theorem d_M_stream_59 : decode (iC M_M_stream) 59 = .ok (.imul, 1) := by decide +kernel
theorem d_M_stream_60 : decode (iC M_M_stream) 60 = .ok (.putfield 244, 3) := by decide +kernel
theorem d_M_stream_63 : decode (iC M_M_stream) 63 = .ok (.aload_n 0, 1) := by decide +kernel
theorem d_M_stream_64 : decode (iC M_M_stream) 64 = .ok (.bipush 16, 2) := by decide +kernel
theorem d_M_stream_66 : decode (iC M_M_stream) 66 = .ok (.iload_n 3, 1) := by decide +kernel
theorem d_M_stream_67 : decode (iC M_M_stream) 67 = .ok (.imul, 1) := by decide +kernel
theorem d_M_stream_68 : decode (iC M_M_stream) 68 = .ok (.putfield 247, 3) := by decide +kernel
theorem d_M_stream_71 : decode (iC M_M_stream) 71 = .ok (.aload_n 0, 1) := by decide +kernel
theorem d_M_stream_72 : decode (iC M_M_stream) 72 = .ok (.invokevirtual 209, 3) := by decide +kernel
theorem d_M_stream_75 : decode (iC M_M_stream) 75 = .ok (.iconst 0, 1) := by decide +kernel
theorem d_M_stream_76 : decode (iC M_M_stream) 76 = .ok (.istore 4, 2) := by decide +kernel
theorem d_M_stream_78 : decode (iC M_M_stream) 78 = .ok (.aload_n 0, 1) := by decide +kernel
theorem d_M_stream_79 : decode (iC M_M_stream) 79 = .ok (.getfield 7, 3) := by decide +kernel
theorem d_M_stream_82 : decode (iC M_M_stream) 82 = .ok (.ifCond .ge 51, 3) := by decide +kernel
theorem d_M_stream_85 : decode (iC M_M_stream) 85 = .ok (.aload_n 0, 1) := by decide +kernel
theorem d_M_stream_86 : decode (iC M_M_stream) 86 = .ok (.sipush 256, 3) := by decide +kernel
theorem d_M_stream_89 : decode (iC M_M_stream) 89 = .ok (.sipush 439, 3) := by decide +kernel
theorem d_M_stream_92 : decode (iC M_M_stream) 92 = .ok (.bipush 32, 2) := by decide +kernel
theorem d_M_stream_94 : decode (iC M_M_stream) 94 = .ok (.invokevirtual 241, 3) := by decide +kernel
theorem d_M_stream_97 : decode (iC M_M_stream) 97 = .ok (.istore 5, 2) := by decide +kernel
theorem d_M_stream_99 : decode (iC M_M_stream) 99 = .ok (.aload_n 0, 1) := by decide +kernel
theorem d_M_stream_100 : decode (iC M_M_stream) 100 = .ok (.getfield 7, 3) := by decide +kernel
theorem d_M_stream_103 : decode (iC M_M_stream) 103 = .ok (.ifCond .ge 30, 3) := by decide +kernel
theorem d_M_stream_106 : decode (iC M_M_stream) 106 = .ok (.iload 5, 2) := by decide +kernel
theorem d_M_stream_108 : decode (iC M_M_stream) 108 = .ok (.ifCond .ne 6, 3) := by decide +kernel
theorem d_M_stream_111 : decode (iC M_M_stream) 111 = .ok (.goto 22, 3) := by decide +kernel
theorem d_M_stream_114 : decode (iC M_M_stream) 114 = .ok (.aload_n 0, 1) := by decide +kernel
theorem d_M_stream_115 : decode (iC M_M_stream) 115 = .ok (.invokevirtual 250, 3) := by decide +kernel
theorem d_M_stream_118 : decode (iC M_M_stream) 118 = .ok (.ifCond .eq 9, 3) := by decide +kernel
theorem d_M_stream_121 : decode (iC M_M_stream) 121 = .ok (.aload_n 0, 1) := by decide +kernel
theorem d_M_stream_122 : decode (iC M_M_stream) 122 = .ok (.iload 4, 2) := by decide +kernel
theorem d_M_stream_124 : decode (iC M_M_stream) 124 = .ok (.invokevirtual 252, 3) := by decide +kernel
theorem d_M_stream_127 : decode (iC M_M_stream) 127 = .ok (.iinc 4 1, 3) := by decide +kernel
theorem d_M_stream_130 : decode (iC M_M_stream) 130 = .ok (.goto (-52), 3) := by decide +kernel
theorem d_M_stream_133 : decode (iC M_M_stream) 133 = .ok (.aload_n 0, 1) := by decide +kernel
theorem d_M_stream_134 : decode (iC M_M_stream) 134 = .ok (.getfield 212, 3) := by decide +kernel
theorem d_M_stream_137 : decode (iC M_M_stream) 137 = .ok (.ifCond .eq 27, 3) := by decide +kernel
theorem d_M_stream_140 : decode (iC M_M_stream) 140 = .ok (.aload_n 0, 1) := by decide +kernel
theorem d_M_stream_141 : decode (iC M_M_stream) 141 = .ok (.aload_n 0, 1) := by decide +kernel
theorem d_M_stream_142 : decode (iC M_M_stream) 142 = .ok (.getfield 73, 3) := by decide +kernel
theorem d_M_stream_145 : decode (iC M_M_stream) 145 = .ok (.aload_n 0, 1) := by decide +kernel
theorem d_M_stream_146 : decode (iC M_M_stream) 146 = .ok (.getfield 229, 3) := by decide +kernel
theorem d_M_stream_149 : decode (iC M_M_stream) 149 = .ok (.aload_n 0, 1) := by decide +kernel
theorem d_M_stream_150 : decode (iC M_M_stream) 150 = .ok (.getfield 232, 3) := by decide +kernel
theorem d_M_stream_153 : decode (iC M_M_stream) 153 = .ok (.aload_n 0, 1) := by decide +kernel
theorem d_M_stream_154 : decode (iC M_M_stream) 154 = .ok (.getfield 235, 3) := by decide +kernel
theorem d_M_stream_157 : decode (iC M_M_stream) 157 = .ok (.aload_n 0, 1) := by decide +kernel
theorem d_M_stream_158 : decode (iC M_M_stream) 158 = .ok (.getfield 238, 3) := by decide +kernel
theorem d_M_stream_161 : decode (iC M_M_stream) 161 = .ok (.invokevirtual 225, 3) := by decide +kernel
theorem d_M_stream_164 : decode (iC M_M_stream) 164 = .ok (.return_, 1) := by decide +kernel
theorem d_M_isFirst_0 : decode (iC M_M_isFirst) 0 = .ok (.iconst 1, 1) := by decide +kernel
theorem d_M_isFirst_1 : decode (iC M_M_isFirst) 1 = .ok (.istore 4, 2) := by decide +kernel
theorem d_M_isFirst_3 : decode (iC M_M_isFirst) 3 = .ok (.iconst 1, 1) := by decide +kernel
theorem d_M_isFirst_4 : decode (iC M_M_isFirst) 4 = .ok (.istore 5, 2) := by decide +kernel
theorem d_M_isFirst_6 : decode (iC M_M_isFirst) 6 = .ok (.iload_n 3, 1) := by decide +kernel
theorem d_M_isFirst_7 : decode (iC M_M_isFirst) 7 = .ok (.iconst 1, 1) := by decide +kernel
theorem d_M_isFirst_8 : decode (iC M_M_isFirst) 8 = .ok (.isub, 1) := by decide +kernel
theorem d_M_isFirst_9 : decode (iC M_M_isFirst) 9 = .ok (.istore 6, 2) := by decide +kernel
theorem d_M_isFirst_11 : decode (iC M_M_isFirst) 11 = .ok (.iload 6, 2) := by decide +kernel
theorem d_M_isFirst_13 : decode (iC M_M_isFirst) 13 = .ok (.ifCond .lt 99, 3) := by decide +kernel
theorem d_M_isFirst_16 : decode (iC M_M_isFirst) 16 = .ok (.aload_n 0, 1) := by decide +kernel
theorem d_M_isFirst_17 : decode (iC M_M_isFirst) 17 = .ok (.getfield 7, 3) := by decide +kernel
theorem d_M_isFirst_20 : decode (iC M_M_isFirst) 20 = .ok (.ifCond .ge 92, 3) := by decide +kernel
theorem d_M_isFirst_23 : decode (iC M_M_isFirst) 23 = .ok (.aload_n 0, 1) := by decide +kernel
theorem d_M_isFirst_24 : decode (iC M_M_isFirst) 24 = .ok (.invokevirtual 24, 3) := by decide +kernel
theorem d_M_isFirst_27 : decode (iC M_M_isFirst) 27 = .ok (.istore 7, 2) := by decide +kernel
theorem d_M_isFirst_29 : decode (iC M_M_isFirst) 29 = .ok (.aload_n 0, 1) := by decide +kernel
theorem d_M_isFirst_30 : decode (iC M_M_isFirst) 30 = .ok (.getfield 7, 3) := by decide +kernel
theorem d_M_isFirst_33 : decode (iC M_M_isFirst) 33 = .ok (.ifCond .lt 5, 3) := by decide +kernel
theorem d_M_isFirst_36 : decode (iC M_M_isFirst) 36 = .ok (.iconst 0, 1) := by decide +kernel
theorem d_M_isFirst_37 : decode (iC M_M_isFirst) 37 = .ok (.ireturn, 1) := by decide +kernel
theorem d_M_isFirst_38 : decode (iC M_M_isFirst) 38 = .ok (.iload 4, 2) := by decide +kernel
theorem d_M_isFirst_40 : decode (iC M_M_isFirst) 40 = .ok (.ifCond .eq 18, 3) := by decide +kernel
theorem d_M_isFirst_43 : decode (iC M_M_isFirst) 43 = .ok (.iload_n 1, 1) := by decide +kernel
theorem d_M_isFirst_44 : decode (iC M_M_isFirst) 44 = .ok (.iload 6, 2) := by decide +kernel
theorem d_M_isFirst_46 : decode (iC M_M_isFirst) 46 = .ok (.ishr, 1) := by decide +kernel
theorem d_M_isFirst_47 : decode (iC M_M_isFirst) 47 = .ok (.iconst 1, 1) := by decide +kernel
theorem d_M_isFirst_48 : decode (iC M_M_isFirst) 48 = .ok (.iand, 1) := by decide +kernel
theorem d_M_isFirst_49 : decode (iC M_M_isFirst) 49 = .ok (.iload 7, 2) := by decide +kernel
theorem d_M_isFirst_51 : decode (iC M_M_isFirst) 51 = .ok (.if_icmp .ne 7, 3) := by decide +kernel
theorem d_M_isFirst_54 : decode (iC M_M_isFirst) 54 = .ok (.iconst 1, 1) := by decide +kernel
theorem d_M_isFirst_55 : decode (iC M_M_isFirst) 55 = .ok (.goto 4, 3) := by decide +kernel
theorem d_M_isFirst_58 : decode (iC M_M_isFirst) 58 = .ok (.iconst 0, 1) := by decide +kernel
theorem d_M_isFirst_59 : decode (iC M_M_isFirst) 59 = .ok (.istore 4, 2) := by decide +kernel
theorem d_M_isFirst_61 : decode (iC M_M_isFirst) 61 = .ok (.iload 5, 2) := by decide +kernel
theorem d_M_isFirst_63 : decode (iC M_M_isFirst) 63 = .ok (.ifCond .eq 18, 3) := by decide +kernel
theorem d_M_isFirst_66 : decode (iC M_M_isFirst) 66 = .ok (.iload_n 2, 1) := by decide +kernel
theorem d_M_isFirst_67 : decode (iC M_M_isFirst) 67 = .ok (.iload 6, 2) := by decide +kernel
theorem d_M_isFirst_69 : decode (iC M_M_isFirst) 69 = .ok (.ishr, 1) := by decide +kernel
theorem d_M_isFirst_70 : decode (iC M_M_isFirst) 70 = .ok (.iconst 1, 1) := by decide +kernel
theorem d_M_isFirst_71 : decode (iC M_M_isFirst) 71 = .ok (.iand, 1) := by decide +kernel
theorem d_M_isFirst_72 : decode (iC M_M_isFirst) 72 = .ok (.iload 7, 2) := by decide +kernel
theorem d_M_isFirst_74 : decode (iC M_M_isFirst) 74 = .ok (.if_icmp .ne 7, 3) := by decide +kernel
theorem d_M_isFirst_77 : decode (iC M_M_isFirst) 77 = .ok (.iconst 1, 1) := by decide +kernel
theorem d_M_isFirst_78 : decode (iC M_M_isFirst) 78 = .ok (.goto 4, 3) := by decide +kernel
theorem d_M_isFirst_81 : decode (iC M_M_isFirst) 81 = .ok (.iconst 0, 1) := by decide +kernel
theorem d_M_isFirst_82 : decode (iC M_M_isFirst) 82 = .ok (.istore 5, 2) := by decide +kernel
theorem d_M_isFirst_84 : decode (iC M_M_isFirst) 84 = .ok (.iload 4, 2) := by decide +kernel
theorem d_M_isFirst_86 : decode (iC M_M_isFirst) 86 = .ok (.ifCond .ne 20, 3) := by decide +kernel
theorem d_M_isFirst_89 : decode (iC M_M_isFirst) 89 = .ok (.iload 5, 2) := by decide +kernel
theorem d_M_isFirst_91 : decode (iC M_M_isFirst) 91 = .ok (.ifCond .ne 15, 3) := by decide +kernel
theorem d_M_isFirst_94 : decode (iC M_M_isFirst) 94 = .ok (.aload_n 0, 1) := by decide +kernel
theorem d_M_isFirst_95 : decode (iC M_M_isFirst) 95 = .ok (.aload_n 0, 1) := by decide +kernel
theorem d_M_isFirst_96 : decode (iC M_M_isFirst) 96 = .ok (.getfield 10, 3) := by decide +kernel
theorem d_M_isFirst_99 : decode (iC M_M_isFirst) 99 = .ok (.iconst 1, 1) := by decide +kernel
theorem d_M_isFirst_100 : decode (iC M_M_isFirst) 100 = .ok (.isub, 1) := by decide +kernel
theorem d_M_isFirst_101 : decode (iC M_M_isFirst) 101 = .ok (.invokevirtual 16, 3) := by decide +kernel
theorem d_M_isFirst_104 : decode (iC M_M_isFirst) 104 = .ok (.istore 8, 2) := by decide +kernel
theorem d_M_isFirst_106 : decode (iC M_M_isFirst) 106 = .ok (.iinc 6 (-1), 3) := by decide +kernel
theorem d_M_isFirst_109 : decode (iC M_M_isFirst) 109 = .ok (.goto (-98), 3) := by decide +kernel
theorem d_M_isFirst_112 : decode (iC M_M_isFirst) 112 = .ok (.iload 4, 2) := by decide +kernel
theorem d_M_isFirst_114 : decode (iC M_M_isFirst) 114 = .ok (.ireturn, 1) := by decide +kernel
theorem d_M_bit_0 : decode (iC M_M_bit) 0 = .ok (.aload_n 0, 1) := by decide +kernel
theorem d_M_bit_1 : decode (iC M_M_bit) 1 = .ok (.getfield 7, 3) := by decide +kernel
theorem d_M_bit_4 : decode (iC M_M_bit) 4 = .ok (.ifCond .lt 5, 3) := by decide +kernel
theorem d_M_bit_7 : decode (iC M_M_bit) 7 = .ok (.iconst 0, 1) := by decide +kernel
theorem d_M_bit_8 : decode (iC M_M_bit) 8 = .ok (.ireturn, 1) := by decide +kernel
theorem d_M_bit_9 : decode (iC M_M_bit) 9 = .ok (.aload_n 0, 1) := by decide +kernel
theorem d_M_bit_10 : decode (iC M_M_bit) 10 = .ok (.getfield 10, 3) := by decide +kernel
theorem d_M_bit_13 : decode (iC M_M_bit) 13 = .ok (.aload_n 0, 1) := by decide +kernel
theorem d_M_bit_14 : decode (iC M_M_bit) 14 = .ok (.getfield 13, 3) := by decide +kernel
theorem d_M_bit_17 : decode (iC M_M_bit) 17 = .ok (.if_icmp .ne 14, 3) := by decide +kernel
theorem d_M_bit_20 : decode (iC M_M_bit) 20 = .ok (.aload_n 0, 1) := by decide +kernel
theorem d_M_bit_21 : decode (iC M_M_bit) 21 = .ok (.aload_n 0, 1) := by decide +kernel
theorem d_M_bit_22 : decode (iC M_M_bit) 22 = .ok (.getfield 13, 3) := by decide +kernel
theorem d_M_bit_25 : decode (iC M_M_bit) 25 = .ok (.invokevirtual 16, 3) := by decide +kernel
theorem d_M_bit_28 : decode (iC M_M_bit) 28 = .ok (.istore_n 1, 1) := by decide +kernel
theorem d_M_bit_29 : decode (iC M_M_bit) 29 = .ok (.iconst 0, 1) := by decide +kernel
theorem d_M_bit_30 : decode (iC M_M_bit) 30 = .ok (.ireturn, 1) := by decide +kernel
theorem d_M_bit_31 : decode (iC M_M_bit) 31 = .ok (.aload_n 0, 1) := by decide +kernel
theorem d_M_bit_32 : decode (iC M_M_bit) 32 = .ok (.dup, 1) := by decide +kernel
theorem d_M_bit_33 : decode (iC M_M_bit) 33 = .ok (.getfield 10, 3) := by decide +kernel
theorem d_M_bit_36 : decode (iC M_M_bit) 36 = .ok (.iconst 1, 1) := by decide +kernel
theorem d_M_bit_37 : decode (iC M_M_bit) 37 = .ok (.iadd, 1) := by decide +kernel
theorem d_M_bit_38 : decode (iC M_M_bit) 38 = .ok (.putfield 10, 3) := by decide +kernel
theorem d_M_bit_41 : decode (iC M_M_bit) 41 = .ok (.aload_n 0, 1) := by decide +kernel
theorem d_M_bit_42 : decode (iC M_M_bit) 42 = .ok (.getfield 20, 3) := by decide +kernel
theorem d_M_bit_45 : decode (iC M_M_bit) 45 = .ok (.aload_n 0, 1) := by decide +kernel
theorem d_M_bit_46 : decode (iC M_M_bit) 46 = .ok (.getfield 10, 3) := by decide +kernel
theorem d_M_bit_49 : decode (iC M_M_bit) 49 = .ok (.iconst 1, 1) := by decide +kernel
theorem d_M_bit_50 : decode (iC M_M_bit) 50 = .ok (.isub, 1) := by decide +kernel
theorem d_M_bit_51 : decode (iC M_M_bit) 51 = .ok (.baload, 1) := by decide +kernel
theorem d_M_bit_52 : decode (iC M_M_bit) 52 = .ok (.ireturn, 1) := by decide +kernel
theorem d_M_isWrong_0 : decode (iC M_M_isWrong) 0 = .ok (.aload_n 0, 1) := by decide +kernel
theorem d_M_isWrong_1 : decode (iC M_M_isWrong) 1 = .ok (.getfield 7, 3) := by decide +kernel
theorem d_M_isWrong_4 : decode (iC M_M_isWrong) 4 = .ok (.ifCond .ge 8, 3) := by decide +kernel
theorem d_M_isWrong_7 : decode (iC M_M_isWrong) 7 = .ok (.aload_n 0, 1) := by decide +kernel
theorem d_M_isWrong_8 : decode (iC M_M_isWrong) 8 = .ok (.iload_n 1, 1) := by decide +kernel
theorem d_M_isWrong_9 : decode (iC M_M_isWrong) 9 = .ok (.putfield 7, 3) := by decide +kernel
theorem d_M_isWrong_12 : decode (iC M_M_isWrong) 12 = .ok (.iconst 1, 1) := by decide +kernel
theorem d_M_isWrong_13 : decode (iC M_M_isWrong) 13 = .ok (.ireturn, 1) := by decide +kernel
theorem d_M_number_0 : decode (iC M_M_number) 0 = .ok (.iconst 0, 1) := by decide +kernel
theorem d_M_number_1 : decode (iC M_M_number) 1 = .ok (.istore_n 2, 1) := by decide +kernel
theorem d_M_number_2 : decode (iC M_M_number) 2 = .ok (.iconst 0, 1) := by decide +kernel
theorem d_M_number_3 : decode (iC M_M_number) 3 = .ok (.istore_n 3, 1) := by decide +kernel
theorem d_M_number_4 : decode (iC M_M_number) 4 = .ok (.iload_n 3, 1) := by decide +kernel
theorem d_M_number_5 : decode (iC M_M_number) 5 = .ok (.iload_n 1, 1) := by decide +kernel
theorem d_M_number_6 : decode (iC M_M_number) 6 = .ok (.if_icmp .ge 18, 3) := by decide +kernel
theorem d_M_number_9 : decode (iC M_M_number) 9 = .ok (.iconst 2, 1) := by decide +kernel
theorem d_M_number_10 : decode (iC M_M_number) 10 = .ok (.iload_n 2, 1) := by decide +kernel
theorem d_M_number_11 : decode (iC M_M_number) 11 = .ok (.imul, 1) := by decide +kernel
theorem d_M_number_12 : decode (iC M_M_number) 12 = .ok (.aload_n 0, 1) := by decide +kernel
theorem d_M_number_13 : decode (iC M_M_number) 13 = .ok (.invokevirtual 24, 3) := by decide +kernel
theorem d_M_number_16 : decode (iC M_M_number) 16 = .ok (.iadd, 1) := by decide +kernel
theorem d_M_number_17 : decode (iC M_M_number) 17 = .ok (.istore_n 2, 1) := by decide +kernel
theorem d_M_number_18 : decode (iC M_M_number) 18 = .ok (.iinc 3 1, 3) := by decide +kernel
theorem d_M_number_21 : decode (iC M_M_number) 21 = .ok (.goto (-17), 3) := by decide +kernel
theorem d_M_number_24 : decode (iC M_M_number) 24 = .ok (.iload_n 2, 1) := by decide +kernel
theorem d_M_number_25 : decode (iC M_M_number) 25 = .ok (.ireturn, 1) := by decide +kernel
theorem d_M_align_0 : decode (iC M_M_align) 0 = .ok (.aload_n 0, 1) := by decide +kernel
theorem d_M_align_1 : decode (iC M_M_align) 1 = .ok (.getfield 7, 3) := by decide +kernel
theorem d_M_align_4 : decode (iC M_M_align) 4 = .ok (.ifCond .ge 35, 3) := by decide +kernel
theorem d_M_align_7 : decode (iC M_M_align) 7 = .ok (.aload_n 0, 1) := by decide +kernel
theorem d_M_align_8 : decode (iC M_M_align) 8 = .ok (.getfield 10, 3) := by decide +kernel
theorem d_M_align_11 : decode (iC M_M_align) 11 = .ok (.bipush 8, 2) := by decide +kernel
theorem d_M_align_13 : decode (iC M_M_align) 13 = .ok (.irem, 1) := by decide +kernel
theorem d_M_align_14 : decode (iC M_M_align) 14 = .ok (.ifCond .eq 25, 3) := by decide +kernel
theorem d_M_align_17 : decode (iC M_M_align) 17 = .ok (.aload_n 0, 1) := by decide +kernel
theorem d_M_align_18 : decode (iC M_M_align) 18 = .ok (.invokevirtual 24, 3) := by decide +kernel
theorem d_M_align_21 : decode (iC M_M_align) 21 = .ok (.iconst 1, 1) := by decide +kernel
theorem d_M_align_22 : decode (iC M_M_align) 22 = .ok (.if_icmp .ne (-22), 3) := by decide +kernel
theorem d_M_align_25 : decode (iC M_M_align) 25 = .ok (.aload_n 0, 1) := by decide +kernel
theorem d_M_align_26 : decode (iC M_M_align) 26 = .ok (.aload_n 0, 1) := by decide +kernel
theorem d_M_align_27 : decode (iC M_M_align) 27 = .ok (.getfield 10, 3) := by decide +kernel
theorem d_M_align_30 : decode (iC M_M_align) 30 = .ok (.iconst 1, 1) := by decide +kernel
theorem d_M_align_31 : decode (iC M_M_align) 31 = .ok (.isub, 1) := by decide +kernel
theorem d_M_align_32 : decode (iC M_M_align) 32 = .ok (.invokevirtual 16, 3) := by decide +kernel
theorem d_M_align_35 : decode (iC M_M_align) 35 = .ok (.istore_n 1, 1) := by decide +kernel
theorem d_M_align_36 : decode (iC M_M_align) 36 = .ok (.goto (-36), 3) := by decide +kernel
theorem d_M_align_39 : decode (iC M_M_align) 39 = .ok (.return_, 1) := by decide +kernel
theorem d_M_picture_0 : decode (iC M_M_picture) 0 = .ok (.aload_n 0, 1) := by decide +kernel
theorem d_M_picture_1 : decode (iC M_M_picture) 1 = .ok (.getfield 10, 3) := by decide +kernel
theorem d_M_picture_4 : decode (iC M_M_picture) 4 = .ok (.istore_n 1, 1) := by decide +kernel
theorem d_M_picture_5 : decode (iC M_M_picture) 5 = .ok (.aload_n 0, 1) := by decide +kernel
theorem d_M_picture_6 : decode (iC M_M_picture) 6 = .ok (.aload_n 0, 1) := by decide +kernel
theorem d_M_picture_7 : decode (iC M_M_picture) 7 = .ok (.iconst 2, 1) := by decide +kernel
theorem d_M_picture_8 : decode (iC M_M_picture) 8 = .ok (.invokevirtual 167, 3) := by decide +kernel
theorem d_M_picture_11 : decode (iC M_M_picture) 11 = .ok (.putfield 70, 3) := by decide +kernel
theorem d_M_picture_14 : decode (iC M_M_picture) 14 = .ok (.aload_n 0, 1) := by decide +kernel
theorem d_M_picture_15 : decode (iC M_M_picture) 15 = .ok (.getfield 7, 3) := by decide +kernel
theorem d_M_picture_18 : decode (iC M_M_picture) 18 = .ok (.ifCond .lt 5, 3) := by decide +kernel
theorem d_M_picture_21 : decode (iC M_M_picture) 21 = .ok (.iconst 0, 1) := by decide +kernel
theorem d_M_picture_22 : decode (iC M_M_picture) 22 = .ok (.ireturn, 1) := by decide +kernel
theorem d_M_picture_23 : decode (iC M_M_picture) 23 = .ok (.aload_n 0, 1) := by decide +kernel
theorem d_M_picture_24 : decode (iC M_M_picture) 24 = .ok (.getfield 70, 3) := by decide +kernel
theorem d_M_picture_27 : decode (iC M_M_picture) 27 = .ok (.iconst 2, 1) := by decide +kernel
theorem d_M_picture_28 : decode (iC M_M_picture) 28 = .ok (.if_icmp .ne 10, 3) := by decide +kernel
theorem d_M_picture_31 : decode (iC M_M_picture) 31 = .ok (.aload_n 0, 1) := by decide +kernel
theorem d_M_picture_32 : decode (iC M_M_picture) 32 = .ok (.getfield 212, 3) := by decide +kernel
theorem d_M_picture_35 : decode (iC M_M_picture) 35 = .ok (.ifCond .eq 18, 3) := by decide +kernel
theorem d_M_picture_38 : decode (iC M_M_picture) 38 = .ok (.aload_n 0, 1) := by decide +kernel
theorem d_M_picture_39 : decode (iC M_M_picture) 39 = .ok (.getfield 70, 3) := by decide +kernel
theorem d_M_picture_42 : decode (iC M_M_picture) 42 = .ok (.iconst 3, 1) := by decide +kernel
theorem d_M_picture_43 : decode (iC M_M_picture) 43 = .ok (.if_icmp .ne 20, 3) := by decide +kernel
theorem d_M_picture_46 : decode (iC M_M_picture) 46 = .ok (.aload_n 0, 1) := by decide +kernel
theorem d_M_picture_47 : decode (iC M_M_picture) 47 = .ok (.getfield 215, 3) := by decide +kernel
theorem d_M_picture_50 : decode (iC M_M_picture) 50 = .ok (.ifCond .ne 13, 3) := by decide +kernel
theorem d_M_picture_53 : decode (iC M_M_picture) 53 = .ok (.aload_n 0, 1) := by decide +kernel
theorem d_M_picture_54 : decode (iC M_M_picture) 54 = .ok (.iload_n 1, 1) := by decide +kernel
theorem d_M_picture_55 : decode (iC M_M_picture) 55 = .ok (.invokevirtual 16, 3) := by decide +kernel
theorem d_M_picture_58 : decode (iC M_M_picture) 58 = .ok (.ifCond .eq 5, 3) := by decide +kernel
theorem d_M_picture_61 : decode (iC M_M_picture) 61 = .ok (.iconst 0, 1) := by decide +kernel
theorem d_M_picture_62 : decode (iC M_M_picture) 62 = .ok (.ireturn, 1) := by decide +kernel
theorem d_M_picture_63 : decode (iC M_M_picture) 63 = .ok (.aload_n 0, 1) := by decide +kernel
theorem d_M_picture_64 : decode (iC M_M_picture) 64 = .ok (.aload_n 0, 1) := by decide +kernel
theorem d_M_picture_65 : decode (iC M_M_picture) 65 = .ok (.iconst 5, 1) := by decide +kernel
theorem d_M_picture_66 : decode (iC M_M_picture) 66 = .ok (.invokevirtual 167, 3) := by decide +kernel
theorem d_M_picture_69 : decode (iC M_M_picture) 69 = .ok (.putfield 135, 3) := by decide +kernel
theorem d_M_picture_72 : decode (iC M_M_picture) 72 = .ok (.aload_n 0, 1) := by decide +kernel
theorem d_M_picture_73 : decode (iC M_M_picture) 73 = .ok (.aload_n 0, 1) := by decide +kernel
theorem d_M_picture_74 : decode (iC M_M_picture) 74 = .ok (.getfield 70, 3) := by decide +kernel
theorem d_M_picture_77 : decode (iC M_M_picture) 77 = .ok (.iconst 1, 1) := by decide +kernel
theorem d_M_picture_78 : decode (iC M_M_picture) 78 = .ok (.if_icmp .ne 7, 3) := by decide +kernel
theorem d_M_picture_81 : decode (iC M_M_picture) 81 = .ok (.iconst 0, 1) := by decide +kernel
theorem d_M_picture_82 : decode (iC M_M_picture) 82 = .ok (.goto 8, 3) := by decide +kernel
theorem d_M_picture_85 : decode (iC M_M_picture) 85 = .ok (.aload_n 0, 1) := by decide +kernel
theorem d_M_picture_86 : decode (iC M_M_picture) 86 = .ok (.iconst 3, 1) := by decide +kernel
theorem d_M_picture_87 : decode (iC M_M_picture) 87 = .ok (.invokevirtual 167, 3) := by decide +kernel
theorem d_M_picture_90 : decode (iC M_M_picture) 90 = .ok (.putfield 164, 3) := by decide +kernel
theorem d_M_picture_93 : decode (iC M_M_picture) 93 = .ok (.aload_n 0, 1) := by decide +kernel
theorem d_M_picture_94 : decode (iC M_M_picture) 94 = .ok (.iconst 0, 1) := by decide +kernel
theorem d_M_picture_95 : decode (iC M_M_picture) 95 = .ok (.putfield 184, 3) := by decide +kernel
theorem d_M_picture_98 : decode (iC M_M_picture) 98 = .ok (.aload_n 0, 1) := by decide +kernel
theorem d_M_picture_99 : decode (iC M_M_picture) 99 = .ok (.iconst 0, 1) := by decide +kernel
theorem d_M_picture_100 : decode (iC M_M_picture) 100 = .ok (.putfield 199, 3) := by decide +kernel
theorem d_M_picture_103 : decode (iC M_M_picture) 103 = .ok (.aload_n 0, 1) := by decide +kernel
theorem d_M_picture_104 : decode (iC M_M_picture) 104 = .ok (.getfield 7, 3) := by decide +kernel
theorem d_M_picture_107 : decode (iC M_M_picture) 107 = .ok (.ifCond .ge 14, 3) := by decide +kernel
theorem d_M_picture_110 : decode (iC M_M_picture) 110 = .ok (.aload_n 0, 1) := by decide +kernel
theorem d_M_picture_111 : decode (iC M_M_picture) 111 = .ok (.invokevirtual 218, 3) := by decide +kernel
theorem d_M_picture_114 : decode (iC M_M_picture) 114 = .ok (.ifCond .eq 7, 3) := by decide +kernel
theorem d_M_picture_117 : decode (iC M_M_picture) 117 = .ok (.iconst 1, 1) := by decide +kernel
theorem d_M_picture_118 : decode (iC M_M_picture) 118 = .ok (.goto 4, 3) := by decide +kernel
theorem d_M_picture_121 : decode (iC M_M_picture) 121 = .ok (.iconst 0, 1) := by decide +kernel
theorem d_M_picture_122 : decode (iC M_M_picture) 122 = .ok (.ireturn, 1) := by decide +kernel
theorem d_M_numberAbove_0 : decode (iC M_M_numberAbove) 0 = .ok (.aload_n 0, 1) := by decide +kernel
theorem d_M_numberAbove_1 : decode (iC M_M_numberAbove) 1 = .ok (.iload_n 1, 1) := by decide +kernel
theorem d_M_numberAbove_2 : decode (iC M_M_numberAbove) 2 = .ok (.invokevirtual 28, 3) := by decide +kernel
theorem d_M_numberAbove_5 : decode (iC M_M_numberAbove) 5 = .ok (.istore_n 2, 1) := by decide +kernel
theorem d_M_numberAbove_6 : decode (iC M_M_numberAbove) 6 = .ok (.aload_n 0, 1) := by decide +kernel
theorem d_M_numberAbove_7 : decode (iC M_M_numberAbove) 7 = .ok (.getfield 7, 3) := by decide +kernel
theorem d_M_numberAbove_10 : decode (iC M_M_numberAbove) 10 = .ok (.ifCond .ge 18, 3) := by decide +kernel
theorem d_M_numberAbove_13 : decode (iC M_M_numberAbove) 13 = .ok (.iload_n 2, 1) := by decide +kernel
theorem d_M_numberAbove_14 : decode (iC M_M_numberAbove) 14 = .ok (.ifCond .ne 14, 3) := by decide +kernel
theorem d_M_numberAbove_17 : decode (iC M_M_numberAbove) 17 = .ok (.aload_n 0, 1) := by decide +kernel
theorem d_M_numberAbove_18 : decode (iC M_M_numberAbove) 18 = .ok (.aload_n 0, 1) := by decide +kernel
theorem d_M_numberAbove_19 : decode (iC M_M_numberAbove) 19 = .ok (.getfield 10, 3) := by decide +kernel
theorem d_M_numberAbove_22 : decode (iC M_M_numberAbove) 22 = .ok (.iconst 1, 1) := by decide +kernel
theorem d_M_numberAbove_23 : decode (iC M_M_numberAbove) 23 = .ok (.isub, 1) := by decide +kernel
theorem d_M_numberAbove_24 : decode (iC M_M_numberAbove) 24 = .ok (.invokevirtual 16, 3) := by decide +kernel
theorem d_M_numberAbove_27 : decode (iC M_M_numberAbove) 27 = .ok (.istore_n 3, 1) := by decide +kernel
theorem d_M_numberAbove_28 : decode (iC M_M_numberAbove) 28 = .ok (.iload_n 2, 1) := by decide +kernel
theorem d_M_numberAbove_29 : decode (iC M_M_numberAbove) 29 = .ok (.ireturn, 1) := by decide +kernel
theorem d_M_allSquares_0 : decode (iC M_M_allSquares) 0 = .ok (.iconst 0, 1) := by decide +kernel
theorem d_M_allSquares_1 : decode (iC M_M_allSquares) 1 = .ok (.istore_n 1, 1) := by decide +kernel
theorem d_M_allSquares_2 : decode (iC M_M_allSquares) 2 = .ok (.iload_n 1, 1) := by decide +kernel
theorem d_M_allSquares_3 : decode (iC M_M_allSquares) 3 = .ok (.aload_n 0, 1) := by decide +kernel
theorem d_M_allSquares_4 : decode (iC M_M_allSquares) 4 = .ok (.getfield 35, 3) := by decide +kernel
theorem d_M_allSquares_7 : decode (iC M_M_allSquares) 7 = .ok (.aload_n 0, 1) := by decide +kernel
theorem d_M_allSquares_8 : decode (iC M_M_allSquares) 8 = .ok (.getfield 38, 3) := by decide +kernel
theorem d_M_allSquares_11 : decode (iC M_M_allSquares) 11 = .ok (.imul, 1) := by decide +kernel
theorem d_M_allSquares_12 : decode (iC M_M_allSquares) 12 = .ok (.if_icmp .ge 89, 3) := by decide +kernel
theorem d_M_allSquares_15 : decode (iC M_M_allSquares) 15 = .ok (.aload_n 0, 1) := by decide +kernel
theorem d_M_allSquares_16 : decode (iC M_M_allSquares) 16 = .ok (.getfield 70, 3) := by decide +kernel
theorem d_M_allSquares_19 : decode (iC M_M_allSquares) 19 = .ok (.iconst 1, 1) := by decide +kernel
theorem d_M_allSquares_20 : decode (iC M_M_allSquares) 20 = .ok (.if_icmp .le 52, 3) := by decide +kernel
theorem d_M_allSquares_23 : decode (iC M_M_allSquares) 23 = .ok (.aload_n 0, 1) := by decide +kernel
theorem d_M_allSquares_24 : decode (iC M_M_allSquares) 24 = .ok (.getfield 10, 3) := by decide +kernel
theorem d_M_allSquares_27 : decode (iC M_M_allSquares) 27 = .ok (.istore_n 2, 1) := by decide +kernel
theorem d_M_allSquares_28 : decode (iC M_M_allSquares) 28 = .ok (.aload_n 0, 1) := by decide +kernel
theorem d_M_allSquares_29 : decode (iC M_M_allSquares) 29 = .ok (.invokevirtual 32, 3) := by decide +kernel
theorem d_M_allSquares_32 : decode (iC M_M_allSquares) 32 = .ok (.istore_n 3, 1) := by decide +kernel
theorem d_M_allSquares_33 : decode (iC M_M_allSquares) 33 = .ok (.aload_n 0, 1) := by decide +kernel
theorem d_M_allSquares_34 : decode (iC M_M_allSquares) 34 = .ok (.getfield 7, 3) := by decide +kernel
theorem d_M_allSquares_37 : decode (iC M_M_allSquares) 37 = .ok (.ifCond .ge 13, 3) := by decide +kernel
theorem d_M_allSquares_40 : decode (iC M_M_allSquares) 40 = .ok (.aload_n 0, 1) := by decide +kernel
theorem d_M_allSquares_41 : decode (iC M_M_allSquares) 41 = .ok (.iload_n 1, 1) := by decide +kernel
theorem d_M_allSquares_42 : decode (iC M_M_allSquares) 42 = .ok (.iload_n 3, 1) := by decide +kernel
theorem d_M_allSquares_43 : decode (iC M_M_allSquares) 43 = .ok (.iload_n 2, 1) := by decide +kernel
theorem d_M_allSquares_44 : decode (iC M_M_allSquares) 44 = .ok (.invokevirtual 202, 3) := by decide +kernel
theorem d_M_allSquares_47 : decode (iC M_M_allSquares) 47 = .ok (.ifCond .ne 5, 3) := by decide +kernel
theorem d_M_allSquares_50 : decode (iC M_M_allSquares) 50 = .ok (.iconst 0, 1) := by decide +kernel
theorem d_M_allSquares_51 : decode (iC M_M_allSquares) 51 = .ok (.ireturn, 1) := by decide +kernel
theorem d_M_allSquares_52 : decode (iC M_M_allSquares) 52 = .ok (.iload_n 1, 1) := by decide +kernel
theorem d_M_allSquares_53 : decode (iC M_M_allSquares) 53 = .ok (.iload_n 3, 1) := by decide +kernel
theorem d_M_allSquares_54 : decode (iC M_M_allSquares) 54 = .ok (.iadd, 1) := by decide +kernel
theorem d_M_allSquares_55 : decode (iC M_M_allSquares) 55 = .ok (.istore_n 1, 1) := by decide +kernel
theorem d_M_allSquares_56 : decode (iC M_M_allSquares) 56 = .ok (.iload_n 1, 1) := by decide +kernel
theorem d_M_allSquares_57 : decode (iC M_M_allSquares) 57 = .ok (.aload_n 0, 1) := by decide +kernel
theorem d_M_allSquares_58 : decode (iC M_M_allSquares) 58 = .ok (.getfield 35, 3) := by decide +kernel
theorem d_M_allSquares_61 : decode (iC M_M_allSquares) 61 = .ok (.aload_n 0, 1) := by decide +kernel
theorem d_M_allSquares_62 : decode (iC M_M_allSquares) 62 = .ok (.getfield 38, 3) := by decide +kernel
theorem d_M_allSquares_65 : decode (iC M_M_allSquares) 65 = .ok (.imul, 1) := by decide +kernel
theorem d_M_allSquares_66 : decode (iC M_M_allSquares) 66 = .ok (.if_icmp .ne 6, 3) := by decide +kernel
theorem d_M_allSquares_69 : decode (iC M_M_allSquares) 69 = .ok (.goto 32, 3) := by decide +kernel
theorem d_M_allSquares_72 : decode (iC M_M_allSquares) 72 = .ok (.iload_n 1, 1) := by decide +kernel
theorem d_M_allSquares_73 : decode (iC M_M_allSquares) 73 = .ok (.aload_n 0, 1) := by decide +kernel
theorem d_M_allSquares_74 : decode (iC M_M_allSquares) 74 = .ok (.getfield 35, 3) := by decide +kernel
theorem d_M_allSquares_77 : decode (iC M_M_allSquares) 77 = .ok (.irem, 1) := by decide +kernel
theorem d_M_allSquares_78 : decode (iC M_M_allSquares) 78 = .ok (.ifCond .ne 7, 3) := by decide +kernel
theorem d_M_allSquares_81 : decode (iC M_M_allSquares) 81 = .ok (.aload_n 0, 1) := by decide +kernel
theorem d_M_allSquares_82 : decode (iC M_M_allSquares) 82 = .ok (.invokevirtual 193, 3) := by decide +kernel
theorem d_M_allSquares_85 : decode (iC M_M_allSquares) 85 = .ok (.aload_n 0, 1) := by decide +kernel
theorem d_M_allSquares_86 : decode (iC M_M_allSquares) 86 = .ok (.iload_n 1, 1) := by decide +kernel
theorem d_M_allSquares_87 : decode (iC M_M_allSquares) 87 = .ok (.invokevirtual 206, 3) := by decide +kernel
theorem d_M_allSquares_90 : decode (iC M_M_allSquares) 90 = .ok (.ifCond .ne 5, 3) := by decide +kernel
theorem d_M_allSquares_93 : decode (iC M_M_allSquares) 93 = .ok (.iconst 0, 1) := by decide +kernel
theorem d_M_allSquares_94 : decode (iC M_M_allSquares) 94 = .ok (.ireturn, 1) := by decide +kernel
theorem d_M_allSquares_95 : decode (iC M_M_allSquares) 95 = .ok (.iinc 1 1, 3) := by decide +kernel
theorem d_M_allSquares_98 : decode (iC M_M_allSquares) 98 = .ok (.goto (-96), 3) := by decide +kernel
theorem d_M_allSquares_101 : decode (iC M_M_allSquares) 101 = .ok (.aload_n 0, 1) := by decide +kernel
theorem d_M_allSquares_102 : decode (iC M_M_allSquares) 102 = .ok (.invokevirtual 209, 3) := by decide +kernel
theorem d_M_allSquares_105 : decode (iC M_M_allSquares) 105 = .ok (.aload_n 0, 1) := by decide +kernel
theorem d_M_allSquares_106 : decode (iC M_M_allSquares) 106 = .ok (.getfield 7, 3) := by decide +kernel
theorem d_M_allSquares_109 : decode (iC M_M_allSquares) 109 = .ok (.ifCond .ge 7, 3) := by decide +kernel
theorem d_M_allSquares_112 : decode (iC M_M_allSquares) 112 = .ok (.iconst 1, 1) := by decide +kernel
theorem d_M_allSquares_113 : decode (iC M_M_allSquares) 113 = .ok (.goto 4, 3) := by decide +kernel
theorem d_M_allSquares_116 : decode (iC M_M_allSquares) 116 = .ok (.iconst 0, 1) := by decide +kernel
theorem d_M_allSquares_117 : decode (iC M_M_allSquares) 117 = .ok (.ireturn, 1) := by decide +kernel
theorem d_M_readU_0 : decode (iC M_M_readU) 0 = .ok (.iconst 0, 1) := by decide +kernel
theorem d_M_readU_1 : decode (iC M_M_readU) 1 = .ok (.istore_n 1, 1) := by decide +kernel
theorem d_M_readU_2 : decode (iC M_M_readU) 2 = .ok (.aload_n 0, 1) := by decide +kernel
theorem d_M_readU_3 : decode (iC M_M_readU) 3 = .ok (.getfield 7, 3) := by decide +kernel
theorem d_M_readU_6 : decode (iC M_M_readU) 6 = .ok (.ifCond .ge 42, 3) := by decide +kernel
theorem d_M_readU_9 : decode (iC M_M_readU) 9 = .ok (.aload_n 0, 1) := by decide +kernel
theorem d_M_readU_10 : decode (iC M_M_readU) 10 = .ok (.invokevirtual 24, 3) := by decide +kernel
theorem d_M_readU_13 : decode (iC M_M_readU) 13 = .ok (.ifCond .ne 35, 3) := by decide +kernel
theorem d_M_readU_16 : decode (iC M_M_readU) 16 = .ok (.aload_n 0, 1) := by decide +kernel
theorem d_M_readU_17 : decode (iC M_M_readU) 17 = .ok (.getfield 7, 3) := by decide +kernel
theorem d_M_readU_20 : decode (iC M_M_readU) 20 = .ok (.ifCond .lt 5, 3) := by decide +kernel
theorem d_M_readU_23 : decode (iC M_M_readU) 23 = .ok (.iconst 0, 1) := by decide +kernel
theorem d_M_readU_24 : decode (iC M_M_readU) 24 = .ok (.ireturn, 1) := by decide +kernel
theorem d_M_readU_25 : decode (iC M_M_readU) 25 = .ok (.iinc 1 1, 3) := by decide +kernel
theorem d_M_readU_28 : decode (iC M_M_readU) 28 = .ok (.iload_n 1, 1) := by decide +kernel
theorem d_M_readU_29 : decode (iC M_M_readU) 29 = .ok (.bipush 21, 2) := by decide +kernel
theorem d_M_readU_31 : decode (iC M_M_readU) 31 = .ok (.if_icmp .ne (-29), 3) := by decide +kernel
theorem d_M_readU_34 : decode (iC M_M_readU) 34 = .ok (.aload_n 0, 1) := by decide +kernel
theorem d_M_readU_35 : decode (iC M_M_readU) 35 = .ok (.aload_n 0, 1) := by decide +kernel
theorem d_M_readU_36 : decode (iC M_M_readU) 36 = .ok (.getfield 10, 3) := by decide +kernel
theorem d_M_readU_39 : decode (iC M_M_readU) 39 = .ok (.iconst 1, 1) := by decide +kernel
theorem d_M_readU_40 : decode (iC M_M_readU) 40 = .ok (.isub, 1) := by decide +kernel
theorem d_M_readU_41 : decode (iC M_M_readU) 41 = .ok (.invokevirtual 16, 3) := by decide +kernel
theorem d_M_readU_44 : decode (iC M_M_readU) 44 = .ok (.istore_n 2, 1) := by decide +kernel
theorem d_M_readU_45 : decode (iC M_M_readU) 45 = .ok (.goto (-43), 3) := by decide +kernel
theorem d_M_readU_48 : decode (iC M_M_readU) 48 = .ok (.aload_n 0, 1) := by decide +kernel
theorem d_M_readU_49 : decode (iC M_M_readU) 49 = .ok (.getfield 7, 3) := by decide +kernel
theorem d_M_readU_52 : decode (iC M_M_readU) 52 = .ok (.ifCond .lt 5, 3) := by decide +kernel
theorem d_M_readU_55 : decode (iC M_M_readU) 55 = .ok (.iconst 0, 1) := by decide +kernel
theorem d_M_readU_56 : decode (iC M_M_readU) 56 = .ok (.ireturn, 1) := by decide +kernel
theorem d_M_readU_57 : decode (iC M_M_readU) 57 = .ok (.iconst 1, 1) := by decide +kernel
theorem d_M_readU_58 : decode (iC M_M_readU) 58 = .ok (.iload_n 1, 1) := by decide +kernel
theorem d_M_readU_59 : decode (iC M_M_readU) 59 = .ok (.ishl, 1) := by decide +kernel
theorem d_M_readU_60 : decode (iC M_M_readU) 60 = .ok (.iconst 1, 1) := by decide +kernel
theorem d_M_readU_61 : decode (iC M_M_readU) 61 = .ok (.isub, 1) := by decide +kernel
theorem d_M_readU_62 : decode (iC M_M_readU) 62 = .ok (.aload_n 0, 1) := by decide +kernel
theorem d_M_readU_63 : decode (iC M_M_readU) 63 = .ok (.iload_n 1, 1) := by decide +kernel
theorem d_M_readU_64 : decode (iC M_M_readU) 64 = .ok (.invokevirtual 28, 3) := by decide +kernel
theorem d_M_readU_67 : decode (iC M_M_readU) 67 = .ok (.iadd, 1) := by decide +kernel
theorem d_M_readU_68 : decode (iC M_M_readU) 68 = .ok (.ireturn, 1) := by decide +kernel
theorem d_M_passes_0 : decode (iC M_M_passes) 0 = .ok (.iload_n 2, 1) := by decide +kernel
theorem d_M_passes_1 : decode (iC M_M_passes) 1 = .ok (.aload_n 0, 1) := by decide +kernel
theorem d_M_passes_2 : decode (iC M_M_passes) 2 = .ok (.getfield 35, 3) := by decide +kernel
theorem d_M_passes_5 : decode (iC M_M_passes) 5 = .ok (.aload_n 0, 1) := by decide +kernel
theorem d_M_passes_6 : decode (iC M_M_passes) 6 = .ok (.getfield 38, 3) := by decide +kernel
theorem d_M_passes_9 : decode (iC M_M_passes) 9 = .ok (.imul, 1) := by decide +kernel
theorem d_M_passes_10 : decode (iC M_M_passes) 10 = .ok (.iload_n 1, 1) := by decide +kernel
theorem d_M_passes_11 : decode (iC M_M_passes) 11 = .ok (.isub, 1) := by decide +kernel
theorem d_M_passes_12 : decode (iC M_M_passes) 12 = .ok (.if_icmp .le 17, 3) := by decide +kernel
theorem d_M_passes_15 : decode (iC M_M_passes) 15 = .ok (.aload_n 0, 1) := by decide +kernel
theorem d_M_passes_16 : decode (iC M_M_passes) 16 = .ok (.iload_n 3, 1) := by decide +kernel
theorem d_M_passes_17 : decode (iC M_M_passes) 17 = .ok (.invokevirtual 16, 3) := by decide +kernel
theorem d_M_passes_20 : decode (iC M_M_passes) 20 = .ok (.ifCond .ne 7, 3) := by decide +kernel
theorem d_M_passes_23 : decode (iC M_M_passes) 23 = .ok (.iconst 1, 1) := by decide +kernel
theorem d_M_passes_24 : decode (iC M_M_passes) 24 = .ok (.goto 4, 3) := by decide +kernel
theorem d_M_passes_27 : decode (iC M_M_passes) 27 = .ok (.iconst 0, 1) := by decide +kernel
theorem d_M_passes_28 : decode (iC M_M_passes) 28 = .ok (.ireturn, 1) := by decide +kernel
theorem d_M_passes_29 : decode (iC M_M_passes) 29 = .ok (.iload_n 1, 1) := by decide +kernel
theorem d_M_passes_30 : decode (iC M_M_passes) 30 = .ok (.istore 4, 2) := by decide +kernel
theorem d_M_passes_32 : decode (iC M_M_passes) 32 = .ok (.aload_n 0, 1) := by decide +kernel
theorem d_M_passes_33 : decode (iC M_M_passes) 33 = .ok (.getfield 70, 3) := by decide +kernel
theorem d_M_passes_36 : decode (iC M_M_passes) 36 = .ok (.iconst 3, 1) := by decide +kernel
theorem d_M_passes_37 : decode (iC M_M_passes) 37 = .ok (.if_icmp .ne 50, 3) := by decide +kernel
theorem d_M_passes_40 : decode (iC M_M_passes) 40 = .ok (.iload 4, 2) := by decide +kernel
theorem d_M_passes_42 : decode (iC M_M_passes) 42 = .ok (.iload_n 1, 1) := by decide +kernel
theorem d_M_passes_43 : decode (iC M_M_passes) 43 = .ok (.iload_n 2, 1) := by decide +kernel
theorem d_M_passes_44 : decode (iC M_M_passes) 44 = .ok (.iadd, 1) := by decide +kernel
theorem d_M_passes_45 : decode (iC M_M_passes) 45 = .ok (.if_icmp .ge 42, 3) := by decide +kernel
theorem d_M_passes_48 : decode (iC M_M_passes) 48 = .ok (.iload 4, 2) := by decide +kernel
theorem d_M_passes_50 : decode (iC M_M_passes) 50 = .ok (.aload_n 0, 1) := by decide +kernel
theorem d_M_passes_51 : decode (iC M_M_passes) 51 = .ok (.getfield 35, 3) := by decide +kernel
theorem d_M_passes_54 : decode (iC M_M_passes) 54 = .ok (.irem, 1) := by decide +kernel
theorem d_M_passes_55 : decode (iC M_M_passes) 55 = .ok (.ifCond .eq 16, 3) := by decide +kernel
theorem d_M_passes_58 : decode (iC M_M_passes) 58 = .ok (.iload 4, 2) := by decide +kernel
theorem d_M_passes_60 : decode (iC M_M_passes) 60 = .ok (.iload_n 1, 1) := by decide +kernel
theorem d_M_passes_61 : decode (iC M_M_passes) 61 = .ok (.if_icmp .ne 20, 3) := by decide +kernel
theorem d_M_passes_64 : decode (iC M_M_passes) 64 = .ok (.aload_n 0, 1) := by decide +kernel
theorem d_M_passes_65 : decode (iC M_M_passes) 65 = .ok (.getfield 132, 3) := by decide +kernel
theorem d_M_passes_68 : decode (iC M_M_passes) 68 = .ok (.ifCond .eq 13, 3) := by decide +kernel
theorem d_M_passes_71 : decode (iC M_M_passes) 71 = .ok (.aload_n 0, 1) := by decide +kernel
theorem d_M_passes_72 : decode (iC M_M_passes) 72 = .ok (.iload_n 3, 1) := by decide +kernel
theorem d_M_passes_73 : decode (iC M_M_passes) 73 = .ok (.invokevirtual 16, 3) := by decide +kernel
theorem d_M_passes_76 : decode (iC M_M_passes) 76 = .ok (.ifCond .eq 5, 3) := by decide +kernel
theorem d_M_passes_79 : decode (iC M_M_passes) 79 = .ok (.iconst 0, 1) := by decide +kernel
theorem d_M_passes_80 : decode (iC M_M_passes) 80 = .ok (.ireturn, 1) := by decide +kernel
theorem d_M_passes_81 : decode (iC M_M_passes) 81 = .ok (.iinc 4 1, 3) := by decide +kernel
theorem d_M_passes_84 : decode (iC M_M_passes) 84 = .ok (.goto (-52), 3) := by decide +kernel
theorem d_M_passes_87 : decode (iC M_M_passes) 87 = .ok (.iload_n 1, 1) := by decide +kernel
theorem d_M_passes_88 : decode (iC M_M_passes) 88 = .ok (.istore 4, 2) := by decide +kernel
theorem d_M_passes_90 : decode (iC M_M_passes) 90 = .ok (.iload 4, 2) := by decide +kernel
theorem d_M_passes_92 : decode (iC M_M_passes) 92 = .ok (.iload_n 1, 1) := by decide +kernel
theorem d_M_passes_93 : decode (iC M_M_passes) 93 = .ok (.iload_n 2, 1) := by decide +kernel
theorem d_M_passes_94 : decode (iC M_M_passes) 94 = .ok (.iadd, 1) := by decide +kernel
theorem d_M_passes_95 : decode (iC M_M_passes) 95 = .ok (.if_icmp .ge 103, 3) := by decide +kernel
theorem d_M_passes_98 : decode (iC M_M_passes) 98 = .ok (.iload 4, 2) := by decide +kernel
theorem d_M_passes_100 : decode (iC M_M_passes) 100 = .ok (.aload_n 0, 1) := by decide +kernel
theorem d_M_passes_101 : decode (iC M_M_passes) 101 = .ok (.getfield 35, 3) := by decide +kernel
theorem d_M_passes_104 : decode (iC M_M_passes) 104 = .ok (.irem, 1) := by decide +kernel
theorem d_M_passes_105 : decode (iC M_M_passes) 105 = .ok (.ifCond .ne 7, 3) := by decide +kernel
theorem d_M_passes_108 : decode (iC M_M_passes) 108 = .ok (.aload_n 0, 1) := by decide +kernel
theorem d_M_passes_109 : decode (iC M_M_passes) 109 = .ok (.invokevirtual 193, 3) := by decide +kernel
theorem d_M_passes_112 : decode (iC M_M_passes) 112 = .ok (.aload_n 0, 1) := by decide +kernel
theorem d_M_passes_113 : decode (iC M_M_passes) 113 = .ok (.getfield 70, 3) := by decide +kernel
theorem d_M_passes_116 : decode (iC M_M_passes) 116 = .ok (.iconst 2, 1) := by decide +kernel
theorem d_M_passes_117 : decode (iC M_M_passes) 117 = .ok (.if_icmp .ne 40, 3) := by decide +kernel
theorem d_M_passes_120 : decode (iC M_M_passes) 120 = .ok (.iconst 0, 1) := by decide +kernel
theorem d_M_passes_121 : decode (iC M_M_passes) 121 = .ok (.istore 5, 2) := by decide +kernel
theorem d_M_passes_123 : decode (iC M_M_passes) 123 = .ok (.iload 5, 2) := by decide +kernel
theorem d_M_passes_125 : decode (iC M_M_passes) 125 = .ok (.iconst 4, 1) := by decide +kernel
theorem d_M_passes_126 : decode (iC M_M_passes) 126 = .ok (.if_icmp .ge 17, 3) := by decide +kernel
theorem d_M_passes_129 : decode (iC M_M_passes) 129 = .ok (.aload_n 0, 1) := by decide +kernel
theorem d_M_passes_130 : decode (iC M_M_passes) 130 = .ok (.getfield 64, 3) := by decide +kernel
theorem d_M_passes_133 : decode (iC M_M_passes) 133 = .ok (.iload 5, 2) := by decide +kernel
theorem d_M_passes_135 : decode (iC M_M_passes) 135 = .ok (.iconst 0, 1) := by decide +kernel
theorem d_M_passes_136 : decode (iC M_M_passes) 136 = .ok (.iastore, 1) := by decide +kernel
theorem d_M_passes_137 : decode (iC M_M_passes) 137 = .ok (.iinc 5 1, 3) := by decide +kernel
theorem d_M_passes_140 : decode (iC M_M_passes) 140 = .ok (.goto (-17), 3) := by decide +kernel
theorem d_M_passes_143 : decode (iC M_M_passes) 143 = .ok (.aload_n 0, 1) := by decide +kernel
theorem d_M_passes_144 : decode (iC M_M_passes) 144 = .ok (.iconst 1, 1) := by decide +kernel
theorem d_M_passes_145 : decode (iC M_M_passes) 145 = .ok (.putfield 79, 3) := by decide +kernel
theorem d_M_passes_148 : decode (iC M_M_passes) 148 = .ok (.aload_n 0, 1) := by decide +kernel
theorem d_M_passes_149 : decode (iC M_M_passes) 149 = .ok (.iconst 0, 1) := by decide +kernel
theorem d_M_passes_150 : decode (iC M_M_passes) 150 = .ok (.putfield 83, 3) := by decide +kernel
theorem d_M_passes_153 : decode (iC M_M_passes) 153 = .ok (.aload_n 0, 1) := by decide +kernel
theorem d_M_passes_154 : decode (iC M_M_passes) 154 = .ok (.invokevirtual 190, 3) := by decide +kernel
theorem d_M_passes_157 : decode (iC M_M_passes) 157 = .ok (.aload_n 0, 1) := by decide +kernel
theorem d_M_passes_158 : decode (iC M_M_passes) 158 = .ok (.iconst 0, 1) := by decide +kernel
theorem d_M_passes_159 : decode (iC M_M_passes) 159 = .ok (.putfield 132, 3) := by decide +kernel
theorem d_M_passes_162 : decode (iC M_M_passes) 162 = .ok (.aload_n 0, 1) := by decide +kernel
theorem d_M_passes_163 : decode (iC M_M_passes) 163 = .ok (.iload 4, 2) := by decide +kernel
theorem d_M_passes_165 : decode (iC M_M_passes) 165 = .ok (.invokevirtual 173, 3) := by decide +kernel
theorem d_M_passes_168 : decode (iC M_M_passes) 168 = .ok (.aload_n 0, 1) := by decide +kernel
theorem d_M_passes_169 : decode (iC M_M_passes) 169 = .ok (.invokevirtual 187, 3) := by decide +kernel
theorem d_M_passes_172 : decode (iC M_M_passes) 172 = .ok (.aload_n 0, 1) := by decide +kernel
theorem d_M_passes_173 : decode (iC M_M_passes) 173 = .ok (.dup, 1) := by decide +kernel
theorem d_M_passes_174 : decode (iC M_M_passes) 174 = .ok (.getfield 196, 3) := by decide +kernel
theorem d_M_passes_177 : decode (iC M_M_passes) 177 = .ok (.iconst 1, 1) := by decide +kernel
theorem d_M_passes_178 : decode (iC M_M_passes) 178 = .ok (.iadd, 1) := by decide +kernel
theorem d_M_passes_179 : decode (iC M_M_passes) 179 = .ok (.putfield 196, 3) := by decide +kernel
theorem d_M_passes_182 : decode (iC M_M_passes) 182 = .ok (.aload_n 0, 1) := by decide +kernel
theorem d_M_passes_183 : decode (iC M_M_passes) 183 = .ok (.dup, 1) := by decide +kernel
theorem d_M_passes_184 : decode (iC M_M_passes) 184 = .ok (.getfield 199, 3) := by decide +kernel
theorem d_M_passes_187 : decode (iC M_M_passes) 187 = .ok (.iconst 1, 1) := by decide +kernel
theorem d_M_passes_188 : decode (iC M_M_passes) 188 = .ok (.iadd, 1) := by decide +kernel
theorem d_M_passes_189 : decode (iC M_M_passes) 189 = .ok (.putfield 199, 3) := by decide +kernel
theorem d_M_passes_192 : decode (iC M_M_passes) 192 = .ok (.iinc 4 1, 3) := by decide +kernel
theorem d_M_passes_195 : decode (iC M_M_passes) 195 = .ok (.goto (-105), 3) := by decide +kernel
theorem d_M_passes_198 : decode (iC M_M_passes) 198 = .ok (.iconst 1, 1) := by decide +kernel
theorem d_M_passes_199 : decode (iC M_M_passes) 199 = .ok (.ireturn, 1) := by decide +kernel
theorem d_M_begins_0 : decode (iC M_M_begins) 0 = .ok (.aload_n 0, 1) := by decide +kernel
theorem d_M_begins_1 : decode (iC M_M_begins) 1 = .ok (.invokevirtual 187, 3) := by decide +kernel
theorem d_M_begins_4 : decode (iC M_M_begins) 4 = .ok (.aload_n 0, 1) := by decide +kernel
theorem d_M_begins_5 : decode (iC M_M_begins) 5 = .ok (.invokevirtual 190, 3) := by decide +kernel
theorem d_M_begins_8 : decode (iC M_M_begins) 8 = .ok (.return_, 1) := by decide +kernel
theorem d_M_resetDcs_0 : decode (iC M_M_resetDcs) 0 = .ok (.iconst 0, 1) := by decide +kernel
theorem d_M_resetDcs_1 : decode (iC M_M_resetDcs) 1 = .ok (.istore_n 1, 1) := by decide +kernel
theorem d_M_resetDcs_2 : decode (iC M_M_resetDcs) 2 = .ok (.iload_n 1, 1) := by decide +kernel
theorem d_M_resetDcs_3 : decode (iC M_M_resetDcs) 3 = .ok (.iconst 3, 1) := by decide +kernel
theorem d_M_resetDcs_4 : decode (iC M_M_resetDcs) 4 = .ok (.if_icmp .ge 18, 3) := by decide +kernel
theorem d_M_resetDcs_7 : decode (iC M_M_resetDcs) 7 = .ok (.aload_n 0, 1) := by decide +kernel
theorem d_M_resetDcs_8 : decode (iC M_M_resetDcs) 8 = .ok (.getfield 114, 3) := by decide +kernel
theorem d_M_resetDcs_11 : decode (iC M_M_resetDcs) 11 = .ok (.iload_n 1, 1) := by decide +kernel
theorem d_M_resetDcs_12 : decode (iC M_M_resetDcs) 12 = .ok (.sipush 128, 3) := by decide +kernel
theorem d_M_resetDcs_15 : decode (iC M_M_resetDcs) 15 = .ok (.iastore, 1) := by decide +kernel
theorem d_M_resetDcs_16 : decode (iC M_M_resetDcs) 16 = .ok (.iinc 1 1, 3) := by decide +kernel
theorem d_M_resetDcs_19 : decode (iC M_M_resetDcs) 19 = .ok (.goto (-17), 3) := by decide +kernel
theorem d_M_resetDcs_22 : decode (iC M_M_resetDcs) 22 = .ok (.return_, 1) := by decide +kernel
theorem d_M_resetVectors_0 : decode (iC M_M_resetVectors) 0 = .ok (.iconst 0, 1) := by decide +kernel
theorem d_M_resetVectors_1 : decode (iC M_M_resetVectors) 1 = .ok (.istore_n 1, 1) := by decide +kernel
theorem d_M_resetVectors_2 : decode (iC M_M_resetVectors) 2 = .ok (.iload_n 1, 1) := by decide +kernel
theorem d_M_resetVectors_3 : decode (iC M_M_resetVectors) 3 = .ok (.iconst 4, 1) := by decide +kernel
theorem d_M_resetVectors_4 : decode (iC M_M_resetVectors) 4 = .ok (.if_icmp .ge 16, 3) := by decide +kernel
theorem d_M_resetVectors_7 : decode (iC M_M_resetVectors) 7 = .ok (.aload_n 0, 1) := by decide +kernel
theorem d_M_resetVectors_8 : decode (iC M_M_resetVectors) 8 = .ok (.getfield 111, 3) := by decide +kernel
theorem d_M_resetVectors_11 : decode (iC M_M_resetVectors) 11 = .ok (.iload_n 1, 1) := by decide +kernel
theorem d_M_resetVectors_12 : decode (iC M_M_resetVectors) 12 = .ok (.iconst 0, 1) := by decide +kernel
theorem d_M_resetVectors_13 : decode (iC M_M_resetVectors) 13 = .ok (.iastore, 1) := by decide +kernel
theorem d_M_resetVectors_14 : decode (iC M_M_resetVectors) 14 = .ok (.iinc 1 1, 3) := by decide +kernel
theorem d_M_resetVectors_17 : decode (iC M_M_resetVectors) 17 = .ok (.goto (-15), 3) := by decide +kernel
theorem d_M_resetVectors_20 : decode (iC M_M_resetVectors) 20 = .ok (.return_, 1) := by decide +kernel
theorem d_M_foretells_0 : decode (iC M_M_foretells) 0 = .ok (.iconst 0, 1) := by decide +kernel
theorem d_M_foretells_1 : decode (iC M_M_foretells) 1 = .ok (.istore_n 2, 1) := by decide +kernel
theorem d_M_foretells_2 : decode (iC M_M_foretells) 2 = .ok (.iload_n 2, 1) := by decide +kernel
theorem d_M_foretells_3 : decode (iC M_M_foretells) 3 = .ok (.iconst 3, 1) := by decide +kernel
theorem d_M_foretells_4 : decode (iC M_M_foretells) 4 = .ok (.if_icmp .ge 114, 3) := by decide +kernel
theorem d_M_foretells_7 : decode (iC M_M_foretells) 7 = .ok (.iload_n 2, 1) := by decide +kernel
theorem d_M_foretells_8 : decode (iC M_M_foretells) 8 = .ok (.ifCond .ne 8, 3) := by decide +kernel
theorem d_M_foretells_11 : decode (iC M_M_foretells) 11 = .ok (.bipush 16, 2) := by decide +kernel
theorem d_M_foretells_13 : decode (iC M_M_foretells) 13 = .ok (.goto 5, 3) := by decide +kernel
theorem d_M_foretells_16 : decode (iC M_M_foretells) 16 = .ok (.bipush 8, 2) := by decide +kernel
theorem d_M_foretells_18 : decode (iC M_M_foretells) 18 = .ok (.istore_n 3, 1) := by decide +kernel
theorem d_M_foretells_19 : decode (iC M_M_foretells) 19 = .ok (.iload_n 3, 1) := by decide +kernel
theorem d_M_foretells_20 : decode (iC M_M_foretells) 20 = .ok (.iload_n 1, 1) := by decide +kernel
theorem d_M_foretells_21 : decode (iC M_M_foretells) 21 = .ok (.aload_n 0, 1) := by decide +kernel
theorem d_M_foretells_22 : decode (iC M_M_foretells) 22 = .ok (.getfield 35, 3) := by decide +kernel
theorem d_M_foretells_25 : decode (iC M_M_foretells) 25 = .ok (.idiv, 1) := by decide +kernel
theorem d_M_foretells_26 : decode (iC M_M_foretells) 26 = .ok (.imul, 1) := by decide +kernel
theorem d_M_foretells_27 : decode (iC M_M_foretells) 27 = .ok (.istore 4, 2) := by decide +kernel
theorem d_M_foretells_29 : decode (iC M_M_foretells) 29 = .ok (.iload 4, 2) := by decide +kernel
theorem d_M_foretells_31 : decode (iC M_M_foretells) 31 = .ok (.iload_n 3, 1) := by decide +kernel
theorem d_M_foretells_32 : decode (iC M_M_foretells) 32 = .ok (.iload_n 1, 1) := by decide +kernel
theorem d_M_foretells_33 : decode (iC M_M_foretells) 33 = .ok (.aload_n 0, 1) := by decide +kernel
theorem d_M_foretells_34 : decode (iC M_M_foretells) 34 = .ok (.getfield 35, 3) := by decide +kernel
theorem d_M_foretells_37 : decode (iC M_M_foretells) 37 = .ok (.idiv, 1) := by decide +kernel
theorem d_M_foretells_38 : decode (iC M_M_foretells) 38 = .ok (.iconst 1, 1) := by decide +kernel
theorem d_M_foretells_39 : decode (iC M_M_foretells) 39 = .ok (.iadd, 1) := by decide +kernel
theorem d_M_foretells_40 : decode (iC M_M_foretells) 40 = .ok (.imul, 1) := by decide +kernel
theorem d_M_foretells_41 : decode (iC M_M_foretells) 41 = .ok (.if_icmp .ge 71, 3) := by decide +kernel
theorem d_M_foretells_44 : decode (iC M_M_foretells) 44 = .ok (.iload_n 3, 1) := by decide +kernel
theorem d_M_foretells_45 : decode (iC M_M_foretells) 45 = .ok (.iload_n 1, 1) := by decide +kernel
theorem d_M_foretells_46 : decode (iC M_M_foretells) 46 = .ok (.aload_n 0, 1) := by decide +kernel
theorem d_M_foretells_47 : decode (iC M_M_foretells) 47 = .ok (.getfield 35, 3) := by decide +kernel
theorem d_M_foretells_50 : decode (iC M_M_foretells) 50 = .ok (.irem, 1) := by decide +kernel
theorem d_M_foretells_51 : decode (iC M_M_foretells) 51 = .ok (.imul, 1) := by decide +kernel
theorem d_M_foretells_52 : decode (iC M_M_foretells) 52 = .ok (.istore 5, 2) := by decide +kernel
theorem d_M_foretells_54 : decode (iC M_M_foretells) 54 = .ok (.iload 5, 2) := by decide +kernel
theorem d_M_foretells_56 : decode (iC M_M_foretells) 56 = .ok (.iload_n 3, 1) := by decide +kernel
theorem d_M_foretells_57 : decode (iC M_M_foretells) 57 = .ok (.iload_n 1, 1) := by decide +kernel
theorem d_M_foretells_58 : decode (iC M_M_foretells) 58 = .ok (.aload_n 0, 1) := by decide +kernel
theorem d_M_foretells_59 : decode (iC M_M_foretells) 59 = .ok (.getfield 35, 3) := by decide +kernel
theorem d_M_foretells_62 : decode (iC M_M_foretells) 62 = .ok (.irem, 1) := by decide +kernel
theorem d_M_foretells_63 : decode (iC M_M_foretells) 63 = .ok (.iconst 1, 1) := by decide +kernel
theorem d_M_foretells_64 : decode (iC M_M_foretells) 64 = .ok (.iadd, 1) := by decide +kernel
theorem d_M_foretells_65 : decode (iC M_M_foretells) 65 = .ok (.imul, 1) := by decide +kernel
theorem d_M_foretells_66 : decode (iC M_M_foretells) 66 = .ok (.if_icmp .ge 40, 3) := by decide +kernel
theorem d_M_foretells_69 : decode (iC M_M_foretells) 69 = .ok (.aload_n 0, 1) := by decide +kernel
theorem d_M_foretells_70 : decode (iC M_M_foretells) 70 = .ok (.getfield 94, 3) := by decide +kernel
theorem d_M_foretells_73 : decode (iC M_M_foretells) 73 = .ok (.aload_n 0, 1) := by decide +kernel
theorem d_M_foretells_74 : decode (iC M_M_foretells) 74 = .ok (.iload_n 2, 1) := by decide +kernel
theorem d_M_foretells_75 : decode (iC M_M_foretells) 75 = .ok (.invokevirtual 57, 3) := by decide +kernel
theorem d_M_foretells_78 : decode (iC M_M_foretells) 78 = .ok (.aload_n 0, 1) := by decide +kernel
theorem d_M_foretells_79 : decode (iC M_M_foretells) 79 = .ok (.iload_n 2, 1) := by decide +kernel
theorem d_M_foretells_80 : decode (iC M_M_foretells) 80 = .ok (.invokevirtual 51, 3) := by decide +kernel
theorem d_M_foretells_83 : decode (iC M_M_foretells) 83 = .ok (.iload 4, 2) := by decide +kernel
theorem d_M_foretells_85 : decode (iC M_M_foretells) 85 = .ok (.imul, 1) := by decide +kernel
theorem d_M_foretells_86 : decode (iC M_M_foretells) 86 = .ok (.iadd, 1) := by decide +kernel
theorem d_M_foretells_87 : decode (iC M_M_foretells) 87 = .ok (.iload 5, 2) := by decide +kernel
theorem d_M_foretells_89 : decode (iC M_M_foretells) 89 = .ok (.iadd, 1) := by decide +kernel
theorem d_M_foretells_90 : decode (iC M_M_foretells) 90 = .ok (.aload_n 0, 1) := by decide +kernel
theorem d_M_foretells_91 : decode (iC M_M_foretells) 91 = .ok (.iload_n 2, 1) := by decide +kernel
theorem d_M_foretells_92 : decode (iC M_M_foretells) 92 = .ok (.iload 5, 2) := by decide +kernel
theorem d_M_foretells_94 : decode (iC M_M_foretells) 94 = .ok (.iload 4, 2) := by decide +kernel
theorem d_M_foretells_96 : decode (iC M_M_foretells) 96 = .ok (.invokevirtual 97, 3) := by decide +kernel
theorem d_M_foretells_99 : decode (iC M_M_foretells) 99 = .ok (.iastore, 1) := by decide +kernel
theorem d_M_foretells_100 : decode (iC M_M_foretells) 100 = .ok (.iinc 5 1, 3) := by decide +kernel
theorem d_M_foretells_103 : decode (iC M_M_foretells) 103 = .ok (.goto (-49), 3) := by decide +kernel
theorem d_M_foretells_106 : decode (iC M_M_foretells) 106 = .ok (.iinc 4 1, 3) := by decide +kernel
theorem d_M_foretells_109 : decode (iC M_M_foretells) 109 = .ok (.goto (-80), 3) := by decide +kernel
theorem d_M_foretells_112 : decode (iC M_M_foretells) 112 = .ok (.iinc 2 1, 3) := by decide +kernel
theorem d_M_foretells_115 : decode (iC M_M_foretells) 115 = .ok (.goto (-113), 3) := by decide +kernel
theorem d_M_foretells_118 : decode (iC M_M_foretells) 118 = .ok (.return_, 1) := by decide +kernel
theorem d_M_planeAt_0 : decode (iC M_M_planeAt) 0 = .ok (.iload_n 1, 1) := by decide +kernel
theorem d_M_planeAt_1 : decode (iC M_M_planeAt) 1 = .ok (.ifCond .ne 7, 3) := by decide +kernel
theorem d_M_planeAt_4 : decode (iC M_M_planeAt) 4 = .ok (.iconst 0, 1) := by decide +kernel
theorem d_M_planeAt_5 : decode (iC M_M_planeAt) 5 = .ok (.goto 33, 3) := by decide +kernel
theorem d_M_planeAt_8 : decode (iC M_M_planeAt) 8 = .ok (.sipush 256, 3) := by decide +kernel
theorem d_M_planeAt_11 : decode (iC M_M_planeAt) 11 = .ok (.aload_n 0, 1) := by decide +kernel
theorem d_M_planeAt_12 : decode (iC M_M_planeAt) 12 = .ok (.getfield 35, 3) := by decide +kernel
theorem d_M_planeAt_15 : decode (iC M_M_planeAt) 15 = .ok (.imul, 1) := by decide +kernel
theorem d_M_planeAt_16 : decode (iC M_M_planeAt) 16 = .ok (.aload_n 0, 1) := by decide +kernel
theorem d_M_planeAt_17 : decode (iC M_M_planeAt) 17 = .ok (.getfield 38, 3) := by decide +kernel
theorem d_M_planeAt_20 : decode (iC M_M_planeAt) 20 = .ok (.imul, 1) := by decide +kernel
theorem d_M_planeAt_21 : decode (iC M_M_planeAt) 21 = .ok (.iload_n 1, 1) := by decide +kernel
theorem d_M_planeAt_22 : decode (iC M_M_planeAt) 22 = .ok (.iconst 1, 1) := by decide +kernel
theorem d_M_planeAt_23 : decode (iC M_M_planeAt) 23 = .ok (.isub, 1) := by decide +kernel
theorem d_M_planeAt_24 : decode (iC M_M_planeAt) 24 = .ok (.bipush 64, 2) := by decide +kernel
theorem d_M_planeAt_26 : decode (iC M_M_planeAt) 26 = .ok (.imul, 1) := by decide +kernel
theorem d_M_planeAt_27 : decode (iC M_M_planeAt) 27 = .ok (.aload_n 0, 1) := by decide +kernel
theorem d_M_planeAt_28 : decode (iC M_M_planeAt) 28 = .ok (.getfield 35, 3) := by decide +kernel
theorem d_M_planeAt_31 : decode (iC M_M_planeAt) 31 = .ok (.imul, 1) := by decide +kernel
theorem d_M_planeAt_32 : decode (iC M_M_planeAt) 32 = .ok (.aload_n 0, 1) := by decide +kernel
theorem d_M_planeAt_33 : decode (iC M_M_planeAt) 33 = .ok (.getfield 38, 3) := by decide +kernel
theorem d_M_planeAt_36 : decode (iC M_M_planeAt) 36 = .ok (.imul, 1) := by decide +kernel
theorem d_M_planeAt_37 : decode (iC M_M_planeAt) 37 = .ok (.iadd, 1) := by decide +kernel
theorem d_M_planeAt_38 : decode (iC M_M_planeAt) 38 = .ok (.ireturn, 1) := by decide +kernel
theorem d_M_planeWidth_0 : decode (iC M_M_planeWidth) 0 = .ok (.iload_n 1, 1) := by decide +kernel
theorem d_M_planeWidth_1 : decode (iC M_M_planeWidth) 1 = .ok (.ifCond .ne 13, 3) := by decide +kernel
theorem d_M_planeWidth_4 : decode (iC M_M_planeWidth) 4 = .ok (.bipush 16, 2) := by decide +kernel
theorem d_M_planeWidth_6 : decode (iC M_M_planeWidth) 6 = .ok (.aload_n 0, 1) := by decide +kernel
theorem d_M_planeWidth_7 : decode (iC M_M_planeWidth) 7 = .ok (.getfield 35, 3) := by decide +kernel
theorem d_M_planeWidth_10 : decode (iC M_M_planeWidth) 10 = .ok (.imul, 1) := by decide +kernel
theorem d_M_planeWidth_11 : decode (iC M_M_planeWidth) 11 = .ok (.goto 10, 3) := by decide +kernel
theorem d_M_planeWidth_14 : decode (iC M_M_planeWidth) 14 = .ok (.bipush 8, 2) := by decide +kernel
theorem d_M_planeWidth_16 : decode (iC M_M_planeWidth) 16 = .ok (.aload_n 0, 1) := by decide +kernel
theorem d_M_planeWidth_17 : decode (iC M_M_planeWidth) 17 = .ok (.getfield 35, 3) := by decide +kernel
theorem d_M_planeWidth_20 : decode (iC M_M_planeWidth) 20 = .ok (.imul, 1) := by decide +kernel
theorem d_M_planeWidth_21 : decode (iC M_M_planeWidth) 21 = .ok (.ireturn, 1) := by decide +kernel
end
section
theorem d_M_foretoldDot_0 : decode (iC M_M_foretoldDot) 0 = .ok (.aload_n 0, 1) := by decide +kernel
theorem d_M_foretoldDot_1 : decode (iC M_M_foretoldDot) 1 = .ok (.getfield 79, 3) := by decide +kernel
theorem d_M_foretoldDot_4 : decode (iC M_M_foretoldDot) 4 = .ok (.ifCond .eq 40, 3) := by decide +kernel
theorem d_M_foretoldDot_7 : decode (iC M_M_foretoldDot) 7 = .ok (.aload_n 0, 1) := by decide +kernel
theorem d_M_foretoldDot_8 : decode (iC M_M_foretoldDot) 8 = .ok (.getfield 83, 3) := by decide +kernel
theorem d_M_foretoldDot_11 : decode (iC M_M_foretoldDot) 11 = .ok (.ifCond .eq 33, 3) := by decide +kernel
theorem d_M_foretoldDot_14 : decode (iC M_M_foretoldDot) 14 = .ok (.aload_n 0, 1) := by decide +kernel
theorem d_M_foretoldDot_15 : decode (iC M_M_foretoldDot) 15 = .ok (.aload_n 0, 1) := by decide +kernel
theorem d_M_foretoldDot_16 : decode (iC M_M_foretoldDot) 16 = .ok (.invokevirtual 86, 3) := by decide +kernel
theorem d_M_foretoldDot_19 : decode (iC M_M_foretoldDot) 19 = .ok (.iload_n 1, 1) := by decide +kernel
theorem d_M_foretoldDot_20 : decode (iC M_M_foretoldDot) 20 = .ok (.iload_n 2, 1) := by decide +kernel
theorem d_M_foretoldDot_21 : decode (iC M_M_foretoldDot) 21 = .ok (.iload_n 3, 1) := by decide +kernel
theorem d_M_foretoldDot_22 : decode (iC M_M_foretoldDot) 22 = .ok (.iconst 0, 1) := by decide +kernel
theorem d_M_foretoldDot_23 : decode (iC M_M_foretoldDot) 23 = .ok (.invokevirtual 90, 3) := by decide +kernel
theorem d_M_foretoldDot_26 : decode (iC M_M_foretoldDot) 26 = .ok (.aload_n 0, 1) := by decide +kernel
theorem d_M_foretoldDot_27 : decode (iC M_M_foretoldDot) 27 = .ok (.aload_n 0, 1) := by decide +kernel
theorem d_M_foretoldDot_28 : decode (iC M_M_foretoldDot) 28 = .ok (.getfield 73, 3) := by decide +kernel
theorem d_M_foretoldDot_31 : decode (iC M_M_foretoldDot) 31 = .ok (.iload_n 1, 1) := by decide +kernel
theorem d_M_foretoldDot_32 : decode (iC M_M_foretoldDot) 32 = .ok (.iload_n 2, 1) := by decide +kernel
theorem d_M_foretoldDot_33 : decode (iC M_M_foretoldDot) 33 = .ok (.iload_n 3, 1) := by decide +kernel
theorem d_M_foretoldDot_34 : decode (iC M_M_foretoldDot) 34 = .ok (.iconst 1, 1) := by decide +kernel
theorem d_M_foretoldDot_35 : decode (iC M_M_foretoldDot) 35 = .ok (.invokevirtual 90, 3) := by decide +kernel
theorem d_M_foretoldDot_38 : decode (iC M_M_foretoldDot) 38 = .ok (.iadd, 1) := by decide +kernel
theorem d_M_foretoldDot_39 : decode (iC M_M_foretoldDot) 39 = .ok (.iconst 1, 1) := by decide +kernel
theorem d_M_foretoldDot_40 : decode (iC M_M_foretoldDot) 40 = .ok (.iadd, 1) := by decide +kernel
theorem d_M_foretoldDot_41 : decode (iC M_M_foretoldDot) 41 = .ok (.iconst 1, 1) := by decide +kernel
theorem d_M_foretoldDot_42 : decode (iC M_M_foretoldDot) 42 = .ok (.ishr, 1) := by decide +kernel
theorem d_M_foretoldDot_43 : decode (iC M_M_foretoldDot) 43 = .ok (.ireturn, 1) := by decide +kernel
theorem d_M_foretoldDot_44 : decode (iC M_M_foretoldDot) 44 = .ok (.aload_n 0, 1) := by decide +kernel
theorem d_M_foretoldDot_45 : decode (iC M_M_foretoldDot) 45 = .ok (.getfield 79, 3) := by decide +kernel
theorem d_M_foretoldDot_48 : decode (iC M_M_foretoldDot) 48 = .ok (.ifCond .eq 18, 3) := by decide +kernel
theorem d_M_foretoldDot_51 : decode (iC M_M_foretoldDot) 51 = .ok (.aload_n 0, 1) := by decide +kernel
theorem d_M_foretoldDot_52 : decode (iC M_M_foretoldDot) 52 = .ok (.aload_n 0, 1) := by decide +kernel
theorem d_M_foretoldDot_53 : decode (iC M_M_foretoldDot) 53 = .ok (.invokevirtual 86, 3) := by decide +kernel
theorem d_M_foretoldDot_56 : decode (iC M_M_foretoldDot) 56 = .ok (.iload_n 1, 1) := by decide +kernel
theorem d_M_foretoldDot_57 : decode (iC M_M_foretoldDot) 57 = .ok (.iload_n 2, 1) := by decide +kernel
theorem d_M_foretoldDot_58 : decode (iC M_M_foretoldDot) 58 = .ok (.iload_n 3, 1) := by decide +kernel
theorem d_M_foretoldDot_59 : decode (iC M_M_foretoldDot) 59 = .ok (.iconst 0, 1) := by decide +kernel
theorem d_M_foretoldDot_60 : decode (iC M_M_foretoldDot) 60 = .ok (.invokevirtual 90, 3) := by decide +kernel
theorem d_M_foretoldDot_63 : decode (iC M_M_foretoldDot) 63 = .ok (.goto 15, 3) := by decide +kernel
theorem d_M_foretoldDot_66 : decode (iC M_M_foretoldDot) 66 = .ok (.aload_n 0, 1) := by decide +kernel
theorem d_M_foretoldDot_67 : decode (iC M_M_foretoldDot) 67 = .ok (.aload_n 0, 1) := by decide +kernel
theorem d_M_foretoldDot_68 : decode (iC M_M_foretoldDot) 68 = .ok (.getfield 73, 3) := by decide +kernel
theorem d_M_foretoldDot_71 : decode (iC M_M_foretoldDot) 71 = .ok (.iload_n 1, 1) := by decide +kernel
theorem d_M_foretoldDot_72 : decode (iC M_M_foretoldDot) 72 = .ok (.iload_n 2, 1) := by decide +kernel
theorem d_M_foretoldDot_73 : decode (iC M_M_foretoldDot) 73 = .ok (.iload_n 3, 1) := by decide +kernel
theorem d_M_foretoldDot_74 : decode (iC M_M_foretoldDot) 74 = .ok (.iconst 1, 1) := by decide +kernel
theorem d_M_foretoldDot_75 : decode (iC M_M_foretoldDot) 75 = .ok (.invokevirtual 90, 3) := by decide +kernel
theorem d_M_foretoldDot_78 : decode (iC M_M_foretoldDot) 78 = .ok (.ireturn, 1) := by decide +kernel
theorem d_M_forward_0 : decode (iC M_M_forward) 0 = .ok (.aload_n 0, 1) := by decide +kernel
theorem d_M_forward_1 : decode (iC M_M_forward) 1 = .ok (.getfield 70, 3) := by decide +kernel
theorem d_M_forward_4 : decode (iC M_M_forward) 4 = .ok (.iconst 2, 1) := by decide +kernel
theorem d_M_forward_5 : decode (iC M_M_forward) 5 = .ok (.if_icmp .ne 10, 3) := by decide +kernel
theorem d_M_forward_8 : decode (iC M_M_forward) 8 = .ok (.aload_n 0, 1) := by decide +kernel
theorem d_M_forward_9 : decode (iC M_M_forward) 9 = .ok (.getfield 73, 3) := by decide +kernel
theorem d_M_forward_12 : decode (iC M_M_forward) 12 = .ok (.goto 7, 3) := by decide +kernel
theorem d_M_forward_15 : decode (iC M_M_forward) 15 = .ok (.aload_n 0, 1) := by decide +kernel
theorem d_M_forward_16 : decode (iC M_M_forward) 16 = .ok (.getfield 76, 3) := by decide +kernel
theorem d_M_forward_19 : decode (iC M_M_forward) 19 = .ok (.areturn, 1) := by decide +kernel
theorem d_M_moved_0 : decode (iC M_M_moved) 0 = .ok (.aload_n 0, 1) := by decide +kernel
theorem d_M_moved_1 : decode (iC M_M_moved) 1 = .ok (.getfield 64, 3) := by decide +kernel
theorem d_M_moved_4 : decode (iC M_M_moved) 4 = .ok (.iconst 2, 1) := by decide +kernel
theorem d_M_moved_5 : decode (iC M_M_moved) 5 = .ok (.iload 5, 2) := by decide +kernel
theorem d_M_moved_7 : decode (iC M_M_moved) 7 = .ok (.imul, 1) := by decide +kernel
theorem d_M_moved_8 : decode (iC M_M_moved) 8 = .ok (.iaload, 1) := by decide +kernel
theorem d_M_moved_9 : decode (iC M_M_moved) 9 = .ok (.istore 6, 2) := by decide +kernel
theorem d_M_moved_11 : decode (iC M_M_moved) 11 = .ok (.aload_n 0, 1) := by decide +kernel
theorem d_M_moved_12 : decode (iC M_M_moved) 12 = .ok (.getfield 64, 3) := by decide +kernel
theorem d_M_moved_15 : decode (iC M_M_moved) 15 = .ok (.iconst 2, 1) := by decide +kernel
theorem d_M_moved_16 : decode (iC M_M_moved) 16 = .ok (.iload 5, 2) := by decide +kernel
theorem d_M_moved_18 : decode (iC M_M_moved) 18 = .ok (.imul, 1) := by decide +kernel
theorem d_M_moved_19 : decode (iC M_M_moved) 19 = .ok (.iconst 1, 1) := by decide +kernel
theorem d_M_moved_20 : decode (iC M_M_moved) 20 = .ok (.iadd, 1) := by decide +kernel
theorem d_M_moved_21 : decode (iC M_M_moved) 21 = .ok (.iaload, 1) := by decide +kernel
theorem d_M_moved_22 : decode (iC M_M_moved) 22 = .ok (.istore 7, 2) := by decide +kernel
theorem d_M_moved_24 : decode (iC M_M_moved) 24 = .ok (.iload_n 2, 1) := by decide +kernel
theorem d_M_moved_25 : decode (iC M_M_moved) 25 = .ok (.ifCond .le 15, 3) := by decide +kernel
theorem d_M_moved_28 : decode (iC M_M_moved) 28 = .ok (.iload 6, 2) := by decide +kernel
theorem d_M_moved_30 : decode (iC M_M_moved) 30 = .ok (.iconst 2, 1) := by decide +kernel
theorem d_M_moved_31 : decode (iC M_M_moved) 31 = .ok (.idiv, 1) := by decide +kernel
theorem d_M_moved_32 : decode (iC M_M_moved) 32 = .ok (.istore 6, 2) := by decide +kernel
theorem d_M_moved_34 : decode (iC M_M_moved) 34 = .ok (.iload 7, 2) := by decide +kernel
theorem d_M_moved_36 : decode (iC M_M_moved) 36 = .ok (.iconst 2, 1) := by decide +kernel
theorem d_M_moved_37 : decode (iC M_M_moved) 37 = .ok (.idiv, 1) := by decide +kernel
theorem d_M_moved_38 : decode (iC M_M_moved) 38 = .ok (.istore 7, 2) := by decide +kernel
theorem d_M_moved_40 : decode (iC M_M_moved) 40 = .ok (.aload_n 0, 1) := by decide +kernel
theorem d_M_moved_41 : decode (iC M_M_moved) 41 = .ok (.aload_n 1, 1) := by decide +kernel
theorem d_M_moved_42 : decode (iC M_M_moved) 42 = .ok (.iload_n 2, 1) := by decide +kernel
theorem d_M_moved_43 : decode (iC M_M_moved) 43 = .ok (.iconst 2, 1) := by decide +kernel
theorem d_M_moved_44 : decode (iC M_M_moved) 44 = .ok (.iload_n 3, 1) := by decide +kernel
theorem d_M_moved_45 : decode (iC M_M_moved) 45 = .ok (.imul, 1) := by decide +kernel
theorem d_M_moved_46 : decode (iC M_M_moved) 46 = .ok (.iload 6, 2) := by decide +kernel
theorem d_M_moved_48 : decode (iC M_M_moved) 48 = .ok (.iadd, 1) := by decide +kernel
theorem d_M_moved_49 : decode (iC M_M_moved) 49 = .ok (.iconst 2, 1) := by decide +kernel
theorem d_M_moved_50 : decode (iC M_M_moved) 50 = .ok (.iload 4, 2) := by decide +kernel
theorem d_M_moved_52 : decode (iC M_M_moved) 52 = .ok (.imul, 1) := by decide +kernel
theorem d_M_moved_53 : decode (iC M_M_moved) 53 = .ok (.iload 7, 2) := by decide +kernel
theorem d_M_moved_55 : decode (iC M_M_moved) 55 = .ok (.iadd, 1) := by decide +kernel
theorem d_M_moved_56 : decode (iC M_M_moved) 56 = .ok (.invokevirtual 67, 3) := by decide +kernel
theorem d_M_moved_59 : decode (iC M_M_moved) 59 = .ok (.ireturn, 1) := by decide +kernel
theorem d_M_between_0 : decode (iC M_M_between) 0 = .ok (.iload_n 3, 1) := by decide +kernel
theorem d_M_between_1 : decode (iC M_M_between) 1 = .ok (.iconst 1, 1) := by decide +kernel
theorem d_M_between_2 : decode (iC M_M_between) 2 = .ok (.ishr, 1) := by decide +kernel
theorem d_M_between_3 : decode (iC M_M_between) 3 = .ok (.istore 5, 2) := by decide +kernel
theorem d_M_between_5 : decode (iC M_M_between) 5 = .ok (.iload 4, 2) := by decide +kernel
theorem d_M_between_7 : decode (iC M_M_between) 7 = .ok (.iconst 1, 1) := by decide +kernel
theorem d_M_between_8 : decode (iC M_M_between) 8 = .ok (.ishr, 1) := by decide +kernel
theorem d_M_between_9 : decode (iC M_M_between) 9 = .ok (.istore 6, 2) := by decide +kernel
theorem d_M_between_11 : decode (iC M_M_between) 11 = .ok (.aload_n 0, 1) := by decide +kernel
theorem d_M_between_12 : decode (iC M_M_between) 12 = .ok (.aload_n 1, 1) := by decide +kernel
theorem d_M_between_13 : decode (iC M_M_between) 13 = .ok (.iload_n 2, 1) := by decide +kernel
theorem d_M_between_14 : decode (iC M_M_between) 14 = .ok (.iload 5, 2) := by decide +kernel
theorem d_M_between_16 : decode (iC M_M_between) 16 = .ok (.iload 6, 2) := by decide +kernel
theorem d_M_between_18 : decode (iC M_M_between) 18 = .ok (.invokevirtual 60, 3) := by decide +kernel
theorem d_M_between_21 : decode (iC M_M_between) 21 = .ok (.istore 7, 2) := by decide +kernel
theorem d_M_between_23 : decode (iC M_M_between) 23 = .ok (.iload_n 3, 1) := by decide +kernel
theorem d_M_between_24 : decode (iC M_M_between) 24 = .ok (.iconst 2, 1) := by decide +kernel
theorem d_M_between_25 : decode (iC M_M_between) 25 = .ok (.irem, 1) := by decide +kernel
theorem d_M_between_26 : decode (iC M_M_between) 26 = .ok (.ifCond .ne 13, 3) := by decide +kernel
theorem d_M_between_29 : decode (iC M_M_between) 29 = .ok (.iload 4, 2) := by decide +kernel
theorem d_M_between_31 : decode (iC M_M_between) 31 = .ok (.iconst 2, 1) := by decide +kernel
theorem d_M_between_32 : decode (iC M_M_between) 32 = .ok (.irem, 1) := by decide +kernel
theorem d_M_between_33 : decode (iC M_M_between) 33 = .ok (.ifCond .ne 6, 3) := by decide +kernel
theorem d_M_between_36 : decode (iC M_M_between) 36 = .ok (.iload 7, 2) := by decide +kernel
theorem d_M_between_38 : decode (iC M_M_between) 38 = .ok (.ireturn, 1) := by decide +kernel
theorem d_M_between_39 : decode (iC M_M_between) 39 = .ok (.iload 4, 2) := by decide +kernel
theorem d_M_between_41 : decode (iC M_M_between) 41 = .ok (.iconst 2, 1) := by decide +kernel
theorem d_M_between_42 : decode (iC M_M_between) 42 = .ok (.irem, 1) := by decide +kernel
theorem d_M_between_43 : decode (iC M_M_between) 43 = .ok (.ifCond .ne 23, 3) := by decide +kernel
theorem d_M_between_46 : decode (iC M_M_between) 46 = .ok (.iload 7, 2) := by decide +kernel
theorem d_M_between_48 : decode (iC M_M_between) 48 = .ok (.aload_n 0, 1) := by decide +kernel
theorem d_M_between_49 : decode (iC M_M_between) 49 = .ok (.aload_n 1, 1) := by decide +kernel
theorem d_M_between_50 : decode (iC M_M_between) 50 = .ok (.iload_n 2, 1) := by decide +kernel
theorem d_M_between_51 : decode (iC M_M_between) 51 = .ok (.iload 5, 2) := by decide +kernel
theorem d_M_between_53 : decode (iC M_M_between) 53 = .ok (.iconst 1, 1) := by decide +kernel
theorem d_M_between_54 : decode (iC M_M_between) 54 = .ok (.iadd, 1) := by decide +kernel
theorem d_M_between_55 : decode (iC M_M_between) 55 = .ok (.iload 6, 2) := by decide +kernel
theorem d_M_between_57 : decode (iC M_M_between) 57 = .ok (.invokevirtual 60, 3) := by decide +kernel
theorem d_M_between_60 : decode (iC M_M_between) 60 = .ok (.iadd, 1) := by decide +kernel
theorem d_M_between_61 : decode (iC M_M_between) 61 = .ok (.iconst 1, 1) := by decide +kernel
theorem d_M_between_62 : decode (iC M_M_between) 62 = .ok (.iadd, 1) := by decide +kernel
theorem d_M_between_63 : decode (iC M_M_between) 63 = .ok (.iconst 1, 1) := by decide +kernel
theorem d_M_between_64 : decode (iC M_M_between) 64 = .ok (.ishr, 1) := by decide +kernel
theorem d_M_between_65 : decode (iC M_M_between) 65 = .ok (.ireturn, 1) := by decide +kernel
theorem d_M_between_66 : decode (iC M_M_between) 66 = .ok (.iload_n 3, 1) := by decide +kernel
theorem d_M_between_67 : decode (iC M_M_between) 67 = .ok (.iconst 2, 1) := by decide +kernel
theorem d_M_between_68 : decode (iC M_M_between) 68 = .ok (.irem, 1) := by decide +kernel
theorem d_M_between_69 : decode (iC M_M_between) 69 = .ok (.ifCond .ne 23, 3) := by decide +kernel
theorem d_M_between_72 : decode (iC M_M_between) 72 = .ok (.iload 7, 2) := by decide +kernel
theorem d_M_between_74 : decode (iC M_M_between) 74 = .ok (.aload_n 0, 1) := by decide +kernel
theorem d_M_between_75 : decode (iC M_M_between) 75 = .ok (.aload_n 1, 1) := by decide +kernel
theorem d_M_between_76 : decode (iC M_M_between) 76 = .ok (.iload_n 2, 1) := by decide +kernel
theorem d_M_between_77 : decode (iC M_M_between) 77 = .ok (.iload 5, 2) := by decide +kernel
theorem d_M_between_79 : decode (iC M_M_between) 79 = .ok (.iload 6, 2) := by decide +kernel
theorem d_M_between_81 : decode (iC M_M_between) 81 = .ok (.iconst 1, 1) := by decide +kernel
theorem d_M_between_82 : decode (iC M_M_between) 82 = .ok (.iadd, 1) := by decide +kernel
theorem d_M_between_83 : decode (iC M_M_between) 83 = .ok (.invokevirtual 60, 3) := by decide +kernel
theorem d_M_between_86 : decode (iC M_M_between) 86 = .ok (.iadd, 1) := by decide +kernel
theorem d_M_between_87 : decode (iC M_M_between) 87 = .ok (.iconst 1, 1) := by decide +kernel
theorem d_M_between_88 : decode (iC M_M_between) 88 = .ok (.iadd, 1) := by decide +kernel
theorem d_M_between_89 : decode (iC M_M_between) 89 = .ok (.iconst 1, 1) := by decide +kernel
theorem d_M_between_90 : decode (iC M_M_between) 90 = .ok (.ishr, 1) := by decide +kernel
theorem d_M_between_91 : decode (iC M_M_between) 91 = .ok (.ireturn, 1) := by decide +kernel
theorem d_M_between_92 : decode (iC M_M_between) 92 = .ok (.iload 7, 2) := by decide +kernel
theorem d_M_between_94 : decode (iC M_M_between) 94 = .ok (.aload_n 0, 1) := by decide +kernel
theorem d_M_between_95 : decode (iC M_M_between) 95 = .ok (.aload_n 1, 1) := by decide +kernel
theorem d_M_between_96 : decode (iC M_M_between) 96 = .ok (.iload_n 2, 1) := by decide +kernel
theorem d_M_between_97 : decode (iC M_M_between) 97 = .ok (.iload 5, 2) := by decide +kernel
theorem d_M_between_99 : decode (iC M_M_between) 99 = .ok (.iconst 1, 1) := by decide +kernel
theorem d_M_between_100 : decode (iC M_M_between) 100 = .ok (.iadd, 1) := by decide +kernel
theorem d_M_between_101 : decode (iC M_M_between) 101 = .ok (.iload 6, 2) := by decide +kernel
theorem d_M_between_103 : decode (iC M_M_between) 103 = .ok (.invokevirtual 60, 3) := by decide +kernel
theorem d_M_between_106 : decode (iC M_M_between) 106 = .ok (.iadd, 1) := by decide +kernel
theorem d_M_between_107 : decode (iC M_M_between) 107 = .ok (.aload_n 0, 1) := by decide +kernel
theorem d_M_between_108 : decode (iC M_M_between) 108 = .ok (.aload_n 1, 1) := by decide +kernel
theorem d_M_between_109 : decode (iC M_M_between) 109 = .ok (.iload_n 2, 1) := by decide +kernel
theorem d_M_between_110 : decode (iC M_M_between) 110 = .ok (.iload 5, 2) := by decide +kernel
theorem d_M_between_112 : decode (iC M_M_between) 112 = .ok (.iload 6, 2) := by decide +kernel
theorem d_M_between_114 : decode (iC M_M_between) 114 = .ok (.iconst 1, 1) := by decide +kernel
theorem d_M_between_115 : decode (iC M_M_between) 115 = .ok (.iadd, 1) := by decide +kernel
theorem d_M_between_116 : decode (iC M_M_between) 116 = .ok (.invokevirtual 60, 3) := by decide +kernel
theorem d_M_between_119 : decode (iC M_M_between) 119 = .ok (.iadd, 1) := by decide +kernel
theorem d_M_between_120 : decode (iC M_M_between) 120 = .ok (.aload_n 0, 1) := by decide +kernel
theorem d_M_between_121 : decode (iC M_M_between) 121 = .ok (.aload_n 1, 1) := by decide +kernel
theorem d_M_between_122 : decode (iC M_M_between) 122 = .ok (.iload_n 2, 1) := by decide +kernel
theorem d_M_between_123 : decode (iC M_M_between) 123 = .ok (.iload 5, 2) := by decide +kernel
theorem d_M_between_125 : decode (iC M_M_between) 125 = .ok (.iconst 1, 1) := by decide +kernel
theorem d_M_between_126 : decode (iC M_M_between) 126 = .ok (.iadd, 1) := by decide +kernel
theorem d_M_between_127 : decode (iC M_M_between) 127 = .ok (.iload 6, 2) := by decide +kernel
theorem d_M_between_129 : decode (iC M_M_between) 129 = .ok (.iconst 1, 1) := by decide +kernel
theorem d_M_between_130 : decode (iC M_M_between) 130 = .ok (.iadd, 1) := by decide +kernel
theorem d_M_between_131 : decode (iC M_M_between) 131 = .ok (.invokevirtual 60, 3) := by decide +kernel
theorem d_M_between_134 : decode (iC M_M_between) 134 = .ok (.iadd, 1) := by decide +kernel
theorem d_M_between_135 : decode (iC M_M_between) 135 = .ok (.iconst 2, 1) := by decide +kernel
theorem d_M_between_136 : decode (iC M_M_between) 136 = .ok (.iadd, 1) := by decide +kernel
theorem d_M_between_137 : decode (iC M_M_between) 137 = .ok (.iconst 2, 1) := by decide +kernel
theorem d_M_between_138 : decode (iC M_M_between) 138 = .ok (.ishr, 1) := by decide +kernel
theorem d_M_between_139 : decode (iC M_M_between) 139 = .ok (.ireturn, 1) := by decide +kernel
theorem d_M_dotOf_0 : decode (iC M_M_dotOf) 0 = .ok (.aload_n 0, 1) := by decide +kernel
theorem d_M_dotOf_1 : decode (iC M_M_dotOf) 1 = .ok (.iload_n 2, 1) := by decide +kernel
theorem d_M_dotOf_2 : decode (iC M_M_dotOf) 2 = .ok (.invokevirtual 51, 3) := by decide +kernel
theorem d_M_dotOf_5 : decode (iC M_M_dotOf) 5 = .ok (.istore 5, 2) := by decide +kernel
theorem d_M_dotOf_7 : decode (iC M_M_dotOf) 7 = .ok (.aload_n 0, 1) := by decide +kernel
theorem d_M_dotOf_8 : decode (iC M_M_dotOf) 8 = .ok (.iload_n 2, 1) := by decide +kernel
theorem d_M_dotOf_9 : decode (iC M_M_dotOf) 9 = .ok (.invokevirtual 54, 3) := by decide +kernel
theorem d_M_dotOf_12 : decode (iC M_M_dotOf) 12 = .ok (.istore 6, 2) := by decide +kernel
theorem d_M_dotOf_14 : decode (iC M_M_dotOf) 14 = .ok (.iload_n 3, 1) := by decide +kernel
theorem d_M_dotOf_15 : decode (iC M_M_dotOf) 15 = .ok (.ifCond .ge 7, 3) := by decide +kernel
theorem d_M_dotOf_18 : decode (iC M_M_dotOf) 18 = .ok (.iconst 0, 1) := by decide +kernel
theorem d_M_dotOf_19 : decode (iC M_M_dotOf) 19 = .ok (.goto 17, 3) := by decide +kernel
theorem d_M_dotOf_22 : decode (iC M_M_dotOf) 22 = .ok (.iload_n 3, 1) := by decide +kernel
theorem d_M_dotOf_23 : decode (iC M_M_dotOf) 23 = .ok (.iload 5, 2) := by decide +kernel
theorem d_M_dotOf_25 : decode (iC M_M_dotOf) 25 = .ok (.if_icmp .lt 10, 3) := by decide +kernel
theorem d_M_dotOf_28 : decode (iC M_M_dotOf) 28 = .ok (.iload 5, 2) := by decide +kernel
theorem d_M_dotOf_30 : decode (iC M_M_dotOf) 30 = .ok (.iconst 1, 1) := by decide +kernel
theorem d_M_dotOf_31 : decode (iC M_M_dotOf) 31 = .ok (.isub, 1) := by decide +kernel
theorem d_M_dotOf_32 : decode (iC M_M_dotOf) 32 = .ok (.goto 4, 3) := by decide +kernel
theorem d_M_dotOf_35 : decode (iC M_M_dotOf) 35 = .ok (.iload_n 3, 1) := by decide +kernel
theorem d_M_dotOf_36 : decode (iC M_M_dotOf) 36 = .ok (.istore 7, 2) := by decide +kernel
theorem d_M_dotOf_38 : decode (iC M_M_dotOf) 38 = .ok (.iload 4, 2) := by decide +kernel
theorem d_M_dotOf_40 : decode (iC M_M_dotOf) 40 = .ok (.ifCond .ge 7, 3) := by decide +kernel
theorem d_M_dotOf_43 : decode (iC M_M_dotOf) 43 = .ok (.iconst 0, 1) := by decide +kernel
theorem d_M_dotOf_44 : decode (iC M_M_dotOf) 44 = .ok (.goto 19, 3) := by decide +kernel
theorem d_M_dotOf_47 : decode (iC M_M_dotOf) 47 = .ok (.iload 4, 2) := by decide +kernel
theorem d_M_dotOf_49 : decode (iC M_M_dotOf) 49 = .ok (.iload 6, 2) := by decide +kernel
theorem d_M_dotOf_51 : decode (iC M_M_dotOf) 51 = .ok (.if_icmp .lt 10, 3) := by decide +kernel
theorem d_M_dotOf_54 : decode (iC M_M_dotOf) 54 = .ok (.iload 6, 2) := by decide +kernel
theorem d_M_dotOf_56 : decode (iC M_M_dotOf) 56 = .ok (.iconst 1, 1) := by decide +kernel
theorem d_M_dotOf_57 : decode (iC M_M_dotOf) 57 = .ok (.isub, 1) := by decide +kernel
theorem d_M_dotOf_58 : decode (iC M_M_dotOf) 58 = .ok (.goto 5, 3) := by decide +kernel
theorem d_M_dotOf_61 : decode (iC M_M_dotOf) 61 = .ok (.iload 4, 2) := by decide +kernel
theorem d_M_dotOf_63 : decode (iC M_M_dotOf) 63 = .ok (.istore 8, 2) := by decide +kernel
theorem d_M_dotOf_65 : decode (iC M_M_dotOf) 65 = .ok (.aload_n 1, 1) := by decide +kernel
theorem d_M_dotOf_66 : decode (iC M_M_dotOf) 66 = .ok (.aload_n 0, 1) := by decide +kernel
theorem d_M_dotOf_67 : decode (iC M_M_dotOf) 67 = .ok (.iload_n 2, 1) := by decide +kernel
theorem d_M_dotOf_68 : decode (iC M_M_dotOf) 68 = .ok (.invokevirtual 57, 3) := by decide +kernel
theorem d_M_dotOf_71 : decode (iC M_M_dotOf) 71 = .ok (.iload 5, 2) := by decide +kernel
theorem d_M_dotOf_73 : decode (iC M_M_dotOf) 73 = .ok (.iload 8, 2) := by decide +kernel
theorem d_M_dotOf_75 : decode (iC M_M_dotOf) 75 = .ok (.imul, 1) := by decide +kernel
theorem d_M_dotOf_76 : decode (iC M_M_dotOf) 76 = .ok (.iadd, 1) := by decide +kernel
theorem d_M_dotOf_77 : decode (iC M_M_dotOf) 77 = .ok (.iload 7, 2) := by decide +kernel
theorem d_M_dotOf_79 : decode (iC M_M_dotOf) 79 = .ok (.iadd, 1) := by decide +kernel
theorem d_M_dotOf_80 : decode (iC M_M_dotOf) 80 = .ok (.iaload, 1) := by decide +kernel
theorem d_M_dotOf_81 : decode (iC M_M_dotOf) 81 = .ok (.ireturn, 1) := by decide +kernel
theorem d_M_planeHeight_0 : decode (iC M_M_planeHeight) 0 = .ok (.iload_n 1, 1) := by decide +kernel
theorem d_M_planeHeight_1 : decode (iC M_M_planeHeight) 1 = .ok (.ifCond .ne 13, 3) := by decide +kernel
theorem d_M_planeHeight_4 : decode (iC M_M_planeHeight) 4 = .ok (.bipush 16, 2) := by decide +kernel
theorem d_M_planeHeight_6 : decode (iC M_M_planeHeight) 6 = .ok (.aload_n 0, 1) := by decide +kernel
theorem d_M_planeHeight_7 : decode (iC M_M_planeHeight) 7 = .ok (.getfield 38, 3) := by decide +kernel
theorem d_M_planeHeight_10 : decode (iC M_M_planeHeight) 10 = .ok (.imul, 1) := by decide +kernel
theorem d_M_planeHeight_11 : decode (iC M_M_planeHeight) 11 = .ok (.goto 10, 3) := by decide +kernel
theorem d_M_planeHeight_14 : decode (iC M_M_planeHeight) 14 = .ok (.bipush 8, 2) := by decide +kernel
theorem d_M_planeHeight_16 : decode (iC M_M_planeHeight) 16 = .ok (.aload_n 0, 1) := by decide +kernel
theorem d_M_planeHeight_17 : decode (iC M_M_planeHeight) 17 = .ok (.getfield 38, 3) := by decide +kernel
theorem d_M_planeHeight_20 : decode (iC M_M_planeHeight) 20 = .ok (.imul, 1) := by decide +kernel
theorem d_M_planeHeight_21 : decode (iC M_M_planeHeight) 21 = .ok (.ireturn, 1) := by decide +kernel
theorem d_M_square_0 : decode (iC M_M_square) 0 = .ok (.aload_n 0, 1) := by decide +kernel
theorem d_M_square_1 : decode (iC M_M_square) 1 = .ok (.aload_n 0, 1) := by decide +kernel
theorem d_M_square_2 : decode (iC M_M_square) 2 = .ok (.getfield 70, 3) := by decide +kernel
theorem d_M_square_5 : decode (iC M_M_square) 5 = .ok (.iconst 1, 1) := by decide +kernel
theorem d_M_square_6 : decode (iC M_M_square) 6 = .ok (.if_icmp .eq 11, 3) := by decide +kernel
theorem d_M_square_9 : decode (iC M_M_square) 9 = .ok (.aload_n 0, 1) := by decide +kernel
theorem d_M_square_10 : decode (iC M_M_square) 10 = .ok (.invokevirtual 24, 3) := by decide +kernel
theorem d_M_square_13 : decode (iC M_M_square) 13 = .ok (.iconst 1, 1) := by decide +kernel
theorem d_M_square_14 : decode (iC M_M_square) 14 = .ok (.if_icmp .ne 7, 3) := by decide +kernel
theorem d_M_square_17 : decode (iC M_M_square) 17 = .ok (.iconst 1, 1) := by decide +kernel
theorem d_M_square_18 : decode (iC M_M_square) 18 = .ok (.goto 4, 3) := by decide +kernel
theorem d_M_square_21 : decode (iC M_M_square) 21 = .ok (.iconst 0, 1) := by decide +kernel
theorem d_M_square_22 : decode (iC M_M_square) 22 = .ok (.putfield 132, 3) := by decide +kernel
theorem d_M_square_25 : decode (iC M_M_square) 25 = .ok (.aload_n 0, 1) := by decide +kernel
theorem d_M_square_26 : decode (iC M_M_square) 26 = .ok (.iconst 0, 1) := by decide +kernel
theorem d_M_square_27 : decode (iC M_M_square) 27 = .ok (.putfield 79, 3) := by decide +kernel
theorem d_M_square_30 : decode (iC M_M_square) 30 = .ok (.aload_n 0, 1) := by decide +kernel
theorem d_M_square_31 : decode (iC M_M_square) 31 = .ok (.iconst 0, 1) := by decide +kernel
theorem d_M_square_32 : decode (iC M_M_square) 32 = .ok (.putfield 83, 3) := by decide +kernel
theorem d_M_square_35 : decode (iC M_M_square) 35 = .ok (.iconst 0, 1) := by decide +kernel
theorem d_M_square_36 : decode (iC M_M_square) 36 = .ok (.istore_n 2, 1) := by decide +kernel
theorem d_M_square_37 : decode (iC M_M_square) 37 = .ok (.aload_n 0, 1) := by decide +kernel
theorem d_M_square_38 : decode (iC M_M_square) 38 = .ok (.getfield 132, 3) := by decide +kernel
theorem d_M_square_41 : decode (iC M_M_square) 41 = .ok (.ifCond .ne 33, 3) := by decide +kernel
theorem d_M_square_44 : decode (iC M_M_square) 44 = .ok (.aload_n 0, 1) := by decide +kernel
theorem d_M_square_45 : decode (iC M_M_square) 45 = .ok (.getfield 70, 3) := by decide +kernel
theorem d_M_square_48 : decode (iC M_M_square) 48 = .ok (.iconst 2, 1) := by decide +kernel
theorem d_M_square_49 : decode (iC M_M_square) 49 = .ok (.if_icmp .ne 25, 3) := by decide +kernel
theorem d_M_square_52 : decode (iC M_M_square) 52 = .ok (.aload_n 0, 1) := by decide +kernel
theorem d_M_square_53 : decode (iC M_M_square) 53 = .ok (.invokevirtual 24, 3) := by decide +kernel
theorem d_M_square_56 : decode (iC M_M_square) 56 = .ok (.iconst 1, 1) := by decide +kernel
theorem d_M_square_57 : decode (iC M_M_square) 57 = .ok (.if_icmp .ne 7, 3) := by decide +kernel
theorem d_M_square_60 : decode (iC M_M_square) 60 = .ok (.iconst 1, 1) := by decide +kernel
theorem d_M_square_61 : decode (iC M_M_square) 61 = .ok (.goto 4, 3) := by decide +kernel
theorem d_M_square_64 : decode (iC M_M_square) 64 = .ok (.iconst 0, 1) := by decide +kernel
theorem d_M_square_65 : decode (iC M_M_square) 65 = .ok (.istore_n 2, 1) := by decide +kernel
theorem d_M_square_66 : decode (iC M_M_square) 66 = .ok (.aload_n 0, 1) := by decide +kernel
theorem d_M_square_67 : decode (iC M_M_square) 67 = .ok (.iconst 1, 1) := by decide +kernel
theorem d_M_square_68 : decode (iC M_M_square) 68 = .ok (.putfield 79, 3) := by decide +kernel
theorem d_M_square_71 : decode (iC M_M_square) 71 = .ok (.goto 80, 3) := by decide +kernel
theorem d_M_square_74 : decode (iC M_M_square) 74 = .ok (.aload_n 0, 1) := by decide +kernel
theorem d_M_square_75 : decode (iC M_M_square) 75 = .ok (.getfield 132, 3) := by decide +kernel
theorem d_M_square_78 : decode (iC M_M_square) 78 = .ok (.ifCond .ne 73, 3) := by decide +kernel
theorem d_M_square_81 : decode (iC M_M_square) 81 = .ok (.aload_n 0, 1) := by decide +kernel
theorem d_M_square_82 : decode (iC M_M_square) 82 = .ok (.aload_n 0, 1) := by decide +kernel
theorem d_M_square_83 : decode (iC M_M_square) 83 = .ok (.invokevirtual 24, 3) := by decide +kernel
theorem d_M_square_86 : decode (iC M_M_square) 86 = .ok (.iconst 1, 1) := by decide +kernel
theorem d_M_square_87 : decode (iC M_M_square) 87 = .ok (.if_icmp .ne 7, 3) := by decide +kernel
theorem d_M_square_90 : decode (iC M_M_square) 90 = .ok (.iconst 1, 1) := by decide +kernel
theorem d_M_square_91 : decode (iC M_M_square) 91 = .ok (.goto 4, 3) := by decide +kernel
theorem d_M_square_94 : decode (iC M_M_square) 94 = .ok (.iconst 0, 1) := by decide +kernel
theorem d_M_square_95 : decode (iC M_M_square) 95 = .ok (.putfield 79, 3) := by decide +kernel
theorem d_M_square_98 : decode (iC M_M_square) 98 = .ok (.aload_n 0, 1) := by decide +kernel
theorem d_M_square_99 : decode (iC M_M_square) 99 = .ok (.aload_n 0, 1) := by decide +kernel
theorem d_M_square_100 : decode (iC M_M_square) 100 = .ok (.invokevirtual 24, 3) := by decide +kernel
theorem d_M_square_103 : decode (iC M_M_square) 103 = .ok (.iconst 1, 1) := by decide +kernel
theorem d_M_square_104 : decode (iC M_M_square) 104 = .ok (.if_icmp .ne 7, 3) := by decide +kernel
theorem d_M_square_107 : decode (iC M_M_square) 107 = .ok (.iconst 1, 1) := by decide +kernel
theorem d_M_square_108 : decode (iC M_M_square) 108 = .ok (.goto 4, 3) := by decide +kernel
theorem d_M_square_111 : decode (iC M_M_square) 111 = .ok (.iconst 0, 1) := by decide +kernel
theorem d_M_square_112 : decode (iC M_M_square) 112 = .ok (.putfield 83, 3) := by decide +kernel
theorem d_M_square_115 : decode (iC M_M_square) 115 = .ok (.aload_n 0, 1) := by decide +kernel
theorem d_M_square_116 : decode (iC M_M_square) 116 = .ok (.getfield 7, 3) := by decide +kernel
theorem d_M_square_119 : decode (iC M_M_square) 119 = .ok (.ifCond .ge 32, 3) := by decide +kernel
theorem d_M_square_122 : decode (iC M_M_square) 122 = .ok (.aload_n 0, 1) := by decide +kernel
theorem d_M_square_123 : decode (iC M_M_square) 123 = .ok (.getfield 79, 3) := by decide +kernel
theorem d_M_square_126 : decode (iC M_M_square) 126 = .ok (.ifCond .ne 25, 3) := by decide +kernel
theorem d_M_square_129 : decode (iC M_M_square) 129 = .ok (.aload_n 0, 1) := by decide +kernel
theorem d_M_square_130 : decode (iC M_M_square) 130 = .ok (.getfield 83, 3) := by decide +kernel
theorem d_M_square_133 : decode (iC M_M_square) 133 = .ok (.ifCond .ne 18, 3) := by decide +kernel
theorem d_M_square_136 : decode (iC M_M_square) 136 = .ok (.aload_n 0, 1) := by decide +kernel
theorem d_M_square_137 : decode (iC M_M_square) 137 = .ok (.aload_n 0, 1) := by decide +kernel
theorem d_M_square_138 : decode (iC M_M_square) 138 = .ok (.getfield 10, 3) := by decide +kernel
theorem d_M_square_141 : decode (iC M_M_square) 141 = .ok (.iconst 1, 1) := by decide +kernel
theorem d_M_square_142 : decode (iC M_M_square) 142 = .ok (.isub, 1) := by decide +kernel
theorem d_M_square_143 : decode (iC M_M_square) 143 = .ok (.invokevirtual 16, 3) := by decide +kernel
theorem d_M_square_146 : decode (iC M_M_square) 146 = .ok (.ifCond .eq 5, 3) := by decide +kernel
theorem d_M_square_149 : decode (iC M_M_square) 149 = .ok (.iconst 0, 1) := by decide +kernel
theorem d_M_square_150 : decode (iC M_M_square) 150 = .ok (.ireturn, 1) := by decide +kernel
theorem d_M_square_151 : decode (iC M_M_square) 151 = .ok (.aload_n 0, 1) := by decide +kernel
theorem d_M_square_152 : decode (iC M_M_square) 152 = .ok (.getfield 132, 3) := by decide +kernel
theorem d_M_square_155 : decode (iC M_M_square) 155 = .ok (.ifCond .ne 11, 3) := by decide +kernel
theorem d_M_square_158 : decode (iC M_M_square) 158 = .ok (.aload_n 0, 1) := by decide +kernel
theorem d_M_square_159 : decode (iC M_M_square) 159 = .ok (.invokevirtual 24, 3) := by decide +kernel
theorem d_M_square_162 : decode (iC M_M_square) 162 = .ok (.iconst 1, 1) := by decide +kernel
theorem d_M_square_163 : decode (iC M_M_square) 163 = .ok (.if_icmp .ne 7, 3) := by decide +kernel
theorem d_M_square_166 : decode (iC M_M_square) 166 = .ok (.iconst 1, 1) := by decide +kernel
theorem d_M_square_167 : decode (iC M_M_square) 167 = .ok (.goto 4, 3) := by decide +kernel
theorem d_M_square_170 : decode (iC M_M_square) 170 = .ok (.iconst 0, 1) := by decide +kernel
theorem d_M_square_171 : decode (iC M_M_square) 171 = .ok (.istore_n 3, 1) := by decide +kernel
theorem d_M_square_172 : decode (iC M_M_square) 172 = .ok (.iload_n 3, 1) := by decide +kernel
theorem d_M_square_173 : decode (iC M_M_square) 173 = .ok (.ifCond .eq 20, 3) := by decide +kernel
theorem d_M_square_176 : decode (iC M_M_square) 176 = .ok (.aload_n 0, 1) := by decide +kernel
theorem d_M_square_177 : decode (iC M_M_square) 177 = .ok (.invokevirtual 24, 3) := by decide +kernel
theorem d_M_square_180 : decode (iC M_M_square) 180 = .ok (.iconst 1, 1) := by decide +kernel
theorem d_M_square_181 : decode (iC M_M_square) 181 = .ok (.if_icmp .ne 12, 3) := by decide +kernel
theorem d_M_square_184 : decode (iC M_M_square) 184 = .ok (.aload_n 0, 1) := by decide +kernel
theorem d_M_square_185 : decode (iC M_M_square) 185 = .ok (.aload_n 0, 1) := by decide +kernel
theorem d_M_square_186 : decode (iC M_M_square) 186 = .ok (.iconst 5, 1) := by decide +kernel
theorem d_M_square_187 : decode (iC M_M_square) 187 = .ok (.invokevirtual 167, 3) := by decide +kernel
theorem d_M_square_190 : decode (iC M_M_square) 190 = .ok (.putfield 135, 3) := by decide +kernel
theorem d_M_square_193 : decode (iC M_M_square) 193 = .ok (.aload_n 0, 1) := by decide +kernel
theorem d_M_square_194 : decode (iC M_M_square) 194 = .ok (.getfield 7, 3) := by decide +kernel
theorem d_M_square_197 : decode (iC M_M_square) 197 = .ok (.ifCond .lt 5, 3) := by decide +kernel
theorem d_M_square_200 : decode (iC M_M_square) 200 = .ok (.iconst 0, 1) := by decide +kernel
theorem d_M_square_201 : decode (iC M_M_square) 201 = .ok (.ireturn, 1) := by decide +kernel
theorem d_M_square_202 : decode (iC M_M_square) 202 = .ok (.iconst 0, 1) := by decide +kernel
theorem d_M_square_203 : decode (iC M_M_square) 203 = .ok (.istore 4, 2) := by decide +kernel
theorem d_M_square_205 : decode (iC M_M_square) 205 = .ok (.iload 4, 2) := by decide +kernel
theorem d_M_square_207 : decode (iC M_M_square) 207 = .ok (.iconst 4, 1) := by decide +kernel
theorem d_M_square_208 : decode (iC M_M_square) 208 = .ok (.if_icmp .ge 17, 3) := by decide +kernel
theorem d_M_square_211 : decode (iC M_M_square) 211 = .ok (.aload_n 0, 1) := by decide +kernel
theorem d_M_square_212 : decode (iC M_M_square) 212 = .ok (.getfield 64, 3) := by decide +kernel
theorem d_M_square_215 : decode (iC M_M_square) 215 = .ok (.iload 4, 2) := by decide +kernel
theorem d_M_square_217 : decode (iC M_M_square) 217 = .ok (.iconst 0, 1) := by decide +kernel
theorem d_M_square_218 : decode (iC M_M_square) 218 = .ok (.iastore, 1) := by decide +kernel
theorem d_M_square_219 : decode (iC M_M_square) 219 = .ok (.iinc 4 1, 3) := by decide +kernel
theorem d_M_square_222 : decode (iC M_M_square) 222 = .ok (.goto (-17), 3) := by decide +kernel
theorem d_M_square_225 : decode (iC M_M_square) 225 = .ok (.aload_n 0, 1) := by decide +kernel
theorem d_M_square_226 : decode (iC M_M_square) 226 = .ok (.getfield 70, 3) := by decide +kernel
theorem d_M_square_229 : decode (iC M_M_square) 229 = .ok (.iconst 2, 1) := by decide +kernel
theorem d_M_square_230 : decode (iC M_M_square) 230 = .ok (.if_icmp .ne 10, 3) := by decide +kernel
theorem d_M_square_233 : decode (iC M_M_square) 233 = .ok (.iload_n 2, 1) := by decide +kernel
theorem d_M_square_234 : decode (iC M_M_square) 234 = .ok (.ifCond .eq 23, 3) := by decide +kernel
theorem d_M_square_237 : decode (iC M_M_square) 237 = .ok (.goto 10, 3) := by decide +kernel
theorem d_M_square_240 : decode (iC M_M_square) 240 = .ok (.aload_n 0, 1) := by decide +kernel
theorem d_M_square_241 : decode (iC M_M_square) 241 = .ok (.getfield 79, 3) := by decide +kernel
theorem d_M_square_244 : decode (iC M_M_square) 244 = .ok (.ifCond .eq 13, 3) := by decide +kernel
theorem d_M_square_247 : decode (iC M_M_square) 247 = .ok (.aload_n 0, 1) := by decide +kernel
theorem d_M_square_248 : decode (iC M_M_square) 248 = .ok (.iconst 0, 1) := by decide +kernel
theorem d_M_square_249 : decode (iC M_M_square) 249 = .ok (.invokevirtual 170, 3) := by decide +kernel
theorem d_M_square_252 : decode (iC M_M_square) 252 = .ok (.ifCond .ne 5, 3) := by decide +kernel
theorem d_M_square_255 : decode (iC M_M_square) 255 = .ok (.iconst 0, 1) := by decide +kernel
theorem d_M_square_256 : decode (iC M_M_square) 256 = .ok (.ireturn, 1) := by decide +kernel
theorem d_M_square_257 : decode (iC M_M_square) 257 = .ok (.aload_n 0, 1) := by decide +kernel
theorem d_M_square_258 : decode (iC M_M_square) 258 = .ok (.getfield 83, 3) := by decide +kernel
theorem d_M_square_261 : decode (iC M_M_square) 261 = .ok (.ifCond .eq 13, 3) := by decide +kernel
theorem d_M_square_264 : decode (iC M_M_square) 264 = .ok (.aload_n 0, 1) := by decide +kernel
theorem d_M_square_265 : decode (iC M_M_square) 265 = .ok (.iconst 1, 1) := by decide +kernel
theorem d_M_square_266 : decode (iC M_M_square) 266 = .ok (.invokevirtual 170, 3) := by decide +kernel
theorem d_M_square_269 : decode (iC M_M_square) 269 = .ok (.ifCond .ne 5, 3) := by decide +kernel
theorem d_M_square_272 : decode (iC M_M_square) 272 = .ok (.iconst 0, 1) := by decide +kernel
theorem d_M_square_273 : decode (iC M_M_square) 273 = .ok (.ireturn, 1) := by decide +kernel
theorem d_M_square_274 : decode (iC M_M_square) 274 = .ok (.aload_n 0, 1) := by decide +kernel
theorem d_M_square_275 : decode (iC M_M_square) 275 = .ok (.getfield 132, 3) := by decide +kernel
theorem d_M_square_278 : decode (iC M_M_square) 278 = .ok (.ifCond .eq 8, 3) := by decide +kernel
theorem d_M_square_281 : decode (iC M_M_square) 281 = .ok (.bipush 63, 2) := by decide +kernel
theorem d_M_square_283 : decode (iC M_M_square) 283 = .ok (.goto 17, 3) := by decide +kernel
theorem d_M_square_286 : decode (iC M_M_square) 286 = .ok (.iload_n 3, 1) := by decide +kernel
theorem d_M_square_287 : decode (iC M_M_square) 287 = .ok (.ifCond .eq 12, 3) := by decide +kernel
theorem d_M_square_290 : decode (iC M_M_square) 290 = .ok (.aload_n 0, 1) := by decide +kernel
theorem d_M_square_291 : decode (iC M_M_square) 291 = .ok (.bipush 6, 2) := by decide +kernel
theorem d_M_square_293 : decode (iC M_M_square) 293 = .ok (.invokevirtual 28, 3) := by decide +kernel
theorem d_M_square_296 : decode (iC M_M_square) 296 = .ok (.goto 4, 3) := by decide +kernel
theorem d_M_square_299 : decode (iC M_M_square) 299 = .ok (.iconst 0, 1) := by decide +kernel
theorem d_M_square_300 : decode (iC M_M_square) 300 = .ok (.istore 4, 2) := by decide +kernel
theorem d_M_square_302 : decode (iC M_M_square) 302 = .ok (.aload_n 0, 1) := by decide +kernel
theorem d_M_square_303 : decode (iC M_M_square) 303 = .ok (.getfield 7, 3) := by decide +kernel
theorem d_M_square_306 : decode (iC M_M_square) 306 = .ok (.ifCond .lt 5, 3) := by decide +kernel
theorem d_M_square_309 : decode (iC M_M_square) 309 = .ok (.iconst 0, 1) := by decide +kernel
theorem d_M_square_310 : decode (iC M_M_square) 310 = .ok (.ireturn, 1) := by decide +kernel
theorem d_M_square_311 : decode (iC M_M_square) 311 = .ok (.aload_n 0, 1) := by decide +kernel
theorem d_M_square_312 : decode (iC M_M_square) 312 = .ok (.getfield 132, 3) := by decide +kernel
theorem d_M_square_315 : decode (iC M_M_square) 315 = .ok (.ifCond .ne 8, 3) := by decide +kernel
theorem d_M_square_318 : decode (iC M_M_square) 318 = .ok (.aload_n 0, 1) := by decide +kernel
theorem d_M_square_319 : decode (iC M_M_square) 319 = .ok (.iload_n 1, 1) := by decide +kernel
theorem d_M_square_320 : decode (iC M_M_square) 320 = .ok (.invokevirtual 173, 3) := by decide +kernel
theorem d_M_square_323 : decode (iC M_M_square) 323 = .ok (.aload_n 0, 1) := by decide +kernel
theorem d_M_square_324 : decode (iC M_M_square) 324 = .ok (.iload_n 1, 1) := by decide +kernel
theorem d_M_square_325 : decode (iC M_M_square) 325 = .ok (.iload 4, 2) := by decide +kernel
theorem d_M_square_327 : decode (iC M_M_square) 327 = .ok (.invokevirtual 177, 3) := by decide +kernel
theorem d_M_square_330 : decode (iC M_M_square) 330 = .ok (.ifCond .ne 5, 3) := by decide +kernel
theorem d_M_square_333 : decode (iC M_M_square) 333 = .ok (.iconst 0, 1) := by decide +kernel
theorem d_M_square_334 : decode (iC M_M_square) 334 = .ok (.ireturn, 1) := by decide +kernel
theorem d_M_square_335 : decode (iC M_M_square) 335 = .ok (.aload_n 0, 1) := by decide +kernel
theorem d_M_square_336 : decode (iC M_M_square) 336 = .ok (.dup, 1) := by decide +kernel
theorem d_M_square_337 : decode (iC M_M_square) 337 = .ok (.getfield 181, 3) := by decide +kernel
theorem d_M_square_340 : decode (iC M_M_square) 340 = .ok (.iconst 1, 1) := by decide +kernel
theorem d_M_square_341 : decode (iC M_M_square) 341 = .ok (.iadd, 1) := by decide +kernel
theorem d_M_square_342 : decode (iC M_M_square) 342 = .ok (.putfield 181, 3) := by decide +kernel
theorem d_M_square_345 : decode (iC M_M_square) 345 = .ok (.aload_n 0, 1) := by decide +kernel
theorem d_M_square_346 : decode (iC M_M_square) 346 = .ok (.dup, 1) := by decide +kernel
theorem d_M_square_347 : decode (iC M_M_square) 347 = .ok (.getfield 184, 3) := by decide +kernel
theorem d_M_square_350 : decode (iC M_M_square) 350 = .ok (.aload_n 0, 1) := by decide +kernel
theorem d_M_square_351 : decode (iC M_M_square) 351 = .ok (.getfield 132, 3) := by decide +kernel
theorem d_M_square_354 : decode (iC M_M_square) 354 = .ok (.ifCond .eq 7, 3) := by decide +kernel
theorem d_M_square_357 : decode (iC M_M_square) 357 = .ok (.iconst 1, 1) := by decide +kernel
theorem d_M_square_358 : decode (iC M_M_square) 358 = .ok (.goto 4, 3) := by decide +kernel
theorem d_M_square_361 : decode (iC M_M_square) 361 = .ok (.iconst 0, 1) := by decide +kernel
theorem d_M_square_362 : decode (iC M_M_square) 362 = .ok (.iadd, 1) := by decide +kernel
theorem d_M_square_363 : decode (iC M_M_square) 363 = .ok (.putfield 184, 3) := by decide +kernel
theorem d_M_square_366 : decode (iC M_M_square) 366 = .ok (.aload_n 0, 1) := by decide +kernel
theorem d_M_square_367 : decode (iC M_M_square) 367 = .ok (.getfield 132, 3) := by decide +kernel
theorem d_M_square_370 : decode (iC M_M_square) 370 = .ok (.ifCond .ne 7, 3) := by decide +kernel
theorem d_M_square_373 : decode (iC M_M_square) 373 = .ok (.aload_n 0, 1) := by decide +kernel
theorem d_M_square_374 : decode (iC M_M_square) 374 = .ok (.invokevirtual 187, 3) := by decide +kernel
theorem d_M_square_377 : decode (iC M_M_square) 377 = .ok (.aload_n 0, 1) := by decide +kernel
theorem d_M_square_378 : decode (iC M_M_square) 378 = .ok (.getfield 132, 3) := by decide +kernel
theorem d_M_square_381 : decode (iC M_M_square) 381 = .ok (.ifCond .ne 15, 3) := by decide +kernel
theorem d_M_square_384 : decode (iC M_M_square) 384 = .ok (.aload_n 0, 1) := by decide +kernel
theorem d_M_square_385 : decode (iC M_M_square) 385 = .ok (.getfield 70, 3) := by decide +kernel
theorem d_M_square_388 : decode (iC M_M_square) 388 = .ok (.iconst 2, 1) := by decide +kernel
theorem d_M_square_389 : decode (iC M_M_square) 389 = .ok (.if_icmp .ne 11, 3) := by decide +kernel
theorem d_M_square_392 : decode (iC M_M_square) 392 = .ok (.iload_n 2, 1) := by decide +kernel
theorem d_M_square_393 : decode (iC M_M_square) 393 = .ok (.ifCond .ne 7, 3) := by decide +kernel
theorem d_M_square_396 : decode (iC M_M_square) 396 = .ok (.aload_n 0, 1) := by decide +kernel
theorem d_M_square_397 : decode (iC M_M_square) 397 = .ok (.invokevirtual 190, 3) := by decide +kernel
theorem d_M_square_400 : decode (iC M_M_square) 400 = .ok (.iconst 1, 1) := by decide +kernel
theorem d_M_square_401 : decode (iC M_M_square) 401 = .ok (.ireturn, 1) := by decide +kernel
theorem d_M_vector_0 : decode (iC M_M_vector) 0 = .ok (.bipush 16, 2) := by decide +kernel
theorem d_M_vector_2 : decode (iC M_M_vector) 2 = .ok (.aload_n 0, 1) := by decide +kernel
theorem d_M_vector_3 : decode (iC M_M_vector) 3 = .ok (.getfield 164, 3) := by decide +kernel
theorem d_M_vector_6 : decode (iC M_M_vector) 6 = .ok (.ishl, 1) := by decide +kernel
theorem d_M_vector_7 : decode (iC M_M_vector) 7 = .ok (.istore_n 2, 1) := by decide +kernel
theorem d_M_vector_8 : decode (iC M_M_vector) 8 = .ok (.iconst 2, 1) := by decide +kernel
theorem d_M_vector_9 : decode (iC M_M_vector) 9 = .ok (.iload_n 1, 1) := by decide +kernel
theorem d_M_vector_10 : decode (iC M_M_vector) 10 = .ok (.imul, 1) := by decide +kernel
theorem d_M_vector_11 : decode (iC M_M_vector) 11 = .ok (.istore_n 3, 1) := by decide +kernel
theorem d_M_vector_12 : decode (iC M_M_vector) 12 = .ok (.iload_n 3, 1) := by decide +kernel
theorem d_M_vector_13 : decode (iC M_M_vector) 13 = .ok (.iconst 2, 1) := by decide +kernel
theorem d_M_vector_14 : decode (iC M_M_vector) 14 = .ok (.iload_n 1, 1) := by decide +kernel
theorem d_M_vector_15 : decode (iC M_M_vector) 15 = .ok (.imul, 1) := by decide +kernel
theorem d_M_vector_16 : decode (iC M_M_vector) 16 = .ok (.iconst 2, 1) := by decide +kernel
theorem d_M_vector_17 : decode (iC M_M_vector) 17 = .ok (.iadd, 1) := by decide +kernel
theorem d_M_vector_18 : decode (iC M_M_vector) 18 = .ok (.if_icmp .ge 118, 3) := by decide +kernel
theorem d_M_vector_21 : decode (iC M_M_vector) 21 = .ok (.aload_n 0, 1) := by decide +kernel
theorem d_M_vector_22 : decode (iC M_M_vector) 22 = .ok (.getfield 10, 3) := by decide +kernel
theorem d_M_vector_25 : decode (iC M_M_vector) 25 = .ok (.istore 4, 2) := by decide +kernel
theorem d_M_vector_27 : decode (iC M_M_vector) 27 = .ok (.aload_n 0, 1) := by decide +kernel
theorem d_M_vector_28 : decode (iC M_M_vector) 28 = .ok (.invokevirtual 145, 3) := by decide +kernel
theorem d_M_vector_31 : decode (iC M_M_vector) 31 = .ok (.istore 5, 2) := by decide +kernel
theorem d_M_vector_33 : decode (iC M_M_vector) 33 = .ok (.aload_n 0, 1) := by decide +kernel
theorem d_M_vector_34 : decode (iC M_M_vector) 34 = .ok (.getfield 7, 3) := by decide +kernel
theorem d_M_vector_37 : decode (iC M_M_vector) 37 = .ok (.ifCond .ge 29, 3) := by decide +kernel
theorem d_M_vector_40 : decode (iC M_M_vector) 40 = .ok (.iload 5, 2) := by decide +kernel
theorem d_M_vector_42 : decode (iC M_M_vector) 42 = .ok (.iload_n 2, 1) := by decide +kernel
theorem d_M_vector_43 : decode (iC M_M_vector) 43 = .ok (.ineg, 1) := by decide +kernel
theorem d_M_vector_44 : decode (iC M_M_vector) 44 = .ok (.iconst 2, 1) := by decide +kernel
theorem d_M_vector_45 : decode (iC M_M_vector) 45 = .ok (.idiv, 1) := by decide +kernel
theorem d_M_vector_46 : decode (iC M_M_vector) 46 = .ok (.if_icmp .lt 11, 3) := by decide +kernel
theorem d_M_vector_49 : decode (iC M_M_vector) 49 = .ok (.iload 5, 2) := by decide +kernel
theorem d_M_vector_51 : decode (iC M_M_vector) 51 = .ok (.iload_n 2, 1) := by decide +kernel
theorem d_M_vector_52 : decode (iC M_M_vector) 52 = .ok (.iconst 2, 1) := by decide +kernel
theorem d_M_vector_53 : decode (iC M_M_vector) 53 = .ok (.idiv, 1) := by decide +kernel
theorem d_M_vector_54 : decode (iC M_M_vector) 54 = .ok (.if_icmp .lt 14, 3) := by decide +kernel
theorem d_M_vector_57 : decode (iC M_M_vector) 57 = .ok (.aload_n 0, 1) := by decide +kernel
theorem d_M_vector_58 : decode (iC M_M_vector) 58 = .ok (.iload 4, 2) := by decide +kernel
theorem d_M_vector_60 : decode (iC M_M_vector) 60 = .ok (.invokevirtual 16, 3) := by decide +kernel
theorem d_M_vector_63 : decode (iC M_M_vector) 63 = .ok (.ifCond .eq 5, 3) := by decide +kernel
theorem d_M_vector_66 : decode (iC M_M_vector) 66 = .ok (.iconst 0, 1) := by decide +kernel
theorem d_M_vector_67 : decode (iC M_M_vector) 67 = .ok (.ireturn, 1) := by decide +kernel
theorem d_M_vector_68 : decode (iC M_M_vector) 68 = .ok (.aload_n 0, 1) := by decide +kernel
theorem d_M_vector_69 : decode (iC M_M_vector) 69 = .ok (.getfield 111, 3) := by decide +kernel
theorem d_M_vector_72 : decode (iC M_M_vector) 72 = .ok (.iload_n 3, 1) := by decide +kernel
theorem d_M_vector_73 : decode (iC M_M_vector) 73 = .ok (.iaload, 1) := by decide +kernel
theorem d_M_vector_74 : decode (iC M_M_vector) 74 = .ok (.iload 5, 2) := by decide +kernel
theorem d_M_vector_76 : decode (iC M_M_vector) 76 = .ok (.iadd, 1) := by decide +kernel
theorem d_M_vector_77 : decode (iC M_M_vector) 77 = .ok (.istore 6, 2) := by decide +kernel
theorem d_M_vector_79 : decode (iC M_M_vector) 79 = .ok (.iload 6, 2) := by decide +kernel
theorem d_M_vector_81 : decode (iC M_M_vector) 81 = .ok (.iload_n 2, 1) := by decide +kernel
theorem d_M_vector_82 : decode (iC M_M_vector) 82 = .ok (.ineg, 1) := by decide +kernel
theorem d_M_vector_83 : decode (iC M_M_vector) 83 = .ok (.iconst 2, 1) := by decide +kernel
theorem d_M_vector_84 : decode (iC M_M_vector) 84 = .ok (.idiv, 1) := by decide +kernel
theorem d_M_vector_85 : decode (iC M_M_vector) 85 = .ok (.if_icmp .ge 10, 3) := by decide +kernel
theorem d_M_vector_88 : decode (iC M_M_vector) 88 = .ok (.iload 6, 2) := by decide +kernel
theorem d_M_vector_90 : decode (iC M_M_vector) 90 = .ok (.iload_n 2, 1) := by decide +kernel
theorem d_M_vector_91 : decode (iC M_M_vector) 91 = .ok (.iadd, 1) := by decide +kernel
theorem d_M_vector_92 : decode (iC M_M_vector) 92 = .ok (.goto 20, 3) := by decide +kernel
theorem d_M_vector_95 : decode (iC M_M_vector) 95 = .ok (.iload 6, 2) := by decide +kernel
theorem d_M_vector_97 : decode (iC M_M_vector) 97 = .ok (.iload_n 2, 1) := by decide +kernel
theorem d_M_vector_98 : decode (iC M_M_vector) 98 = .ok (.iconst 2, 1) := by decide +kernel
theorem d_M_vector_99 : decode (iC M_M_vector) 99 = .ok (.idiv, 1) := by decide +kernel
theorem d_M_vector_100 : decode (iC M_M_vector) 100 = .ok (.if_icmp .lt 10, 3) := by decide +kernel
theorem d_M_vector_103 : decode (iC M_M_vector) 103 = .ok (.iload 6, 2) := by decide +kernel
theorem d_M_vector_105 : decode (iC M_M_vector) 105 = .ok (.iload_n 2, 1) := by decide +kernel
theorem d_M_vector_106 : decode (iC M_M_vector) 106 = .ok (.isub, 1) := by decide +kernel
theorem d_M_vector_107 : decode (iC M_M_vector) 107 = .ok (.goto 5, 3) := by decide +kernel
theorem d_M_vector_110 : decode (iC M_M_vector) 110 = .ok (.iload 6, 2) := by decide +kernel
theorem d_M_vector_112 : decode (iC M_M_vector) 112 = .ok (.istore 6, 2) := by decide +kernel
theorem d_M_vector_114 : decode (iC M_M_vector) 114 = .ok (.aload_n 0, 1) := by decide +kernel
theorem d_M_vector_115 : decode (iC M_M_vector) 115 = .ok (.getfield 111, 3) := by decide +kernel
theorem d_M_vector_118 : decode (iC M_M_vector) 118 = .ok (.iload_n 3, 1) := by decide +kernel
theorem d_M_vector_119 : decode (iC M_M_vector) 119 = .ok (.iload 6, 2) := by decide +kernel
theorem d_M_vector_121 : decode (iC M_M_vector) 121 = .ok (.iastore, 1) := by decide +kernel
theorem d_M_vector_122 : decode (iC M_M_vector) 122 = .ok (.aload_n 0, 1) := by decide +kernel
theorem d_M_vector_123 : decode (iC M_M_vector) 123 = .ok (.getfield 64, 3) := by decide +kernel
theorem d_M_vector_126 : decode (iC M_M_vector) 126 = .ok (.iload_n 3, 1) := by decide +kernel
theorem d_M_vector_127 : decode (iC M_M_vector) 127 = .ok (.iload 6, 2) := by decide +kernel
theorem d_M_vector_129 : decode (iC M_M_vector) 129 = .ok (.iastore, 1) := by decide +kernel
theorem d_M_vector_130 : decode (iC M_M_vector) 130 = .ok (.iinc 3 1, 3) := by decide +kernel
theorem d_M_vector_133 : decode (iC M_M_vector) 133 = .ok (.goto (-121), 3) := by decide +kernel
theorem d_M_vector_136 : decode (iC M_M_vector) 136 = .ok (.iconst 1, 1) := by decide +kernel
theorem d_M_vector_137 : decode (iC M_M_vector) 137 = .ok (.ireturn, 1) := by decide +kernel
theorem d_M_readS_0 : decode (iC M_M_readS) 0 = .ok (.aload_n 0, 1) := by decide +kernel
theorem d_M_readS_1 : decode (iC M_M_readS) 1 = .ok (.invokevirtual 32, 3) := by decide +kernel
theorem d_M_readS_4 : decode (iC M_M_readS) 4 = .ok (.istore_n 1, 1) := by decide +kernel
theorem d_M_readS_5 : decode (iC M_M_readS) 5 = .ok (.iload_n 1, 1) := by decide +kernel
theorem d_M_readS_6 : decode (iC M_M_readS) 6 = .ok (.iconst 2, 1) := by decide +kernel
theorem d_M_readS_7 : decode (iC M_M_readS) 7 = .ok (.irem, 1) := by decide +kernel
theorem d_M_readS_8 : decode (iC M_M_readS) 8 = .ok (.iconst 1, 1) := by decide +kernel
theorem d_M_readS_9 : decode (iC M_M_readS) 9 = .ok (.if_icmp .ne 11, 3) := by decide +kernel
theorem d_M_readS_12 : decode (iC M_M_readS) 12 = .ok (.iload_n 1, 1) := by decide +kernel
theorem d_M_readS_13 : decode (iC M_M_readS) 13 = .ok (.iconst 1, 1) := by decide +kernel
theorem d_M_readS_14 : decode (iC M_M_readS) 14 = .ok (.iadd, 1) := by decide +kernel
theorem d_M_readS_15 : decode (iC M_M_readS) 15 = .ok (.iconst 2, 1) := by decide +kernel
theorem d_M_readS_16 : decode (iC M_M_readS) 16 = .ok (.idiv, 1) := by decide +kernel
theorem d_M_readS_17 : decode (iC M_M_readS) 17 = .ok (.goto 7, 3) := by decide +kernel
theorem d_M_readS_20 : decode (iC M_M_readS) 20 = .ok (.iload_n 1, 1) := by decide +kernel
theorem d_M_readS_21 : decode (iC M_M_readS) 21 = .ok (.iconst 2, 1) := by decide +kernel
theorem d_M_readS_22 : decode (iC M_M_readS) 22 = .ok (.idiv, 1) := by decide +kernel
theorem d_M_readS_23 : decode (iC M_M_readS) 23 = .ok (.ineg, 1) := by decide +kernel
theorem d_M_readS_24 : decode (iC M_M_readS) 24 = .ok (.ireturn, 1) := by decide +kernel
theorem d_M_allBlocks_0 : decode (iC M_M_allBlocks) 0 = .ok (.bipush 16, 2) := by decide +kernel
theorem d_M_allBlocks_2 : decode (iC M_M_allBlocks) 2 = .ok (.iload_n 1, 1) := by decide +kernel
theorem d_M_allBlocks_3 : decode (iC M_M_allBlocks) 3 = .ok (.aload_n 0, 1) := by decide +kernel
theorem d_M_allBlocks_4 : decode (iC M_M_allBlocks) 4 = .ok (.getfield 35, 3) := by decide +kernel
theorem d_M_allBlocks_7 : decode (iC M_M_allBlocks) 7 = .ok (.irem, 1) := by decide +kernel
theorem d_M_allBlocks_8 : decode (iC M_M_allBlocks) 8 = .ok (.imul, 1) := by decide +kernel
theorem d_M_allBlocks_9 : decode (iC M_M_allBlocks) 9 = .ok (.istore_n 3, 1) := by decide +kernel
theorem d_M_allBlocks_10 : decode (iC M_M_allBlocks) 10 = .ok (.bipush 16, 2) := by decide +kernel
theorem d_M_allBlocks_12 : decode (iC M_M_allBlocks) 12 = .ok (.iload_n 1, 1) := by decide +kernel
theorem d_M_allBlocks_13 : decode (iC M_M_allBlocks) 13 = .ok (.aload_n 0, 1) := by decide +kernel
theorem d_M_allBlocks_14 : decode (iC M_M_allBlocks) 14 = .ok (.getfield 35, 3) := by decide +kernel
theorem d_M_allBlocks_17 : decode (iC M_M_allBlocks) 17 = .ok (.idiv, 1) := by decide +kernel
theorem d_M_allBlocks_18 : decode (iC M_M_allBlocks) 18 = .ok (.imul, 1) := by decide +kernel
theorem d_M_allBlocks_19 : decode (iC M_M_allBlocks) 19 = .ok (.istore 4, 2) := by decide +kernel
theorem d_M_allBlocks_21 : decode (iC M_M_allBlocks) 21 = .ok (.iconst 0, 1) := by decide +kernel
theorem d_M_allBlocks_22 : decode (iC M_M_allBlocks) 22 = .ok (.istore 5, 2) := by decide +kernel
theorem d_M_allBlocks_24 : decode (iC M_M_allBlocks) 24 = .ok (.iload 5, 2) := by decide +kernel
theorem d_M_allBlocks_26 : decode (iC M_M_allBlocks) 26 = .ok (.bipush 6, 2) := by decide +kernel
theorem d_M_allBlocks_28 : decode (iC M_M_allBlocks) 28 = .ok (.if_icmp .ge 110, 3) := by decide +kernel
theorem d_M_allBlocks_31 : decode (iC M_M_allBlocks) 31 = .ok (.iload_n 2, 1) := by decide +kernel
theorem d_M_allBlocks_32 : decode (iC M_M_allBlocks) 32 = .ok (.iconst 5, 1) := by decide +kernel
theorem d_M_allBlocks_33 : decode (iC M_M_allBlocks) 33 = .ok (.iload 5, 2) := by decide +kernel
theorem d_M_allBlocks_35 : decode (iC M_M_allBlocks) 35 = .ok (.isub, 1) := by decide +kernel
theorem d_M_allBlocks_36 : decode (iC M_M_allBlocks) 36 = .ok (.ishr, 1) := by decide +kernel
theorem d_M_allBlocks_37 : decode (iC M_M_allBlocks) 37 = .ok (.iconst 1, 1) := by decide +kernel
theorem d_M_allBlocks_38 : decode (iC M_M_allBlocks) 38 = .ok (.iand, 1) := by decide +kernel
theorem d_M_allBlocks_39 : decode (iC M_M_allBlocks) 39 = .ok (.ifCond .ne 6, 3) := by decide +kernel
theorem d_M_allBlocks_42 : decode (iC M_M_allBlocks) 42 = .ok (.goto 90, 3) := by decide +kernel
theorem d_M_allBlocks_45 : decode (iC M_M_allBlocks) 45 = .ok (.iload 5, 2) := by decide +kernel
theorem d_M_allBlocks_47 : decode (iC M_M_allBlocks) 47 = .ok (.iconst 4, 1) := by decide +kernel
theorem d_M_allBlocks_48 : decode (iC M_M_allBlocks) 48 = .ok (.if_icmp .ge 7, 3) := by decide +kernel
theorem d_M_allBlocks_51 : decode (iC M_M_allBlocks) 51 = .ok (.iconst 0, 1) := by decide +kernel
theorem d_M_allBlocks_52 : decode (iC M_M_allBlocks) 52 = .ok (.goto 7, 3) := by decide +kernel
theorem d_M_allBlocks_55 : decode (iC M_M_allBlocks) 55 = .ok (.iload 5, 2) := by decide +kernel
theorem d_M_allBlocks_57 : decode (iC M_M_allBlocks) 57 = .ok (.iconst 3, 1) := by decide +kernel
theorem d_M_allBlocks_58 : decode (iC M_M_allBlocks) 58 = .ok (.isub, 1) := by decide +kernel
theorem d_M_allBlocks_59 : decode (iC M_M_allBlocks) 59 = .ok (.istore 6, 2) := by decide +kernel
theorem d_M_allBlocks_61 : decode (iC M_M_allBlocks) 61 = .ok (.aload_n 0, 1) := by decide +kernel
theorem d_M_allBlocks_62 : decode (iC M_M_allBlocks) 62 = .ok (.iload 6, 2) := by decide +kernel
theorem d_M_allBlocks_64 : decode (iC M_M_allBlocks) 64 = .ok (.invokevirtual 154, 3) := by decide +kernel
theorem d_M_allBlocks_67 : decode (iC M_M_allBlocks) 67 = .ok (.ifCond .ne 5, 3) := by decide +kernel
theorem d_M_allBlocks_70 : decode (iC M_M_allBlocks) 70 = .ok (.iconst 0, 1) := by decide +kernel
theorem d_M_allBlocks_71 : decode (iC M_M_allBlocks) 71 = .ok (.ireturn, 1) := by decide +kernel
theorem d_M_allBlocks_72 : decode (iC M_M_allBlocks) 72 = .ok (.aload_n 0, 1) := by decide +kernel
theorem d_M_allBlocks_73 : decode (iC M_M_allBlocks) 73 = .ok (.dup, 1) := by decide +kernel
theorem d_M_allBlocks_74 : decode (iC M_M_allBlocks) 74 = .ok (.getfield 157, 3) := by decide +kernel
theorem d_M_allBlocks_77 : decode (iC M_M_allBlocks) 77 = .ok (.iconst 1, 1) := by decide +kernel
theorem d_M_allBlocks_78 : decode (iC M_M_allBlocks) 78 = .ok (.iadd, 1) := by decide +kernel
theorem d_M_allBlocks_79 : decode (iC M_M_allBlocks) 79 = .ok (.putfield 157, 3) := by decide +kernel
theorem d_M_allBlocks_82 : decode (iC M_M_allBlocks) 82 = .ok (.aload_n 0, 1) := by decide +kernel
theorem d_M_allBlocks_83 : decode (iC M_M_allBlocks) 83 = .ok (.iload 6, 2) := by decide +kernel
theorem d_M_allBlocks_85 : decode (iC M_M_allBlocks) 85 = .ok (.iload 5, 2) := by decide +kernel
theorem d_M_allBlocks_87 : decode (iC M_M_allBlocks) 87 = .ok (.iconst 4, 1) := by decide +kernel
theorem d_M_allBlocks_88 : decode (iC M_M_allBlocks) 88 = .ok (.if_icmp .ge 15, 3) := by decide +kernel
theorem d_M_allBlocks_91 : decode (iC M_M_allBlocks) 91 = .ok (.iload_n 3, 1) := by decide +kernel
theorem d_M_allBlocks_92 : decode (iC M_M_allBlocks) 92 = .ok (.bipush 8, 2) := by decide +kernel
theorem d_M_allBlocks_94 : decode (iC M_M_allBlocks) 94 = .ok (.iload 5, 2) := by decide +kernel
theorem d_M_allBlocks_96 : decode (iC M_M_allBlocks) 96 = .ok (.iconst 2, 1) := by decide +kernel
theorem d_M_allBlocks_97 : decode (iC M_M_allBlocks) 97 = .ok (.irem, 1) := by decide +kernel
theorem d_M_allBlocks_98 : decode (iC M_M_allBlocks) 98 = .ok (.imul, 1) := by decide +kernel
theorem d_M_allBlocks_99 : decode (iC M_M_allBlocks) 99 = .ok (.iadd, 1) := by decide +kernel
theorem d_M_allBlocks_100 : decode (iC M_M_allBlocks) 100 = .ok (.goto 6, 3) := by decide +kernel
theorem d_M_allBlocks_103 : decode (iC M_M_allBlocks) 103 = .ok (.iload_n 3, 1) := by decide +kernel
theorem d_M_allBlocks_104 : decode (iC M_M_allBlocks) 104 = .ok (.iconst 2, 1) := by decide +kernel
theorem d_M_allBlocks_105 : decode (iC M_M_allBlocks) 105 = .ok (.idiv, 1) := by decide +kernel
theorem d_M_allBlocks_106 : decode (iC M_M_allBlocks) 106 = .ok (.iload 5, 2) := by decide +kernel
theorem d_M_allBlocks_108 : decode (iC M_M_allBlocks) 108 = .ok (.iconst 4, 1) := by decide +kernel
theorem d_M_allBlocks_109 : decode (iC M_M_allBlocks) 109 = .ok (.if_icmp .ge 16, 3) := by decide +kernel
theorem d_M_allBlocks_112 : decode (iC M_M_allBlocks) 112 = .ok (.iload 4, 2) := by decide +kernel
theorem d_M_allBlocks_114 : decode (iC M_M_allBlocks) 114 = .ok (.bipush 8, 2) := by decide +kernel
theorem d_M_allBlocks_116 : decode (iC M_M_allBlocks) 116 = .ok (.iload 5, 2) := by decide +kernel
theorem d_M_allBlocks_118 : decode (iC M_M_allBlocks) 118 = .ok (.iconst 2, 1) := by decide +kernel
theorem d_M_allBlocks_119 : decode (iC M_M_allBlocks) 119 = .ok (.idiv, 1) := by decide +kernel
theorem d_M_allBlocks_120 : decode (iC M_M_allBlocks) 120 = .ok (.imul, 1) := by decide +kernel
theorem d_M_allBlocks_121 : decode (iC M_M_allBlocks) 121 = .ok (.iadd, 1) := by decide +kernel
theorem d_M_allBlocks_122 : decode (iC M_M_allBlocks) 122 = .ok (.goto 7, 3) := by decide +kernel
theorem d_M_allBlocks_125 : decode (iC M_M_allBlocks) 125 = .ok (.iload 4, 2) := by decide +kernel
theorem d_M_allBlocks_127 : decode (iC M_M_allBlocks) 127 = .ok (.iconst 2, 1) := by decide +kernel
theorem d_M_allBlocks_128 : decode (iC M_M_allBlocks) 128 = .ok (.idiv, 1) := by decide +kernel
theorem d_M_allBlocks_129 : decode (iC M_M_allBlocks) 129 = .ok (.invokevirtual 160, 3) := by decide +kernel
theorem d_M_allBlocks_132 : decode (iC M_M_allBlocks) 132 = .ok (.iinc 5 1, 3) := by decide +kernel
theorem d_M_allBlocks_135 : decode (iC M_M_allBlocks) 135 = .ok (.goto (-111), 3) := by decide +kernel
theorem d_M_allBlocks_138 : decode (iC M_M_allBlocks) 138 = .ok (.iconst 1, 1) := by decide +kernel
theorem d_M_allBlocks_139 : decode (iC M_M_allBlocks) 139 = .ok (.ireturn, 1) := by decide +kernel
theorem d_M_block_0 : decode (iC M_M_block) 0 = .ok (.iconst 0, 1) := by decide +kernel
theorem d_M_block_1 : decode (iC M_M_block) 1 = .ok (.istore_n 2, 1) := by decide +kernel
theorem d_M_block_2 : decode (iC M_M_block) 2 = .ok (.iload_n 2, 1) := by decide +kernel
theorem d_M_block_3 : decode (iC M_M_block) 3 = .ok (.bipush 64, 2) := by decide +kernel
theorem d_M_block_5 : decode (iC M_M_block) 5 = .ok (.if_icmp .ge 16, 3) := by decide +kernel
theorem d_M_block_8 : decode (iC M_M_block) 8 = .ok (.aload_n 0, 1) := by decide +kernel
theorem d_M_block_9 : decode (iC M_M_block) 9 = .ok (.getfield 120, 3) := by decide +kernel
theorem d_M_block_12 : decode (iC M_M_block) 12 = .ok (.iload_n 2, 1) := by decide +kernel
theorem d_M_block_13 : decode (iC M_M_block) 13 = .ok (.iconst 0, 1) := by decide +kernel
theorem d_M_block_14 : decode (iC M_M_block) 14 = .ok (.iastore, 1) := by decide +kernel
theorem d_M_block_15 : decode (iC M_M_block) 15 = .ok (.iinc 2 1, 3) := by decide +kernel
theorem d_M_block_18 : decode (iC M_M_block) 18 = .ok (.goto (-16), 3) := by decide +kernel
theorem d_M_block_21 : decode (iC M_M_block) 21 = .ok (.iconst 0, 1) := by decide +kernel
theorem d_M_block_22 : decode (iC M_M_block) 22 = .ok (.istore_n 2, 1) := by decide +kernel
theorem d_M_block_23 : decode (iC M_M_block) 23 = .ok (.aload_n 0, 1) := by decide +kernel
theorem d_M_block_24 : decode (iC M_M_block) 24 = .ok (.getfield 132, 3) := by decide +kernel
theorem d_M_block_27 : decode (iC M_M_block) 27 = .ok (.ifCond .eq 72, 3) := by decide +kernel
theorem d_M_block_30 : decode (iC M_M_block) 30 = .ok (.aload_n 0, 1) := by decide +kernel
theorem d_M_block_31 : decode (iC M_M_block) 31 = .ok (.getfield 10, 3) := by decide +kernel
theorem d_M_block_34 : decode (iC M_M_block) 34 = .ok (.istore_n 3, 1) := by decide +kernel
theorem d_M_block_35 : decode (iC M_M_block) 35 = .ok (.aload_n 0, 1) := by decide +kernel
theorem d_M_block_36 : decode (iC M_M_block) 36 = .ok (.getfield 114, 3) := by decide +kernel
theorem d_M_block_39 : decode (iC M_M_block) 39 = .ok (.iload_n 1, 1) := by decide +kernel
theorem d_M_block_40 : decode (iC M_M_block) 40 = .ok (.iaload, 1) := by decide +kernel
theorem d_M_block_41 : decode (iC M_M_block) 41 = .ok (.aload_n 0, 1) := by decide +kernel
theorem d_M_block_42 : decode (iC M_M_block) 42 = .ok (.invokevirtual 145, 3) := by decide +kernel
theorem d_M_block_45 : decode (iC M_M_block) 45 = .ok (.iadd, 1) := by decide +kernel
theorem d_M_block_46 : decode (iC M_M_block) 46 = .ok (.istore 4, 2) := by decide +kernel
theorem d_M_block_48 : decode (iC M_M_block) 48 = .ok (.aload_n 0, 1) := by decide +kernel
theorem d_M_block_49 : decode (iC M_M_block) 49 = .ok (.getfield 7, 3) := by decide +kernel
theorem d_M_block_52 : decode (iC M_M_block) 52 = .ok (.ifCond .ge 24, 3) := by decide +kernel
theorem d_M_block_55 : decode (iC M_M_block) 55 = .ok (.iload 4, 2) := by decide +kernel
theorem d_M_block_57 : decode (iC M_M_block) 57 = .ok (.ifCond .lt 11, 3) := by decide +kernel
theorem d_M_block_60 : decode (iC M_M_block) 60 = .ok (.iload 4, 2) := by decide +kernel
theorem d_M_block_62 : decode (iC M_M_block) 62 = .ok (.sipush 255, 3) := by decide +kernel
theorem d_M_block_65 : decode (iC M_M_block) 65 = .ok (.if_icmp .le 13, 3) := by decide +kernel
theorem d_M_block_68 : decode (iC M_M_block) 68 = .ok (.aload_n 0, 1) := by decide +kernel
theorem d_M_block_69 : decode (iC M_M_block) 69 = .ok (.iload_n 3, 1) := by decide +kernel
theorem d_M_block_70 : decode (iC M_M_block) 70 = .ok (.invokevirtual 16, 3) := by decide +kernel
theorem d_M_block_73 : decode (iC M_M_block) 73 = .ok (.ifCond .eq 5, 3) := by decide +kernel
theorem d_M_block_76 : decode (iC M_M_block) 76 = .ok (.iconst 0, 1) := by decide +kernel
theorem d_M_block_77 : decode (iC M_M_block) 77 = .ok (.ireturn, 1) := by decide +kernel
theorem d_M_block_78 : decode (iC M_M_block) 78 = .ok (.aload_n 0, 1) := by decide +kernel
theorem d_M_block_79 : decode (iC M_M_block) 79 = .ok (.getfield 114, 3) := by decide +kernel
theorem d_M_block_82 : decode (iC M_M_block) 82 = .ok (.iload_n 1, 1) := by decide +kernel
theorem d_M_block_83 : decode (iC M_M_block) 83 = .ok (.iload 4, 2) := by decide +kernel
theorem d_M_block_85 : decode (iC M_M_block) 85 = .ok (.iastore, 1) := by decide +kernel
theorem d_M_block_86 : decode (iC M_M_block) 86 = .ok (.aload_n 0, 1) := by decide +kernel
theorem d_M_block_87 : decode (iC M_M_block) 87 = .ok (.getfield 120, 3) := by decide +kernel
theorem d_M_block_90 : decode (iC M_M_block) 90 = .ok (.iconst 0, 1) := by decide +kernel
theorem d_M_block_91 : decode (iC M_M_block) 91 = .ok (.bipush 8, 2) := by decide +kernel
theorem d_M_block_93 : decode (iC M_M_block) 93 = .ok (.iload 4, 2) := by decide +kernel
theorem d_M_block_95 : decode (iC M_M_block) 95 = .ok (.imul, 1) := by decide +kernel
theorem d_M_block_96 : decode (iC M_M_block) 96 = .ok (.iastore, 1) := by decide +kernel
theorem d_M_block_97 : decode (iC M_M_block) 97 = .ok (.iconst 1, 1) := by decide +kernel
theorem d_M_block_98 : decode (iC M_M_block) 98 = .ok (.istore_n 2, 1) := by decide +kernel
theorem d_M_block_99 : decode (iC M_M_block) 99 = .ok (.aload_n 0, 1) := by decide +kernel
theorem d_M_block_100 : decode (iC M_M_block) 100 = .ok (.getfield 10, 3) := by decide +kernel
theorem d_M_block_103 : decode (iC M_M_block) 103 = .ok (.istore_n 3, 1) := by decide +kernel
theorem d_M_block_104 : decode (iC M_M_block) 104 = .ok (.aload_n 0, 1) := by decide +kernel
theorem d_M_block_105 : decode (iC M_M_block) 105 = .ok (.invokevirtual 32, 3) := by decide +kernel
theorem d_M_block_108 : decode (iC M_M_block) 108 = .ok (.istore 4, 2) := by decide +kernel
theorem d_M_block_110 : decode (iC M_M_block) 110 = .ok (.aload_n 0, 1) := by decide +kernel
theorem d_M_block_111 : decode (iC M_M_block) 111 = .ok (.getfield 7, 3) := by decide +kernel
theorem d_M_block_114 : decode (iC M_M_block) 114 = .ok (.ifCond .lt 5, 3) := by decide +kernel
theorem d_M_block_117 : decode (iC M_M_block) 117 = .ok (.iconst 0, 1) := by decide +kernel
theorem d_M_block_118 : decode (iC M_M_block) 118 = .ok (.ireturn, 1) := by decide +kernel
theorem d_M_block_119 : decode (iC M_M_block) 119 = .ok (.iload 4, 2) := by decide +kernel
theorem d_M_block_121 : decode (iC M_M_block) 121 = .ok (.ifCond .ne 5, 3) := by decide +kernel
theorem d_M_block_124 : decode (iC M_M_block) 124 = .ok (.iconst 1, 1) := by decide +kernel
theorem d_M_block_125 : decode (iC M_M_block) 125 = .ok (.ireturn, 1) := by decide +kernel
theorem d_M_block_126 : decode (iC M_M_block) 126 = .ok (.iload_n 2, 1) := by decide +kernel
theorem d_M_block_127 : decode (iC M_M_block) 127 = .ok (.iload 4, 2) := by decide +kernel
theorem d_M_block_129 : decode (iC M_M_block) 129 = .ok (.iconst 1, 1) := by decide +kernel
theorem d_M_block_130 : decode (iC M_M_block) 130 = .ok (.isub, 1) := by decide +kernel
theorem d_M_block_131 : decode (iC M_M_block) 131 = .ok (.iadd, 1) := by decide +kernel
theorem d_M_block_132 : decode (iC M_M_block) 132 = .ok (.istore_n 2, 1) := by decide +kernel
theorem d_M_block_133 : decode (iC M_M_block) 133 = .ok (.iload_n 2, 1) := by decide +kernel
theorem d_M_block_134 : decode (iC M_M_block) 134 = .ok (.bipush 63, 2) := by decide +kernel
theorem d_M_block_136 : decode (iC M_M_block) 136 = .ok (.if_icmp .le 13, 3) := by decide +kernel
theorem d_M_block_139 : decode (iC M_M_block) 139 = .ok (.aload_n 0, 1) := by decide +kernel
theorem d_M_block_140 : decode (iC M_M_block) 140 = .ok (.iload_n 3, 1) := by decide +kernel
theorem d_M_block_141 : decode (iC M_M_block) 141 = .ok (.invokevirtual 16, 3) := by decide +kernel
theorem d_M_block_144 : decode (iC M_M_block) 144 = .ok (.ifCond .eq 5, 3) := by decide +kernel
theorem d_M_block_147 : decode (iC M_M_block) 147 = .ok (.iconst 0, 1) := by decide +kernel
theorem d_M_block_148 : decode (iC M_M_block) 148 = .ok (.ireturn, 1) := by decide +kernel
theorem d_M_block_149 : decode (iC M_M_block) 149 = .ok (.aload_n 0, 1) := by decide +kernel
theorem d_M_block_150 : decode (iC M_M_block) 150 = .ok (.getfield 10, 3) := by decide +kernel
theorem d_M_block_153 : decode (iC M_M_block) 153 = .ok (.istore_n 3, 1) := by decide +kernel
theorem d_M_block_154 : decode (iC M_M_block) 154 = .ok (.aload_n 0, 1) := by decide +kernel
theorem d_M_block_155 : decode (iC M_M_block) 155 = .ok (.invokevirtual 145, 3) := by decide +kernel
theorem d_M_block_158 : decode (iC M_M_block) 158 = .ok (.istore 5, 2) := by decide +kernel
theorem d_M_block_160 : decode (iC M_M_block) 160 = .ok (.aload_n 0, 1) := by decide +kernel
theorem d_M_block_161 : decode (iC M_M_block) 161 = .ok (.getfield 7, 3) := by decide +kernel
theorem d_M_block_164 : decode (iC M_M_block) 164 = .ok (.ifCond .ge 32, 3) := by decide +kernel
theorem d_M_block_167 : decode (iC M_M_block) 167 = .ok (.iload 5, 2) := by decide +kernel
theorem d_M_block_169 : decode (iC M_M_block) 169 = .ok (.ifCond .eq 19, 3) := by decide +kernel
theorem d_M_block_172 : decode (iC M_M_block) 172 = .ok (.iload 5, 2) := by decide +kernel
theorem d_M_block_174 : decode (iC M_M_block) 174 = .ok (.sipush 2047, 3) := by decide +kernel
theorem d_M_block_177 : decode (iC M_M_block) 177 = .ok (.if_icmp .gt 11, 3) := by decide +kernel
theorem d_M_block_180 : decode (iC M_M_block) 180 = .ok (.iload 5, 2) := by decide +kernel
theorem d_M_block_182 : decode (iC M_M_block) 182 = .ok (.sipush (-2047), 3) := by decide +kernel
theorem d_M_block_185 : decode (iC M_M_block) 185 = .ok (.if_icmp .ge 13, 3) := by decide +kernel
theorem d_M_block_188 : decode (iC M_M_block) 188 = .ok (.aload_n 0, 1) := by decide +kernel
theorem d_M_block_189 : decode (iC M_M_block) 189 = .ok (.iload_n 3, 1) := by decide +kernel
theorem d_M_block_190 : decode (iC M_M_block) 190 = .ok (.invokevirtual 16, 3) := by decide +kernel
theorem d_M_block_193 : decode (iC M_M_block) 193 = .ok (.ifCond .eq 5, 3) := by decide +kernel
theorem d_M_block_196 : decode (iC M_M_block) 196 = .ok (.iconst 0, 1) := by decide +kernel
theorem d_M_block_197 : decode (iC M_M_block) 197 = .ok (.ireturn, 1) := by decide +kernel
theorem d_M_block_198 : decode (iC M_M_block) 198 = .ok (.aload_n 0, 1) := by decide +kernel
theorem d_M_block_199 : decode (iC M_M_block) 199 = .ok (.getfield 120, 3) := by decide +kernel
theorem d_M_block_202 : decode (iC M_M_block) 202 = .ok (.aload_n 0, 1) := by decide +kernel
theorem d_M_block_203 : decode (iC M_M_block) 203 = .ok (.getfield 117, 3) := by decide +kernel
theorem d_M_block_206 : decode (iC M_M_block) 206 = .ok (.iload_n 2, 1) := by decide +kernel
theorem d_M_block_207 : decode (iC M_M_block) 207 = .ok (.iaload, 1) := by decide +kernel
theorem d_M_block_208 : decode (iC M_M_block) 208 = .ok (.aload_n 0, 1) := by decide +kernel
theorem d_M_block_209 : decode (iC M_M_block) 209 = .ok (.aload_n 0, 1) := by decide +kernel
theorem d_M_block_210 : decode (iC M_M_block) 210 = .ok (.getfield 117, 3) := by decide +kernel
theorem d_M_block_213 : decode (iC M_M_block) 213 = .ok (.iload_n 2, 1) := by decide +kernel
theorem d_M_block_214 : decode (iC M_M_block) 214 = .ok (.iaload, 1) := by decide +kernel
theorem d_M_block_215 : decode (iC M_M_block) 215 = .ok (.iload 5, 2) := by decide +kernel
theorem d_M_block_217 : decode (iC M_M_block) 217 = .ok (.invokevirtual 148, 3) := by decide +kernel
theorem d_M_block_220 : decode (iC M_M_block) 220 = .ok (.iastore, 1) := by decide +kernel
theorem d_M_block_221 : decode (iC M_M_block) 221 = .ok (.aload_n 0, 1) := by decide +kernel
theorem d_M_block_222 : decode (iC M_M_block) 222 = .ok (.dup, 1) := by decide +kernel
theorem d_M_block_223 : decode (iC M_M_block) 223 = .ok (.getfield 151, 3) := by decide +kernel
theorem d_M_block_226 : decode (iC M_M_block) 226 = .ok (.iconst 1, 1) := by decide +kernel
theorem d_M_block_227 : decode (iC M_M_block) 227 = .ok (.iadd, 1) := by decide +kernel
theorem d_M_block_228 : decode (iC M_M_block) 228 = .ok (.putfield 151, 3) := by decide +kernel
theorem d_M_block_231 : decode (iC M_M_block) 231 = .ok (.iinc 2 1, 3) := by decide +kernel
theorem d_M_block_234 : decode (iC M_M_block) 234 = .ok (.goto (-135), 3) := by decide +kernel
theorem d_M_factor_0 : decode (iC M_M_factor) 0 = .ok (.iload_n 2, 1) := by decide +kernel
theorem d_M_factor_1 : decode (iC M_M_factor) 1 = .ok (.ifCond .ne 5, 3) := by decide +kernel
theorem d_M_factor_4 : decode (iC M_M_factor) 4 = .ok (.iconst 0, 1) := by decide +kernel
theorem d_M_factor_5 : decode (iC M_M_factor) 5 = .ok (.ireturn, 1) := by decide +kernel
theorem d_M_factor_6 : decode (iC M_M_factor) 6 = .ok (.bipush 8, 2) := by decide +kernel
theorem d_M_factor_8 : decode (iC M_M_factor) 8 = .ok (.iconst 2, 1) := by decide +kernel
theorem d_M_factor_9 : decode (iC M_M_factor) 9 = .ok (.iload_n 1, 1) := by decide +kernel
theorem d_M_factor_10 : decode (iC M_M_factor) 10 = .ok (.bipush 8, 2) := by decide +kernel
theorem d_M_factor_12 : decode (iC M_M_factor) 12 = .ok (.idiv, 1) := by decide +kernel
theorem d_M_factor_13 : decode (iC M_M_factor) 13 = .ok (.iload_n 1, 1) := by decide +kernel
theorem d_M_factor_14 : decode (iC M_M_factor) 14 = .ok (.bipush 8, 2) := by decide +kernel
theorem d_M_factor_16 : decode (iC M_M_factor) 16 = .ok (.irem, 1) := by decide +kernel
theorem d_M_factor_17 : decode (iC M_M_factor) 17 = .ok (.iadd, 1) := by decide +kernel
theorem d_M_factor_18 : decode (iC M_M_factor) 18 = .ok (.imul, 1) := by decide +kernel
theorem d_M_factor_19 : decode (iC M_M_factor) 19 = .ok (.iadd, 1) := by decide +kernel
theorem d_M_factor_20 : decode (iC M_M_factor) 20 = .ok (.istore_n 3, 1) := by decide +kernel
theorem d_M_factor_21 : decode (iC M_M_factor) 21 = .ok (.aload_n 0, 1) := by decide +kernel
theorem d_M_factor_22 : decode (iC M_M_factor) 22 = .ok (.getfield 132, 3) := by decide +kernel
theorem d_M_factor_25 : decode (iC M_M_factor) 25 = .ok (.ifCond .eq 28, 3) := by decide +kernel
theorem d_M_factor_28 : decode (iC M_M_factor) 28 = .ok (.iload_n 2, 1) := by decide +kernel
theorem d_M_factor_29 : decode (iC M_M_factor) 29 = .ok (.iload_n 3, 1) := by decide +kernel
theorem d_M_factor_30 : decode (iC M_M_factor) 30 = .ok (.bipush 38, 2) := by decide +kernel
theorem d_M_factor_32 : decode (iC M_M_factor) 32 = .ok (.if_icmp .le 8, 3) := by decide +kernel
theorem d_M_factor_35 : decode (iC M_M_factor) 35 = .ok (.bipush 38, 2) := by decide +kernel
theorem d_M_factor_37 : decode (iC M_M_factor) 37 = .ok (.goto 4, 3) := by decide +kernel
theorem d_M_factor_40 : decode (iC M_M_factor) 40 = .ok (.iload_n 3, 1) := by decide +kernel
theorem d_M_factor_41 : decode (iC M_M_factor) 41 = .ok (.imul, 1) := by decide +kernel
theorem d_M_factor_42 : decode (iC M_M_factor) 42 = .ok (.aload_n 0, 1) := by decide +kernel
theorem d_M_factor_43 : decode (iC M_M_factor) 43 = .ok (.getfield 135, 3) := by decide +kernel
theorem d_M_factor_46 : decode (iC M_M_factor) 46 = .ok (.imul, 1) := by decide +kernel
theorem d_M_factor_47 : decode (iC M_M_factor) 47 = .ok (.bipush 8, 2) := by decide +kernel
theorem d_M_factor_49 : decode (iC M_M_factor) 49 = .ok (.idiv, 1) := by decide +kernel
theorem d_M_factor_50 : decode (iC M_M_factor) 50 = .ok (.goto 25, 3) := by decide +kernel
theorem d_M_factor_53 : decode (iC M_M_factor) 53 = .ok (.iload_n 2, 1) := by decide +kernel
theorem d_M_factor_54 : decode (iC M_M_factor) 54 = .ok (.ifCond .le 11, 3) := by decide +kernel
theorem d_M_factor_57 : decode (iC M_M_factor) 57 = .ok (.iconst 2, 1) := by decide +kernel
theorem d_M_factor_58 : decode (iC M_M_factor) 58 = .ok (.iload_n 2, 1) := by decide +kernel
theorem d_M_factor_59 : decode (iC M_M_factor) 59 = .ok (.imul, 1) := by decide +kernel
theorem d_M_factor_60 : decode (iC M_M_factor) 60 = .ok (.iconst 1, 1) := by decide +kernel
theorem d_M_factor_61 : decode (iC M_M_factor) 61 = .ok (.iadd, 1) := by decide +kernel
theorem d_M_factor_62 : decode (iC M_M_factor) 62 = .ok (.goto 8, 3) := by decide +kernel
theorem d_M_factor_65 : decode (iC M_M_factor) 65 = .ok (.iconst 2, 1) := by decide +kernel
theorem d_M_factor_66 : decode (iC M_M_factor) 66 = .ok (.iload_n 2, 1) := by decide +kernel
theorem d_M_factor_67 : decode (iC M_M_factor) 67 = .ok (.imul, 1) := by decide +kernel
theorem d_M_factor_68 : decode (iC M_M_factor) 68 = .ok (.iconst 1, 1) := by decide +kernel
theorem d_M_factor_69 : decode (iC M_M_factor) 69 = .ok (.isub, 1) := by decide +kernel
theorem d_M_factor_70 : decode (iC M_M_factor) 70 = .ok (.aload_n 0, 1) := by decide +kernel
theorem d_M_factor_71 : decode (iC M_M_factor) 71 = .ok (.getfield 135, 3) := by decide +kernel
theorem d_M_factor_74 : decode (iC M_M_factor) 74 = .ok (.imul, 1) := by decide +kernel
theorem d_M_factor_75 : decode (iC M_M_factor) 75 = .ok (.istore 4, 2) := by decide +kernel
theorem d_M_factor_77 : decode (iC M_M_factor) 77 = .ok (.iload 4, 2) := by decide +kernel
theorem d_M_factor_79 : decode (iC M_M_factor) 79 = .ok (.sipush (-2048), 3) := by decide +kernel
theorem d_M_factor_82 : decode (iC M_M_factor) 82 = .ok (.sipush 2047, 3) := by decide +kernel
theorem d_M_factor_85 : decode (iC M_M_factor) 85 = .ok (.invokestatic 138, 3) := by decide +kernel
theorem d_M_factor_88 : decode (iC M_M_factor) 88 = .ok (.ireturn, 1) := by decide +kernel
theorem d_M_held_0 : decode (iC M_M_held) 0 = .ok (.iload_n 0, 1) := by decide +kernel
theorem d_M_held_1 : decode (iC M_M_held) 1 = .ok (.iload_n 1, 1) := by decide +kernel
theorem d_M_held_2 : decode (iC M_M_held) 2 = .ok (.if_icmp .ge 7, 3) := by decide +kernel
theorem d_M_held_5 : decode (iC M_M_held) 5 = .ok (.iload_n 1, 1) := by decide +kernel
theorem d_M_held_6 : decode (iC M_M_held) 6 = .ok (.goto 13, 3) := by decide +kernel
theorem d_M_held_9 : decode (iC M_M_held) 9 = .ok (.iload_n 0, 1) := by decide +kernel
theorem d_M_held_10 : decode (iC M_M_held) 10 = .ok (.iload_n 2, 1) := by decide +kernel
theorem d_M_held_11 : decode (iC M_M_held) 11 = .ok (.if_icmp .le 7, 3) := by decide +kernel
theorem d_M_held_14 : decode (iC M_M_held) 14 = .ok (.iload_n 2, 1) := by decide +kernel
theorem d_M_held_15 : decode (iC M_M_held) 15 = .ok (.goto 4, 3) := by decide +kernel
theorem d_M_held_18 : decode (iC M_M_held) 18 = .ok (.iload_n 0, 1) := by decide +kernel
theorem d_M_held_19 : decode (iC M_M_held) 19 = .ok (.ireturn, 1) := by decide +kernel
theorem d_M_sums_0 : decode (iC M_M_sums) 0 = .ok (.iconst 0, 1) := by decide +kernel
theorem d_M_sums_1 : decode (iC M_M_sums) 1 = .ok (.istore 4, 2) := by decide +kernel
theorem d_M_sums_3 : decode (iC M_M_sums) 3 = .ok (.iconst 0, 1) := by decide +kernel
theorem d_M_sums_4 : decode (iC M_M_sums) 4 = .ok (.istore 5, 2) := by decide +kernel
theorem d_M_sums_6 : decode (iC M_M_sums) 6 = .ok (.iload 5, 2) := by decide +kernel
theorem d_M_sums_8 : decode (iC M_M_sums) 8 = .ok (.bipush 64, 2) := by decide +kernel
theorem d_M_sums_10 : decode (iC M_M_sums) 10 = .ok (.if_icmp .ge 21, 3) := by decide +kernel
theorem d_M_sums_13 : decode (iC M_M_sums) 13 = .ok (.iload 4, 2) := by decide +kernel
theorem d_M_sums_15 : decode (iC M_M_sums) 15 = .ok (.aload_n 0, 1) := by decide +kernel
theorem d_M_sums_16 : decode (iC M_M_sums) 16 = .ok (.getfield 120, 3) := by decide +kernel
theorem d_M_sums_19 : decode (iC M_M_sums) 19 = .ok (.iload 5, 2) := by decide +kernel
theorem d_M_sums_21 : decode (iC M_M_sums) 21 = .ok (.iaload, 1) := by decide +kernel
theorem d_M_sums_22 : decode (iC M_M_sums) 22 = .ok (.iadd, 1) := by decide +kernel
theorem d_M_sums_23 : decode (iC M_M_sums) 23 = .ok (.istore 4, 2) := by decide +kernel
theorem d_M_sums_25 : decode (iC M_M_sums) 25 = .ok (.iinc 5 1, 3) := by decide +kernel
theorem d_M_sums_28 : decode (iC M_M_sums) 28 = .ok (.goto (-22), 3) := by decide +kernel
theorem d_M_sums_31 : decode (iC M_M_sums) 31 = .ok (.iload 4, 2) := by decide +kernel
theorem d_M_sums_33 : decode (iC M_M_sums) 33 = .ok (.iconst 2, 1) := by decide +kernel
theorem d_M_sums_34 : decode (iC M_M_sums) 34 = .ok (.irem, 1) := by decide +kernel
theorem d_M_sums_35 : decode (iC M_M_sums) 35 = .ok (.ifCond .ne 14, 3) := by decide +kernel
theorem d_M_sums_38 : decode (iC M_M_sums) 38 = .ok (.aload_n 0, 1) := by decide +kernel
theorem d_M_sums_39 : decode (iC M_M_sums) 39 = .ok (.getfield 120, 3) := by decide +kernel
theorem d_M_sums_42 : decode (iC M_M_sums) 42 = .ok (.bipush 63, 2) := by decide +kernel
theorem d_M_sums_44 : decode (iC M_M_sums) 44 = .ok (.dup2, 1) := by decide +kernel
theorem d_M_sums_45 : decode (iC M_M_sums) 45 = .ok (.iaload, 1) := by decide +kernel
theorem d_M_sums_46 : decode (iC M_M_sums) 46 = .ok (.iconst 1, 1) := by decide +kernel
theorem d_M_sums_47 : decode (iC M_M_sums) 47 = .ok (.ixor, 1) := by decide +kernel
theorem d_M_sums_48 : decode (iC M_M_sums) 48 = .ok (.iastore, 1) := by decide +kernel
theorem d_M_sums_49 : decode (iC M_M_sums) 49 = .ok (.iconst 0, 1) := by decide +kernel
theorem d_M_sums_50 : decode (iC M_M_sums) 50 = .ok (.istore 5, 2) := by decide +kernel
theorem d_M_sums_52 : decode (iC M_M_sums) 52 = .ok (.iload 5, 2) := by decide +kernel
theorem d_M_sums_54 : decode (iC M_M_sums) 54 = .ok (.bipush 8, 2) := by decide +kernel
theorem d_M_sums_56 : decode (iC M_M_sums) 56 = .ok (.if_icmp .ge 90, 3) := by decide +kernel
theorem d_M_sums_59 : decode (iC M_M_sums) 59 = .ok (.iconst 0, 1) := by decide +kernel
theorem d_M_sums_60 : decode (iC M_M_sums) 60 = .ok (.istore 6, 2) := by decide +kernel
theorem d_M_sums_62 : decode (iC M_M_sums) 62 = .ok (.iload 6, 2) := by decide +kernel
theorem d_M_sums_64 : decode (iC M_M_sums) 64 = .ok (.bipush 8, 2) := by decide +kernel
theorem d_M_sums_66 : decode (iC M_M_sums) 66 = .ok (.if_icmp .ge 74, 3) := by decide +kernel
theorem d_M_sums_69 : decode (iC M_M_sums) 69 = .ok (.sipush 1024, 3) := by decide +kernel
theorem d_M_sums_72 : decode (iC M_M_sums) 72 = .ok (.istore 7, 2) := by decide +kernel
theorem d_M_sums_74 : decode (iC M_M_sums) 74 = .ok (.iconst 0, 1) := by decide +kernel
theorem d_M_sums_75 : decode (iC M_M_sums) 75 = .ok (.istore 8, 2) := by decide +kernel
theorem d_M_sums_77 : decode (iC M_M_sums) 77 = .ok (.iload 8, 2) := by decide +kernel
theorem d_M_sums_79 : decode (iC M_M_sums) 79 = .ok (.bipush 8, 2) := by decide +kernel
theorem d_M_sums_81 : decode (iC M_M_sums) 81 = .ok (.if_icmp .ge 35, 3) := by decide +kernel
theorem d_M_sums_84 : decode (iC M_M_sums) 84 = .ok (.iload 7, 2) := by decide +kernel
theorem d_M_sums_86 : decode (iC M_M_sums) 86 = .ok (.aload_n 0, 1) := by decide +kernel
theorem d_M_sums_87 : decode (iC M_M_sums) 87 = .ok (.getfield 120, 3) := by decide +kernel
theorem d_M_sums_90 : decode (iC M_M_sums) 90 = .ok (.bipush 8, 2) := by decide +kernel
theorem d_M_sums_92 : decode (iC M_M_sums) 92 = .ok (.iload 5, 2) := by decide +kernel
theorem d_M_sums_94 : decode (iC M_M_sums) 94 = .ok (.imul, 1) := by decide +kernel
theorem d_M_sums_95 : decode (iC M_M_sums) 95 = .ok (.iload 8, 2) := by decide +kernel
theorem d_M_sums_97 : decode (iC M_M_sums) 97 = .ok (.iadd, 1) := by decide +kernel
theorem d_M_sums_98 : decode (iC M_M_sums) 98 = .ok (.iaload, 1) := by decide +kernel
theorem d_M_sums_99 : decode (iC M_M_sums) 99 = .ok (.iload 8, 2) := by decide +kernel
theorem d_M_sums_101 : decode (iC M_M_sums) 101 = .ok (.iload 6, 2) := by decide +kernel
theorem d_M_sums_103 : decode (iC M_M_sums) 103 = .ok (.invokestatic 141, 3) := by decide +kernel
theorem d_M_sums_106 : decode (iC M_M_sums) 106 = .ok (.imul, 1) := by decide +kernel
theorem d_M_sums_107 : decode (iC M_M_sums) 107 = .ok (.iadd, 1) := by decide +kernel
theorem d_M_sums_108 : decode (iC M_M_sums) 108 = .ok (.istore 7, 2) := by decide +kernel
theorem d_M_sums_110 : decode (iC M_M_sums) 110 = .ok (.iinc 8 1, 3) := by decide +kernel
theorem d_M_sums_113 : decode (iC M_M_sums) 113 = .ok (.goto (-36), 3) := by decide +kernel
theorem d_M_sums_116 : decode (iC M_M_sums) 116 = .ok (.aload_n 0, 1) := by decide +kernel
theorem d_M_sums_117 : decode (iC M_M_sums) 117 = .ok (.getfield 123, 3) := by decide +kernel
theorem d_M_sums_120 : decode (iC M_M_sums) 120 = .ok (.bipush 8, 2) := by decide +kernel
theorem d_M_sums_122 : decode (iC M_M_sums) 122 = .ok (.iload 5, 2) := by decide +kernel
theorem d_M_sums_124 : decode (iC M_M_sums) 124 = .ok (.imul, 1) := by decide +kernel
theorem d_M_sums_125 : decode (iC M_M_sums) 125 = .ok (.iload 6, 2) := by decide +kernel
theorem d_M_sums_127 : decode (iC M_M_sums) 127 = .ok (.iadd, 1) := by decide +kernel
theorem d_M_sums_128 : decode (iC M_M_sums) 128 = .ok (.iload 7, 2) := by decide +kernel
theorem d_M_sums_130 : decode (iC M_M_sums) 130 = .ok (.bipush 11, 2) := by decide +kernel
theorem d_M_sums_132 : decode (iC M_M_sums) 132 = .ok (.ishr, 1) := by decide +kernel
theorem d_M_sums_133 : decode (iC M_M_sums) 133 = .ok (.iastore, 1) := by decide +kernel
theorem d_M_sums_134 : decode (iC M_M_sums) 134 = .ok (.iinc 6 1, 3) := by decide +kernel
theorem d_M_sums_137 : decode (iC M_M_sums) 137 = .ok (.goto (-75), 3) := by decide +kernel
theorem d_M_sums_140 : decode (iC M_M_sums) 140 = .ok (.iinc 5 1, 3) := by decide +kernel
theorem d_M_sums_143 : decode (iC M_M_sums) 143 = .ok (.goto (-91), 3) := by decide +kernel
theorem d_M_sums_146 : decode (iC M_M_sums) 146 = .ok (.iconst 0, 1) := by decide +kernel
theorem d_M_sums_147 : decode (iC M_M_sums) 147 = .ok (.istore 5, 2) := by decide +kernel
theorem d_M_sums_149 : decode (iC M_M_sums) 149 = .ok (.iload 5, 2) := by decide +kernel
theorem d_M_sums_151 : decode (iC M_M_sums) 151 = .ok (.bipush 8, 2) := by decide +kernel
theorem d_M_sums_153 : decode (iC M_M_sums) 153 = .ok (.if_icmp .ge 133, 3) := by decide +kernel
theorem d_M_sums_156 : decode (iC M_M_sums) 156 = .ok (.iconst 0, 1) := by decide +kernel
theorem d_M_sums_157 : decode (iC M_M_sums) 157 = .ok (.istore 6, 2) := by decide +kernel
theorem d_M_sums_159 : decode (iC M_M_sums) 159 = .ok (.iload 6, 2) := by decide +kernel
theorem d_M_sums_161 : decode (iC M_M_sums) 161 = .ok (.bipush 8, 2) := by decide +kernel
theorem d_M_sums_163 : decode (iC M_M_sums) 163 = .ok (.if_icmp .ge 117, 3) := by decide +kernel
theorem d_M_sums_166 : decode (iC M_M_sums) 166 = .ok (.sipush 16384, 3) := by decide +kernel
theorem d_M_sums_169 : decode (iC M_M_sums) 169 = .ok (.istore 7, 2) := by decide +kernel
theorem d_M_sums_171 : decode (iC M_M_sums) 171 = .ok (.iconst 0, 1) := by decide +kernel
theorem d_M_sums_172 : decode (iC M_M_sums) 172 = .ok (.istore 8, 2) := by decide +kernel
theorem d_M_sums_174 : decode (iC M_M_sums) 174 = .ok (.iload 8, 2) := by decide +kernel
theorem d_M_sums_176 : decode (iC M_M_sums) 176 = .ok (.bipush 8, 2) := by decide +kernel
theorem d_M_sums_178 : decode (iC M_M_sums) 178 = .ok (.if_icmp .ge 35, 3) := by decide +kernel
theorem d_M_sums_181 : decode (iC M_M_sums) 181 = .ok (.iload 7, 2) := by decide +kernel
theorem d_M_sums_183 : decode (iC M_M_sums) 183 = .ok (.aload_n 0, 1) := by decide +kernel
theorem d_M_sums_184 : decode (iC M_M_sums) 184 = .ok (.getfield 123, 3) := by decide +kernel
theorem d_M_sums_187 : decode (iC M_M_sums) 187 = .ok (.bipush 8, 2) := by decide +kernel
theorem d_M_sums_189 : decode (iC M_M_sums) 189 = .ok (.iload 8, 2) := by decide +kernel
theorem d_M_sums_191 : decode (iC M_M_sums) 191 = .ok (.imul, 1) := by decide +kernel
theorem d_M_sums_192 : decode (iC M_M_sums) 192 = .ok (.iload 6, 2) := by decide +kernel
theorem d_M_sums_194 : decode (iC M_M_sums) 194 = .ok (.iadd, 1) := by decide +kernel
theorem d_M_sums_195 : decode (iC M_M_sums) 195 = .ok (.iaload, 1) := by decide +kernel
theorem d_M_sums_196 : decode (iC M_M_sums) 196 = .ok (.iload 8, 2) := by decide +kernel
theorem d_M_sums_198 : decode (iC M_M_sums) 198 = .ok (.iload 5, 2) := by decide +kernel
theorem d_M_sums_200 : decode (iC M_M_sums) 200 = .ok (.invokestatic 141, 3) := by decide +kernel
theorem d_M_sums_203 : decode (iC M_M_sums) 203 = .ok (.imul, 1) := by decide +kernel
theorem d_M_sums_204 : decode (iC M_M_sums) 204 = .ok (.iadd, 1) := by decide +kernel
theorem d_M_sums_205 : decode (iC M_M_sums) 205 = .ok (.istore 7, 2) := by decide +kernel
theorem d_M_sums_207 : decode (iC M_M_sums) 207 = .ok (.iinc 8 1, 3) := by decide +kernel
theorem d_M_sums_210 : decode (iC M_M_sums) 210 = .ok (.goto (-36), 3) := by decide +kernel
theorem d_M_sums_213 : decode (iC M_M_sums) 213 = .ok (.aload_n 0, 1) := by decide +kernel
theorem d_M_sums_214 : decode (iC M_M_sums) 214 = .ok (.iload_n 1, 1) := by decide +kernel
theorem d_M_sums_215 : decode (iC M_M_sums) 215 = .ok (.invokevirtual 57, 3) := by decide +kernel
theorem d_M_sums_218 : decode (iC M_M_sums) 218 = .ok (.aload_n 0, 1) := by decide +kernel
theorem d_M_sums_219 : decode (iC M_M_sums) 219 = .ok (.iload_n 1, 1) := by decide +kernel
theorem d_M_sums_220 : decode (iC M_M_sums) 220 = .ok (.invokevirtual 51, 3) := by decide +kernel
theorem d_M_sums_223 : decode (iC M_M_sums) 223 = .ok (.iload_n 3, 1) := by decide +kernel
theorem d_M_sums_224 : decode (iC M_M_sums) 224 = .ok (.iload 5, 2) := by decide +kernel
theorem d_M_sums_226 : decode (iC M_M_sums) 226 = .ok (.iadd, 1) := by decide +kernel
theorem d_M_sums_227 : decode (iC M_M_sums) 227 = .ok (.imul, 1) := by decide +kernel
theorem d_M_sums_228 : decode (iC M_M_sums) 228 = .ok (.iadd, 1) := by decide +kernel
theorem d_M_sums_229 : decode (iC M_M_sums) 229 = .ok (.iload_n 2, 1) := by decide +kernel
theorem d_M_sums_230 : decode (iC M_M_sums) 230 = .ok (.iadd, 1) := by decide +kernel
theorem d_M_sums_231 : decode (iC M_M_sums) 231 = .ok (.iload 6, 2) := by decide +kernel
theorem d_M_sums_233 : decode (iC M_M_sums) 233 = .ok (.iadd, 1) := by decide +kernel
theorem d_M_sums_234 : decode (iC M_M_sums) 234 = .ok (.istore 8, 2) := by decide +kernel
theorem d_M_sums_236 : decode (iC M_M_sums) 236 = .ok (.aload_n 0, 1) := by decide +kernel
theorem d_M_sums_237 : decode (iC M_M_sums) 237 = .ok (.getfield 94, 3) := by decide +kernel
theorem d_M_sums_240 : decode (iC M_M_sums) 240 = .ok (.iload 8, 2) := by decide +kernel
theorem d_M_sums_242 : decode (iC M_M_sums) 242 = .ok (.aload_n 0, 1) := by decide +kernel
theorem d_M_sums_243 : decode (iC M_M_sums) 243 = .ok (.getfield 132, 3) := by decide +kernel
theorem d_M_sums_246 : decode (iC M_M_sums) 246 = .ok (.ifCond .eq 7, 3) := by decide +kernel
theorem d_M_sums_249 : decode (iC M_M_sums) 249 = .ok (.iconst 0, 1) := by decide +kernel
theorem d_M_sums_250 : decode (iC M_M_sums) 250 = .ok (.goto 10, 3) := by decide +kernel
theorem d_M_sums_253 : decode (iC M_M_sums) 253 = .ok (.aload_n 0, 1) := by decide +kernel
theorem d_M_sums_254 : decode (iC M_M_sums) 254 = .ok (.getfield 94, 3) := by decide +kernel
theorem d_M_sums_257 : decode (iC M_M_sums) 257 = .ok (.iload 8, 2) := by decide +kernel
theorem d_M_sums_259 : decode (iC M_M_sums) 259 = .ok (.iaload, 1) := by decide +kernel
theorem d_M_sums_260 : decode (iC M_M_sums) 260 = .ok (.iload 7, 2) := by decide +kernel
theorem d_M_sums_262 : decode (iC M_M_sums) 262 = .ok (.bipush 15, 2) := by decide +kernel
theorem d_M_sums_264 : decode (iC M_M_sums) 264 = .ok (.ishr, 1) := by decide +kernel
theorem d_M_sums_265 : decode (iC M_M_sums) 265 = .ok (.iadd, 1) := by decide +kernel
theorem d_M_sums_266 : decode (iC M_M_sums) 266 = .ok (.iconst 0, 1) := by decide +kernel
theorem d_M_sums_267 : decode (iC M_M_sums) 267 = .ok (.sipush 255, 3) := by decide +kernel
theorem d_M_sums_270 : decode (iC M_M_sums) 270 = .ok (.invokestatic 138, 3) := by decide +kernel
theorem d_M_sums_273 : decode (iC M_M_sums) 273 = .ok (.iastore, 1) := by decide +kernel
theorem d_M_sums_274 : decode (iC M_M_sums) 274 = .ok (.iinc 6 1, 3) := by decide +kernel
theorem d_M_sums_277 : decode (iC M_M_sums) 277 = .ok (.goto (-118), 3) := by decide +kernel
theorem d_M_sums_280 : decode (iC M_M_sums) 280 = .ok (.iinc 5 1, 3) := by decide +kernel
theorem d_M_sums_283 : decode (iC M_M_sums) 283 = .ok (.goto (-134), 3) := by decide +kernel
theorem d_M_sums_286 : decode (iC M_M_sums) 286 = .ok (.return_, 1) := by decide +kernel
theorem d_M_wave_0 : decode (iC M_M_wave) 0 = .ok (.iload_n 1, 1) := by decide +kernel
theorem d_M_wave_1 : decode (iC M_M_wave) 1 = .ok (.iconst 4, 1) := by decide +kernel
theorem d_M_wave_2 : decode (iC M_M_wave) 2 = .ok (.if_icmp .ge 13, 3) := by decide +kernel
theorem d_M_wave_5 : decode (iC M_M_wave) 5 = .ok (.getstatic 129, 3) := by decide +kernel
theorem d_M_wave_8 : decode (iC M_M_wave) 8 = .ok (.iconst 4, 1) := by decide +kernel
theorem d_M_wave_9 : decode (iC M_M_wave) 9 = .ok (.iload_n 0, 1) := by decide +kernel
theorem d_M_wave_10 : decode (iC M_M_wave) 10 = .ok (.imul, 1) := by decide +kernel
theorem d_M_wave_11 : decode (iC M_M_wave) 11 = .ok (.iload_n 1, 1) := by decide +kernel
theorem d_M_wave_12 : decode (iC M_M_wave) 12 = .ok (.iadd, 1) := by decide +kernel
theorem d_M_wave_13 : decode (iC M_M_wave) 13 = .ok (.iaload, 1) := by decide +kernel
theorem d_M_wave_14 : decode (iC M_M_wave) 14 = .ok (.ireturn, 1) := by decide +kernel
theorem d_M_wave_15 : decode (iC M_M_wave) 15 = .ok (.iload_n 0, 1) := by decide +kernel
theorem d_M_wave_16 : decode (iC M_M_wave) 16 = .ok (.iconst 2, 1) := by decide +kernel
theorem d_M_wave_17 : decode (iC M_M_wave) 17 = .ok (.irem, 1) := by decide +kernel
theorem d_M_wave_18 : decode (iC M_M_wave) 18 = .ok (.iconst 1, 1) := by decide +kernel
theorem d_M_wave_19 : decode (iC M_M_wave) 19 = .ok (.if_icmp .ne 19, 3) := by decide +kernel
theorem d_M_wave_22 : decode (iC M_M_wave) 22 = .ok (.getstatic 129, 3) := by decide +kernel
theorem d_M_wave_25 : decode (iC M_M_wave) 25 = .ok (.iconst 4, 1) := by decide +kernel
theorem d_M_wave_26 : decode (iC M_M_wave) 26 = .ok (.iload_n 0, 1) := by decide +kernel
theorem d_M_wave_27 : decode (iC M_M_wave) 27 = .ok (.imul, 1) := by decide +kernel
theorem d_M_wave_28 : decode (iC M_M_wave) 28 = .ok (.bipush 7, 2) := by decide +kernel
theorem d_M_wave_30 : decode (iC M_M_wave) 30 = .ok (.iadd, 1) := by decide +kernel
theorem d_M_wave_31 : decode (iC M_M_wave) 31 = .ok (.iload_n 1, 1) := by decide +kernel
theorem d_M_wave_32 : decode (iC M_M_wave) 32 = .ok (.isub, 1) := by decide +kernel
theorem d_M_wave_33 : decode (iC M_M_wave) 33 = .ok (.iaload, 1) := by decide +kernel
theorem d_M_wave_34 : decode (iC M_M_wave) 34 = .ok (.ineg, 1) := by decide +kernel
theorem d_M_wave_35 : decode (iC M_M_wave) 35 = .ok (.goto 15, 3) := by decide +kernel
theorem d_M_wave_38 : decode (iC M_M_wave) 38 = .ok (.getstatic 129, 3) := by decide +kernel
theorem d_M_wave_41 : decode (iC M_M_wave) 41 = .ok (.iconst 4, 1) := by decide +kernel
theorem d_M_wave_42 : decode (iC M_M_wave) 42 = .ok (.iload_n 0, 1) := by decide +kernel
theorem d_M_wave_43 : decode (iC M_M_wave) 43 = .ok (.imul, 1) := by decide +kernel
theorem d_M_wave_44 : decode (iC M_M_wave) 44 = .ok (.bipush 7, 2) := by decide +kernel
theorem d_M_wave_46 : decode (iC M_M_wave) 46 = .ok (.iadd, 1) := by decide +kernel
theorem d_M_wave_47 : decode (iC M_M_wave) 47 = .ok (.iload_n 1, 1) := by decide +kernel
theorem d_M_wave_48 : decode (iC M_M_wave) 48 = .ok (.isub, 1) := by decide +kernel
theorem d_M_wave_49 : decode (iC M_M_wave) 49 = .ok (.iaload, 1) := by decide +kernel
theorem d_M_wave_50 : decode (iC M_M_wave) 50 = .ok (.ireturn, 1) := by decide +kernel
theorem d_M_lands_0 : decode (iC M_M_lands) 0 = .ok (.aload_n 0, 1) := by decide +kernel
theorem d_M_lands_1 : decode (iC M_M_lands) 1 = .ok (.dup, 1) := by decide +kernel
theorem d_M_lands_2 : decode (iC M_M_lands) 2 = .ok (.getfield 222, 3) := by decide +kernel
theorem d_M_lands_5 : decode (iC M_M_lands) 5 = .ok (.iconst 1, 1) := by decide +kernel
theorem d_M_lands_6 : decode (iC M_M_lands) 6 = .ok (.iadd, 1) := by decide +kernel
theorem d_M_lands_7 : decode (iC M_M_lands) 7 = .ok (.putfield 222, 3) := by decide +kernel
theorem d_M_lands_10 : decode (iC M_M_lands) 10 = .ok (.aload_n 0, 1) := by decide +kernel
theorem d_M_lands_11 : decode (iC M_M_lands) 11 = .ok (.getfield 70, 3) := by decide +kernel
theorem d_M_lands_14 : decode (iC M_M_lands) 14 = .ok (.iconst 3, 1) := by decide +kernel
theorem d_M_lands_15 : decode (iC M_M_lands) 15 = .ok (.if_icmp .ne 22, 3) := by decide +kernel
theorem d_M_lands_18 : decode (iC M_M_lands) 18 = .ok (.aload_n 0, 1) := by decide +kernel
theorem d_M_lands_19 : decode (iC M_M_lands) 19 = .ok (.aload_n 0, 1) := by decide +kernel
theorem d_M_lands_20 : decode (iC M_M_lands) 20 = .ok (.getfield 94, 3) := by decide +kernel
theorem d_M_lands_23 : decode (iC M_M_lands) 23 = .ok (.iconst 3, 1) := by decide +kernel
theorem d_M_lands_24 : decode (iC M_M_lands) 24 = .ok (.iload_n 1, 1) := by decide +kernel
theorem d_M_lands_25 : decode (iC M_M_lands) 25 = .ok (.aload_n 0, 1) := by decide +kernel
theorem d_M_lands_26 : decode (iC M_M_lands) 26 = .ok (.getfield 184, 3) := by decide +kernel
theorem d_M_lands_29 : decode (iC M_M_lands) 29 = .ok (.aload_n 0, 1) := by decide +kernel
theorem d_M_lands_30 : decode (iC M_M_lands) 30 = .ok (.getfield 199, 3) := by decide +kernel
theorem d_M_lands_33 : decode (iC M_M_lands) 33 = .ok (.invokevirtual 225, 3) := by decide +kernel
theorem d_M_lands_36 : decode (iC M_M_lands) 36 = .ok (.return_, 1) := by decide +kernel
theorem d_M_lands_37 : decode (iC M_M_lands) 37 = .ok (.aload_n 0, 1) := by decide +kernel
theorem d_M_lands_38 : decode (iC M_M_lands) 38 = .ok (.getfield 212, 3) := by decide +kernel
theorem d_M_lands_41 : decode (iC M_M_lands) 41 = .ok (.ifCond .eq 59, 3) := by decide +kernel
theorem d_M_lands_44 : decode (iC M_M_lands) 44 = .ok (.aload_n 0, 1) := by decide +kernel
theorem d_M_lands_45 : decode (iC M_M_lands) 45 = .ok (.aload_n 0, 1) := by decide +kernel
theorem d_M_lands_46 : decode (iC M_M_lands) 46 = .ok (.getfield 73, 3) := by decide +kernel
theorem d_M_lands_49 : decode (iC M_M_lands) 49 = .ok (.aload_n 0, 1) := by decide +kernel
theorem d_M_lands_50 : decode (iC M_M_lands) 50 = .ok (.getfield 229, 3) := by decide +kernel
theorem d_M_lands_53 : decode (iC M_M_lands) 53 = .ok (.aload_n 0, 1) := by decide +kernel
theorem d_M_lands_54 : decode (iC M_M_lands) 54 = .ok (.getfield 232, 3) := by decide +kernel
theorem d_M_lands_57 : decode (iC M_M_lands) 57 = .ok (.aload_n 0, 1) := by decide +kernel
theorem d_M_lands_58 : decode (iC M_M_lands) 58 = .ok (.getfield 235, 3) := by decide +kernel
theorem d_M_lands_61 : decode (iC M_M_lands) 61 = .ok (.aload_n 0, 1) := by decide +kernel
theorem d_M_lands_62 : decode (iC M_M_lands) 62 = .ok (.getfield 238, 3) := by decide +kernel
theorem d_M_lands_65 : decode (iC M_M_lands) 65 = .ok (.invokevirtual 225, 3) := by decide +kernel
theorem d_M_lands_68 : decode (iC M_M_lands) 68 = .ok (.iconst 0, 1) := by decide +kernel
theorem d_M_lands_69 : decode (iC M_M_lands) 69 = .ok (.istore_n 2, 1) := by decide +kernel
theorem d_M_lands_70 : decode (iC M_M_lands) 70 = .ok (.iload_n 2, 1) := by decide +kernel
theorem d_M_lands_71 : decode (iC M_M_lands) 71 = .ok (.sipush 6144, 3) := by decide +kernel
theorem d_M_lands_74 : decode (iC M_M_lands) 74 = .ok (.if_icmp .ge 21, 3) := by decide +kernel
theorem d_M_lands_77 : decode (iC M_M_lands) 77 = .ok (.aload_n 0, 1) := by decide +kernel
theorem d_M_lands_78 : decode (iC M_M_lands) 78 = .ok (.getfield 76, 3) := by decide +kernel
theorem d_M_lands_81 : decode (iC M_M_lands) 81 = .ok (.iload_n 2, 1) := by decide +kernel
theorem d_M_lands_82 : decode (iC M_M_lands) 82 = .ok (.aload_n 0, 1) := by decide +kernel
theorem d_M_lands_83 : decode (iC M_M_lands) 83 = .ok (.getfield 73, 3) := by decide +kernel
theorem d_M_lands_86 : decode (iC M_M_lands) 86 = .ok (.iload_n 2, 1) := by decide +kernel
theorem d_M_lands_87 : decode (iC M_M_lands) 87 = .ok (.iaload, 1) := by decide +kernel
theorem d_M_lands_88 : decode (iC M_M_lands) 88 = .ok (.iastore, 1) := by decide +kernel
theorem d_M_lands_89 : decode (iC M_M_lands) 89 = .ok (.iinc 2 1, 3) := by decide +kernel
theorem d_M_lands_92 : decode (iC M_M_lands) 92 = .ok (.goto (-22), 3) := by decide +kernel
theorem d_M_lands_95 : decode (iC M_M_lands) 95 = .ok (.aload_n 0, 1) := by decide +kernel
theorem d_M_lands_96 : decode (iC M_M_lands) 96 = .ok (.iconst 1, 1) := by decide +kernel
theorem d_M_lands_97 : decode (iC M_M_lands) 97 = .ok (.putfield 215, 3) := by decide +kernel
theorem d_M_lands_100 : decode (iC M_M_lands) 100 = .ok (.iconst 0, 1) := by decide +kernel
theorem d_M_lands_101 : decode (iC M_M_lands) 101 = .ok (.istore_n 2, 1) := by decide +kernel
theorem d_M_lands_102 : decode (iC M_M_lands) 102 = .ok (.iload_n 2, 1) := by decide +kernel
theorem d_M_lands_103 : decode (iC M_M_lands) 103 = .ok (.sipush 6144, 3) := by decide +kernel
theorem d_M_lands_106 : decode (iC M_M_lands) 106 = .ok (.if_icmp .ge 21, 3) := by decide +kernel
theorem d_M_lands_109 : decode (iC M_M_lands) 109 = .ok (.aload_n 0, 1) := by decide +kernel
theorem d_M_lands_110 : decode (iC M_M_lands) 110 = .ok (.getfield 73, 3) := by decide +kernel
theorem d_M_lands_113 : decode (iC M_M_lands) 113 = .ok (.iload_n 2, 1) := by decide +kernel
theorem d_M_lands_114 : decode (iC M_M_lands) 114 = .ok (.aload_n 0, 1) := by decide +kernel
theorem d_M_lands_115 : decode (iC M_M_lands) 115 = .ok (.getfield 94, 3) := by decide +kernel
theorem d_M_lands_118 : decode (iC M_M_lands) 118 = .ok (.iload_n 2, 1) := by decide +kernel
theorem d_M_lands_119 : decode (iC M_M_lands) 119 = .ok (.iaload, 1) := by decide +kernel
theorem d_M_lands_120 : decode (iC M_M_lands) 120 = .ok (.iastore, 1) := by decide +kernel
theorem d_M_lands_121 : decode (iC M_M_lands) 121 = .ok (.iinc 2 1, 3) := by decide +kernel
theorem d_M_lands_124 : decode (iC M_M_lands) 124 = .ok (.goto (-22), 3) := by decide +kernel
theorem d_M_lands_127 : decode (iC M_M_lands) 127 = .ok (.aload_n 0, 1) := by decide +kernel
theorem d_M_lands_128 : decode (iC M_M_lands) 128 = .ok (.iconst 1, 1) := by decide +kernel
theorem d_M_lands_129 : decode (iC M_M_lands) 129 = .ok (.putfield 212, 3) := by decide +kernel
theorem d_M_lands_132 : decode (iC M_M_lands) 132 = .ok (.aload_n 0, 1) := by decide +kernel
theorem d_M_lands_133 : decode (iC M_M_lands) 133 = .ok (.aload_n 0, 1) := by decide +kernel
theorem d_M_lands_134 : decode (iC M_M_lands) 134 = .ok (.getfield 70, 3) := by decide +kernel
theorem d_M_lands_137 : decode (iC M_M_lands) 137 = .ok (.putfield 229, 3) := by decide +kernel
theorem d_M_lands_140 : decode (iC M_M_lands) 140 = .ok (.aload_n 0, 1) := by decide +kernel
theorem d_M_lands_141 : decode (iC M_M_lands) 141 = .ok (.iload_n 1, 1) := by decide +kernel
theorem d_M_lands_142 : decode (iC M_M_lands) 142 = .ok (.putfield 232, 3) := by decide +kernel
theorem d_M_lands_145 : decode (iC M_M_lands) 145 = .ok (.aload_n 0, 1) := by decide +kernel
theorem d_M_lands_146 : decode (iC M_M_lands) 146 = .ok (.aload_n 0, 1) := by decide +kernel
theorem d_M_lands_147 : decode (iC M_M_lands) 147 = .ok (.getfield 184, 3) := by decide +kernel
theorem d_M_lands_150 : decode (iC M_M_lands) 150 = .ok (.putfield 235, 3) := by decide +kernel
theorem d_M_lands_153 : decode (iC M_M_lands) 153 = .ok (.aload_n 0, 1) := by decide +kernel
theorem d_M_lands_154 : decode (iC M_M_lands) 154 = .ok (.aload_n 0, 1) := by decide +kernel
theorem d_M_lands_155 : decode (iC M_M_lands) 155 = .ok (.getfield 199, 3) := by decide +kernel
theorem d_M_lands_158 : decode (iC M_M_lands) 158 = .ok (.putfield 238, 3) := by decide +kernel
theorem d_M_lands_161 : decode (iC M_M_lands) 161 = .ok (.return_, 1) := by decide +kernel
theorem d_M_shows_0 : decode (iC M_M_shows) 0 = .ok (.aload_n 0, 1) := by decide +kernel
theorem d_M_shows_1 : decode (iC M_M_shows) 1 = .ok (.getfield 41, 3) := by decide +kernel
theorem d_M_shows_4 : decode (iC M_M_shows) 4 = .ok (.bipush 20, 2) := by decide +kernel
theorem d_M_shows_6 : decode (iC M_M_shows) 6 = .ok (.if_icmp .ge 107, 3) := by decide +kernel
theorem d_M_shows_9 : decode (iC M_M_shows) 9 = .ok (.iconst 0, 1) := by decide +kernel
theorem d_M_shows_10 : decode (iC M_M_shows) 10 = .ok (.istore 6, 2) := by decide +kernel
theorem d_M_shows_12 : decode (iC M_M_shows) 12 = .ok (.iload 6, 2) := by decide +kernel
theorem d_M_shows_14 : decode (iC M_M_shows) 14 = .ok (.sipush 384, 3) := by decide +kernel
theorem d_M_shows_17 : decode (iC M_M_shows) 17 = .ok (.aload_n 0, 1) := by decide +kernel
theorem d_M_shows_18 : decode (iC M_M_shows) 18 = .ok (.getfield 35, 3) := by decide +kernel
theorem d_M_shows_21 : decode (iC M_M_shows) 21 = .ok (.imul, 1) := by decide +kernel
theorem d_M_shows_22 : decode (iC M_M_shows) 22 = .ok (.aload_n 0, 1) := by decide +kernel
theorem d_M_shows_23 : decode (iC M_M_shows) 23 = .ok (.getfield 38, 3) := by decide +kernel
theorem d_M_shows_26 : decode (iC M_M_shows) 26 = .ok (.imul, 1) := by decide +kernel
theorem d_M_shows_27 : decode (iC M_M_shows) 27 = .ok (.if_icmp .ge 30, 3) := by decide +kernel
theorem d_M_shows_30 : decode (iC M_M_shows) 30 = .ok (.aload_n 0, 1) := by decide +kernel
theorem d_M_shows_31 : decode (iC M_M_shows) 31 = .ok (.getfield 44, 3) := by decide +kernel
theorem d_M_shows_34 : decode (iC M_M_shows) 34 = .ok (.sipush 6144, 3) := by decide +kernel
theorem d_M_shows_37 : decode (iC M_M_shows) 37 = .ok (.aload_n 0, 1) := by decide +kernel
theorem d_M_shows_38 : decode (iC M_M_shows) 38 = .ok (.getfield 41, 3) := by decide +kernel
theorem d_M_shows_41 : decode (iC M_M_shows) 41 = .ok (.imul, 1) := by decide +kernel
theorem d_M_shows_42 : decode (iC M_M_shows) 42 = .ok (.iload 6, 2) := by decide +kernel
theorem d_M_shows_44 : decode (iC M_M_shows) 44 = .ok (.iadd, 1) := by decide +kernel
theorem d_M_shows_45 : decode (iC M_M_shows) 45 = .ok (.aload_n 1, 1) := by decide +kernel
theorem d_M_shows_46 : decode (iC M_M_shows) 46 = .ok (.iload 6, 2) := by decide +kernel
theorem d_M_shows_48 : decode (iC M_M_shows) 48 = .ok (.iaload, 1) := by decide +kernel
theorem d_M_shows_49 : decode (iC M_M_shows) 49 = .ok (.i2b, 1) := by decide +kernel
theorem d_M_shows_50 : decode (iC M_M_shows) 50 = .ok (.bastore, 1) := by decide +kernel
theorem d_M_shows_51 : decode (iC M_M_shows) 51 = .ok (.iinc 6 1, 3) := by decide +kernel
theorem d_M_shows_54 : decode (iC M_M_shows) 54 = .ok (.goto (-42), 3) := by decide +kernel
theorem d_M_shows_57 : decode (iC M_M_shows) 57 = .ok (.aload_n 0, 1) := by decide +kernel
theorem d_M_shows_58 : decode (iC M_M_shows) 58 = .ok (.getfield 47, 3) := by decide +kernel
theorem d_M_shows_61 : decode (iC M_M_shows) 61 = .ok (.iconst 4, 1) := by decide +kernel
theorem d_M_shows_62 : decode (iC M_M_shows) 62 = .ok (.aload_n 0, 1) := by decide +kernel
theorem d_M_shows_63 : decode (iC M_M_shows) 63 = .ok (.getfield 41, 3) := by decide +kernel
theorem d_M_shows_66 : decode (iC M_M_shows) 66 = .ok (.imul, 1) := by decide +kernel
theorem d_M_shows_67 : decode (iC M_M_shows) 67 = .ok (.iload_n 2, 1) := by decide +kernel
theorem d_M_shows_68 : decode (iC M_M_shows) 68 = .ok (.iastore, 1) := by decide +kernel
theorem d_M_shows_69 : decode (iC M_M_shows) 69 = .ok (.aload_n 0, 1) := by decide +kernel
theorem d_M_shows_70 : decode (iC M_M_shows) 70 = .ok (.getfield 47, 3) := by decide +kernel
theorem d_M_shows_73 : decode (iC M_M_shows) 73 = .ok (.iconst 4, 1) := by decide +kernel
theorem d_M_shows_74 : decode (iC M_M_shows) 74 = .ok (.aload_n 0, 1) := by decide +kernel
theorem d_M_shows_75 : decode (iC M_M_shows) 75 = .ok (.getfield 41, 3) := by decide +kernel
theorem d_M_shows_78 : decode (iC M_M_shows) 78 = .ok (.imul, 1) := by decide +kernel
theorem d_M_shows_79 : decode (iC M_M_shows) 79 = .ok (.iconst 1, 1) := by decide +kernel
theorem d_M_shows_80 : decode (iC M_M_shows) 80 = .ok (.iadd, 1) := by decide +kernel
theorem d_M_shows_81 : decode (iC M_M_shows) 81 = .ok (.iload_n 3, 1) := by decide +kernel
theorem d_M_shows_82 : decode (iC M_M_shows) 82 = .ok (.iastore, 1) := by decide +kernel
theorem d_M_shows_83 : decode (iC M_M_shows) 83 = .ok (.aload_n 0, 1) := by decide +kernel
theorem d_M_shows_84 : decode (iC M_M_shows) 84 = .ok (.getfield 47, 3) := by decide +kernel
theorem d_M_shows_87 : decode (iC M_M_shows) 87 = .ok (.iconst 4, 1) := by decide +kernel
theorem d_M_shows_88 : decode (iC M_M_shows) 88 = .ok (.aload_n 0, 1) := by decide +kernel
theorem d_M_shows_89 : decode (iC M_M_shows) 89 = .ok (.getfield 41, 3) := by decide +kernel
theorem d_M_shows_92 : decode (iC M_M_shows) 92 = .ok (.imul, 1) := by decide +kernel
theorem d_M_shows_93 : decode (iC M_M_shows) 93 = .ok (.iconst 2, 1) := by decide +kernel
theorem d_M_shows_94 : decode (iC M_M_shows) 94 = .ok (.iadd, 1) := by decide +kernel
theorem d_M_shows_95 : decode (iC M_M_shows) 95 = .ok (.iload 4, 2) := by decide +kernel
theorem d_M_shows_97 : decode (iC M_M_shows) 97 = .ok (.iastore, 1) := by decide +kernel
theorem d_M_shows_98 : decode (iC M_M_shows) 98 = .ok (.aload_n 0, 1) := by decide +kernel
theorem d_M_shows_99 : decode (iC M_M_shows) 99 = .ok (.getfield 47, 3) := by decide +kernel
theorem d_M_shows_102 : decode (iC M_M_shows) 102 = .ok (.iconst 4, 1) := by decide +kernel
theorem d_M_shows_103 : decode (iC M_M_shows) 103 = .ok (.aload_n 0, 1) := by decide +kernel
theorem d_M_shows_104 : decode (iC M_M_shows) 104 = .ok (.getfield 41, 3) := by decide +kernel
theorem d_M_shows_107 : decode (iC M_M_shows) 107 = .ok (.imul, 1) := by decide +kernel
theorem d_M_shows_108 : decode (iC M_M_shows) 108 = .ok (.iconst 3, 1) := by decide +kernel
theorem d_M_shows_109 : decode (iC M_M_shows) 109 = .ok (.iadd, 1) := by decide +kernel
theorem d_M_shows_110 : decode (iC M_M_shows) 110 = .ok (.iload 5, 2) := by decide +kernel
theorem d_M_shows_112 : decode (iC M_M_shows) 112 = .ok (.iastore, 1) := by decide +kernel
theorem d_M_shows_113 : decode (iC M_M_shows) 113 = .ok (.aload_n 0, 1) := by decide +kernel
theorem d_M_shows_114 : decode (iC M_M_shows) 114 = .ok (.dup, 1) := by decide +kernel
theorem d_M_shows_115 : decode (iC M_M_shows) 115 = .ok (.getfield 41, 3) := by decide +kernel
theorem d_M_shows_118 : decode (iC M_M_shows) 118 = .ok (.iconst 1, 1) := by decide +kernel
theorem d_M_shows_119 : decode (iC M_M_shows) 119 = .ok (.iadd, 1) := by decide +kernel
theorem d_M_shows_120 : decode (iC M_M_shows) 120 = .ok (.putfield 41, 3) := by decide +kernel
theorem d_M_shows_123 : decode (iC M_M_shows) 123 = .ok (.return_, 1) := by decide +kernel
theorem d_M_wrong_0 : decode (iC M_M_wrong) 0 = .ok (.aload_n 0, 1) := by decide +kernel
theorem d_M_wrong_1 : decode (iC M_M_wrong) 1 = .ok (.iconst 0, 1) := by decide +kernel
theorem d_M_wrong_2 : decode (iC M_M_wrong) 2 = .ok (.putfield 1, 3) := by decide +kernel
theorem d_M_wrong_5 : decode (iC M_M_wrong) 5 = .ok (.aload_n 0, 1) := by decide +kernel
theorem d_M_wrong_6 : decode (iC M_M_wrong) 6 = .ok (.getfield 7, 3) := by decide +kernel
theorem d_M_wrong_9 : decode (iC M_M_wrong) 9 = .ok (.ireturn, 1) := by decide +kernel
theorem d_M_look_0 : decode (iC M_M_look) 0 = .ok (.aload_n 0, 1) := by decide +kernel
theorem d_M_look_1 : decode (iC M_M_look) 1 = .ok (.iconst 0, 1) := by decide +kernel
theorem d_M_look_2 : decode (iC M_M_look) 2 = .ok (.putfield 1, 3) := by decide +kernel
theorem d_M_look_5 : decode (iC M_M_look) 5 = .ok (.iload_n 1, 1) := by decide +kernel
theorem d_M_look_6 : decode (iC M_M_look) 6 = .ok (.tableswitch 86 0 7 #[46, 51, 56, 61, 66, 71, 76, 81], 46) := by decide +kernel
theorem d_M_look_52 : decode (iC M_M_look) 52 = .ok (.aload_n 0, 1) := by decide +kernel
theorem d_M_look_53 : decode (iC M_M_look) 53 = .ok (.getfield 244, 3) := by decide +kernel
theorem d_M_look_56 : decode (iC M_M_look) 56 = .ok (.ireturn, 1) := by decide +kernel
theorem d_M_look_57 : decode (iC M_M_look) 57 = .ok (.aload_n 0, 1) := by decide +kernel
theorem d_M_look_58 : decode (iC M_M_look) 58 = .ok (.getfield 247, 3) := by decide +kernel
theorem d_M_look_61 : decode (iC M_M_look) 61 = .ok (.ireturn, 1) := by decide +kernel
theorem d_M_look_62 : decode (iC M_M_look) 62 = .ok (.aload_n 0, 1) := by decide +kernel
theorem d_M_look_63 : decode (iC M_M_look) 63 = .ok (.getfield 41, 3) := by decide +kernel
theorem d_M_look_66 : decode (iC M_M_look) 66 = .ok (.ireturn, 1) := by decide +kernel
theorem d_M_look_67 : decode (iC M_M_look) 67 = .ok (.aload_n 0, 1) := by decide +kernel
theorem d_M_look_68 : decode (iC M_M_look) 68 = .ok (.getfield 222, 3) := by decide +kernel
theorem d_M_look_71 : decode (iC M_M_look) 71 = .ok (.ireturn, 1) := by decide +kernel
theorem d_M_look_72 : decode (iC M_M_look) 72 = .ok (.aload_n 0, 1) := by decide +kernel
theorem d_M_look_73 : decode (iC M_M_look) 73 = .ok (.getfield 181, 3) := by decide +kernel
theorem d_M_look_76 : decode (iC M_M_look) 76 = .ok (.ireturn, 1) := by decide +kernel
theorem d_M_look_77 : decode (iC M_M_look) 77 = .ok (.aload_n 0, 1) := by decide +kernel
theorem d_M_look_78 : decode (iC M_M_look) 78 = .ok (.getfield 196, 3) := by decide +kernel
theorem d_M_look_81 : decode (iC M_M_look) 81 = .ok (.ireturn, 1) := by decide +kernel
theorem d_M_look_82 : decode (iC M_M_look) 82 = .ok (.aload_n 0, 1) := by decide +kernel
theorem d_M_look_83 : decode (iC M_M_look) 83 = .ok (.getfield 157, 3) := by decide +kernel
theorem d_M_look_86 : decode (iC M_M_look) 86 = .ok (.ireturn, 1) := by decide +kernel
theorem d_M_look_87 : decode (iC M_M_look) 87 = .ok (.aload_n 0, 1) := by decide +kernel
theorem d_M_look_88 : decode (iC M_M_look) 88 = .ok (.getfield 151, 3) := by decide +kernel
theorem d_M_look_91 : decode (iC M_M_look) 91 = .ok (.ireturn, 1) := by decide +kernel
theorem d_M_look_92 : decode (iC M_M_look) 92 = .ok (.aload_n 0, 1) := by decide +kernel
theorem d_M_look_93 : decode (iC M_M_look) 93 = .ok (.iconst 1, 1) := by decide +kernel
theorem d_M_look_94 : decode (iC M_M_look) 94 = .ok (.putfield 1, 3) := by decide +kernel
theorem d_M_look_97 : decode (iC M_M_look) 97 = .ok (.iconst 0, 1) := by decide +kernel
theorem d_M_look_98 : decode (iC M_M_look) 98 = .ok (.ireturn, 1) := by decide +kernel
theorem d_M_shown_0 : decode (iC M_M_shown) 0 = .ok (.aload_n 0, 1) := by decide +kernel
theorem d_M_shown_1 : decode (iC M_M_shown) 1 = .ok (.iconst 0, 1) := by decide +kernel
theorem d_M_shown_2 : decode (iC M_M_shown) 2 = .ok (.putfield 1, 3) := by decide +kernel
theorem d_M_shown_5 : decode (iC M_M_shown) 5 = .ok (.aload_n 0, 1) := by decide +kernel
theorem d_M_shown_6 : decode (iC M_M_shown) 6 = .ok (.iload_n 1, 1) := by decide +kernel
theorem d_M_shown_7 : decode (iC M_M_shown) 7 = .ok (.invokevirtual 264, 3) := by decide +kernel
theorem d_M_shown_10 : decode (iC M_M_shown) 10 = .ok (.ifCond .ne 12, 3) := by decide +kernel
theorem d_M_shown_13 : decode (iC M_M_shown) 13 = .ok (.iload_n 2, 1) := by decide +kernel
theorem d_M_shown_14 : decode (iC M_M_shown) 14 = .ok (.ifCond .lt 8, 3) := by decide +kernel
theorem d_M_shown_17 : decode (iC M_M_shown) 17 = .ok (.iload_n 2, 1) := by decide +kernel
theorem d_M_shown_18 : decode (iC M_M_shown) 18 = .ok (.iconst 3, 1) := by decide +kernel
theorem d_M_shown_19 : decode (iC M_M_shown) 19 = .ok (.if_icmp .le 10, 3) := by decide +kernel
theorem d_M_shown_22 : decode (iC M_M_shown) 22 = .ok (.aload_n 0, 1) := by decide +kernel
theorem d_M_shown_23 : decode (iC M_M_shown) 23 = .ok (.iconst 1, 1) := by decide +kernel
theorem d_M_shown_24 : decode (iC M_M_shown) 24 = .ok (.putfield 1, 3) := by decide +kernel
theorem d_M_shown_27 : decode (iC M_M_shown) 27 = .ok (.iconst 0, 1) := by decide +kernel
theorem d_M_shown_28 : decode (iC M_M_shown) 28 = .ok (.ireturn, 1) := by decide +kernel
theorem d_M_shown_29 : decode (iC M_M_shown) 29 = .ok (.aload_n 0, 1) := by decide +kernel
theorem d_M_shown_30 : decode (iC M_M_shown) 30 = .ok (.getfield 47, 3) := by decide +kernel
theorem d_M_shown_33 : decode (iC M_M_shown) 33 = .ok (.iconst 4, 1) := by decide +kernel
theorem d_M_shown_34 : decode (iC M_M_shown) 34 = .ok (.iload_n 1, 1) := by decide +kernel
theorem d_M_shown_35 : decode (iC M_M_shown) 35 = .ok (.imul, 1) := by decide +kernel
theorem d_M_shown_36 : decode (iC M_M_shown) 36 = .ok (.iload_n 2, 1) := by decide +kernel
theorem d_M_shown_37 : decode (iC M_M_shown) 37 = .ok (.iadd, 1) := by decide +kernel
theorem d_M_shown_38 : decode (iC M_M_shown) 38 = .ok (.iaload, 1) := by decide +kernel
theorem d_M_shown_39 : decode (iC M_M_shown) 39 = .ok (.ireturn, 1) := by decide +kernel
theorem d_M_noPicture_0 : decode (iC M_M_noPicture) 0 = .ok (.iload_n 1, 1) := by decide +kernel
theorem d_M_noPicture_1 : decode (iC M_M_noPicture) 1 = .ok (.ifCond .lt 17, 3) := by decide +kernel
theorem d_M_noPicture_4 : decode (iC M_M_noPicture) 4 = .ok (.iload_n 1, 1) := by decide +kernel
theorem d_M_noPicture_5 : decode (iC M_M_noPicture) 5 = .ok (.aload_n 0, 1) := by decide +kernel
theorem d_M_noPicture_6 : decode (iC M_M_noPicture) 6 = .ok (.getfield 41, 3) := by decide +kernel
theorem d_M_noPicture_9 : decode (iC M_M_noPicture) 9 = .ok (.if_icmp .ge 9, 3) := by decide +kernel
theorem d_M_noPicture_12 : decode (iC M_M_noPicture) 12 = .ok (.iload_n 1, 1) := by decide +kernel
theorem d_M_noPicture_13 : decode (iC M_M_noPicture) 13 = .ok (.bipush 20, 2) := by decide +kernel
theorem d_M_noPicture_15 : decode (iC M_M_noPicture) 15 = .ok (.if_icmp .lt 7, 3) := by decide +kernel
theorem d_M_noPicture_18 : decode (iC M_M_noPicture) 18 = .ok (.iconst 1, 1) := by decide +kernel
theorem d_M_noPicture_19 : decode (iC M_M_noPicture) 19 = .ok (.goto 4, 3) := by decide +kernel
theorem d_M_noPicture_22 : decode (iC M_M_noPicture) 22 = .ok (.iconst 0, 1) := by decide +kernel
theorem d_M_noPicture_23 : decode (iC M_M_noPicture) 23 = .ok (.ireturn, 1) := by decide +kernel
theorem d_M_dot_0 : decode (iC M_M_dot) 0 = .ok (.aload_n 0, 1) := by decide +kernel
theorem d_M_dot_1 : decode (iC M_M_dot) 1 = .ok (.iconst 0, 1) := by decide +kernel
theorem d_M_dot_2 : decode (iC M_M_dot) 2 = .ok (.putfield 1, 3) := by decide +kernel
theorem d_M_dot_5 : decode (iC M_M_dot) 5 = .ok (.aload_n 0, 1) := by decide +kernel
theorem d_M_dot_6 : decode (iC M_M_dot) 6 = .ok (.iload_n 1, 1) := by decide +kernel
theorem d_M_dot_7 : decode (iC M_M_dot) 7 = .ok (.iload_n 2, 1) := by decide +kernel
theorem d_M_dot_8 : decode (iC M_M_dot) 8 = .ok (.invokevirtual 267, 3) := by decide +kernel
theorem d_M_dot_11 : decode (iC M_M_dot) 11 = .ok (.ifCond .ne 31, 3) := by decide +kernel
theorem d_M_dot_14 : decode (iC M_M_dot) 14 = .ok (.iload_n 3, 1) := by decide +kernel
theorem d_M_dot_15 : decode (iC M_M_dot) 15 = .ok (.ifCond .lt 27, 3) := by decide +kernel
theorem d_M_dot_18 : decode (iC M_M_dot) 18 = .ok (.iload 4, 2) := by decide +kernel
theorem d_M_dot_20 : decode (iC M_M_dot) 20 = .ok (.ifCond .lt 22, 3) := by decide +kernel
theorem d_M_dot_23 : decode (iC M_M_dot) 23 = .ok (.iload_n 3, 1) := by decide +kernel
theorem d_M_dot_24 : decode (iC M_M_dot) 24 = .ok (.aload_n 0, 1) := by decide +kernel
theorem d_M_dot_25 : decode (iC M_M_dot) 25 = .ok (.iload_n 2, 1) := by decide +kernel
theorem d_M_dot_26 : decode (iC M_M_dot) 26 = .ok (.invokevirtual 51, 3) := by decide +kernel
theorem d_M_dot_29 : decode (iC M_M_dot) 29 = .ok (.if_icmp .ge 13, 3) := by decide +kernel
theorem d_M_dot_32 : decode (iC M_M_dot) 32 = .ok (.iload 4, 2) := by decide +kernel
theorem d_M_dot_34 : decode (iC M_M_dot) 34 = .ok (.aload_n 0, 1) := by decide +kernel
theorem d_M_dot_35 : decode (iC M_M_dot) 35 = .ok (.iload_n 2, 1) := by decide +kernel
theorem d_M_dot_36 : decode (iC M_M_dot) 36 = .ok (.invokevirtual 54, 3) := by decide +kernel
theorem d_M_dot_39 : decode (iC M_M_dot) 39 = .ok (.if_icmp .lt 5, 3) := by decide +kernel
theorem d_M_dot_42 : decode (iC M_M_dot) 42 = .ok (.iconst (-1), 1) := by decide +kernel
theorem d_M_dot_43 : decode (iC M_M_dot) 43 = .ok (.ireturn, 1) := by decide +kernel
theorem d_M_dot_44 : decode (iC M_M_dot) 44 = .ok (.aload_n 0, 1) := by decide +kernel
theorem d_M_dot_45 : decode (iC M_M_dot) 45 = .ok (.getfield 44, 3) := by decide +kernel
theorem d_M_dot_48 : decode (iC M_M_dot) 48 = .ok (.sipush 6144, 3) := by decide +kernel
theorem d_M_dot_51 : decode (iC M_M_dot) 51 = .ok (.iload_n 1, 1) := by decide +kernel
theorem d_M_dot_52 : decode (iC M_M_dot) 52 = .ok (.imul, 1) := by decide +kernel
theorem d_M_dot_53 : decode (iC M_M_dot) 53 = .ok (.aload_n 0, 1) := by decide +kernel
theorem d_M_dot_54 : decode (iC M_M_dot) 54 = .ok (.iload_n 2, 1) := by decide +kernel
theorem d_M_dot_55 : decode (iC M_M_dot) 55 = .ok (.invokevirtual 57, 3) := by decide +kernel
theorem d_M_dot_58 : decode (iC M_M_dot) 58 = .ok (.iadd, 1) := by decide +kernel
theorem d_M_dot_59 : decode (iC M_M_dot) 59 = .ok (.aload_n 0, 1) := by decide +kernel
theorem d_M_dot_60 : decode (iC M_M_dot) 60 = .ok (.iload_n 2, 1) := by decide +kernel
theorem d_M_dot_61 : decode (iC M_M_dot) 61 = .ok (.invokevirtual 51, 3) := by decide +kernel
theorem d_M_dot_64 : decode (iC M_M_dot) 64 = .ok (.iload 4, 2) := by decide +kernel
theorem d_M_dot_66 : decode (iC M_M_dot) 66 = .ok (.imul, 1) := by decide +kernel
theorem d_M_dot_67 : decode (iC M_M_dot) 67 = .ok (.iadd, 1) := by decide +kernel
theorem d_M_dot_68 : decode (iC M_M_dot) 68 = .ok (.iload_n 3, 1) := by decide +kernel
theorem d_M_dot_69 : decode (iC M_M_dot) 69 = .ok (.iadd, 1) := by decide +kernel
theorem d_M_dot_70 : decode (iC M_M_dot) 70 = .ok (.baload, 1) := by decide +kernel
theorem d_M_dot_71 : decode (iC M_M_dot) 71 = .ok (.sipush 255, 3) := by decide +kernel
theorem d_M_dot_74 : decode (iC M_M_dot) 74 = .ok (.iand, 1) := by decide +kernel
theorem d_M_dot_75 : decode (iC M_M_dot) 75 = .ok (.ireturn, 1) := by decide +kernel
theorem d_M_noPlane_0 : decode (iC M_M_noPlane) 0 = .ok (.aload_n 0, 1) := by decide +kernel
theorem d_M_noPlane_1 : decode (iC M_M_noPlane) 1 = .ok (.iload_n 1, 1) := by decide +kernel
theorem d_M_noPlane_2 : decode (iC M_M_noPlane) 2 = .ok (.invokevirtual 264, 3) := by decide +kernel
theorem d_M_noPlane_5 : decode (iC M_M_noPlane) 5 = .ok (.ifCond .ne 12, 3) := by decide +kernel
theorem d_M_noPlane_8 : decode (iC M_M_noPlane) 8 = .ok (.iload_n 2, 1) := by decide +kernel
theorem d_M_noPlane_9 : decode (iC M_M_noPlane) 9 = .ok (.ifCond .lt 8, 3) := by decide +kernel
theorem d_M_noPlane_12 : decode (iC M_M_noPlane) 12 = .ok (.iload_n 2, 1) := by decide +kernel
theorem d_M_noPlane_13 : decode (iC M_M_noPlane) 13 = .ok (.iconst 2, 1) := by decide +kernel
theorem d_M_noPlane_14 : decode (iC M_M_noPlane) 14 = .ok (.if_icmp .le 7, 3) := by decide +kernel
theorem d_M_noPlane_17 : decode (iC M_M_noPlane) 17 = .ok (.iconst 1, 1) := by decide +kernel
theorem d_M_noPlane_18 : decode (iC M_M_noPlane) 18 = .ok (.goto 4, 3) := by decide +kernel
theorem d_M_noPlane_21 : decode (iC M_M_noPlane) 21 = .ok (.iconst 0, 1) := by decide +kernel
theorem d_M_noPlane_22 : decode (iC M_M_noPlane) 22 = .ok (.ireturn, 1) := by decide +kernel
theorem d_M_sum_0 : decode (iC M_M_sum) 0 = .ok (.aload_n 0, 1) := by decide +kernel
theorem d_M_sum_1 : decode (iC M_M_sum) 1 = .ok (.iconst 0, 1) := by decide +kernel
theorem d_M_sum_2 : decode (iC M_M_sum) 2 = .ok (.putfield 1, 3) := by decide +kernel
theorem d_M_sum_5 : decode (iC M_M_sum) 5 = .ok (.aload_n 0, 1) := by decide +kernel
theorem d_M_sum_6 : decode (iC M_M_sum) 6 = .ok (.iload_n 1, 1) := by decide +kernel
theorem d_M_sum_7 : decode (iC M_M_sum) 7 = .ok (.iload_n 2, 1) := by decide +kernel
theorem d_M_sum_8 : decode (iC M_M_sum) 8 = .ok (.invokevirtual 267, 3) := by decide +kernel
theorem d_M_sum_11 : decode (iC M_M_sum) 11 = .ok (.ifCond .eq 5, 3) := by decide +kernel
theorem d_M_sum_14 : decode (iC M_M_sum) 14 = .ok (.iconst (-1), 1) := by decide +kernel
theorem d_M_sum_15 : decode (iC M_M_sum) 15 = .ok (.ireturn, 1) := by decide +kernel
theorem d_M_sum_16 : decode (iC M_M_sum) 16 = .ok (.iconst 0, 1) := by decide +kernel
theorem d_M_sum_17 : decode (iC M_M_sum) 17 = .ok (.istore_n 3, 1) := by decide +kernel
theorem d_M_sum_18 : decode (iC M_M_sum) 18 = .ok (.iconst 0, 1) := by decide +kernel
theorem d_M_sum_19 : decode (iC M_M_sum) 19 = .ok (.istore 4, 2) := by decide +kernel
theorem d_M_sum_21 : decode (iC M_M_sum) 21 = .ok (.iload 4, 2) := by decide +kernel
theorem d_M_sum_23 : decode (iC M_M_sum) 23 = .ok (.aload_n 0, 1) := by decide +kernel
theorem d_M_sum_24 : decode (iC M_M_sum) 24 = .ok (.iload_n 2, 1) := by decide +kernel
theorem d_M_sum_25 : decode (iC M_M_sum) 25 = .ok (.invokevirtual 51, 3) := by decide +kernel
theorem d_M_sum_28 : decode (iC M_M_sum) 28 = .ok (.aload_n 0, 1) := by decide +kernel
theorem d_M_sum_29 : decode (iC M_M_sum) 29 = .ok (.iload_n 2, 1) := by decide +kernel
theorem d_M_sum_30 : decode (iC M_M_sum) 30 = .ok (.invokevirtual 54, 3) := by decide +kernel
theorem d_M_sum_33 : decode (iC M_M_sum) 33 = .ok (.imul, 1) := by decide +kernel
theorem d_M_sum_34 : decode (iC M_M_sum) 34 = .ok (.if_icmp .ge 40, 3) := by decide +kernel
theorem d_M_sum_37 : decode (iC M_M_sum) 37 = .ok (.iload_n 3, 1) := by decide +kernel
theorem d_M_sum_38 : decode (iC M_M_sum) 38 = .ok (.aload_n 0, 1) := by decide +kernel
theorem d_M_sum_39 : decode (iC M_M_sum) 39 = .ok (.getfield 44, 3) := by decide +kernel
theorem d_M_sum_42 : decode (iC M_M_sum) 42 = .ok (.sipush 6144, 3) := by decide +kernel
theorem d_M_sum_45 : decode (iC M_M_sum) 45 = .ok (.iload_n 1, 1) := by decide +kernel
theorem d_M_sum_46 : decode (iC M_M_sum) 46 = .ok (.imul, 1) := by decide +kernel
theorem d_M_sum_47 : decode (iC M_M_sum) 47 = .ok (.aload_n 0, 1) := by decide +kernel
theorem d_M_sum_48 : decode (iC M_M_sum) 48 = .ok (.iload_n 2, 1) := by decide +kernel
theorem d_M_sum_49 : decode (iC M_M_sum) 49 = .ok (.invokevirtual 57, 3) := by decide +kernel
theorem d_M_sum_52 : decode (iC M_M_sum) 52 = .ok (.iadd, 1) := by decide +kernel
theorem d_M_sum_53 : decode (iC M_M_sum) 53 = .ok (.iload 4, 2) := by decide +kernel
theorem d_M_sum_55 : decode (iC M_M_sum) 55 = .ok (.iadd, 1) := by decide +kernel
theorem d_M_sum_56 : decode (iC M_M_sum) 56 = .ok (.baload, 1) := by decide +kernel
theorem d_M_sum_57 : decode (iC M_M_sum) 57 = .ok (.sipush 255, 3) := by decide +kernel
theorem d_M_sum_60 : decode (iC M_M_sum) 60 = .ok (.iand, 1) := by decide +kernel
theorem d_M_sum_61 : decode (iC M_M_sum) 61 = .ok (.iconst 1, 1) := by decide +kernel
theorem d_M_sum_62 : decode (iC M_M_sum) 62 = .ok (.iload 4, 2) := by decide +kernel
theorem d_M_sum_64 : decode (iC M_M_sum) 64 = .ok (.iadd, 1) := by decide +kernel
theorem d_M_sum_65 : decode (iC M_M_sum) 65 = .ok (.imul, 1) := by decide +kernel
theorem d_M_sum_66 : decode (iC M_M_sum) 66 = .ok (.iadd, 1) := by decide +kernel
theorem d_M_sum_67 : decode (iC M_M_sum) 67 = .ok (.istore_n 3, 1) := by decide +kernel
theorem d_M_sum_68 : decode (iC M_M_sum) 68 = .ok (.iinc 4 1, 3) := by decide +kernel
theorem d_M_sum_71 : decode (iC M_M_sum) 71 = .ok (.goto (-50), 3) := by decide +kernel
theorem d_M_sum_74 : decode (iC M_M_sum) 74 = .ok (.iload_n 3, 1) := by decide +kernel
theorem d_M_sum_75 : decode (iC M_M_sum) 75 = .ok (.ireturn, 1) := by decide +kernel
end
section
theorem d_W_look_0 : decode (iC M_W_look) 0 = .ok (.aload_n 2, 1) := by decide +kernel
theorem d_W_look_1 : decode (iC M_W_look) 1 = .ok (.iconst 0, 1) := by decide +kernel
theorem d_W_look_2 : decode (iC M_W_look) 2 = .ok (.aload_n 0, 1) := by decide +kernel
theorem d_W_look_3 : decode (iC M_W_look) 3 = .ok (.iload_n 1, 1) := by decide +kernel
theorem d_W_look_4 : decode (iC M_W_look) 4 = .ok (.invokevirtual 7, 3) := by decide +kernel
theorem d_W_look_7 : decode (iC M_W_look) 7 = .ok (.i2l, 1) := by decide +kernel
theorem d_W_look_8 : decode (iC M_W_look) 8 = .ok (.lastore, 1) := by decide +kernel
theorem d_W_look_9 : decode (iC M_W_look) 9 = .ok (.goto 6, 3) := by decide +kernel
theorem d_W_look_12 : decode (iC M_W_look) 12 = .ok (.astore_n 3, 1) := by decide +kernel
theorem d_W_look_13 : decode (iC M_W_look) 13 = .ok (.iconst 1, 1) := by decide +kernel
theorem d_W_look_14 : decode (iC M_W_look) 14 = .ok (.ireturn, 1) := by decide +kernel
theorem d_W_look_15 : decode (iC M_W_look) 15 = .ok (.iconst 0, 1) := by decide +kernel
theorem d_W_look_16 : decode (iC M_W_look) 16 = .ok (.ireturn, 1) := by decide +kernel
theorem d_W_shown_0 : decode (iC M_W_shown) 0 = .ok (.aload_n 3, 1) := by decide +kernel
theorem d_W_shown_1 : decode (iC M_W_shown) 1 = .ok (.iconst 0, 1) := by decide +kernel
theorem d_W_shown_2 : decode (iC M_W_shown) 2 = .ok (.aload_n 0, 1) := by decide +kernel
theorem d_W_shown_3 : decode (iC M_W_shown) 3 = .ok (.iload_n 1, 1) := by decide +kernel
theorem d_W_shown_4 : decode (iC M_W_shown) 4 = .ok (.iload_n 2, 1) := by decide +kernel
theorem d_W_shown_5 : decode (iC M_W_shown) 5 = .ok (.invokevirtual 15, 3) := by decide +kernel
theorem d_W_shown_8 : decode (iC M_W_shown) 8 = .ok (.i2l, 1) := by decide +kernel
theorem d_W_shown_9 : decode (iC M_W_shown) 9 = .ok (.lastore, 1) := by decide +kernel
theorem d_W_shown_10 : decode (iC M_W_shown) 10 = .ok (.goto 7, 3) := by decide +kernel
theorem d_W_shown_13 : decode (iC M_W_shown) 13 = .ok (.astore 4, 2) := by decide +kernel
theorem d_W_shown_15 : decode (iC M_W_shown) 15 = .ok (.iconst 1, 1) := by decide +kernel
theorem d_W_shown_16 : decode (iC M_W_shown) 16 = .ok (.ireturn, 1) := by decide +kernel
theorem d_W_shown_17 : decode (iC M_W_shown) 17 = .ok (.iconst 0, 1) := by decide +kernel
theorem d_W_shown_18 : decode (iC M_W_shown) 18 = .ok (.ireturn, 1) := by decide +kernel
theorem d_W_law_0 : decode (iC M_W_law) 0 = .ok (.new 8, 3) := by decide +kernel
theorem d_W_law_3 : decode (iC M_W_law) 3 = .ok (.dup, 1) := by decide +kernel
theorem d_W_law_4 : decode (iC M_W_law) 4 = .ok (.invokespecial 19, 3) := by decide +kernel
theorem d_W_law_7 : decode (iC M_W_law) 7 = .ok (.astore_n 1, 1) := by decide +kernel
theorem d_W_law_8 : decode (iC M_W_law) 8 = .ok (.new 20, 3) := by decide +kernel
theorem d_W_law_11 : decode (iC M_W_law) 11 = .ok (.dup, 1) := by decide +kernel
theorem d_W_law_12 : decode (iC M_W_law) 12 = .ok (.invokespecial 22, 3) := by decide +kernel
theorem d_W_law_15 : decode (iC M_W_law) 15 = .ok (.astore_n 2, 1) := by decide +kernel
theorem d_W_law_16 : decode (iC M_W_law) 16 = .ok (.iconst 1, 1) := by decide +kernel
theorem d_W_law_17 : decode (iC M_W_law) 17 = .ok (.newarray .long, 2) := by decide +kernel
theorem d_W_law_19 : decode (iC M_W_law) 19 = .ok (.astore_n 3, 1) := by decide +kernel
theorem d_W_law_20 : decode (iC M_W_law) 20 = .ok (.iconst 0, 1) := by decide +kernel
theorem d_W_law_21 : decode (iC M_W_law) 21 = .ok (.istore 4, 2) := by decide +kernel
theorem d_W_law_23 : decode (iC M_W_law) 23 = .ok (.iload 4, 2) := by decide +kernel
theorem d_W_law_25 : decode (iC M_W_law) 25 = .ok (.aload_n 0, 1) := by decide +kernel
theorem d_W_law_26 : decode (iC M_W_law) 26 = .ok (.arraylength, 1) := by decide +kernel
theorem d_W_law_27 : decode (iC M_W_law) 27 = .ok (.bipush 6, 2) := by decide +kernel
theorem d_W_law_29 : decode (iC M_W_law) 29 = .ok (.isub, 1) := by decide +kernel
theorem d_W_law_30 : decode (iC M_W_law) 30 = .ok (.if_icmp .gt 451, 3) := by decide +kernel
theorem d_W_law_33 : decode (iC M_W_law) 33 = .ok (.aload_n 0, 1) := by decide +kernel
theorem d_W_law_34 : decode (iC M_W_law) 34 = .ok (.iload 4, 2) := by decide +kernel
theorem d_W_law_36 : decode (iC M_W_law) 36 = .ok (.iaload, 1) := by decide +kernel
theorem d_W_law_37 : decode (iC M_W_law) 37 = .ok (.bipush 15, 2) := by decide +kernel
theorem d_W_law_39 : decode (iC M_W_law) 39 = .ok (.iand, 1) := by decide +kernel
theorem d_W_law_40 : decode (iC M_W_law) 40 = .ok (.tableswitch 435 0 8 #[52, 125, 150, 187, 200, 213, 269, 337, 398], 52) := by decide +kernel
theorem d_W_law_92 : decode (iC M_W_law) 92 = .ok (.aload_n 1, 1) := by decide +kernel
theorem d_W_law_93 : decode (iC M_W_law) 93 = .ok (.aload_n 0, 1) := by decide +kernel
theorem d_W_law_94 : decode (iC M_W_law) 94 = .ok (.iload 4, 2) := by decide +kernel
theorem d_W_law_96 : decode (iC M_W_law) 96 = .ok (.iconst 1, 1) := by decide +kernel
theorem d_W_law_97 : decode (iC M_W_law) 97 = .ok (.iadd, 1) := by decide +kernel
theorem d_W_law_98 : decode (iC M_W_law) 98 = .ok (.iaload, 1) := by decide +kernel
theorem d_W_law_99 : decode (iC M_W_law) 99 = .ok (.aload_n 0, 1) := by decide +kernel
theorem d_W_law_100 : decode (iC M_W_law) 100 = .ok (.iload 4, 2) := by decide +kernel
theorem d_W_law_102 : decode (iC M_W_law) 102 = .ok (.iconst 2, 1) := by decide +kernel
theorem d_W_law_103 : decode (iC M_W_law) 103 = .ok (.iadd, 1) := by decide +kernel
theorem d_W_law_104 : decode (iC M_W_law) 104 = .ok (.iaload, 1) := by decide +kernel
theorem d_W_law_105 : decode (iC M_W_law) 105 = .ok (.aload_n 0, 1) := by decide +kernel
theorem d_W_law_106 : decode (iC M_W_law) 106 = .ok (.iload 4, 2) := by decide +kernel
theorem d_W_law_108 : decode (iC M_W_law) 108 = .ok (.iconst 3, 1) := by decide +kernel
theorem d_W_law_109 : decode (iC M_W_law) 109 = .ok (.iadd, 1) := by decide +kernel
theorem d_W_law_110 : decode (iC M_W_law) 110 = .ok (.iaload, 1) := by decide +kernel
theorem d_W_law_111 : decode (iC M_W_law) 111 = .ok (.aload_n 0, 1) := by decide +kernel
theorem d_W_law_112 : decode (iC M_W_law) 112 = .ok (.iload 4, 2) := by decide +kernel
theorem d_W_law_114 : decode (iC M_W_law) 114 = .ok (.iconst 4, 1) := by decide +kernel
theorem d_W_law_115 : decode (iC M_W_law) 115 = .ok (.iadd, 1) := by decide +kernel
theorem d_W_law_116 : decode (iC M_W_law) 116 = .ok (.iaload, 1) := by decide +kernel
theorem d_W_law_117 : decode (iC M_W_law) 117 = .ok (.aload_n 0, 1) := by decide +kernel
theorem d_W_law_118 : decode (iC M_W_law) 118 = .ok (.iload 4, 2) := by decide +kernel
theorem d_W_law_120 : decode (iC M_W_law) 120 = .ok (.iconst 5, 1) := by decide +kernel
theorem d_W_law_121 : decode (iC M_W_law) 121 = .ok (.iadd, 1) := by decide +kernel
theorem d_W_law_122 : decode (iC M_W_law) 122 = .ok (.iaload, 1) := by decide +kernel
theorem d_W_law_123 : decode (iC M_W_law) 123 = .ok (.invokevirtual 23, 3) := by decide +kernel
theorem d_W_law_126 : decode (iC M_W_law) 126 = .ok (.aload_n 2, 1) := by decide +kernel
theorem d_W_law_127 : decode (iC M_W_law) 127 = .ok (.aload_n 0, 1) := by decide +kernel
theorem d_W_law_128 : decode (iC M_W_law) 128 = .ok (.iload 4, 2) := by decide +kernel
theorem d_W_law_130 : decode (iC M_W_law) 130 = .ok (.iconst 1, 1) := by decide +kernel
theorem d_W_law_131 : decode (iC M_W_law) 131 = .ok (.iadd, 1) := by decide +kernel
theorem d_W_law_132 : decode (iC M_W_law) 132 = .ok (.iaload, 1) := by decide +kernel
theorem d_W_law_133 : decode (iC M_W_law) 133 = .ok (.aload_n 0, 1) := by decide +kernel
theorem d_W_law_134 : decode (iC M_W_law) 134 = .ok (.iload 4, 2) := by decide +kernel
theorem d_W_law_136 : decode (iC M_W_law) 136 = .ok (.iconst 2, 1) := by decide +kernel
theorem d_W_law_137 : decode (iC M_W_law) 137 = .ok (.iadd, 1) := by decide +kernel
theorem d_W_law_138 : decode (iC M_W_law) 138 = .ok (.iaload, 1) := by decide +kernel
theorem d_W_law_139 : decode (iC M_W_law) 139 = .ok (.aload_n 0, 1) := by decide +kernel
theorem d_W_law_140 : decode (iC M_W_law) 140 = .ok (.iload 4, 2) := by decide +kernel
theorem d_W_law_142 : decode (iC M_W_law) 142 = .ok (.iconst 3, 1) := by decide +kernel
theorem d_W_law_143 : decode (iC M_W_law) 143 = .ok (.iadd, 1) := by decide +kernel
theorem d_W_law_144 : decode (iC M_W_law) 144 = .ok (.iaload, 1) := by decide +kernel
theorem d_W_law_145 : decode (iC M_W_law) 145 = .ok (.aload_n 0, 1) := by decide +kernel
theorem d_W_law_146 : decode (iC M_W_law) 146 = .ok (.iload 4, 2) := by decide +kernel
theorem d_W_law_148 : decode (iC M_W_law) 148 = .ok (.iconst 4, 1) := by decide +kernel
theorem d_W_law_149 : decode (iC M_W_law) 149 = .ok (.iadd, 1) := by decide +kernel
theorem d_W_law_150 : decode (iC M_W_law) 150 = .ok (.iaload, 1) := by decide +kernel
theorem d_W_law_151 : decode (iC M_W_law) 151 = .ok (.aload_n 0, 1) := by decide +kernel
theorem d_W_law_152 : decode (iC M_W_law) 152 = .ok (.iload 4, 2) := by decide +kernel
theorem d_W_law_154 : decode (iC M_W_law) 154 = .ok (.iconst 5, 1) := by decide +kernel
theorem d_W_law_155 : decode (iC M_W_law) 155 = .ok (.iadd, 1) := by decide +kernel
theorem d_W_law_156 : decode (iC M_W_law) 156 = .ok (.iaload, 1) := by decide +kernel
theorem d_W_law_157 : decode (iC M_W_law) 157 = .ok (.invokevirtual 27, 3) := by decide +kernel
theorem d_W_law_160 : decode (iC M_W_law) 160 = .ok (.if_icmp .eq 315, 3) := by decide +kernel
theorem d_W_law_163 : decode (iC M_W_law) 163 = .ok (.iconst 0, 1) := by decide +kernel
theorem d_W_law_164 : decode (iC M_W_law) 164 = .ok (.ireturn, 1) := by decide +kernel
theorem d_W_law_165 : decode (iC M_W_law) 165 = .ok (.aload_n 1, 1) := by decide +kernel
theorem d_W_law_166 : decode (iC M_W_law) 166 = .ok (.aload_n 0, 1) := by decide +kernel
theorem d_W_law_167 : decode (iC M_W_law) 167 = .ok (.iload 4, 2) := by decide +kernel
theorem d_W_law_169 : decode (iC M_W_law) 169 = .ok (.iconst 1, 1) := by decide +kernel
theorem d_W_law_170 : decode (iC M_W_law) 170 = .ok (.iadd, 1) := by decide +kernel
theorem d_W_law_171 : decode (iC M_W_law) 171 = .ok (.iaload, 1) := by decide +kernel
theorem d_W_law_172 : decode (iC M_W_law) 172 = .ok (.invokevirtual 28, 3) := by decide +kernel
theorem d_W_law_175 : decode (iC M_W_law) 175 = .ok (.aload_n 2, 1) := by decide +kernel
theorem d_W_law_176 : decode (iC M_W_law) 176 = .ok (.aload_n 0, 1) := by decide +kernel
theorem d_W_law_177 : decode (iC M_W_law) 177 = .ok (.iload 4, 2) := by decide +kernel
theorem d_W_law_179 : decode (iC M_W_law) 179 = .ok (.iconst 1, 1) := by decide +kernel
theorem d_W_law_180 : decode (iC M_W_law) 180 = .ok (.iadd, 1) := by decide +kernel
theorem d_W_law_181 : decode (iC M_W_law) 181 = .ok (.iaload, 1) := by decide +kernel
theorem d_W_law_182 : decode (iC M_W_law) 182 = .ok (.invokevirtual 32, 3) := by decide +kernel
theorem d_W_law_185 : decode (iC M_W_law) 185 = .ok (.if_icmp .eq 290, 3) := by decide +kernel
theorem d_W_law_188 : decode (iC M_W_law) 188 = .ok (.iconst 0, 1) := by decide +kernel
theorem d_W_law_189 : decode (iC M_W_law) 189 = .ok (.ireturn, 1) := by decide +kernel
theorem d_W_law_190 : decode (iC M_W_law) 190 = .ok (.aload_n 1, 1) := by decide +kernel
theorem d_W_law_191 : decode (iC M_W_law) 191 = .ok (.aload_n 0, 1) := by decide +kernel
theorem d_W_law_192 : decode (iC M_W_law) 192 = .ok (.iload 4, 2) := by decide +kernel
theorem d_W_law_194 : decode (iC M_W_law) 194 = .ok (.iconst 1, 1) := by decide +kernel
theorem d_W_law_195 : decode (iC M_W_law) 195 = .ok (.iadd, 1) := by decide +kernel
theorem d_W_law_196 : decode (iC M_W_law) 196 = .ok (.iaload, 1) := by decide +kernel
theorem d_W_law_197 : decode (iC M_W_law) 197 = .ok (.aload_n 0, 1) := by decide +kernel
theorem d_W_law_198 : decode (iC M_W_law) 198 = .ok (.iload 4, 2) := by decide +kernel
theorem d_W_law_200 : decode (iC M_W_law) 200 = .ok (.iconst 2, 1) := by decide +kernel
theorem d_W_law_201 : decode (iC M_W_law) 201 = .ok (.iadd, 1) := by decide +kernel
theorem d_W_law_202 : decode (iC M_W_law) 202 = .ok (.iaload, 1) := by decide +kernel
theorem d_W_law_203 : decode (iC M_W_law) 203 = .ok (.invokevirtual 33, 3) := by decide +kernel
theorem d_W_law_206 : decode (iC M_W_law) 206 = .ok (.aload_n 2, 1) := by decide +kernel
theorem d_W_law_207 : decode (iC M_W_law) 207 = .ok (.aload_n 0, 1) := by decide +kernel
theorem d_W_law_208 : decode (iC M_W_law) 208 = .ok (.iload 4, 2) := by decide +kernel
theorem d_W_law_210 : decode (iC M_W_law) 210 = .ok (.iconst 1, 1) := by decide +kernel
theorem d_W_law_211 : decode (iC M_W_law) 211 = .ok (.iadd, 1) := by decide +kernel
theorem d_W_law_212 : decode (iC M_W_law) 212 = .ok (.iaload, 1) := by decide +kernel
theorem d_W_law_213 : decode (iC M_W_law) 213 = .ok (.aload_n 0, 1) := by decide +kernel
theorem d_W_law_214 : decode (iC M_W_law) 214 = .ok (.iload 4, 2) := by decide +kernel
theorem d_W_law_216 : decode (iC M_W_law) 216 = .ok (.iconst 2, 1) := by decide +kernel
theorem d_W_law_217 : decode (iC M_W_law) 217 = .ok (.iadd, 1) := by decide +kernel
theorem d_W_law_218 : decode (iC M_W_law) 218 = .ok (.iaload, 1) := by decide +kernel
theorem d_W_law_219 : decode (iC M_W_law) 219 = .ok (.invokevirtual 36, 3) := by decide +kernel
theorem d_W_law_222 : decode (iC M_W_law) 222 = .ok (.if_icmp .eq 253, 3) := by decide +kernel
theorem d_W_law_225 : decode (iC M_W_law) 225 = .ok (.iconst 0, 1) := by decide +kernel
theorem d_W_law_226 : decode (iC M_W_law) 226 = .ok (.ireturn, 1) := by decide +kernel
theorem d_W_law_227 : decode (iC M_W_law) 227 = .ok (.aload_n 1, 1) := by decide +kernel
theorem d_W_law_228 : decode (iC M_W_law) 228 = .ok (.invokevirtual 37, 3) := by decide +kernel
theorem d_W_law_231 : decode (iC M_W_law) 231 = .ok (.aload_n 2, 1) := by decide +kernel
theorem d_W_law_232 : decode (iC M_W_law) 232 = .ok (.invokevirtual 41, 3) := by decide +kernel
theorem d_W_law_235 : decode (iC M_W_law) 235 = .ok (.if_icmp .eq 240, 3) := by decide +kernel
theorem d_W_law_238 : decode (iC M_W_law) 238 = .ok (.iconst 0, 1) := by decide +kernel
theorem d_W_law_239 : decode (iC M_W_law) 239 = .ok (.ireturn, 1) := by decide +kernel
theorem d_W_law_240 : decode (iC M_W_law) 240 = .ok (.aload_n 1, 1) := by decide +kernel
theorem d_W_law_241 : decode (iC M_W_law) 241 = .ok (.invokevirtual 42, 3) := by decide +kernel
theorem d_W_law_244 : decode (iC M_W_law) 244 = .ok (.aload_n 2, 1) := by decide +kernel
theorem d_W_law_245 : decode (iC M_W_law) 245 = .ok (.invokevirtual 45, 3) := by decide +kernel
theorem d_W_law_248 : decode (iC M_W_law) 248 = .ok (.if_icmp .eq 227, 3) := by decide +kernel
theorem d_W_law_251 : decode (iC M_W_law) 251 = .ok (.iconst 0, 1) := by decide +kernel
theorem d_W_law_252 : decode (iC M_W_law) 252 = .ok (.ireturn, 1) := by decide +kernel
theorem d_W_law_253 : decode (iC M_W_law) 253 = .ok (.aload_n 1, 1) := by decide +kernel
theorem d_W_law_254 : decode (iC M_W_law) 254 = .ok (.aload_n 0, 1) := by decide +kernel
theorem d_W_law_255 : decode (iC M_W_law) 255 = .ok (.iload 4, 2) := by decide +kernel
theorem d_W_law_257 : decode (iC M_W_law) 257 = .ok (.iconst 1, 1) := by decide +kernel
theorem d_W_law_258 : decode (iC M_W_law) 258 = .ok (.iadd, 1) := by decide +kernel
theorem d_W_law_259 : decode (iC M_W_law) 259 = .ok (.iaload, 1) := by decide +kernel
theorem d_W_law_260 : decode (iC M_W_law) 260 = .ok (.aload_n 3, 1) := by decide +kernel
theorem d_W_law_261 : decode (iC M_W_law) 261 = .ok (.invokestatic 46, 3) := by decide +kernel
theorem d_W_law_264 : decode (iC M_W_law) 264 = .ok (.istore 5, 2) := by decide +kernel
theorem d_W_law_266 : decode (iC M_W_law) 266 = .ok (.aload_n 2, 1) := by decide +kernel
theorem d_W_law_267 : decode (iC M_W_law) 267 = .ok (.aload_n 0, 1) := by decide +kernel
theorem d_W_law_268 : decode (iC M_W_law) 268 = .ok (.iload 4, 2) := by decide +kernel
theorem d_W_law_270 : decode (iC M_W_law) 270 = .ok (.iconst 1, 1) := by decide +kernel
theorem d_W_law_271 : decode (iC M_W_law) 271 = .ok (.iadd, 1) := by decide +kernel
theorem d_W_law_272 : decode (iC M_W_law) 272 = .ok (.iaload, 1) := by decide +kernel
theorem d_W_law_273 : decode (iC M_W_law) 273 = .ok (.invokevirtual 51, 3) := by decide +kernel
theorem d_W_law_276 : decode (iC M_W_law) 276 = .ok (.istore 6, 2) := by decide +kernel
theorem d_W_law_278 : decode (iC M_W_law) 278 = .ok (.aload_n 2, 1) := by decide +kernel
theorem d_W_law_279 : decode (iC M_W_law) 279 = .ok (.invokevirtual 52, 3) := by decide +kernel
theorem d_W_law_282 : decode (iC M_W_law) 282 = .ok (.iload 5, 2) := by decide +kernel
theorem d_W_law_284 : decode (iC M_W_law) 284 = .ok (.if_icmp .eq 5, 3) := by decide +kernel
theorem d_W_law_287 : decode (iC M_W_law) 287 = .ok (.iconst 0, 1) := by decide +kernel
theorem d_W_law_288 : decode (iC M_W_law) 288 = .ok (.ireturn, 1) := by decide +kernel
theorem d_W_law_289 : decode (iC M_W_law) 289 = .ok (.iload 5, 2) := by decide +kernel
theorem d_W_law_291 : decode (iC M_W_law) 291 = .ok (.ifCond .ne 15, 3) := by decide +kernel
theorem d_W_law_294 : decode (iC M_W_law) 294 = .ok (.aload_n 3, 1) := by decide +kernel
theorem d_W_law_295 : decode (iC M_W_law) 295 = .ok (.iconst 0, 1) := by decide +kernel
theorem d_W_law_296 : decode (iC M_W_law) 296 = .ok (.laload, 1) := by decide +kernel
theorem d_W_law_297 : decode (iC M_W_law) 297 = .ok (.iload 6, 2) := by decide +kernel
theorem d_W_law_299 : decode (iC M_W_law) 299 = .ok (.i2l, 1) := by decide +kernel
theorem d_W_law_300 : decode (iC M_W_law) 300 = .ok (.lcmp, 1) := by decide +kernel
theorem d_W_law_301 : decode (iC M_W_law) 301 = .ok (.ifCond .eq 5, 3) := by decide +kernel
theorem d_W_law_304 : decode (iC M_W_law) 304 = .ok (.iconst 0, 1) := by decide +kernel
theorem d_W_law_305 : decode (iC M_W_law) 305 = .ok (.ireturn, 1) := by decide +kernel
theorem d_W_law_306 : decode (iC M_W_law) 306 = .ok (.goto 169, 3) := by decide +kernel
theorem d_W_law_309 : decode (iC M_W_law) 309 = .ok (.aload_n 1, 1) := by decide +kernel
theorem d_W_law_310 : decode (iC M_W_law) 310 = .ok (.aload_n 0, 1) := by decide +kernel
theorem d_W_law_311 : decode (iC M_W_law) 311 = .ok (.iload 4, 2) := by decide +kernel
theorem d_W_law_313 : decode (iC M_W_law) 313 = .ok (.iconst 1, 1) := by decide +kernel
theorem d_W_law_314 : decode (iC M_W_law) 314 = .ok (.iadd, 1) := by decide +kernel
theorem d_W_law_315 : decode (iC M_W_law) 315 = .ok (.iaload, 1) := by decide +kernel
theorem d_W_law_316 : decode (iC M_W_law) 316 = .ok (.aload_n 0, 1) := by decide +kernel
theorem d_W_law_317 : decode (iC M_W_law) 317 = .ok (.iload 4, 2) := by decide +kernel
theorem d_W_law_319 : decode (iC M_W_law) 319 = .ok (.iconst 2, 1) := by decide +kernel
theorem d_W_law_320 : decode (iC M_W_law) 320 = .ok (.iadd, 1) := by decide +kernel
theorem d_W_law_321 : decode (iC M_W_law) 321 = .ok (.iaload, 1) := by decide +kernel
theorem d_W_law_322 : decode (iC M_W_law) 322 = .ok (.aload_n 3, 1) := by decide +kernel
theorem d_W_law_323 : decode (iC M_W_law) 323 = .ok (.invokestatic 55, 3) := by decide +kernel
theorem d_W_law_326 : decode (iC M_W_law) 326 = .ok (.istore 5, 2) := by decide +kernel
theorem d_W_law_328 : decode (iC M_W_law) 328 = .ok (.aload_n 2, 1) := by decide +kernel
theorem d_W_law_329 : decode (iC M_W_law) 329 = .ok (.aload_n 0, 1) := by decide +kernel
theorem d_W_law_330 : decode (iC M_W_law) 330 = .ok (.iload 4, 2) := by decide +kernel
theorem d_W_law_332 : decode (iC M_W_law) 332 = .ok (.iconst 1, 1) := by decide +kernel
theorem d_W_law_333 : decode (iC M_W_law) 333 = .ok (.iadd, 1) := by decide +kernel
theorem d_W_law_334 : decode (iC M_W_law) 334 = .ok (.iaload, 1) := by decide +kernel
theorem d_W_law_335 : decode (iC M_W_law) 335 = .ok (.aload_n 0, 1) := by decide +kernel
theorem d_W_law_336 : decode (iC M_W_law) 336 = .ok (.iload 4, 2) := by decide +kernel
theorem d_W_law_338 : decode (iC M_W_law) 338 = .ok (.iconst 2, 1) := by decide +kernel
theorem d_W_law_339 : decode (iC M_W_law) 339 = .ok (.iadd, 1) := by decide +kernel
theorem d_W_law_340 : decode (iC M_W_law) 340 = .ok (.iaload, 1) := by decide +kernel
theorem d_W_law_341 : decode (iC M_W_law) 341 = .ok (.invokevirtual 58, 3) := by decide +kernel
theorem d_W_law_344 : decode (iC M_W_law) 344 = .ok (.istore 6, 2) := by decide +kernel
theorem d_W_law_346 : decode (iC M_W_law) 346 = .ok (.aload_n 2, 1) := by decide +kernel
theorem d_W_law_347 : decode (iC M_W_law) 347 = .ok (.invokevirtual 52, 3) := by decide +kernel
theorem d_W_law_350 : decode (iC M_W_law) 350 = .ok (.iload 5, 2) := by decide +kernel
theorem d_W_law_352 : decode (iC M_W_law) 352 = .ok (.if_icmp .eq 5, 3) := by decide +kernel
theorem d_W_law_355 : decode (iC M_W_law) 355 = .ok (.iconst 0, 1) := by decide +kernel
theorem d_W_law_356 : decode (iC M_W_law) 356 = .ok (.ireturn, 1) := by decide +kernel
theorem d_W_law_357 : decode (iC M_W_law) 357 = .ok (.iload 5, 2) := by decide +kernel
theorem d_W_law_359 : decode (iC M_W_law) 359 = .ok (.ifCond .ne 15, 3) := by decide +kernel
theorem d_W_law_362 : decode (iC M_W_law) 362 = .ok (.aload_n 3, 1) := by decide +kernel
theorem d_W_law_363 : decode (iC M_W_law) 363 = .ok (.iconst 0, 1) := by decide +kernel
theorem d_W_law_364 : decode (iC M_W_law) 364 = .ok (.laload, 1) := by decide +kernel
theorem d_W_law_365 : decode (iC M_W_law) 365 = .ok (.iload 6, 2) := by decide +kernel
theorem d_W_law_367 : decode (iC M_W_law) 367 = .ok (.i2l, 1) := by decide +kernel
theorem d_W_law_368 : decode (iC M_W_law) 368 = .ok (.lcmp, 1) := by decide +kernel
theorem d_W_law_369 : decode (iC M_W_law) 369 = .ok (.ifCond .eq 5, 3) := by decide +kernel
theorem d_W_law_372 : decode (iC M_W_law) 372 = .ok (.iconst 0, 1) := by decide +kernel
theorem d_W_law_373 : decode (iC M_W_law) 373 = .ok (.ireturn, 1) := by decide +kernel
theorem d_W_law_374 : decode (iC M_W_law) 374 = .ok (.goto 101, 3) := by decide +kernel
theorem d_W_law_377 : decode (iC M_W_law) 377 = .ok (.aload_n 1, 1) := by decide +kernel
theorem d_W_law_378 : decode (iC M_W_law) 378 = .ok (.aload_n 0, 1) := by decide +kernel
theorem d_W_law_379 : decode (iC M_W_law) 379 = .ok (.iload 4, 2) := by decide +kernel
theorem d_W_law_381 : decode (iC M_W_law) 381 = .ok (.iconst 1, 1) := by decide +kernel
theorem d_W_law_382 : decode (iC M_W_law) 382 = .ok (.iadd, 1) := by decide +kernel
theorem d_W_law_383 : decode (iC M_W_law) 383 = .ok (.iaload, 1) := by decide +kernel
theorem d_W_law_384 : decode (iC M_W_law) 384 = .ok (.aload_n 0, 1) := by decide +kernel
theorem d_W_law_385 : decode (iC M_W_law) 385 = .ok (.iload 4, 2) := by decide +kernel
theorem d_W_law_387 : decode (iC M_W_law) 387 = .ok (.iconst 2, 1) := by decide +kernel
theorem d_W_law_388 : decode (iC M_W_law) 388 = .ok (.iadd, 1) := by decide +kernel
theorem d_W_law_389 : decode (iC M_W_law) 389 = .ok (.iaload, 1) := by decide +kernel
theorem d_W_law_390 : decode (iC M_W_law) 390 = .ok (.aload_n 0, 1) := by decide +kernel
theorem d_W_law_391 : decode (iC M_W_law) 391 = .ok (.iload 4, 2) := by decide +kernel
theorem d_W_law_393 : decode (iC M_W_law) 393 = .ok (.iconst 3, 1) := by decide +kernel
theorem d_W_law_394 : decode (iC M_W_law) 394 = .ok (.iadd, 1) := by decide +kernel
theorem d_W_law_395 : decode (iC M_W_law) 395 = .ok (.iaload, 1) := by decide +kernel
theorem d_W_law_396 : decode (iC M_W_law) 396 = .ok (.aload_n 0, 1) := by decide +kernel
theorem d_W_law_397 : decode (iC M_W_law) 397 = .ok (.iload 4, 2) := by decide +kernel
theorem d_W_law_399 : decode (iC M_W_law) 399 = .ok (.iconst 4, 1) := by decide +kernel
theorem d_W_law_400 : decode (iC M_W_law) 400 = .ok (.iadd, 1) := by decide +kernel
theorem d_W_law_401 : decode (iC M_W_law) 401 = .ok (.iaload, 1) := by decide +kernel
theorem d_W_law_402 : decode (iC M_W_law) 402 = .ok (.invokevirtual 59, 3) := by decide +kernel
theorem d_W_law_405 : decode (iC M_W_law) 405 = .ok (.aload_n 2, 1) := by decide +kernel
theorem d_W_law_406 : decode (iC M_W_law) 406 = .ok (.aload_n 0, 1) := by decide +kernel
theorem d_W_law_407 : decode (iC M_W_law) 407 = .ok (.iload 4, 2) := by decide +kernel
theorem d_W_law_409 : decode (iC M_W_law) 409 = .ok (.iconst 1, 1) := by decide +kernel
theorem d_W_law_410 : decode (iC M_W_law) 410 = .ok (.iadd, 1) := by decide +kernel
theorem d_W_law_411 : decode (iC M_W_law) 411 = .ok (.iaload, 1) := by decide +kernel
theorem d_W_law_412 : decode (iC M_W_law) 412 = .ok (.aload_n 0, 1) := by decide +kernel
theorem d_W_law_413 : decode (iC M_W_law) 413 = .ok (.iload 4, 2) := by decide +kernel
theorem d_W_law_415 : decode (iC M_W_law) 415 = .ok (.iconst 2, 1) := by decide +kernel
theorem d_W_law_416 : decode (iC M_W_law) 416 = .ok (.iadd, 1) := by decide +kernel
theorem d_W_law_417 : decode (iC M_W_law) 417 = .ok (.iaload, 1) := by decide +kernel
theorem d_W_law_418 : decode (iC M_W_law) 418 = .ok (.aload_n 0, 1) := by decide +kernel
theorem d_W_law_419 : decode (iC M_W_law) 419 = .ok (.iload 4, 2) := by decide +kernel
theorem d_W_law_421 : decode (iC M_W_law) 421 = .ok (.iconst 3, 1) := by decide +kernel
theorem d_W_law_422 : decode (iC M_W_law) 422 = .ok (.iadd, 1) := by decide +kernel
theorem d_W_law_423 : decode (iC M_W_law) 423 = .ok (.iaload, 1) := by decide +kernel
theorem d_W_law_424 : decode (iC M_W_law) 424 = .ok (.aload_n 0, 1) := by decide +kernel
theorem d_W_law_425 : decode (iC M_W_law) 425 = .ok (.iload 4, 2) := by decide +kernel
theorem d_W_law_427 : decode (iC M_W_law) 427 = .ok (.iconst 4, 1) := by decide +kernel
theorem d_W_law_428 : decode (iC M_W_law) 428 = .ok (.iadd, 1) := by decide +kernel
theorem d_W_law_429 : decode (iC M_W_law) 429 = .ok (.iaload, 1) := by decide +kernel
theorem d_W_law_430 : decode (iC M_W_law) 430 = .ok (.invokevirtual 63, 3) := by decide +kernel
theorem d_W_law_433 : decode (iC M_W_law) 433 = .ok (.if_icmp .eq 42, 3) := by decide +kernel
theorem d_W_law_436 : decode (iC M_W_law) 436 = .ok (.iconst 0, 1) := by decide +kernel
theorem d_W_law_437 : decode (iC M_W_law) 437 = .ok (.ireturn, 1) := by decide +kernel
theorem d_W_law_438 : decode (iC M_W_law) 438 = .ok (.aload_n 1, 1) := by decide +kernel
theorem d_W_law_439 : decode (iC M_W_law) 439 = .ok (.aload_n 0, 1) := by decide +kernel
theorem d_W_law_440 : decode (iC M_W_law) 440 = .ok (.iload 4, 2) := by decide +kernel
theorem d_W_law_442 : decode (iC M_W_law) 442 = .ok (.iconst 1, 1) := by decide +kernel
theorem d_W_law_443 : decode (iC M_W_law) 443 = .ok (.iadd, 1) := by decide +kernel
theorem d_W_law_444 : decode (iC M_W_law) 444 = .ok (.iaload, 1) := by decide +kernel
theorem d_W_law_445 : decode (iC M_W_law) 445 = .ok (.aload_n 0, 1) := by decide +kernel
theorem d_W_law_446 : decode (iC M_W_law) 446 = .ok (.iload 4, 2) := by decide +kernel
theorem d_W_law_448 : decode (iC M_W_law) 448 = .ok (.iconst 2, 1) := by decide +kernel
theorem d_W_law_449 : decode (iC M_W_law) 449 = .ok (.iadd, 1) := by decide +kernel
theorem d_W_law_450 : decode (iC M_W_law) 450 = .ok (.iaload, 1) := by decide +kernel
theorem d_W_law_451 : decode (iC M_W_law) 451 = .ok (.invokevirtual 64, 3) := by decide +kernel
theorem d_W_law_454 : decode (iC M_W_law) 454 = .ok (.aload_n 2, 1) := by decide +kernel
theorem d_W_law_455 : decode (iC M_W_law) 455 = .ok (.aload_n 0, 1) := by decide +kernel
theorem d_W_law_456 : decode (iC M_W_law) 456 = .ok (.iload 4, 2) := by decide +kernel
theorem d_W_law_458 : decode (iC M_W_law) 458 = .ok (.iconst 1, 1) := by decide +kernel
theorem d_W_law_459 : decode (iC M_W_law) 459 = .ok (.iadd, 1) := by decide +kernel
theorem d_W_law_460 : decode (iC M_W_law) 460 = .ok (.iaload, 1) := by decide +kernel
theorem d_W_law_461 : decode (iC M_W_law) 461 = .ok (.aload_n 0, 1) := by decide +kernel
theorem d_W_law_462 : decode (iC M_W_law) 462 = .ok (.iload 4, 2) := by decide +kernel
theorem d_W_law_464 : decode (iC M_W_law) 464 = .ok (.iconst 2, 1) := by decide +kernel
theorem d_W_law_465 : decode (iC M_W_law) 465 = .ok (.iadd, 1) := by decide +kernel
theorem d_W_law_466 : decode (iC M_W_law) 466 = .ok (.iaload, 1) := by decide +kernel
theorem d_W_law_467 : decode (iC M_W_law) 467 = .ok (.invokevirtual 67, 3) := by decide +kernel
theorem d_W_law_470 : decode (iC M_W_law) 470 = .ok (.if_icmp .eq 5, 3) := by decide +kernel
theorem d_W_law_473 : decode (iC M_W_law) 473 = .ok (.iconst 0, 1) := by decide +kernel
theorem d_W_law_474 : decode (iC M_W_law) 474 = .ok (.ireturn, 1) := by decide +kernel
theorem d_W_law_475 : decode (iC M_W_law) 475 = .ok (.iinc 4 6, 3) := by decide +kernel
theorem d_W_law_478 : decode (iC M_W_law) 478 = .ok (.goto (-455), 3) := by decide +kernel
theorem d_W_law_481 : decode (iC M_W_law) 481 = .ok (.iconst 1, 1) := by decide +kernel
theorem d_W_law_482 : decode (iC M_W_law) 482 = .ok (.ireturn, 1) := by decide +kernel
end
section
theorem c_in {s0 : State} {l : Launch} {M : MI} {av : List Value} {h : Mem} {Q : Out → Mem → Prop} (hy : plainName (iY M).cls = true) (hH : iH M = []) (hc : av.all (fun v => v.category == 1) = true) (hn : av.length ≤ iL M) (k : RQ s0 l M h 0 (ent av (iL M)) [] h Q) : CQ s0 l M av h Q :=
  c_intro hy hH (fun v hv => by simpa using List.all_eq_true.mp hc v hv) hn k
theorem c_inH {s0 : State} {l : Launch} {M : MI} {av : List Value} {h : Mem} {Q : Out → Mem → Prop} (hy : plainName (iY M).cls = true) (hH : iH M ≠ []) (hc : av.all (fun v => v.category == 1) = true) (hn : av.length ≤ iL M) (k : RQ s0 l M h 0 (ent av (iL M)) [] h Q) : CQ s0 l M av h Q :=
  c_introH hy hH (fun v hv => by simpa using List.all_eq_true.mp hc v hv) hn k
theorem mem_ext {h h' : Mem} (hK : ∀ a, mK h a = mK h' a) (hL : ∀ a, mL h a = mL h' a) (hI : ∀ a j, mI h a j = mI h' a j) (hR : ∀ a j, mR h a j = mR h' a j) (hJ : ∀ a j, mJ h a j = mJ h' a j) (hN : mN h = mN h') (hU : mU h = mU h') : h = h' := by
  obtain ⟨a1, a2, a3, a4, a5, a6, a7⟩ := h
  obtain ⟨b1, b2, b3, b4, b5, b6, b7⟩ := h'
  have e1 : a1 = b1 := funext hK
  have e2 : a2 = b2 := funext hL
  have e3 : a3 = b3 := funext fun a => funext (hI a)
  have e4 : a4 = b4 := funext fun a => funext (hR a)
  have e5 : a5 = b5 := funext fun a => funext (hJ a)
  have e6 : a6 = b6 := hN
  have e7 : a7 = b7 := hU
  subst e1; subst e2; subst e3; subst e4; subst e5; subst e6; subst e7
  rfl
theorem sI_sI (h : Mem) (a k : Nat) (x y : Int32) : sI (sI h a k x) a k y = sI h a k y := by
  refine mem_ext (fun _ => rfl) (fun _ => rfl) (fun b j => ?_) (fun _ _ => rfl) (fun _ _ => rfl) rfl rfl
  simp only [mI_sI]
  split <;> rfl
theorem sI_self (h : Mem) (a k : Nat) : sI h a k (mI h a k) = h := by
  refine mem_ext (fun _ => rfl) (fun _ => rfl) (fun b j => ?_) (fun _ _ => rfl) (fun _ _ => rfl) rfl rfl
  simp only [mI_sI]
  split
  · rename_i e; rw [e.1, e.2]
  · rfl
theorem sI_eq {h : Mem} {a k : Nat} {x : Int32} (e : mI h a k = x) : sI h a k x = h := by rw [← e]; exact sI_self h a k
theorem sI_comm (h : Mem) (a k b j : Nat) (x y : Int32) (hne : ¬ (a = b ∧ k = j)) : sI (sI h a k x) b j y = sI (sI h b j y) a k x := by
  refine mem_ext (fun _ => rfl) (fun _ => rfl) (fun c i => ?_) (fun _ _ => rfl) (fun _ _ => rfl) rfl rfl
  simp only [mI_sI]
  by_cases h1 : c = a ∧ i = k <;> by_cases h2 : c = b ∧ i = j
  · exact absurd ⟨h1.1.symm.trans h2.1, h1.2.symm.trans h2.2⟩ hne
  · rw [if_neg h2, if_pos h1, if_pos h1]
  · rw [if_pos h2, if_neg h1, if_pos h2]
  · rw [if_neg h2, if_neg h1, if_neg h1, if_neg h2]
abbrev ISE : String := "java/lang/IllegalStateException"
abbrev NSE : String := "java/util/NoSuchElementException"
end
section
/-! ===== the reference: its state as numbers by field and place ===== -/
abbrev Sg : Type := Nat → Nat → Int32
def su (σ : Sg) (k j : Nat) (v : Int32) : Sg := fun a b => if a = k ∧ b = j then v else σ a b
/-- the place of a field's array behind the object; 0: no array -/
def aOff (k : Nat) : Nat := match k with
  | 1 => 1 | 3 => 2 | 9 => 3 | 10 => 4 | 11 => 5 | 18 => 6 | 19 => 7 | 28 => 8 | 29 => 9 | 33 => 10 | 37 => 11 | 38 => 12 | 39 => 13 | 42 => 14 | _ => 0
def aLen (k : Nat) : Nat := match k with
  | 1 => 4000 | 3 => 32000 | 9 => 6144 | 10 => 6144 | 11 => 6144 | 18 => 122880 | 19 => 80 | 28 => 4 | 29 => 4 | 33 => 3 | 37 => 64 | 38 => 64 | 39 => 64 | 42 => 5 | _ => 0
def aKd (k : Nat) : Nat := match k with
  | 1 => 12 | 3 => 12 | 18 => 12 | _ => 11
theorem aOff_inj : ∀ k, k < 43 → ∀ k', k' < 43 → aOff k ≠ 0 → aOff k = aOff k' → k = k' := by decide +kernel
theorem aOff_lt : ∀ k, k < 43 → aOff k < 15 := by decide +kernel
theorem aOff_isR : ∀ k, k < 43 → (isR 7 k = true ↔ aOff k ≠ 0) := by decide +kernel
def wvT (j : Nat) : Int32 := ([2896, 2896, 2896, 2896, 4017, 3406, 2276, 799, 3784, 1567, -1567, -3784, 3406, -799, -4017, -2276, 2896, -2896, -2896, 2896, 2276, -4017, 799, 3406, 1567, -3784, 3784, -1567, 799, -2276, 3406, -4017] : List Int32).getD j 0
/-- the reference's static table -/
def WV (s0 : State) (h : Mem) : Prop := mK h (sA s0 2) = 21 ∧ mL h (sA s0 2) = 32 ∧ ∀ j, j < 32 → mI h (sA s0 2) j = wvT j
def MRep (s0 : State) (h : Mem) (m : Nat) (σ : Sg) : Prop := WV s0 h ∧ mK h m = 8 ∧ (∀ k, k < 43 → aOff k = 0 → mI h m k = σ k 0) ∧ ∀ k, k < 43 → aOff k ≠ 0 → mR h m k = some (m + aOff k) ∧ mK h (m + aOff k) = aKd k ∧ mL h (m + aOff k) = aLen k ∧ ∀ j, j < aLen k → mI h (m + aOff k) j = σ k j
/-- outside of [lo, hi) nothing has changed -/
def fr (lo hi : Nat) (h h' : Mem) : Prop := mN h' = mN h ∧ mU h' = mU h ∧ ∀ a, (a < lo ∨ hi ≤ a) → mK h' a = mK h a ∧ mL h' a = mL h a ∧ (∀ j, mI h' a j = mI h a j) ∧ (∀ j, mR h' a j = mR h a j) ∧ ∀ j, mJ h' a j = mJ h a j
theorem fr.refl (lo hi : Nat) (h : Mem) : fr lo hi h h := ⟨rfl, rfl, fun _ _ => ⟨rfl, rfl, fun _ => rfl, fun _ => rfl, fun _ => rfl⟩⟩
theorem fr.sI {lo hi : Nat} {h h' : Mem} {a k : Nat} {v : Int32} (f : fr lo hi h h') (ha : lo ≤ a ∧ a < hi) : fr lo hi h (sI h' a k v) := by
  refine ⟨f.1, f.2.1, fun b hb => ?_⟩
  obtain ⟨f1, f2, f3, f4, f5⟩ := f.2.2 b hb
  have hne : b ≠ a := by omega
  exact ⟨f1, f2, fun j => by rw [mI_sI, if_neg (fun e => hne e.1)]; exact f3 j, f4, f5⟩
theorem WV.sI {s0 : State} {h : Mem} {a k : Nat} {v : Int32} (w : WV s0 h) (ha : mK h a ≠ 21) : WV s0 (sI h a k v) := by
  have hne : sA s0 2 ≠ a := fun e => ha (by rw [← e]; exact w.1)
  exact ⟨w.1, w.2.1, fun j hj => by rw [mI_sI, if_neg (fun z => hne z.1)]; exact w.2.2 j hj⟩
def MF (s0 : State) (hB h : Mem) (m : Nat) (σ : Sg) : Prop := MRep s0 h m σ ∧ fr m (m + 15) hB h
theorem su_at (σ : Sg) (k j : Nat) (v : Int32) : su σ k j v k j = v := by simp [su]
theorem su_k {σ : Sg} {k j a b : Nat} {v : Int32} (h : a ≠ k) : su σ k j v a b = σ a b := by simp [su, h]
theorem MF.sc {s0 : State} {hB h : Mem} {m : Nat} {σ : Sg} {k : Nat} {v : Int32} (hM : MF s0 hB h m σ) (hk : k < 43) (hs : aOff k = 0) : MF s0 hB (sI h m k v) m (su σ k 0 v) := by
  obtain ⟨⟨hw, h1, h2, h3⟩, hf⟩ := hM
  refine ⟨⟨hw.sI (by rw [h1]; decide), h1, fun k' hk' hs' => ?_, fun k' hk' hs' => ?_⟩, hf.sI ⟨Nat.le_refl _, by omega⟩⟩
  · rw [mI_sI]
    by_cases e : k' = k
    · subst e
      simp [su]
    · rw [if_neg (fun z => e z.2), su_k e]
      exact h2 k' hk' hs'
  · obtain ⟨a1, a2, a3, a4⟩ := h3 k' hk' hs'
    have e : k' ≠ k := fun z => hs' (by rw [z]; exact hs)
    refine ⟨a1, a2, a3, fun j hj => ?_⟩
    rw [mI_sI, if_neg (fun z => by have := z.1; omega), su_k e]
    exact a4 j hj
theorem MF.ar {s0 : State} {hB h : Mem} {m : Nat} {σ : Sg} {k j : Nat} {v : Int32} (hM : MF s0 hB h m σ) (hk : k < 43) (hs : aOff k ≠ 0) : MF s0 hB (sI h (m + aOff k) j v) m (su σ k j v) := by
  obtain ⟨⟨hw, h1, h2, h3⟩, hf⟩ := hM
  have hl := aOff_lt k hk
  refine ⟨⟨hw.sI (by rw [(h3 k hk hs).2.1]; unfold aKd; split <;> decide), h1, fun k' hk' hs' => ?_, fun k' hk' hs' => ?_⟩, hf.sI ⟨by omega, by omega⟩⟩
  · have e : k' ≠ k := fun z => hs (by rw [← z]; exact hs')
    rw [mI_sI, if_neg (fun z => by have := z.1; omega), su_k e]
    exact h2 k' hk' hs'
  · obtain ⟨a1, a2, a3, a4⟩ := h3 k' hk' hs'
    refine ⟨a1, a2, a3, fun i hi => ?_⟩
    rw [mI_sI]
    by_cases e : k' = k
    · subst e
      by_cases e2 : i = j
      · subst e2
        simp [su]
      · rw [if_neg (fun z => e2 z.2)]
        simp only [su, e2, and_false, if_false]
        exact a4 i hi
    · rw [if_neg (fun z => e (aOff_inj k' hk' k hk hs' (by have := z.1; omega))), su_k e]
      exact a4 i hi
/-- the method ends, from this point, with an answer and a state as P says -/
def GQ (s0 : State) (l : Launch) (M : MI) (hB : Mem) (m pc : Nat) (L : List (Option Value)) (st : List Value) (σ : Sg) (P : Option Value → Sg → Prop) : Prop :=
  ∀ h, MF s0 hB h m σ → RQ s0 l M hB pc L st h (fun o h' => ∃ r σ', o = .inl r ∧ MF s0 hB h' m σ' ∧ P r σ')
/-- the reference's method M, called on m with these arguments in the state σ -/
def GC (s0 : State) (l : Launch) (M : MI) (m : Nat) (args : List Value) (σ : Sg) (P : Option Value → Sg → Prop) : Prop :=
  ∀ h, MRep s0 h m σ → CQ s0 l M (.ref m :: args) h (fun o h' => ∃ r σ', o = .inl r ∧ MF s0 h h' m σ' ∧ P r σ')
theorem fr.trans {lo hi : Nat} {a b c : Mem} (f : fr lo hi a b) (g : fr lo hi b c) : fr lo hi a c := by
  refine ⟨g.1.trans f.1, g.2.1.trans f.2.1, fun x hx => ?_⟩
  obtain ⟨f1, f2, f3, f4, f5⟩ := f.2.2 x hx
  obtain ⟨g1, g2, g3, g4, g5⟩ := g.2.2 x hx
  exact ⟨g1.trans f1, g2.trans f2, fun j => (g3 j).trans (f3 j), fun j => (g4 j).trans (f4 j), fun j => (g5 j).trans (f5 j)⟩
section GRules
variable {s0 : State} {l : Launch} {M M' : MI} {hB : Mem} {m pc : Nat} {L : List (Option Value)} {st st0 rest : List Value} {σ : Sg} {P P' : Option Value → Sg → Prop} {As : List Value}
theorem g_in (hy : plainName (iY M).cls = true) (hH : iH M = []) (hc : As.all (fun v => v.category == 1) = true) (hn : As.length + 1 ≤ iL M) (k : ∀ hB, GQ s0 l M hB m 0 (ent (.ref m :: As) (iL M)) [] σ P) : GC s0 l M m As σ P := fun h hM =>
  c_in hy hH (by rw [List.all_cons, hc]; rfl) hn (k h h ⟨hM, fr.refl _ _ _⟩)
theorem GC.mono {args : List Value} (k : GC s0 l M m args σ P) (f : ∀ r σ', P r σ' → P' r σ') : GC s0 l M m args σ P' := fun h hM => (k h hM).mono (fun o h' ⟨r, σ', a, b, c⟩ => ⟨r, σ', a, b, f r σ' c⟩)
theorem GQ.mono (k : GQ s0 l M hB m pc L st σ P) (f : ∀ r σ', P r σ' → P' r σ') : GQ s0 l M hB m pc L st σ P' := fun h hM => (k h hM).mono (fun o h' ⟨r, σ', a, b, c⟩ => ⟨r, σ', a, b, f r σ' c⟩)
theorem g_get {idx k : Nat} (hd : decode (iC M) pc = .ok (.getfield idx, 3)) (hf : FL (iY M).cls idx 7 k) (hs : aOff k = 0) (kk : GQ s0 l M hB m (pc + 3) L (.int (σ k 0) :: st) σ P) : GQ s0 l M hB m pc L (.ref m :: st) σ P := fun h hM => by
  have hk : k < 43 := hf.2.1
  refine q_getI hd hf ?_ hM.1.2.1 ?_
  · cases h9 : isR 7 k with
    | false => rfl
    | true => exact absurd hs ((aOff_isR k hk).mp h9)
  · rw [hM.1.2.2.1 k hk hs]
    exact kk h hM
theorem g_getA {idx k : Nat} (hd : decode (iC M) pc = .ok (.getfield idx, 3)) (hf : FL (iY M).cls idx 7 k) (hs : aOff k ≠ 0) (kk : GQ s0 l M hB m (pc + 3) L (.ref (m + aOff k) :: st) σ P) : GQ s0 l M hB m pc L (.ref m :: st) σ P := fun h hM => by
  have hk : k < 43 := hf.2.1
  exact q_getR hd hf ((aOff_isR k hk).mpr hs) hM.1.2.1 (hM.1.2.2.2 k hk hs).1 (kk h hM)
theorem g_put {idx k : Nat} {x : Int32} (hd : decode (iC M) pc = .ok (.putfield idx, 3)) (hf : FL (iY M).cls idx 7 k) (hs : aOff k = 0) (hn : narrow (cY 7 k) (.int x) = .int x) (hfit : fits (cY 7 k) (.int x) = true) (hfin : (cT 7 k).2.2.2 = false) (kk : GQ s0 l M hB m (pc + 3) L st (su σ k 0 x) P) : GQ s0 l M hB m pc L (.int x :: .ref m :: st) σ P := fun h hM => by
  have hk : k < 43 := hf.2.1
  refine q_putI hd hf ?_ hM.1.2.1 hn hfit (Or.inl hfin) (kk _ (hM.sc hk hs))
  cases h9 : isR 7 k with
  | false => rfl
  | true => exact absurd hs ((aOff_isR k hk).mp h9)
theorem g_iaload {k : Nat} {j : Int32} {a : Nat} (hd : decode (iC M) pc = .ok (.iaload, 1)) (ha : a = m + aOff k) (hk : k < 43) (hs : aOff k ≠ 0) (ht : aKd k = 11) (hin : vp_in j (aLen k)) (kk : GQ s0 l M hB m (pc + 1) L (.int (σ k j.toNatClampNeg) :: st) σ P) : GQ s0 l M hB m pc L (.int j :: .ref a :: st) σ P := fun h hM => by
  subst ha
  obtain ⟨a1, a2, a3, a4⟩ := hM.1.2.2.2 k hk hs
  refine q_iaload hd (Or.inl (by rw [a2]; exact ht)) (by rw [a3]; exact hin) ?_
  rw [a4 _ (vp_lt hin)]
  exact kk h hM
theorem g_baload {k : Nat} {j : Int32} {a : Nat} (hd : decode (iC M) pc = .ok (.baload, 1)) (ha : a = m + aOff k) (hk : k < 43) (hs : aOff k ≠ 0) (ht : aKd k = 12) (hin : vp_in j (aLen k)) (kk : GQ s0 l M hB m (pc + 1) L (.int (σ k j.toNatClampNeg) :: st) σ P) : GQ s0 l M hB m pc L (.int j :: .ref a :: st) σ P := fun h hM => by
  subst ha
  obtain ⟨a1, a2, a3, a4⟩ := hM.1.2.2.2 k hk hs
  refine q_baload hd (by rw [a2]; exact ht) (by rw [a3]; exact hin) ?_
  rw [a4 _ (vp_lt hin)]
  exact kk h hM
theorem g_iastore {k : Nat} {j x : Int32} {a : Nat} (hd : decode (iC M) pc = .ok (.iastore, 1)) (ha : a = m + aOff k) (hk : k < 43) (hs : aOff k ≠ 0) (ht : aKd k = 11) (hin : vp_in j (aLen k)) (kk : GQ s0 l M hB m (pc + 1) L st (su σ k j.toNatClampNeg x) P) : GQ s0 l M hB m pc L (.int x :: .int j :: .ref a :: st) σ P := fun h hM => by
  subst ha
  obtain ⟨a1, a2, a3, a4⟩ := hM.1.2.2.2 k hk hs
  exact q_iastore hd (by rw [a2]; exact ht) (by rw [a3]; exact hin) (kk _ (hM.ar hk hs))
theorem g_bastore {k : Nat} {j x : Int32} {a : Nat} (hd : decode (iC M) pc = .ok (.bastore, 1)) (ha : a = m + aOff k) (hk : k < 43) (hs : aOff k ≠ 0) (ht : aKd k = 12) (hin : vp_in j (aLen k)) (kk : GQ s0 l M hB m (pc + 1) L st (su σ k j.toNatClampNeg x.toInt8.toInt32) P) : GQ s0 l M hB m pc L (.int x :: .int j :: .ref a :: st) σ P := fun h hM => by
  subst ha
  obtain ⟨a1, a2, a3, a4⟩ := hM.1.2.2.2 k hk hs
  exact q_bastore hd (by rw [a2]; exact ht) (by rw [a3]; exact hin) (kk _ (hM.ar hk hs))
theorem g_call {idx n : Nat} (hd : decode (iC M) pc = .ok (.invokevirtual idx, 3)) (hl : Cond.methodLink (iY M).cls idx (iY M') ∈ lw_tbl) (mv : MV M' 7 n) (hH : iH M' = []) (hn : As.length = n) (hs : st0 = As.reverse ++ .ref m :: rest) (hw : (rest.map fun v => v.category).sum ≤ 8) (hr : iF M' + 1 ≤ iF M ∧ 8 + (iL M' + 11) + iW M' ≤ iW M)
    (hc : GC s0 l M' m As σ P') (kk : ∀ r σ', P' r σ' → GQ s0 l M hB m (pc + 3) L (r.toList ++ rest) σ' P) : GQ s0 l M hB m pc L st0 σ P := fun h hM => by
  refine q_callV hd hl mv hH hM.1.2.1 hn hs hw hr (hc h hM.1) (fun v h1 q => ?_) (fun E0 h1 q => ?_)
  · obtain ⟨r, σ', e, hM', hp⟩ := q
    cases e
    exact kk _ _ hp h1 ⟨hM'.1, hM.2.trans hM'.2⟩
  · obtain ⟨r, σ', e, -⟩ := q
    cases e
theorem g_iret {v : Int32} {ty : FieldType} (hd : decode (iC M) pc = .ok (.ireturn, 1)) (hr : iR M = some ty) (hn : narrow ty (.int v) = .int v) (hP : P (some (.int v)) σ) : GQ s0 l M hB m pc L [.int v] σ P := fun h hM => q_iret hd hr hn ⟨_, _, rfl, hM, hP⟩
theorem g_vret (hd : decode (iC M) pc = .ok (.return_, 1)) (hr : iR M = none) (hP : P none σ) : GQ s0 l M hB m pc L [] σ P := fun h hM => q_vret hd hr ⟨_, _, rfl, hM, hP⟩
theorem g_aret {v : Value} {rt : FieldType} (hd : decode (iC M) pc = .ok (.areturn, 1)) (hr : iR M = some rt) (hrt : (∃ n, rt = .object n) ∨ ∃ t, rt = .array t) (hv : v = .null ∨ ∃ a, v = .ref a) (hP : P (some v) σ) : GQ s0 l M hB m pc L [v] σ P := fun h hM => q_aret hd hr hrt hv ⟨_, _, rfl, hM, hP⟩
theorem g_iconst {n : Int} {v : Int32} (hd : decode (iC M) pc = .ok (.iconst n, 1)) (hv : Int32.ofInt n = v) (k : GQ s0 l M hB m (pc + 1) L (.int v :: st) σ P) : GQ s0 l M hB m pc L (st) σ P := fun h hM => q_iconst hd hv (k h hM)
theorem g_bipush {n : Int} {v : Int32} (hd : decode (iC M) pc = .ok (.bipush n, 2)) (hv : (Int8.ofInt n).toInt32 = v) (k : GQ s0 l M hB m (pc + 2) L (.int v :: st) σ P) : GQ s0 l M hB m pc L (st) σ P := fun h hM => q_bipush hd hv (k h hM)
theorem g_sipush {n : Int} {v : Int32} (hd : decode (iC M) pc = .ok (.sipush n, 3)) (hv : (Int16.ofInt n).toInt32 = v) (k : GQ s0 l M hB m (pc + 3) L (.int v :: st) σ P) : GQ s0 l M hB m pc L (st) σ P := fun h hM => q_sipush hd hv (k h hM)
theorem g_iload_n {k9 : Fin 4} {i : Nat} {x : Int32} (hd : decode (iC M) pc = .ok (.iload_n k9, 1)) (hi : (k9 : Nat) = i) (hl : L[i]? = some (some (.int x))) (k : GQ s0 l M hB m (pc + 1) L (.int x :: st) σ P) : GQ s0 l M hB m pc L (st) σ P := fun h hM => q_iload_n hd hi hl (k h hM)
theorem g_iload {i : Nat} {x : Int32} (hd : decode (iC M) pc = .ok (.iload i, 2)) (hl : L[i]? = some (some (.int x))) (k : GQ s0 l M hB m (pc + 2) L (.int x :: st) σ P) : GQ s0 l M hB m pc L (st) σ P := fun h hM => q_iload hd hl (k h hM)
theorem g_aload_n {k9 : Fin 4} {i : Nat} {x : Nat} (hd : decode (iC M) pc = .ok (.aload_n k9, 1)) (hi : (k9 : Nat) = i) (hl : L[i]? = some (some (.ref x))) (k : GQ s0 l M hB m (pc + 1) L (.ref x :: st) σ P) : GQ s0 l M hB m pc L (st) σ P := fun h hM => q_aload_n hd hi hl (k h hM)
theorem g_aload {i : Nat} {x : Nat} (hd : decode (iC M) pc = .ok (.aload i, 2)) (hl : L[i]? = some (some (.ref x))) (k : GQ s0 l M hB m (pc + 2) L (.ref x :: st) σ P) : GQ s0 l M hB m pc L (st) σ P := fun h hM => q_aload hd hl (k h hM)
theorem g_iadd {x y : Int32} (hd : decode (iC M) pc = .ok (.iadd, 1))  (k : GQ s0 l M hB m (pc + 1) L (.int (x + y) :: st) σ P) : GQ s0 l M hB m pc L (.int y :: .int x :: st) σ P := fun h hM => q_iadd hd  (k h hM)
theorem g_isub {x y : Int32} (hd : decode (iC M) pc = .ok (.isub, 1))  (k : GQ s0 l M hB m (pc + 1) L (.int (x - y) :: st) σ P) : GQ s0 l M hB m pc L (.int y :: .int x :: st) σ P := fun h hM => q_isub hd  (k h hM)
theorem g_imul {x y : Int32} (hd : decode (iC M) pc = .ok (.imul, 1))  (k : GQ s0 l M hB m (pc + 1) L (.int (x * y) :: st) σ P) : GQ s0 l M hB m pc L (.int y :: .int x :: st) σ P := fun h hM => q_imul hd  (k h hM)
theorem g_iand {x y : Int32} (hd : decode (iC M) pc = .ok (.iand, 1))  (k : GQ s0 l M hB m (pc + 1) L (.int (x &&& y) :: st) σ P) : GQ s0 l M hB m pc L (.int y :: .int x :: st) σ P := fun h hM => q_iand hd  (k h hM)
theorem g_ior {x y : Int32} (hd : decode (iC M) pc = .ok (.ior, 1))  (k : GQ s0 l M hB m (pc + 1) L (.int (x ||| y) :: st) σ P) : GQ s0 l M hB m pc L (.int y :: .int x :: st) σ P := fun h hM => q_ior hd  (k h hM)
theorem g_ixor {x y : Int32} (hd : decode (iC M) pc = .ok (.ixor, 1))  (k : GQ s0 l M hB m (pc + 1) L (.int (x ^^^ y) :: st) σ P) : GQ s0 l M hB m pc L (.int y :: .int x :: st) σ P := fun h hM => q_ixor hd  (k h hM)
theorem g_ishl {x y : Int32} (hd : decode (iC M) pc = .ok (.ishl, 1))  (k : GQ s0 l M hB m (pc + 1) L (.int (x <<< (y &&& 31)) :: st) σ P) : GQ s0 l M hB m pc L (.int y :: .int x :: st) σ P := fun h hM => q_ishl hd  (k h hM)
theorem g_ishr {x y : Int32} (hd : decode (iC M) pc = .ok (.ishr, 1))  (k : GQ s0 l M hB m (pc + 1) L (.int (x >>> (y &&& 31)) :: st) σ P) : GQ s0 l M hB m pc L (.int y :: .int x :: st) σ P := fun h hM => q_ishr hd  (k h hM)
theorem g_idiv {x y : Int32} (hd : decode (iC M) pc = .ok (.idiv, 1)) (hne : ¬ y = 0) (k : GQ s0 l M hB m (pc + 1) L (.int (x / y) :: st) σ P) : GQ s0 l M hB m pc L (.int y :: .int x :: st) σ P := fun h hM => q_idiv hd hne (k h hM)
theorem g_irem {x y : Int32} (hd : decode (iC M) pc = .ok (.irem, 1)) (hne : ¬ y = 0) (k : GQ s0 l M hB m (pc + 1) L (.int (x - x / y * y) :: st) σ P) : GQ s0 l M hB m pc L (.int y :: .int x :: st) σ P := fun h hM => q_irem hd hne (k h hM)
theorem g_ineg {x : Int32} (hd : decode (iC M) pc = .ok (.ineg, 1))  (k : GQ s0 l M hB m (pc + 1) L (.int (-x) :: st) σ P) : GQ s0 l M hB m pc L (.int x :: st) σ P := fun h hM => q_ineg hd  (k h hM)
theorem g_i2b {x : Int32} (hd : decode (iC M) pc = .ok (.i2b, 1))  (k : GQ s0 l M hB m (pc + 1) L (.int x.toInt8.toInt32 :: st) σ P) : GQ s0 l M hB m pc L (.int x :: st) σ P := fun h hM => q_i2b hd  (k h hM)
theorem g_dup {va : Value} (hd : decode (iC M) pc = .ok (.dup, 1)) (hva : va.category = 1) (k : GQ s0 l M hB m (pc + 1) L (va :: va :: st) σ P) : GQ s0 l M hB m pc L (va :: st) σ P := fun h hM => q_dup hd hva (k h hM)
theorem g_pop {va : Value} (hd : decode (iC M) pc = .ok (.pop, 1)) (hva : va.category = 1) (k : GQ s0 l M hB m (pc + 1) L (st) σ P) : GQ s0 l M hB m pc L (va :: st) σ P := fun h hM => q_pop hd hva (k h hM)
theorem g_dup2 {va vb : Value} (hd : decode (iC M) pc = .ok (.dup2, 1)) (hva : va.category = 1) (hvb : vb.category = 1) (k : GQ s0 l M hB m (pc + 1) L (va :: vb :: va :: vb :: st) σ P) : GQ s0 l M hB m pc L (va :: vb :: st) σ P := fun h hM => q_dup2 hd hva hvb (k h hM)
theorem g_istore_n {k9 : Fin 4} {i : Nat} {x : Int32} (hd : decode (iC M) pc = .ok (.istore_n k9, 1)) (hi : (k9 : Nat) = i) (hn : i < L.length) (k : GQ s0 l M hB m (pc + 1) (L.set i (some (.int x))) st σ P) : GQ s0 l M hB m pc L (.int x :: st) σ P := fun h hM => q_istore_n hd hi hn (k h hM)
theorem g_istore {i : Nat} {x : Int32} (hd : decode (iC M) pc = .ok (.istore i, 2)) (hn : i < L.length) (k : GQ s0 l M hB m (pc + 2) (L.set i (some (.int x))) st σ P) : GQ s0 l M hB m pc L (.int x :: st) σ P := fun h hM => q_istore hd hn (k h hM)
theorem g_astore_n {k9 : Fin 4} {i : Nat} {x : Nat} (hd : decode (iC M) pc = .ok (.astore_n k9, 1)) (hi : (k9 : Nat) = i) (hn : i < L.length) (k : GQ s0 l M hB m (pc + 1) (L.set i (some (.ref x))) st σ P) : GQ s0 l M hB m pc L (.ref x :: st) σ P := fun h hM => q_astore_n hd hi hn (k h hM)
theorem g_astore {i : Nat} {x : Nat} (hd : decode (iC M) pc = .ok (.astore i, 2)) (hn : i < L.length) (k : GQ s0 l M hB m (pc + 2) (L.set i (some (.ref x))) st σ P) : GQ s0 l M hB m pc L (.ref x :: st) σ P := fun h hM => q_astore hd hn (k h hM)
theorem g_iinc {i : Nat} {n : Int} {x : Int32} (hd : decode (iC M) pc = .ok (.iinc i n, 3)) (hl : L[i]? = some (some (.int x))) (k : GQ s0 l M hB m (pc + 3) (L.set i (some (.int (x + Int32.ofInt n)))) st σ P) : GQ s0 l M hB m pc L st σ P := fun h hM => q_iinc hd hl (k h hM)
theorem g_if_eq {x : Int32} {off : Int} {tgt : Nat} (hd : decode (iC M) pc = .ok (.ifCond .eq off, 3)) (ht : (pc : Int) + off = (tgt : Int)) (kt : x = 0 → GQ s0 l M hB m tgt L st σ P) (kf : ¬ x = 0 → GQ s0 l M hB m (pc + 3) L st σ P) : GQ s0 l M hB m pc L (.int x :: st) σ P := fun h hM => q_if_eq hd ht (fun c => kt c h hM) (fun c => kf c h hM)
theorem g_icmp_eq {x y : Int32} {off : Int} {tgt : Nat} (hd : decode (iC M) pc = .ok (.if_icmp .eq off, 3)) (ht : (pc : Int) + off = (tgt : Int)) (kt : x = y → GQ s0 l M hB m tgt L st σ P) (kf : ¬ x = y → GQ s0 l M hB m (pc + 3) L st σ P) : GQ s0 l M hB m pc L (.int y :: .int x :: st) σ P := fun h hM => q_icmp_eq hd ht (fun c => kt c h hM) (fun c => kf c h hM)
theorem g_if_ne {x : Int32} {off : Int} {tgt : Nat} (hd : decode (iC M) pc = .ok (.ifCond .ne off, 3)) (ht : (pc : Int) + off = (tgt : Int)) (kt : ¬ x = 0 → GQ s0 l M hB m tgt L st σ P) (kf : x = 0 → GQ s0 l M hB m (pc + 3) L st σ P) : GQ s0 l M hB m pc L (.int x :: st) σ P := fun h hM => q_if_ne hd ht (fun c => kt c h hM) (fun c => kf c h hM)
theorem g_icmp_ne {x y : Int32} {off : Int} {tgt : Nat} (hd : decode (iC M) pc = .ok (.if_icmp .ne off, 3)) (ht : (pc : Int) + off = (tgt : Int)) (kt : ¬ x = y → GQ s0 l M hB m tgt L st σ P) (kf : x = y → GQ s0 l M hB m (pc + 3) L st σ P) : GQ s0 l M hB m pc L (.int y :: .int x :: st) σ P := fun h hM => q_icmp_ne hd ht (fun c => kt c h hM) (fun c => kf c h hM)
theorem g_if_lt {x : Int32} {off : Int} {tgt : Nat} (hd : decode (iC M) pc = .ok (.ifCond .lt off, 3)) (ht : (pc : Int) + off = (tgt : Int)) (kt : x < 0 → GQ s0 l M hB m tgt L st σ P) (kf : ¬ x < 0 → GQ s0 l M hB m (pc + 3) L st σ P) : GQ s0 l M hB m pc L (.int x :: st) σ P := fun h hM => q_if_lt hd ht (fun c => kt c h hM) (fun c => kf c h hM)
theorem g_icmp_lt {x y : Int32} {off : Int} {tgt : Nat} (hd : decode (iC M) pc = .ok (.if_icmp .lt off, 3)) (ht : (pc : Int) + off = (tgt : Int)) (kt : x < y → GQ s0 l M hB m tgt L st σ P) (kf : ¬ x < y → GQ s0 l M hB m (pc + 3) L st σ P) : GQ s0 l M hB m pc L (.int y :: .int x :: st) σ P := fun h hM => q_icmp_lt hd ht (fun c => kt c h hM) (fun c => kf c h hM)
theorem g_if_ge {x : Int32} {off : Int} {tgt : Nat} (hd : decode (iC M) pc = .ok (.ifCond .ge off, 3)) (ht : (pc : Int) + off = (tgt : Int)) (kt : 0 ≤ x → GQ s0 l M hB m tgt L st σ P) (kf : ¬ 0 ≤ x → GQ s0 l M hB m (pc + 3) L st σ P) : GQ s0 l M hB m pc L (.int x :: st) σ P := fun h hM => q_if_ge hd ht (fun c => kt c h hM) (fun c => kf c h hM)
theorem g_icmp_ge {x y : Int32} {off : Int} {tgt : Nat} (hd : decode (iC M) pc = .ok (.if_icmp .ge off, 3)) (ht : (pc : Int) + off = (tgt : Int)) (kt : y ≤ x → GQ s0 l M hB m tgt L st σ P) (kf : ¬ y ≤ x → GQ s0 l M hB m (pc + 3) L st σ P) : GQ s0 l M hB m pc L (.int y :: .int x :: st) σ P := fun h hM => q_icmp_ge hd ht (fun c => kt c h hM) (fun c => kf c h hM)
theorem g_if_gt {x : Int32} {off : Int} {tgt : Nat} (hd : decode (iC M) pc = .ok (.ifCond .gt off, 3)) (ht : (pc : Int) + off = (tgt : Int)) (kt : 0 < x → GQ s0 l M hB m tgt L st σ P) (kf : ¬ 0 < x → GQ s0 l M hB m (pc + 3) L st σ P) : GQ s0 l M hB m pc L (.int x :: st) σ P := fun h hM => q_if_gt hd ht (fun c => kt c h hM) (fun c => kf c h hM)
theorem g_icmp_gt {x y : Int32} {off : Int} {tgt : Nat} (hd : decode (iC M) pc = .ok (.if_icmp .gt off, 3)) (ht : (pc : Int) + off = (tgt : Int)) (kt : y < x → GQ s0 l M hB m tgt L st σ P) (kf : ¬ y < x → GQ s0 l M hB m (pc + 3) L st σ P) : GQ s0 l M hB m pc L (.int y :: .int x :: st) σ P := fun h hM => q_icmp_gt hd ht (fun c => kt c h hM) (fun c => kf c h hM)
theorem g_if_le {x : Int32} {off : Int} {tgt : Nat} (hd : decode (iC M) pc = .ok (.ifCond .le off, 3)) (ht : (pc : Int) + off = (tgt : Int)) (kt : x ≤ 0 → GQ s0 l M hB m tgt L st σ P) (kf : ¬ x ≤ 0 → GQ s0 l M hB m (pc + 3) L st σ P) : GQ s0 l M hB m pc L (.int x :: st) σ P := fun h hM => q_if_le hd ht (fun c => kt c h hM) (fun c => kf c h hM)
theorem g_icmp_le {x y : Int32} {off : Int} {tgt : Nat} (hd : decode (iC M) pc = .ok (.if_icmp .le off, 3)) (ht : (pc : Int) + off = (tgt : Int)) (kt : x ≤ y → GQ s0 l M hB m tgt L st σ P) (kf : ¬ x ≤ y → GQ s0 l M hB m (pc + 3) L st σ P) : GQ s0 l M hB m pc L (.int y :: .int x :: st) σ P := fun h hM => q_icmp_le hd ht (fun c => kt c h hM) (fun c => kf c h hM)
theorem g_goto {off : Int} {tgt : Nat} (hd : decode (iC M) pc = .ok (.goto off, 3)) (ht : (pc : Int) + off = (tgt : Int)) (k : GQ s0 l M hB m tgt L st σ P) : GQ s0 l M hB m pc L st σ P := fun h hM => q_goto hd ht (k h hM)
theorem g_tableOut {dflt lo hi : Int} {offs : Array Int} {len : Nat} {x : Int32} {tgt : Nat} (hd : decode (iC M) pc = .ok (.tableswitch dflt lo hi offs, len)) (hx : x.toInt < lo ∨ hi < x.toInt) (ht : (pc : Int) + dflt = (tgt : Int)) (k : GQ s0 l M hB m tgt L st σ P) : GQ s0 l M hB m pc L (.int x :: st) σ P := fun h hM => q_tableOut hd hx ht (k h hM)
theorem g_tableIn {dflt lo hi : Int} {offs : Array Int} {len : Nat} {x : Int32} {off : Int} {tgt : Nat} (hd : decode (iC M) pc = .ok (.tableswitch dflt lo hi offs, len)) (h1 : ¬ x.toInt < lo) (h2 : ¬ hi < x.toInt) (ho : offs[(x.toInt - lo).toNat]? = some off) (ht : (pc : Int) + off = (tgt : Int)) (k : GQ s0 l M hB m tgt L st σ P) : GQ s0 l M hB m pc L (.int x :: st) σ P := fun h hM => q_tableIn hd h1 h2 ho ht (k h hM)
end GRules
end
section
section GC2
variable {s0 : State} {l : Launch} {M M' : MI} {hB : Mem} {m pc : Nat} {L : List (Option Value)} {st0 rest : List Value} {σ τ : Sg} {P : Option Value → Sg → Prop} {As : List Value} {v : Int32}
theorem g_calli {idx n : Nat} (hd : decode (iC M) pc = .ok (.invokevirtual idx, 3)) (hl : Cond.methodLink (iY M).cls idx (iY M') ∈ lw_tbl) (mv : MV M' 7 n) (hH : iH M' = []) (hn : As.length = n) (hs : st0 = As.reverse ++ .ref m :: rest) (hw : (rest.map fun v => v.category).sum ≤ 8) (hr : iF M' + 1 ≤ iF M ∧ 8 + (iL M' + 11) + iW M' ≤ iW M)
    (hc : GC s0 l M' m As σ (fun r σ' => r = some (.int v) ∧ σ' = τ)) (kk : GQ s0 l M hB m (pc + 3) L (.int v :: rest) τ P) : GQ s0 l M hB m pc L st0 σ P :=
  g_call hd hl mv hH hn hs hw hr hc (fun r σ' q => by obtain ⟨rfl, rfl⟩ := q; exact kk)
theorem g_callv {idx n : Nat} (hd : decode (iC M) pc = .ok (.invokevirtual idx, 3)) (hl : Cond.methodLink (iY M).cls idx (iY M') ∈ lw_tbl) (mv : MV M' 7 n) (hH : iH M' = []) (hn : As.length = n) (hs : st0 = As.reverse ++ .ref m :: rest) (hw : (rest.map fun v => v.category).sum ≤ 8) (hr : iF M' + 1 ≤ iF M ∧ 8 + (iL M' + 11) + iW M' ≤ iW M)
    (hc : GC s0 l M' m As σ (fun r σ' => r = none ∧ σ' = τ)) (kk : GQ s0 l M hB m (pc + 3) L rest τ P) : GQ s0 l M hB m pc L st0 σ P :=
  g_call hd hl mv hH hn hs hw hr hc (fun r σ' q => by obtain ⟨rfl, rfl⟩ := q; exact kk)
theorem g_callw {w : Value} {idx n : Nat} (hd : decode (iC M) pc = .ok (.invokevirtual idx, 3)) (hl : Cond.methodLink (iY M).cls idx (iY M') ∈ lw_tbl) (mv : MV M' 7 n) (hH : iH M' = []) (hn : As.length = n) (hs : st0 = As.reverse ++ .ref m :: rest) (hw : (rest.map fun v => v.category).sum ≤ 8) (hr : iF M' + 1 ≤ iF M ∧ 8 + (iL M' + 11) + iW M' ≤ iW M)
    (hc : GC s0 l M' m As σ (fun r σ' => r = some w ∧ σ' = τ)) (kk : GQ s0 l M hB m (pc + 3) L (w :: rest) τ P) : GQ s0 l M hB m pc L st0 σ P :=
  g_call hd hl mv hH hn hs hw hr hc (fun r σ' q => by obtain ⟨rfl, rfl⟩ := q; exact kk)
/-- a static method that reads nothing and changes nothing -/
theorem g_calls {idx n : Nat} (hd : decode (iC M) pc = .ok (.invokestatic idx, 3)) (hl : Cond.methodLink (iY M).cls idx (iY M') ∈ lw_tbl) (mv : MS M' n) (hH : iH M' = []) (hn : As.length = n) (hs : st0 = As.reverse ++ rest) (hw : (rest.map fun v => v.category).sum ≤ 8) (hr : iF M' + 1 ≤ iF M ∧ 8 + (iL M' + 11) + iW M' ≤ iW M)
    (hc : ∀ h, WV s0 h → CQ s0 l M' As h (fun o h' => o = .inl (some (.int v)) ∧ h' = h)) (kk : GQ s0 l M hB m (pc + 3) L (.int v :: rest) σ P) : GQ s0 l M hB m pc L st0 σ P := fun h hM => by
  refine q_callS hd hl mv hH hn hs hw hr (hc h hM.1.1) (fun v9 h1 q => ?_) (fun E0 h1 q => ?_)
  · obtain ⟨e, rfl⟩ := q
    cases e
    exact kk _ hM
  · obtain ⟨e, -⟩ := q
    cases e
end GC2
/-- where something is wrong: the first one stays -/
def fW (σ : Sg) (p : Int32) : Sg := if 0 ≤ σ 6 0 then σ else su σ 6 0 p
def fBit (σ : Sg) : Int32 × Sg := if 0 ≤ σ 6 0 then (0, σ) else if σ 4 0 = σ 5 0 then (0, fW σ (σ 5 0)) else (σ 3 (σ 4 0).toNatClampNeg, su σ 4 0 (σ 4 0 + 1))
/-- the reading place: within the tape -/
def okA (σ : Sg) : Prop := ∃ p e, σ 4 0 = nI p ∧ σ 5 0 = nI e ∧ p ≤ e ∧ e ≤ 32000
theorem add1_sub1 (x : Int32) : x + nI 1 - nI 1 = x := Int32.add_sub_cancel _ _
theorem nI1 : nI 1 = 1 := rfl
theorem nI2 : nI 2 = 2 := rfl
theorem okA.fW {σ : Sg} {p : Int32} (h : okA σ) : okA (fW σ p) := by
  unfold Jvm.Pilot.@@N@@.fW
  split
  · exact h
  · exact h
theorem okA.bit {σ : Sg} (h : okA σ) : okA (fBit σ).2 := by
  unfold fBit
  split
  · exact h
  · split
    · exact h.fW
    · rename_i h1 h2
      obtain ⟨p, e, a1, a2, a3, a4⟩ := h
      have hne : p ≠ e := fun z => h2 (by rw [a1, a2, z])
      exact ⟨p + 1, e, by show su σ 4 0 (σ 4 0 + 1) 4 0 = _; rw [su_at, a1, nI_1], a2, by omega, a4⟩
def fNum : Nat → Int32 → Sg → Int32 × Sg
  | 0, v, σ => (v, σ)
  | n + 1, v, σ => fNum n (2 * v + (fBit σ).1) (fBit σ).2
theorem okA.num : ∀ (n : Nat) (v : Int32) {σ : Sg}, okA σ → okA (fNum n v σ).2
  | 0, _, _, h => h
  | n + 1, v, σ, h => okA.num n _ h.bit

theorem m_isWrong {s0 : State} {l : Launch} {m : Nat} {σ : Sg} {p : Int32} : GC s0 l M_M_isWrong m [.int p] σ (fun r σ' => r = some (.int 1) ∧ σ' = fW σ p) := by
  refine g_in (by decide) rfl rfl (Nat.le_of_ble_eq_true rfl) (fun hB => ?_)
  refine g_aload_n d_M_isWrong_0 rfl rfl ?_
  refine g_get d_M_isWrong_1 fM_7 rfl ?_
  refine g_if_ge (tgt := 12) d_M_isWrong_4 (by decide) (fun c_4 => ?_) (fun c_4 => ?_)
  · skip
    refine g_iconst (v := nI 1) d_M_isWrong_12 (by decide) ?_
    refine g_iret d_M_isWrong_13 rfl rfl ?_
    refine ⟨rfl, ?_⟩
    simp [fW, c_4]
  · skip
    refine g_aload_n d_M_isWrong_7 rfl rfl ?_
    refine g_iload_n d_M_isWrong_8 rfl rfl ?_
    refine g_put d_M_isWrong_9 fM_7 rfl rfl rfl rfl ?_
    refine g_iconst (v := nI 1) d_M_isWrong_12 (by decide) ?_
    refine g_iret d_M_isWrong_13 rfl rfl ?_
    refine ⟨rfl, ?_⟩
    simp [fW, c_4]

theorem m_bit {s0 : State} {l : Launch} {m : Nat} {σ : Sg} (hA : okA σ) : GC s0 l M_M_bit m [] σ (fun r σ' => r = some (.int (fBit σ).1) ∧ σ' = (fBit σ).2) := by
  refine g_in (by decide) rfl rfl (Nat.le_of_ble_eq_true rfl) (fun hB => ?_)
  obtain ⟨p, e, h1, h2, h3, h4⟩ := hA
  refine g_aload_n d_M_bit_0 rfl rfl ?_
  refine g_get d_M_bit_1 fM_7 rfl ?_
  refine g_if_lt (tgt := 9) d_M_bit_4 (by decide) (fun c_4 => ?_) (fun c_4 => ?_)
  · skip
    refine g_aload_n d_M_bit_9 rfl rfl ?_
    refine g_get d_M_bit_10 fM_10 rfl ?_
    refine g_aload_n d_M_bit_13 rfl rfl ?_
    refine g_get d_M_bit_14 fM_13 rfl ?_
    refine g_icmp_ne (tgt := 31) d_M_bit_17 (by decide) (fun c_17 => ?_) (fun c_17 => ?_)
    · skip
      refine g_aload_n d_M_bit_31 rfl rfl ?_
      refine g_dup d_M_bit_32 rfl ?_
      refine g_get d_M_bit_33 fM_10 rfl ?_
      refine g_iconst (v := nI 1) d_M_bit_36 (by decide) ?_
      refine g_iadd d_M_bit_37 ?_
      refine g_put d_M_bit_38 fM_10 rfl rfl rfl rfl ?_
      have hlt : p < 32000 := by have hne : p ≠ e := fun z => c_17 (by rw [h1, h2, z])
                                 omega
      refine g_aload_n d_M_bit_41 rfl rfl ?_
      refine g_getA d_M_bit_42 fM_20 (by decide) ?_
      refine g_aload_n d_M_bit_45 rfl rfl ?_
      refine g_get d_M_bit_46 fM_10 rfl ?_
      refine g_iconst (v := nI 1) d_M_bit_49 (by decide) ?_
      refine g_isub d_M_bit_50 ?_
      refine g_baload (k := 3) d_M_bit_51 rfl (by decide) (by decide) rfl (by rw [su_at, add1_sub1, h1]; exact vp_in_nI hlt (by decide)) ?_
      refine g_iret d_M_bit_52 rfl rfl ?_
      unfold fBit
      rw [if_neg (Int32.not_le.mpr c_4), if_neg c_17]
      exact ⟨by rw [su_at, add1_sub1]; rfl, rfl⟩
    · skip
      refine g_aload_n d_M_bit_20 rfl rfl ?_
      refine g_aload_n d_M_bit_21 rfl rfl ?_
      refine g_get d_M_bit_22 fM_13 rfl ?_
      refine g_calli (As := [_]) d_M_bit_25 lM_16 mv_M_isWrong rfl rfl rfl (Nat.le_of_ble_eq_true rfl) (by decide) (m_isWrong) ?_
      refine g_istore_n d_M_bit_28 rfl (Nat.le_of_ble_eq_true rfl) ?_
      refine g_iconst (v := nI 0) d_M_bit_29 (by decide) ?_
      refine g_iret d_M_bit_30 rfl rfl ?_
      unfold fBit
      rw [if_neg (Int32.not_le.mpr c_4), if_pos c_17]
      exact ⟨rfl, rfl⟩
  · skip
    refine g_iconst (v := nI 0) d_M_bit_7 (by decide) ?_
    refine g_iret d_M_bit_8 rfl rfl ?_
    unfold fBit
    rw [if_pos (Int32.not_lt.mp c_4)]
    exact ⟨rfl, rfl⟩

theorem m_number_l {s0 : State} {l : Launch} {hB : Mem} {m N : Nat} (hN : N < 2 ^ 31) : ∀ (n i : Nat) (v : Int32) (σ : Sg), okA σ → i + n = N → GQ s0 l M_M_number hB m 4 [some (.ref m), some (.int (nI N)), some (.int v), some (.int (nI i))] [] σ (fun r σ' => r = some (.int (fNum n v σ).1) ∧ σ' = (fNum n v σ).2) := by
  intro n
  induction n with
  | zero =>
    intro i v σ hA hi
    refine g_iload_n d_M_number_4 rfl rfl ?_
    refine g_iload_n d_M_number_5 rfl rfl ?_
    refine g_icmp_ge (tgt := 24) d_M_number_6 (by decide) (fun c_6 => ?_) (fun c_6 => ?_)
    · skip
      refine g_iload_n d_M_number_24 rfl rfl ?_
      refine g_iret d_M_number_25 rfl rfl ?_
      exact ⟨rfl, rfl⟩
    · exact absurd (nI_le (show N ≤ i by omega) (by omega)) c_6
  | succ n ih =>
    intro i v σ hA hi
    refine g_iload_n d_M_number_4 rfl rfl ?_
    refine g_iload_n d_M_number_5 rfl rfl ?_
    refine g_icmp_ge (tgt := 24) d_M_number_6 (by decide) (fun c_6 => ?_) (fun c_6 => ?_)
    · exact absurd c_6 (nI_ge (by omega) hN)
    · skip
      refine g_iconst (v := nI 2) d_M_number_9 (by decide) ?_
      refine g_iload_n d_M_number_10 rfl rfl ?_
      refine g_imul d_M_number_11 ?_
      refine g_aload_n d_M_number_12 rfl rfl ?_
      refine g_calli (As := []) d_M_number_13 lM_24 mv_M_bit rfl rfl rfl (Nat.le_of_ble_eq_true rfl) (by decide) (m_bit hA) ?_
      refine g_iadd d_M_number_16 ?_
      refine g_istore_n d_M_number_17 rfl (Nat.le_of_ble_eq_true rfl) ?_
      refine g_iinc d_M_number_18 rfl ?_
      refine g_goto (tgt := 4) d_M_number_21 (by decide) ?_
      have e1 : nI i + Int32.ofInt 1 = nI (i + 1) := nI_1 i
      show GQ s0 l M_M_number hB m 4 [some (.ref m), some (.int (nI N)), some (.int (nI 2 * v + (fBit σ).1)), some (.int (nI i + Int32.ofInt 1))] [] _ _
      rw [e1]
      exact ih (i + 1) _ _ hA.bit (by omega)
theorem m_number {s0 : State} {l : Launch} {m : Nat} {σ : Sg} {n : Nat} (hA : okA σ) (hn : n < 2 ^ 31) : GC s0 l M_M_number m [.int (nI n)] σ (fun r σ' => r = some (.int (fNum n 0 σ).1) ∧ σ' = (fNum n 0 σ).2) := by
  refine g_in (by decide) rfl rfl (Nat.le_of_ble_eq_true rfl) (fun hB => ?_)
  refine g_iconst (v := nI 0) d_M_number_0 (by decide) ?_
  refine g_istore_n d_M_number_1 rfl (Nat.le_of_ble_eq_true rfl) ?_
  refine g_iconst (v := nI 0) d_M_number_2 (by decide) ?_
  refine g_istore_n d_M_number_3 rfl (Nat.le_of_ble_eq_true rfl) ?_
  exact m_number_l hn n 0 0 σ hA (by omega)

def fNA (n : Nat) (σ : Sg) : Int32 × Sg := ((fNum n 0 σ).1, if 0 ≤ (fNum n 0 σ).2 6 0 then (fNum n 0 σ).2 else if (fNum n 0 σ).1 = 0 then fW (fNum n 0 σ).2 ((fNum n 0 σ).2 4 0 - nI 1) else (fNum n 0 σ).2)
theorem okA.na {n : Nat} {σ : Sg} (h : okA σ) : okA (fNA n σ).2 := by
  unfold fNA
  have := okA.num n 0 h
  split
  · exact this
  · split
    · exact this.fW
    · exact this
def fUt (z : Nat) (σ : Sg) : Int32 × Sg := if 0 ≤ σ 6 0 then (0, σ) else (nI 1 <<< (nI z &&& 31) - nI 1 + (fNum z 0 σ).1, (fNum z 0 σ).2)
def fU : Nat → Nat → Sg → Int32 × Sg
  | 0, _, σ => (0, σ)
  | f + 1, z, σ => if 0 ≤ σ 6 0 then fUt z σ else if (fBit σ).1 = 0 then (if 0 ≤ (fBit σ).2 6 0 then (0, (fBit σ).2) else if z + 1 = 21 then fU f (z + 1) (fW (fBit σ).2 ((fBit σ).2 4 0 - nI 1)) else fU f (z + 1) (fBit σ).2) else fUt z (fBit σ).2
def sgnU (n : Int32) : Int32 := if n - n / nI 2 * nI 2 = nI 1 then (n + nI 1) / nI 2 else -(n / nI 2)
theorem bit_at {σ : Sg} (h : okA σ) (h1 : ¬ 0 ≤ σ 6 0) (h2 : ¬ 0 ≤ (fBit σ).2 6 0) : ∃ p e, σ 4 0 = nI p ∧ σ 5 0 = nI e ∧ p < e ∧ e ≤ 32000 ∧ fBit σ = (σ 3 p, su σ 4 0 (nI (p + 1))) := by
  obtain ⟨p, e, a1, a2, a3, a4⟩ := h
  unfold fBit at h2 ⊢
  rw [if_neg h1] at h2 ⊢
  split at h2
  · rename_i h3
    exfalso
    apply h2
    unfold fW
    rw [if_neg h1]
    show 0 ≤ su σ 6 0 (σ 5 0) 6 0
    rw [su_at, a2]
    exact nI_pos' (by omega)
  · rename_i h3
    have hne : p ≠ e := fun z => h3 (by rw [a1, a2, z])
    rw [if_neg h3]
    exact ⟨p, e, a1, a2, by omega, a4, by rw [a1, nI_1, nI_clamp (by omega)]⟩
theorem wrong_in {σ : Sg} (h : okA σ) (h1 : ¬ 0 ≤ σ 6 0) (h2 : ¬ 0 ≤ (fBit σ).2 6 0) : 0 ≤ fW (fBit σ).2 ((fBit σ).2 4 0 - nI 1) 6 0 := by
  obtain ⟨p, e, a1, a2, a3, a4, a5⟩ := bit_at h h1 h2
  rw [a5] at h2 ⊢
  unfold fW
  rw [if_neg h2, su_at]
  show 0 ≤ su σ 4 0 (nI (p + 1)) 4 0 - nI 1
  rw [su_at, pk_sub (by omega)]
  exact nI_pos' (by omega)
theorem okA.ut {z : Nat} {σ : Sg} (h : okA σ) : okA (fUt z σ).2 := by
  unfold fUt
  split
  · exact h
  · exact okA.num z 0 h
theorem okA.u : ∀ (f z : Nat) {σ : Sg}, okA σ → okA (fU f z σ).2
  | 0, _, _, h => h
  | f + 1, z, σ, h => by
    unfold fU
    split
    · exact h.ut
    · split
      · split
        · exact h.bit
        · split
          · exact okA.u f _ h.bit.fW
          · exact okA.u f _ h.bit
      · exact h.bit.ut
def fAl : Nat → Sg → Sg
  | 0, σ => σ
  | f + 1, σ => if 0 ≤ σ 6 0 then σ else if σ 4 0 - σ 4 0 / nI 8 * nI 8 = 0 then σ else fAl f (if (fBit σ).1 = nI 1 then fW (fBit σ).2 ((fBit σ).2 4 0 - nI 1) else (fBit σ).2)
theorem okA.al : ∀ (f : Nat) {σ : Sg}, okA σ → okA (fAl f σ)
  | 0, _, h => h
  | f + 1, σ, h => by
    unfold fAl
    split
    · exact h
    · split
      · exact h
      · refine okA.al f ?_
        split
        · exact h.bit.fW
        · exact h.bit
theorem m_numberAbove {s0 : State} {l : Launch} {m : Nat} {σ : Sg} {n : Nat} (hA : okA σ) (hn : n < 2 ^ 31) : GC s0 l M_M_numberAbove m [.int (nI n)] σ (fun r σ' => r = some (.int (fNA n σ).1) ∧ σ' = (fNA n σ).2) := by
  refine g_in (by decide) rfl rfl (Nat.le_of_ble_eq_true rfl) (fun hB => ?_)
  refine g_aload_n d_M_numberAbove_0 rfl rfl ?_
  refine g_iload_n d_M_numberAbove_1 rfl rfl ?_
  refine g_calli (As := [_]) d_M_numberAbove_2 lM_28 mv_M_number rfl rfl rfl (Nat.le_of_ble_eq_true rfl) (by decide) (m_number hA hn) ?_
  refine g_istore_n d_M_numberAbove_5 rfl (Nat.le_of_ble_eq_true rfl) ?_
  refine g_aload_n d_M_numberAbove_6 rfl rfl ?_
  refine g_get d_M_numberAbove_7 fM_7 rfl ?_
  refine g_if_ge (tgt := 28) d_M_numberAbove_10 (by decide) (fun c_10 => ?_) (fun c_10 => ?_)
  · skip
    refine g_iload_n d_M_numberAbove_28 rfl rfl ?_
    refine g_iret d_M_numberAbove_29 rfl rfl ?_
    refine ⟨rfl, ?_⟩
    unfold fNA
    simp only [c_10, if_true, if_false]
    try simp only [c_14, if_true, if_false]
  · skip
    refine g_iload_n d_M_numberAbove_13 rfl rfl ?_
    refine g_if_ne (tgt := 28) d_M_numberAbove_14 (by decide) (fun c_14 => ?_) (fun c_14 => ?_)
    · skip
      refine g_iload_n d_M_numberAbove_28 rfl rfl ?_
      refine g_iret d_M_numberAbove_29 rfl rfl ?_
      refine ⟨rfl, ?_⟩
      unfold fNA
      simp only [c_10, if_true, if_false]
      try simp only [c_14, if_true, if_false]
    · skip
      refine g_aload_n d_M_numberAbove_17 rfl rfl ?_
      refine g_aload_n d_M_numberAbove_18 rfl rfl ?_
      refine g_get d_M_numberAbove_19 fM_10 rfl ?_
      refine g_iconst (v := nI 1) d_M_numberAbove_22 (by decide) ?_
      refine g_isub d_M_numberAbove_23 ?_
      refine g_calli (As := [_]) d_M_numberAbove_24 lM_16 mv_M_isWrong rfl rfl rfl (Nat.le_of_ble_eq_true rfl) (by decide) (m_isWrong) ?_
      refine g_istore_n d_M_numberAbove_27 rfl (Nat.le_of_ble_eq_true rfl) ?_
      refine g_iload_n d_M_numberAbove_28 rfl rfl ?_
      refine g_iret d_M_numberAbove_29 rfl rfl ?_
      refine ⟨rfl, ?_⟩
      unfold fNA
      simp only [c_10, if_true, if_false]
      try simp only [c_14, if_true, if_false]

theorem m_readU_t {s0 : State} {l : Launch} {hB : Mem} {m z : Nat} {y : Option Value} {σ : Sg} (hA : okA σ) (hz : z ≤ 21) : GQ s0 l M_M_readU hB m 48 [some (.ref m), some (.int (nI z)), y] [] σ (fun r σ' => r = some (.int (fUt z σ).1) ∧ σ' = (fUt z σ).2) := by
  refine g_aload_n d_M_readU_48 rfl rfl ?_
  refine g_get d_M_readU_49 fM_7 rfl ?_
  refine g_if_lt (tgt := 57) d_M_readU_52 (by decide) (fun c_52 => ?_) (fun c_52 => ?_)
  · skip
    refine g_iconst (v := nI 1) d_M_readU_57 (by decide) ?_
    refine g_iload_n d_M_readU_58 rfl rfl ?_
    refine g_ishl d_M_readU_59 ?_
    refine g_iconst (v := nI 1) d_M_readU_60 (by decide) ?_
    refine g_isub d_M_readU_61 ?_
    refine g_aload_n d_M_readU_62 rfl rfl ?_
    refine g_iload_n d_M_readU_63 rfl rfl ?_
    refine g_calli (As := [_]) d_M_readU_64 lM_28 mv_M_number rfl rfl rfl (Nat.le_of_ble_eq_true rfl) (by decide) (m_number hA (by omega)) ?_
    refine g_iadd d_M_readU_67 ?_
    refine g_iret d_M_readU_68 rfl rfl ?_
    unfold fUt
    rw [if_neg (Int32.not_le.mpr c_52)]
    exact ⟨rfl, rfl⟩
  · skip
    refine g_iconst (v := nI 0) d_M_readU_55 (by decide) ?_
    refine g_iret d_M_readU_56 rfl rfl ?_
    unfold fUt
    rw [if_pos (Int32.not_lt.mp c_52)]
    exact ⟨rfl, rfl⟩
theorem m_readU_l {s0 : State} {l : Launch} {hB : Mem} {m : Nat} : ∀ (f z : Nat) (y : Option Value) (σ : Sg), okA σ → z + f = 22 → z ≤ 21 → (z = 21 → 0 ≤ σ 6 0) → GQ s0 l M_M_readU hB m 2 [some (.ref m), some (.int (nI z)), y] [] σ (fun r σ' => r = some (.int (fU f z σ).1) ∧ σ' = (fU f z σ).2) := by
  intro f
  induction f with
  | zero => intro z y σ hA hf hz; omega
  | succ f ih =>
    intro z y σ hA hf hz hw
    unfold fU
    refine g_aload_n d_M_readU_2 rfl rfl ?_
    refine g_get d_M_readU_3 fM_7 rfl ?_
    refine g_if_ge (tgt := 48) d_M_readU_6 (by decide) (fun c_6 => ?_) (fun c_6 => ?_)
    · skip
      first | (rw [if_pos c_6]; exact m_readU_t hA hz) | (rw [if_neg c_13]; exact m_readU_t hA.bit hz)
    · skip
      rw [if_neg c_6]
      refine g_aload_n d_M_readU_9 rfl rfl ?_
      refine g_calli (As := []) d_M_readU_10 lM_24 mv_M_bit rfl rfl rfl (Nat.le_of_ble_eq_true rfl) (by decide) (m_bit hA) ?_
      refine g_if_ne (tgt := 48) d_M_readU_13 (by decide) (fun c_13 => ?_) (fun c_13 => ?_)
      · skip
        first | (rw [if_pos c_6]; exact m_readU_t hA hz) | (rw [if_neg c_13]; exact m_readU_t hA.bit hz)
      · skip
        refine g_aload_n d_M_readU_16 rfl rfl ?_
        refine g_get d_M_readU_17 fM_7 rfl ?_
        refine g_if_lt (tgt := 25) d_M_readU_20 (by decide) (fun c_20 => ?_) (fun c_20 => ?_)
        · skip
          refine g_iinc d_M_readU_25 rfl ?_
          refine g_iload_n d_M_readU_28 rfl rfl ?_
          refine g_bipush (v := nI 21) d_M_readU_29 (by decide) ?_
          refine g_icmp_ne (tgt := 2) d_M_readU_31 (by decide) (fun c_31 => ?_) (fun c_31 => ?_)
          · skip
            rw [if_pos c_13, if_neg (Int32.not_le.mpr c_20)]
            have e1 : nI z + Int32.ofInt 1 = nI (z + 1) := nI_1 z
            first
              | (have hz1 : z + 1 = 21 := Classical.byContradiction (fun h9 => h9 ((nI_eq (by omega) (by omega)).mp (e1.symm.trans c_31)))
                 rw [if_pos hz1]
                 show GQ s0 l M_M_readU hB m 2 [some (.ref m), some (.int (nI z + Int32.ofInt 1)), some (.int 1)] [] _ _
                 rw [e1]
                 exact ih (z + 1) _ _ hA.bit.fW (by omega) (by omega) (fun _ => wrong_in hA c_6 (Int32.not_le.mpr c_20)))
              | (have hz1 : ¬ z + 1 = 21 := fun h9 => c_31 (by show nI z + Int32.ofInt 1 = nI 21; rw [e1, h9])
                 rw [if_neg hz1]
                 show GQ s0 l M_M_readU hB m 2 [some (.ref m), some (.int (nI z + Int32.ofInt 1)), y] [] _ _
                 rw [e1]
                 exact ih (z + 1) _ _ hA.bit (by omega) (by have : z ≠ 21 := fun h9 => c_6 (hw h9); omega) (fun h9 => absurd h9 hz1))
          · skip
            refine g_aload_n d_M_readU_34 rfl rfl ?_
            refine g_aload_n d_M_readU_35 rfl rfl ?_
            refine g_get d_M_readU_36 fM_10 rfl ?_
            refine g_iconst (v := nI 1) d_M_readU_39 (by decide) ?_
            refine g_isub d_M_readU_40 ?_
            refine g_calli (As := [_]) d_M_readU_41 lM_16 mv_M_isWrong rfl rfl rfl (Nat.le_of_ble_eq_true rfl) (by decide) (m_isWrong) ?_
            refine g_istore_n d_M_readU_44 rfl (Nat.le_of_ble_eq_true rfl) ?_
            refine g_goto (tgt := 2) d_M_readU_45 (by decide) ?_
            rw [if_pos c_13, if_neg (Int32.not_le.mpr c_20)]
            have e1 : nI z + Int32.ofInt 1 = nI (z + 1) := nI_1 z
            first
              | (have hz1 : z + 1 = 21 := Classical.byContradiction (fun h9 => h9 ((nI_eq (by omega) (by omega)).mp (e1.symm.trans c_31)))
                 rw [if_pos hz1]
                 show GQ s0 l M_M_readU hB m 2 [some (.ref m), some (.int (nI z + Int32.ofInt 1)), some (.int 1)] [] _ _
                 rw [e1]
                 exact ih (z + 1) _ _ hA.bit.fW (by omega) (by omega) (fun _ => wrong_in hA c_6 (Int32.not_le.mpr c_20)))
              | (have hz1 : ¬ z + 1 = 21 := fun h9 => c_31 (by show nI z + Int32.ofInt 1 = nI 21; rw [e1, h9])
                 rw [if_neg hz1]
                 show GQ s0 l M_M_readU hB m 2 [some (.ref m), some (.int (nI z + Int32.ofInt 1)), y] [] _ _
                 rw [e1]
                 exact ih (z + 1) _ _ hA.bit (by omega) (by have : z ≠ 21 := fun h9 => c_6 (hw h9); omega) (fun h9 => absurd h9 hz1))
        · skip
          refine g_iconst (v := nI 0) d_M_readU_23 (by decide) ?_
          refine g_iret d_M_readU_24 rfl rfl ?_
          rw [if_pos c_13, if_pos (Int32.not_lt.mp c_20)]
          exact ⟨rfl, rfl⟩
theorem m_readU {s0 : State} {l : Launch} {m : Nat} {σ : Sg} (hA : okA σ) : GC s0 l M_M_readU m [] σ (fun r σ' => r = some (.int (fU 22 0 σ).1) ∧ σ' = (fU 22 0 σ).2) := by
  refine g_in (by decide) rfl rfl (Nat.le_of_ble_eq_true rfl) (fun hB => ?_)
  refine g_iconst (v := nI 0) d_M_readU_0 (by decide) ?_
  refine g_istore_n d_M_readU_1 rfl (Nat.le_of_ble_eq_true rfl) ?_
  exact m_readU_l 22 0 none σ hA (by omega) (by omega) (fun h9 => absurd h9 (by decide))

theorem m_readS {s0 : State} {l : Launch} {m : Nat} {σ : Sg} (hA : okA σ) : GC s0 l M_M_readS m [] σ (fun r σ' => r = some (.int (sgnU (fU 22 0 σ).1)) ∧ σ' = (fU 22 0 σ).2) := by
  refine g_in (by decide) rfl rfl (Nat.le_of_ble_eq_true rfl) (fun hB => ?_)
  refine g_aload_n d_M_readS_0 rfl rfl ?_
  refine g_calli (As := []) d_M_readS_1 lM_32 mv_M_readU rfl rfl rfl (Nat.le_of_ble_eq_true rfl) (by decide) (m_readU hA) ?_
  refine g_istore_n d_M_readS_4 rfl (Nat.le_of_ble_eq_true rfl) ?_
  refine g_iload_n d_M_readS_5 rfl rfl ?_
  refine g_iconst (v := nI 2) d_M_readS_6 (by decide) ?_
  refine g_irem d_M_readS_7 (by decide) ?_
  refine g_iconst (v := nI 1) d_M_readS_8 (by decide) ?_
  refine g_icmp_ne (tgt := 20) d_M_readS_9 (by decide) (fun c_9 => ?_) (fun c_9 => ?_)
  · skip
    refine g_iload_n d_M_readS_20 rfl rfl ?_
    refine g_iconst (v := nI 2) d_M_readS_21 (by decide) ?_
    refine g_idiv d_M_readS_22 (by decide) ?_
    refine g_ineg d_M_readS_23 ?_
    refine g_iret d_M_readS_24 rfl rfl ?_
    refine ⟨?_, rfl⟩
    unfold sgnU
    first | rw [if_neg c_9] | rw [if_pos c_9]
  · skip
    refine g_iload_n d_M_readS_12 rfl rfl ?_
    refine g_iconst (v := nI 1) d_M_readS_13 (by decide) ?_
    refine g_iadd d_M_readS_14 ?_
    refine g_iconst (v := nI 2) d_M_readS_15 (by decide) ?_
    refine g_idiv d_M_readS_16 (by decide) ?_
    refine g_goto (tgt := 24) d_M_readS_17 (by decide) ?_
    refine g_iret d_M_readS_24 rfl rfl ?_
    refine ⟨?_, rfl⟩
    unfold sgnU
    first | rw [if_neg c_9] | rw [if_pos c_9]

theorem m_align_l {s0 : State} {l : Launch} {hB : Mem} {m : Nat} : ∀ (f : Nat) (y : Option Value) (σ : Sg) (p : Nat), okA σ → σ 4 0 = nI p → p ≤ 32000 → (¬ 0 ≤ σ 6 0 → p % 8 ≠ 0 → 8 - p % 8 ≤ f) → GQ s0 l M_M_align hB m 0 [some (.ref m), y] [] σ (fun r σ' => r = none ∧ σ' = fAl f σ) := by
  intro f
  induction f with
  | zero =>
    intro y σ p hA hp hp2 hf
    unfold fAl
    refine g_aload_n d_M_align_0 rfl rfl ?_
    refine g_get d_M_align_1 fM_7 rfl ?_
    refine g_if_ge (tgt := 39) d_M_align_4 (by decide) (fun c_4 => ?_) (fun c_4 => ?_)
    · skip
      refine g_vret d_M_align_39 rfl ?_
      exact ⟨rfl, rfl⟩
    · skip
      refine g_aload_n d_M_align_7 rfl rfl ?_
      refine g_get d_M_align_8 fM_10 rfl ?_
      refine g_bipush (v := nI 8) d_M_align_11 (by decide) ?_
      refine g_irem d_M_align_13 (by decide) ?_
      refine g_if_eq (tgt := 39) d_M_align_14 (by decide) (fun c_14 => ?_) (fun c_14 => ?_)
      · skip
        refine g_vret d_M_align_39 rfl ?_
        exact ⟨rfl, rfl⟩
      · exfalso
        rw [hp, pk_rem (by omega) (by decide) (by decide)] at c_14
        have h9 := hf c_4 (fun h8 => c_14 (by rw [h8]; rfl))
        omega
  | succ f ih =>
    intro y σ p hA hp hp2 hf
    unfold fAl
    refine g_aload_n d_M_align_0 rfl rfl ?_
    refine g_get d_M_align_1 fM_7 rfl ?_
    refine g_if_ge (tgt := 39) d_M_align_4 (by decide) (fun c_4 => ?_) (fun c_4 => ?_)
    · skip
      refine g_vret d_M_align_39 rfl ?_
      first
        | (rw [if_pos c_4]; exact ⟨rfl, rfl⟩)
        | (rw [if_pos c_14]; exact ⟨rfl, rfl⟩)
    · skip
      rw [if_neg c_4]
      refine g_aload_n d_M_align_7 rfl rfl ?_
      refine g_get d_M_align_8 fM_10 rfl ?_
      refine g_bipush (v := nI 8) d_M_align_11 (by decide) ?_
      refine g_irem d_M_align_13 (by decide) ?_
      refine g_if_eq (tgt := 39) d_M_align_14 (by decide) (fun c_14 => ?_) (fun c_14 => ?_)
      · skip
        refine g_vret d_M_align_39 rfl ?_
        first
          | (rw [if_pos c_4]; exact ⟨rfl, rfl⟩)
          | (rw [if_pos c_14]; exact ⟨rfl, rfl⟩)
      · skip
        rw [if_neg c_14]
        refine g_aload_n d_M_align_17 rfl rfl ?_
        refine g_calli (As := []) d_M_align_18 lM_24 mv_M_bit rfl rfl rfl (Nat.le_of_ble_eq_true rfl) (by decide) (m_bit hA) ?_
        refine g_iconst (v := nI 1) d_M_align_21 (by decide) ?_
        refine g_icmp_ne (tgt := 0) d_M_align_22 (by decide) (fun c_22 => ?_) (fun c_22 => ?_)
        · skip
          obtain ⟨p1, e, a1, a2, a3, a4⟩ := id hA
          have hpp : p1 = p := (nI_eq (by omega) (by omega)).mp (a1.symm.trans hp)
          subst hpp
          have hm : p1 % 8 ≠ 0 := fun h8 => c_14 (by rw [a1, pk_rem (by omega) (by decide) (by decide), h8]; rfl)
          have h9 := hf c_4 hm
          by_cases hw2 : 0 ≤ (fBit σ).2 6 0
          · obtain ⟨p2, e2, b1, b2, b3, b4⟩ := hA.bit
            first
              | (rw [if_neg c_22]; exact ih _ _ p2 hA.bit b1 (by omega) (fun h7 => absurd hw2 h7))
              | (rw [if_pos c_22]; exact ih _ _ p2 hA.bit.fW (by unfold fW; rw [if_pos hw2]; exact b1) (by omega) (fun h7 => absurd (by unfold fW; rw [if_pos hw2]; exact hw2) h7))
          · obtain ⟨p2, e2, b1, b2, b3, b4, b5⟩ := bit_at hA c_4 hw2
            have hpp : p2 = p1 := (nI_eq (by omega) (by omega)).mp (b1.symm.trans a1)
            subst hpp
            have b6 : (fBit σ).2 4 0 = nI (p2 + 1) := by rw [b5]; exact su_at σ 4 0 _
            first
              | (rw [if_neg c_22]; exact ih _ _ (p2 + 1) hA.bit b6 (by omega) (fun _ _ => by omega))
              | (rw [if_pos c_22]; exact ih _ _ (p2 + 1) hA.bit.fW (by unfold fW; rw [if_neg hw2]; exact b6) (by omega) (fun h7 => absurd (wrong_in hA c_4 hw2) h7))
        · skip
          refine g_aload_n d_M_align_25 rfl rfl ?_
          refine g_aload_n d_M_align_26 rfl rfl ?_
          refine g_get d_M_align_27 fM_10 rfl ?_
          refine g_iconst (v := nI 1) d_M_align_30 (by decide) ?_
          refine g_isub d_M_align_31 ?_
          refine g_calli (As := [_]) d_M_align_32 lM_16 mv_M_isWrong rfl rfl rfl (Nat.le_of_ble_eq_true rfl) (by decide) (m_isWrong) ?_
          refine g_istore_n d_M_align_35 rfl (Nat.le_of_ble_eq_true rfl) ?_
          refine g_goto (tgt := 0) d_M_align_36 (by decide) ?_
          obtain ⟨p1, e, a1, a2, a3, a4⟩ := id hA
          have hpp : p1 = p := (nI_eq (by omega) (by omega)).mp (a1.symm.trans hp)
          subst hpp
          have hm : p1 % 8 ≠ 0 := fun h8 => c_14 (by rw [a1, pk_rem (by omega) (by decide) (by decide), h8]; rfl)
          have h9 := hf c_4 hm
          by_cases hw2 : 0 ≤ (fBit σ).2 6 0
          · obtain ⟨p2, e2, b1, b2, b3, b4⟩ := hA.bit
            first
              | (rw [if_neg c_22]; exact ih _ _ p2 hA.bit b1 (by omega) (fun h7 => absurd hw2 h7))
              | (rw [if_pos c_22]; exact ih _ _ p2 hA.bit.fW (by unfold fW; rw [if_pos hw2]; exact b1) (by omega) (fun h7 => absurd (by unfold fW; rw [if_pos hw2]; exact hw2) h7))
          · obtain ⟨p2, e2, b1, b2, b3, b4, b5⟩ := bit_at hA c_4 hw2
            have hpp : p2 = p1 := (nI_eq (by omega) (by omega)).mp (b1.symm.trans a1)
            subst hpp
            have b6 : (fBit σ).2 4 0 = nI (p2 + 1) := by rw [b5]; exact su_at σ 4 0 _
            first
              | (rw [if_neg c_22]; exact ih _ _ (p2 + 1) hA.bit b6 (by omega) (fun _ _ => by omega))
              | (rw [if_pos c_22]; exact ih _ _ (p2 + 1) hA.bit.fW (by unfold fW; rw [if_neg hw2]; exact b6) (by omega) (fun h7 => absurd (wrong_in hA c_4 hw2) h7))
theorem m_align {s0 : State} {l : Launch} {m : Nat} {σ : Sg} (hA : okA σ) : GC s0 l M_M_align m [] σ (fun r σ' => r = none ∧ σ' = fAl 8 σ) := by
  refine g_in (by decide) rfl rfl (Nat.le_of_ble_eq_true rfl) (fun hB => ?_)
  obtain ⟨p, e, a1, a2, a3, a4⟩ := id hA
  exact m_align_l 8 none σ p hA a1 (by omega) (fun _ _ => by omega)
end
section
/-! ===== the reference: planes, dots, foretelling ===== -/
def okD (σ : Sg) (A B : Nat) : Prop := σ 7 0 = nI A ∧ σ 8 0 = nI B ∧ 1 ≤ A ∧ A ≤ 4 ∧ 1 ≤ B ∧ B ≤ 4
def hel (v lo hi : Int32) : Int32 := if lo ≤ v then (if v ≤ hi then v else hi) else lo
def pW (σ : Sg) (p : Int32) : Int32 := if p = 0 then nI 16 * σ 7 0 else nI 8 * σ 7 0
def pH (σ : Sg) (p : Int32) : Int32 := if p = 0 then nI 16 * σ 8 0 else nI 8 * σ 8 0
def pA (σ : Sg) (p : Int32) : Int32 := if p = 0 then nI 0 else nI 256 * σ 7 0 * σ 8 0 + (p - nI 1) * nI 64 * σ 7 0 * σ 8 0
def wdN (A P : Nat) : Nat := if P = 0 then 16 * A else 8 * A
def atN (A B P : Nat) : Nat := if P = 0 then 0 else 256 * A * B + (P - 1) * 64 * A * B
theorem pW_n {σ : Sg} {A B P : Nat} (h : okD σ A B) (hP : P < 2 ^ 31) : pW σ (nI P) = nI (wdN A P) := by
  unfold pW wdN
  rw [h.1, pk_mul, pk_mul]
  by_cases e : P = 0
  · subst e; rfl
  · rw [if_neg (nI_ne0 (by omega) hP), if_neg e]
theorem pH_n {σ : Sg} {A B P : Nat} (h : okD σ A B) (hP : P < 2 ^ 31) : pH σ (nI P) = nI (wdN B P) := by
  unfold pH wdN
  rw [h.2.1, pk_mul, pk_mul]
  by_cases e : P = 0
  · subst e; rfl
  · rw [if_neg (nI_ne0 (by omega) hP), if_neg e]
theorem pA_n {σ : Sg} {A B P : Nat} (h : okD σ A B) (hP : P < 2 ^ 31) : pA σ (nI P) = nI (atN A B P) := by
  unfold pA atN
  by_cases e : P = 0
  · subst e; rfl
  · rw [if_neg (nI_ne0 (by omega) hP), if_neg e, h.1, h.2.1, pk_sub (by omega)]
    simp only [pk_mul, nI_add]
/-- held within 0 and w - 1 -/
def cl (x w : Int32) : Int32 := if 0 ≤ x then (if x < w then x else w - nI 1) else nI 0
theorem cl_n {x : Int32} {w : Nat} (h0 : 1 ≤ w) (hw : w < 2 ^ 31) : ∃ c, c < w ∧ cl x (nI w) = nI c := by
  unfold cl
  split
  · rename_i h1
    split
    · rename_i h2
      obtain ⟨j, hj, rfl⟩ := nI_of (Int32.not_lt.mpr h1)
      exact ⟨j, (nI_ltI hj hw).mp h2, rfl⟩
    · exact ⟨w - 1, by omega, pk_sub h0⟩
  · exact ⟨0, by omega, rfl⟩
theorem idx_lt {A B P c1 c2 : Nat} (hA : 1 ≤ A ∧ A ≤ 4) (hB : 1 ≤ B ∧ B ≤ 4) (hP : P < 3) (h1 : c1 < wdN A P) (h2 : c2 < wdN B P) : atN A B P + wdN A P * c2 + c1 < atN A B (P + 1) ∧ atN A B (P + 1) ≤ 384 * A * B ∧ 384 * A * B ≤ 6144 := by
  unfold atN wdN at *
  rcases (show A = 1 ∨ A = 2 ∨ A = 3 ∨ A = 4 by omega) with rfl | rfl | rfl | rfl <;> rcases (show B = 1 ∨ B = 2 ∨ B = 3 ∨ B = 4 by omega) with rfl | rfl | rfl | rfl <;> rcases (show P = 0 ∨ P = 1 ∨ P = 2 by omega) with rfl | rfl | rfl <;> simp at * <;> omega
def dIx (σ : Sg) (p x y : Int32) : Int32 := pA σ p + pW σ p * cl y (pH σ p) + cl x (pW σ p)
def fDot (σ : Sg) (k : Nat) (p x y : Int32) : Int32 := σ k (dIx σ p x y).toNatClampNeg
theorem dIx_n {σ : Sg} {A B P : Nat} (h : okD σ A B) (hP : P < 3) (x y : Int32) : ∃ c1 c2, c1 < wdN A P ∧ c2 < wdN B P ∧ cl x (nI (wdN A P)) = nI c1 ∧ cl y (nI (wdN B P)) = nI c2 ∧ dIx σ (nI P) x y = nI (atN A B P + wdN A P * c2 + c1) ∧ atN A B P + wdN A P * c2 + c1 < 6144 := by
  have hw : 1 ≤ wdN A P ∧ wdN A P ≤ 64 := by unfold wdN; split <;> (have := h.2.2; omega)
  have hh : 1 ≤ wdN B P ∧ wdN B P ≤ 64 := by unfold wdN; split <;> (have := h.2.2; omega)
  obtain ⟨c1, a1, a2⟩ := cl_n (x := x) (w := wdN A P) hw.1 (by omega)
  obtain ⟨c2, b1, b2⟩ := cl_n (x := y) (w := wdN B P) hh.1 (by omega)
  have := idx_lt ⟨h.2.2.1, h.2.2.2.1⟩ ⟨h.2.2.2.2.1, h.2.2.2.2.2⟩ hP a1 b1
  refine ⟨c1, c2, a1, b1, a2, b2, ?_, by omega⟩
  unfold dIx
  rw [pA_n h (by omega), pW_n h (by omega), pH_n h (by omega), a2, b2, pk_mul, nI_add, nI_add]
def rm2 (x : Int32) : Int32 := x - x / nI 2 * nI 2
def h1 (x : Int32) : Int32 := x >>> (nI 1 &&& 31)
def fBt (σ : Sg) (k : Nat) (p hx hy : Int32) : Int32 :=
  if rm2 hx = 0 ∧ rm2 hy = 0 then fDot σ k p (h1 hx) (h1 hy) else
  if rm2 hy = 0 then h1 (fDot σ k p (h1 hx) (h1 hy) + fDot σ k p (h1 hx + nI 1) (h1 hy) + nI 1) else
  if rm2 hx = 0 then h1 (fDot σ k p (h1 hx) (h1 hy) + fDot σ k p (h1 hx) (h1 hy + nI 1) + nI 1) else
  (fDot σ k p (h1 hx) (h1 hy) + fDot σ k p (h1 hx + nI 1) (h1 hy) + fDot σ k p (h1 hx) (h1 hy + nI 1) + fDot σ k p (h1 hx + nI 1) (h1 hy + nI 1) + nI 2) >>> (nI 2 &&& 31)
def fMv (σ : Sg) (k : Nat) (p x y : Int32) (w : Nat) : Int32 :=
  if p ≤ 0 then fBt σ k p (nI 2 * x + σ 28 (2 * w)) (nI 2 * y + σ 28 (2 * w + 1)) else fBt σ k p (nI 2 * x + σ 28 (2 * w) / nI 2) (nI 2 * y + σ 28 (2 * w + 1) / nI 2)
def fwK (σ : Sg) : Nat := if σ 34 0 = nI 2 then 10 else 11
def fFD (σ : Sg) (p x y : Int32) : Int32 :=
  if σ 30 0 = 0 then fMv σ 10 p x y 1 else if σ 31 0 = 0 then fMv σ (fwK σ) p x y 0 else h1 (fMv σ (fwK σ) p x y 0 + fMv σ 10 p x y 1 + nI 1)
def okK (k : Nat) : Prop := k < 43 ∧ aOff k ≠ 0 ∧ aKd k = 11 ∧ aLen k = 6144
theorem okK10 : okK 10 := ⟨by decide, by decide, rfl, rfl⟩
theorem okKf (σ : Sg) : okK (fwK σ) := by unfold fwK; split <;> exact ⟨by decide, by decide, rfl, rfl⟩
theorem m_planeWidth {s0 : State} {l : Launch} {m : Nat} {σ : Sg} {p : Int32} : GC s0 l M_M_planeWidth m [.int p] σ (fun r σ' => r = some (.int (pW σ p)) ∧ σ' = σ) := by
  refine g_in (by decide) rfl rfl (Nat.le_of_ble_eq_true rfl) (fun hB => ?_)
  refine g_iload_n d_M_planeWidth_0 rfl rfl ?_
  refine g_if_ne (tgt := 14) d_M_planeWidth_1 (by decide) (fun c_1 => ?_) (fun c_1 => ?_)
  · skip
    refine g_bipush (v := nI 8) d_M_planeWidth_14 (by decide) ?_
    refine g_aload_n d_M_planeWidth_16 rfl rfl ?_
    refine g_get d_M_planeWidth_17 fM_35 rfl ?_
    refine g_imul d_M_planeWidth_20 ?_
    refine g_iret d_M_planeWidth_21 rfl rfl ?_
    refine ⟨?_, rfl⟩
    unfold pW
    first | rw [if_neg c_1] | rw [if_pos c_1]
  · skip
    refine g_bipush (v := nI 16) d_M_planeWidth_4 (by decide) ?_
    refine g_aload_n d_M_planeWidth_6 rfl rfl ?_
    refine g_get d_M_planeWidth_7 fM_35 rfl ?_
    refine g_imul d_M_planeWidth_10 ?_
    refine g_goto (tgt := 21) d_M_planeWidth_11 (by decide) ?_
    refine g_iret d_M_planeWidth_21 rfl rfl ?_
    refine ⟨?_, rfl⟩
    unfold pW
    first | rw [if_neg c_1] | rw [if_pos c_1]

theorem m_planeHeight {s0 : State} {l : Launch} {m : Nat} {σ : Sg} {p : Int32} : GC s0 l M_M_planeHeight m [.int p] σ (fun r σ' => r = some (.int (pH σ p)) ∧ σ' = σ) := by
  refine g_in (by decide) rfl rfl (Nat.le_of_ble_eq_true rfl) (fun hB => ?_)
  refine g_iload_n d_M_planeHeight_0 rfl rfl ?_
  refine g_if_ne (tgt := 14) d_M_planeHeight_1 (by decide) (fun c_1 => ?_) (fun c_1 => ?_)
  · skip
    refine g_bipush (v := nI 8) d_M_planeHeight_14 (by decide) ?_
    refine g_aload_n d_M_planeHeight_16 rfl rfl ?_
    refine g_get d_M_planeHeight_17 fM_38 rfl ?_
    refine g_imul d_M_planeHeight_20 ?_
    refine g_iret d_M_planeHeight_21 rfl rfl ?_
    refine ⟨?_, rfl⟩
    unfold pH
    first | rw [if_neg c_1] | rw [if_pos c_1]
  · skip
    refine g_bipush (v := nI 16) d_M_planeHeight_4 (by decide) ?_
    refine g_aload_n d_M_planeHeight_6 rfl rfl ?_
    refine g_get d_M_planeHeight_7 fM_38 rfl ?_
    refine g_imul d_M_planeHeight_10 ?_
    refine g_goto (tgt := 21) d_M_planeHeight_11 (by decide) ?_
    refine g_iret d_M_planeHeight_21 rfl rfl ?_
    refine ⟨?_, rfl⟩
    unfold pH
    first | rw [if_neg c_1] | rw [if_pos c_1]

theorem m_planeAt {s0 : State} {l : Launch} {m : Nat} {σ : Sg} {p : Int32} : GC s0 l M_M_planeAt m [.int p] σ (fun r σ' => r = some (.int (pA σ p)) ∧ σ' = σ) := by
  refine g_in (by decide) rfl rfl (Nat.le_of_ble_eq_true rfl) (fun hB => ?_)
  refine g_iload_n d_M_planeAt_0 rfl rfl ?_
  refine g_if_ne (tgt := 8) d_M_planeAt_1 (by decide) (fun c_1 => ?_) (fun c_1 => ?_)
  · skip
    refine g_sipush (v := nI 256) d_M_planeAt_8 (by decide) ?_
    refine g_aload_n d_M_planeAt_11 rfl rfl ?_
    refine g_get d_M_planeAt_12 fM_35 rfl ?_
    refine g_imul d_M_planeAt_15 ?_
    refine g_aload_n d_M_planeAt_16 rfl rfl ?_
    refine g_get d_M_planeAt_17 fM_38 rfl ?_
    refine g_imul d_M_planeAt_20 ?_
    refine g_iload_n d_M_planeAt_21 rfl rfl ?_
    refine g_iconst (v := nI 1) d_M_planeAt_22 (by decide) ?_
    refine g_isub d_M_planeAt_23 ?_
    refine g_bipush (v := nI 64) d_M_planeAt_24 (by decide) ?_
    refine g_imul d_M_planeAt_26 ?_
    refine g_aload_n d_M_planeAt_27 rfl rfl ?_
    refine g_get d_M_planeAt_28 fM_35 rfl ?_
    refine g_imul d_M_planeAt_31 ?_
    refine g_aload_n d_M_planeAt_32 rfl rfl ?_
    refine g_get d_M_planeAt_33 fM_38 rfl ?_
    refine g_imul d_M_planeAt_36 ?_
    refine g_iadd d_M_planeAt_37 ?_
    refine g_iret d_M_planeAt_38 rfl rfl ?_
    refine ⟨?_, rfl⟩
    unfold pA
    first | rw [if_neg c_1] | rw [if_pos c_1]
  · skip
    refine g_iconst (v := nI 0) d_M_planeAt_4 (by decide) ?_
    refine g_goto (tgt := 38) d_M_planeAt_5 (by decide) ?_
    refine g_iret d_M_planeAt_38 rfl rfl ?_
    refine ⟨?_, rfl⟩
    unfold pA
    first | rw [if_neg c_1] | rw [if_pos c_1]

theorem m_taped {s0 : State} {l : Launch} {m : Nat} {σ : Sg}  : GC s0 l M_M_taped m [] σ (fun r σ' => r = some (.int ((σ 2 0 + nI 7) / nI 8)) ∧ σ' = σ) := by
  refine g_in (by decide) rfl rfl (Nat.le_of_ble_eq_true rfl) (fun hB => ?_)
  refine g_aload_n d_M_taped_0 rfl rfl ?_
  refine g_get d_M_taped_1 fM_255 rfl ?_
  refine g_bipush (v := nI 7) d_M_taped_4 (by decide) ?_
  refine g_iadd d_M_taped_6 ?_
  refine g_bipush (v := nI 8) d_M_taped_7 (by decide) ?_
  refine g_idiv d_M_taped_9 (by decide) ?_
  refine g_iret d_M_taped_10 rfl rfl ?_
  exact ⟨rfl, rfl⟩

theorem m_thrown {s0 : State} {l : Launch} {m : Nat} {σ : Sg}  : GC s0 l M_M_thrown m [] σ (fun r σ' => r = some (.int (σ 0 0)) ∧ σ' = σ) := by
  refine g_in (by decide) rfl rfl (Nat.le_of_ble_eq_true rfl) (fun hB => ?_)
  refine g_aload_n d_M_thrown_0 rfl rfl ?_
  refine g_get d_M_thrown_1 fM_1 rfl ?_
  refine g_iret d_M_thrown_4 rfl rfl ?_
  exact ⟨rfl, rfl⟩

theorem m_wrong {s0 : State} {l : Launch} {m : Nat} {σ : Sg}  : GC s0 l M_M_wrong m [] σ (fun r σ' => r = some (.int (σ 6 0)) ∧ σ' = su σ 0 0 (nI 0)) := by
  refine g_in (by decide) rfl rfl (Nat.le_of_ble_eq_true rfl) (fun hB => ?_)
  refine g_aload_n d_M_wrong_0 rfl rfl ?_
  refine g_iconst (v := nI 0) d_M_wrong_1 (by decide) ?_
  refine g_put d_M_wrong_2 fM_1 rfl rfl rfl rfl ?_
  refine g_aload_n d_M_wrong_5 rfl rfl ?_
  refine g_get d_M_wrong_6 fM_7 rfl ?_
  refine g_iret d_M_wrong_9 rfl rfl ?_
  exact ⟨rfl, rfl⟩

def fNP (σ : Sg) (k : Int32) : Int32 := if k < 0 then nI 1 else if σ 22 0 ≤ k then nI 1 else if k < nI 20 then nI 0 else nI 1
def fNL (σ : Sg) (k p : Int32) : Int32 := if ¬ fNP σ k = 0 then nI 1 else if p < 0 then nI 1 else if p ≤ nI 2 then nI 0 else nI 1
theorem m_noPicture {s0 : State} {l : Launch} {m : Nat} {σ : Sg} {k : Int32} : GC s0 l M_M_noPicture m [.int k] σ (fun r σ' => r = some (.int (fNP σ k)) ∧ σ' = σ) := by
  refine g_in (by decide) rfl rfl (Nat.le_of_ble_eq_true rfl) (fun hB => ?_)
  refine g_iload_n d_M_noPicture_0 rfl rfl ?_
  refine g_if_lt (tgt := 18) d_M_noPicture_1 (by decide) (fun c_1 => ?_) (fun c_1 => ?_)
  · skip
    refine g_iconst (v := nI 1) d_M_noPicture_18 (by decide) ?_
    refine g_goto (tgt := 23) d_M_noPicture_19 (by decide) ?_
    refine g_iret d_M_noPicture_23 rfl rfl ?_
    refine ⟨?_, rfl⟩
    unfold fNP
    first | rw [if_pos c_1] | rw [if_neg c_1, if_pos c_9] | rw [if_neg c_1, if_neg c_9, if_pos c_15] | rw [if_neg c_1, if_neg c_9, if_neg c_15]
  · skip
    refine g_iload_n d_M_noPicture_4 rfl rfl ?_
    refine g_aload_n d_M_noPicture_5 rfl rfl ?_
    refine g_get d_M_noPicture_6 fM_41 rfl ?_
    refine g_icmp_ge (tgt := 18) d_M_noPicture_9 (by decide) (fun c_9 => ?_) (fun c_9 => ?_)
    · skip
      refine g_iconst (v := nI 1) d_M_noPicture_18 (by decide) ?_
      refine g_goto (tgt := 23) d_M_noPicture_19 (by decide) ?_
      refine g_iret d_M_noPicture_23 rfl rfl ?_
      refine ⟨?_, rfl⟩
      unfold fNP
      first | rw [if_pos c_1] | rw [if_neg c_1, if_pos c_9] | rw [if_neg c_1, if_neg c_9, if_pos c_15] | rw [if_neg c_1, if_neg c_9, if_neg c_15]
    · skip
      refine g_iload_n d_M_noPicture_12 rfl rfl ?_
      refine g_bipush (v := nI 20) d_M_noPicture_13 (by decide) ?_
      refine g_icmp_lt (tgt := 22) d_M_noPicture_15 (by decide) (fun c_15 => ?_) (fun c_15 => ?_)
      · skip
        refine g_iconst (v := nI 0) d_M_noPicture_22 (by decide) ?_
        refine g_iret d_M_noPicture_23 rfl rfl ?_
        refine ⟨?_, rfl⟩
        unfold fNP
        first | rw [if_pos c_1] | rw [if_neg c_1, if_pos c_9] | rw [if_neg c_1, if_neg c_9, if_pos c_15] | rw [if_neg c_1, if_neg c_9, if_neg c_15]
      · skip
        refine g_iconst (v := nI 1) d_M_noPicture_18 (by decide) ?_
        refine g_goto (tgt := 23) d_M_noPicture_19 (by decide) ?_
        refine g_iret d_M_noPicture_23 rfl rfl ?_
        refine ⟨?_, rfl⟩
        unfold fNP
        first | rw [if_pos c_1] | rw [if_neg c_1, if_pos c_9] | rw [if_neg c_1, if_neg c_9, if_pos c_15] | rw [if_neg c_1, if_neg c_9, if_neg c_15]

theorem m_noPlane {s0 : State} {l : Launch} {m : Nat} {σ : Sg} {k p : Int32} : GC s0 l M_M_noPlane m [.int k, .int p] σ (fun r σ' => r = some (.int (fNL σ k p)) ∧ σ' = σ) := by
  refine g_in (by decide) rfl rfl (Nat.le_of_ble_eq_true rfl) (fun hB => ?_)
  refine g_aload_n d_M_noPlane_0 rfl rfl ?_
  refine g_iload_n d_M_noPlane_1 rfl rfl ?_
  refine g_calli (As := [_]) d_M_noPlane_2 lM_264 mv_M_noPicture rfl rfl rfl (Nat.le_of_ble_eq_true rfl) (by decide) (m_noPicture) ?_
  refine g_if_ne (tgt := 17) d_M_noPlane_5 (by decide) (fun c_5 => ?_) (fun c_5 => ?_)
  · skip
    refine g_iconst (v := nI 1) d_M_noPlane_17 (by decide) ?_
    refine g_goto (tgt := 22) d_M_noPlane_18 (by decide) ?_
    refine g_iret d_M_noPlane_22 rfl rfl ?_
    refine ⟨?_, rfl⟩
    unfold fNL
    first | rw [if_pos c_5] | rw [if_neg (fun h9 => h9 c_5), if_pos c_9] | rw [if_neg (fun h9 => h9 c_5), if_neg c_9, if_pos c_14] | rw [if_neg (fun h9 => h9 c_5), if_neg c_9, if_neg c_14]
  · skip
    refine g_iload_n d_M_noPlane_8 rfl rfl ?_
    refine g_if_lt (tgt := 17) d_M_noPlane_9 (by decide) (fun c_9 => ?_) (fun c_9 => ?_)
    · skip
      refine g_iconst (v := nI 1) d_M_noPlane_17 (by decide) ?_
      refine g_goto (tgt := 22) d_M_noPlane_18 (by decide) ?_
      refine g_iret d_M_noPlane_22 rfl rfl ?_
      refine ⟨?_, rfl⟩
      unfold fNL
      first | rw [if_pos c_5] | rw [if_neg (fun h9 => h9 c_5), if_pos c_9] | rw [if_neg (fun h9 => h9 c_5), if_neg c_9, if_pos c_14] | rw [if_neg (fun h9 => h9 c_5), if_neg c_9, if_neg c_14]
    · skip
      refine g_iload_n d_M_noPlane_12 rfl rfl ?_
      refine g_iconst (v := nI 2) d_M_noPlane_13 (by decide) ?_
      refine g_icmp_le (tgt := 21) d_M_noPlane_14 (by decide) (fun c_14 => ?_) (fun c_14 => ?_)
      · skip
        refine g_iconst (v := nI 0) d_M_noPlane_21 (by decide) ?_
        refine g_iret d_M_noPlane_22 rfl rfl ?_
        refine ⟨?_, rfl⟩
        unfold fNL
        first | rw [if_pos c_5] | rw [if_neg (fun h9 => h9 c_5), if_pos c_9] | rw [if_neg (fun h9 => h9 c_5), if_neg c_9, if_pos c_14] | rw [if_neg (fun h9 => h9 c_5), if_neg c_9, if_neg c_14]
      · skip
        refine g_iconst (v := nI 1) d_M_noPlane_17 (by decide) ?_
        refine g_goto (tgt := 22) d_M_noPlane_18 (by decide) ?_
        refine g_iret d_M_noPlane_22 rfl rfl ?_
        refine ⟨?_, rfl⟩
        unfold fNL
        first | rw [if_pos c_5] | rw [if_neg (fun h9 => h9 c_5), if_pos c_9] | rw [if_neg (fun h9 => h9 c_5), if_neg c_9, if_pos c_14] | rw [if_neg (fun h9 => h9 c_5), if_neg c_9, if_neg c_14]

theorem m_M_held {s0 : State} {l : Launch} {h : Mem} {v lo hi : Int32} : CQ s0 l M_M_held [.int v, .int lo, .int hi] h (fun o h1 => o = .inl (some (.int (hel v lo hi))) ∧ h1 = h) := by
  refine c_in (by decide) rfl rfl (Nat.le_of_ble_eq_true rfl) ?_
  refine q_iload_n d_M_held_0 rfl rfl ?_
  refine q_iload_n d_M_held_1 rfl rfl ?_
  refine q_icmp_ge (tgt := 9) d_M_held_2 (by decide) (fun c_2 => ?_) (fun c_2 => ?_)
  · skip
    refine q_iload_n d_M_held_9 rfl rfl ?_
    refine q_iload_n d_M_held_10 rfl rfl ?_
    refine q_icmp_le (tgt := 18) d_M_held_11 (by decide) (fun c_11 => ?_) (fun c_11 => ?_)
    · skip
      refine q_iload_n d_M_held_18 rfl rfl ?_
      refine q_iret d_M_held_19 rfl rfl ?_
      refine ⟨?_, rfl⟩
      unfold hel
      first | rw [if_neg c_2] | rw [if_pos c_2, if_pos c_11] | rw [if_pos c_2, if_neg c_11]
    · skip
      refine q_iload_n d_M_held_14 rfl rfl ?_
      refine q_goto (tgt := 19) d_M_held_15 (by decide) ?_
      refine q_iret d_M_held_19 rfl rfl ?_
      refine ⟨?_, rfl⟩
      unfold hel
      first | rw [if_neg c_2] | rw [if_pos c_2, if_pos c_11] | rw [if_pos c_2, if_neg c_11]
  · skip
    refine q_iload_n d_M_held_5 rfl rfl ?_
    refine q_goto (tgt := 19) d_M_held_6 (by decide) ?_
    refine q_iret d_M_held_19 rfl rfl ?_
    refine ⟨?_, rfl⟩
    unfold hel
    first | rw [if_neg c_2] | rw [if_pos c_2, if_pos c_11] | rw [if_pos c_2, if_neg c_11]
theorem m_X_held {s0 : State} {l : Launch} {h : Mem} {v lo hi : Int32} : CQ s0 l M_X_held [.int v, .int lo, .int hi] h (fun o h1 => o = .inl (some (.int (hel v lo hi))) ∧ h1 = h) := by
  refine c_in (by decide) rfl rfl (Nat.le_of_ble_eq_true rfl) ?_
  refine q_iload_n d_X_held_0 rfl rfl ?_
  refine q_iload_n d_X_held_1 rfl rfl ?_
  refine q_icmp_ge (tgt := 9) d_X_held_2 (by decide) (fun c_2 => ?_) (fun c_2 => ?_)
  · skip
    refine q_iload_n d_X_held_9 rfl rfl ?_
    refine q_iload_n d_X_held_10 rfl rfl ?_
    refine q_icmp_le (tgt := 18) d_X_held_11 (by decide) (fun c_11 => ?_) (fun c_11 => ?_)
    · skip
      refine q_iload_n d_X_held_18 rfl rfl ?_
      refine q_iret d_X_held_19 rfl rfl ?_
      refine ⟨?_, rfl⟩
      unfold hel
      first | rw [if_neg c_2] | rw [if_pos c_2, if_pos c_11] | rw [if_pos c_2, if_neg c_11]
    · skip
      refine q_iload_n d_X_held_14 rfl rfl ?_
      refine q_goto (tgt := 19) d_X_held_15 (by decide) ?_
      refine q_iret d_X_held_19 rfl rfl ?_
      refine ⟨?_, rfl⟩
      unfold hel
      first | rw [if_neg c_2] | rw [if_pos c_2, if_pos c_11] | rw [if_pos c_2, if_neg c_11]
  · skip
    refine q_iload_n d_X_held_5 rfl rfl ?_
    refine q_goto (tgt := 19) d_X_held_6 (by decide) ?_
    refine q_iret d_X_held_19 rfl rfl ?_
    refine ⟨?_, rfl⟩
    unfold hel
    first | rw [if_neg c_2] | rw [if_pos c_2, if_pos c_11] | rw [if_pos c_2, if_neg c_11]
def f_resetVectors : Nat → Sg → Sg
  | 0, σ => σ
  | n + 1, σ => f_resetVectors n (su σ 29 (4 - (n + 1)) (nI 0))
theorem m_resetVectors_l {s0 : State} {l : Launch} {hB : Mem} {m : Nat} : ∀ (n i : Nat) (σ : Sg), i + n = 4 → GQ s0 l M_M_resetVectors hB m 2 [some (.ref m), some (.int (nI i))] [] σ (fun r σ' => r = none ∧ σ' = f_resetVectors n σ) := by
  intro n
  induction n with
  | zero =>
    intro i σ hi
    refine g_iload_n d_M_resetVectors_2 rfl rfl ?_
    refine g_iconst (v := nI 4) d_M_resetVectors_3 (by decide) ?_
    refine g_icmp_ge (tgt := 20) d_M_resetVectors_4 (by decide) (fun c_4 => ?_) (fun c_4 => ?_)
    · skip
      refine g_vret d_M_resetVectors_20 rfl ?_
      exact ⟨rfl, rfl⟩
    · exact absurd (nI_le (show 4 ≤ i by omega) (by omega)) c_4
  | succ n ih =>
    intro i σ hi
    refine g_iload_n d_M_resetVectors_2 rfl rfl ?_
    refine g_iconst (v := nI 4) d_M_resetVectors_3 (by decide) ?_
    refine g_icmp_ge (tgt := 20) d_M_resetVectors_4 (by decide) (fun c_4 => ?_) (fun c_4 => ?_)
    · exact absurd c_4 (nI_ge (by omega) (by decide))
    · skip
      refine g_aload_n d_M_resetVectors_7 rfl rfl ?_
      refine g_getA d_M_resetVectors_8 fM_111 (by decide) ?_
      refine g_iload_n d_M_resetVectors_11 rfl rfl ?_
      refine g_iconst (v := nI 0) d_M_resetVectors_12 (by decide) ?_
      refine g_iastore (k := 29) d_M_resetVectors_13 rfl (by decide) (by decide) rfl (show vp_in (nI i) 4 from vp_in_nI (by omega) (by decide)) ?_
      refine g_iinc d_M_resetVectors_14 rfl ?_
      refine g_goto (tgt := 2) d_M_resetVectors_17 (by decide) ?_
      rw [nI_clamp (by omega)]
      have e1 : nI i + Int32.ofInt 1 = nI (i + 1) := nI_1 i
      have e2 : i = 4 - (n + 1) := by omega
      show GQ s0 l M_M_resetVectors hB m 2 [some (.ref m), some (.int (nI i + Int32.ofInt 1))] [] _ _
      rw [e1]
      unfold f_resetVectors
      rw [← e2]
      exact ih (i + 1) _ (by omega)
theorem m_resetVectors {s0 : State} {l : Launch} {m : Nat} {σ : Sg}  : GC s0 l M_M_resetVectors m [] σ (fun r σ' => r = none ∧ σ' = f_resetVectors 4 σ) := by
  refine g_in (by decide) rfl rfl (Nat.le_of_ble_eq_true rfl) (fun hB => ?_)
  refine g_iconst (v := nI 0) d_M_resetVectors_0 (by decide) ?_
  refine g_istore_n d_M_resetVectors_1 rfl (Nat.le_of_ble_eq_true rfl) ?_
  exact m_resetVectors_l 4 0 σ (by omega)

def f_resetDcs : Nat → Sg → Sg
  | 0, σ => σ
  | n + 1, σ => f_resetDcs n (su σ 33 (3 - (n + 1)) (nI 128))
theorem m_resetDcs_l {s0 : State} {l : Launch} {hB : Mem} {m : Nat} : ∀ (n i : Nat) (σ : Sg), i + n = 3 → GQ s0 l M_M_resetDcs hB m 2 [some (.ref m), some (.int (nI i))] [] σ (fun r σ' => r = none ∧ σ' = f_resetDcs n σ) := by
  intro n
  induction n with
  | zero =>
    intro i σ hi
    refine g_iload_n d_M_resetDcs_2 rfl rfl ?_
    refine g_iconst (v := nI 3) d_M_resetDcs_3 (by decide) ?_
    refine g_icmp_ge (tgt := 22) d_M_resetDcs_4 (by decide) (fun c_4 => ?_) (fun c_4 => ?_)
    · skip
      refine g_vret d_M_resetDcs_22 rfl ?_
      exact ⟨rfl, rfl⟩
    · exact absurd (nI_le (show 3 ≤ i by omega) (by omega)) c_4
  | succ n ih =>
    intro i σ hi
    refine g_iload_n d_M_resetDcs_2 rfl rfl ?_
    refine g_iconst (v := nI 3) d_M_resetDcs_3 (by decide) ?_
    refine g_icmp_ge (tgt := 22) d_M_resetDcs_4 (by decide) (fun c_4 => ?_) (fun c_4 => ?_)
    · exact absurd c_4 (nI_ge (by omega) (by decide))
    · skip
      refine g_aload_n d_M_resetDcs_7 rfl rfl ?_
      refine g_getA d_M_resetDcs_8 fM_114 (by decide) ?_
      refine g_iload_n d_M_resetDcs_11 rfl rfl ?_
      refine g_sipush (v := nI 128) d_M_resetDcs_12 (by decide) ?_
      refine g_iastore (k := 33) d_M_resetDcs_15 rfl (by decide) (by decide) rfl (show vp_in (nI i) 3 from vp_in_nI (by omega) (by decide)) ?_
      refine g_iinc d_M_resetDcs_16 rfl ?_
      refine g_goto (tgt := 2) d_M_resetDcs_19 (by decide) ?_
      rw [nI_clamp (by omega)]
      have e1 : nI i + Int32.ofInt 1 = nI (i + 1) := nI_1 i
      have e2 : i = 3 - (n + 1) := by omega
      show GQ s0 l M_M_resetDcs hB m 2 [some (.ref m), some (.int (nI i + Int32.ofInt 1))] [] _ _
      rw [e1]
      unfold f_resetDcs
      rw [← e2]
      exact ih (i + 1) _ (by omega)
theorem m_resetDcs {s0 : State} {l : Launch} {m : Nat} {σ : Sg}  : GC s0 l M_M_resetDcs m [] σ (fun r σ' => r = none ∧ σ' = f_resetDcs 3 σ) := by
  refine g_in (by decide) rfl rfl (Nat.le_of_ble_eq_true rfl) (fun hB => ?_)
  refine g_iconst (v := nI 0) d_M_resetDcs_0 (by decide) ?_
  refine g_istore_n d_M_resetDcs_1 rfl (Nat.le_of_ble_eq_true rfl) ?_
  exact m_resetDcs_l 3 0 σ (by omega)

theorem m_begins {s0 : State} {l : Launch} {m : Nat} {σ : Sg}  : GC s0 l M_M_begins m [] σ (fun r σ' => r = none ∧ σ' = f_resetVectors 4 (f_resetDcs 3 σ)) := by
  refine g_in (by decide) rfl rfl (Nat.le_of_ble_eq_true rfl) (fun hB => ?_)
  refine g_aload_n d_M_begins_0 rfl rfl ?_
  refine g_callv (As := []) d_M_begins_1 lM_187 mv_M_resetDcs rfl rfl rfl (Nat.le_of_ble_eq_true rfl) (by decide) (m_resetDcs) ?_
  refine g_aload_n d_M_begins_4 rfl rfl ?_
  refine g_callv (As := []) d_M_begins_5 lM_190 mv_M_resetVectors rfl rfl rfl (Nat.le_of_ble_eq_true rfl) (by decide) (m_resetVectors) ?_
  refine g_vret d_M_begins_8 rfl ?_
  exact ⟨rfl, rfl⟩

theorem m_forward {s0 : State} {l : Launch} {m : Nat} {σ : Sg}  : GC s0 l M_M_forward m [] σ (fun r σ' => r = some (.ref (m + aOff (fwK σ))) ∧ σ' = σ) := by
  refine g_in (by decide) rfl rfl (Nat.le_of_ble_eq_true rfl) (fun hB => ?_)
  refine g_aload_n d_M_forward_0 rfl rfl ?_
  refine g_get d_M_forward_1 fM_70 rfl ?_
  refine g_iconst (v := nI 2) d_M_forward_4 (by decide) ?_
  refine g_icmp_ne (tgt := 15) d_M_forward_5 (by decide) (fun c_5 => ?_) (fun c_5 => ?_)
  · skip
    refine g_aload_n d_M_forward_15 rfl rfl ?_
    refine g_getA d_M_forward_16 fM_76 (by decide) ?_
    refine g_aret d_M_forward_19 rfl (Or.inr ⟨_, rfl⟩) (Or.inr ⟨_, rfl⟩) ?_
    refine ⟨?_, rfl⟩
    unfold fwK
    first | rw [if_neg c_5] | rw [if_pos c_5]
  · skip
    refine g_aload_n d_M_forward_8 rfl rfl ?_
    refine g_getA d_M_forward_9 fM_73 (by decide) ?_
    refine g_goto (tgt := 19) d_M_forward_12 (by decide) ?_
    refine g_aret d_M_forward_19 rfl (Or.inr ⟨_, rfl⟩) (Or.inr ⟨_, rfl⟩) ?_
    refine ⟨?_, rfl⟩
    unfold fwK
    first | rw [if_neg c_5] | rw [if_pos c_5]

theorem m_dotOf {s0 : State} {l : Launch} {m : Nat} {σ : Sg} {A B P k : Nat} {x y : Int32} (hD : okD σ A B) (hP : P < 3) (hk : okK k) : GC s0 l M_M_dotOf m [.ref (m + aOff k), .int (nI P), .int x, .int y] σ (fun r σ' => r = some (.int (fDot σ k (nI P) x y)) ∧ σ' = σ) := by
  refine g_in (by decide) rfl rfl (Nat.le_of_ble_eq_true rfl) (fun hB => ?_)
  have hix : ∀ (j : Int32), j = dIx σ (nI P) x y → vp_in j (aLen k) := fun j hj => by
    obtain ⟨c1, c2, -, -, -, -, e, e2⟩ := dIx_n hD hP x y
    rw [hj, e, hk.2.2.2]
    exact vp_in_nI e2 (by decide)
  refine g_aload_n d_M_dotOf_0 rfl rfl ?_
  refine g_iload_n d_M_dotOf_1 rfl rfl ?_
  refine g_calli (As := [_]) d_M_dotOf_2 lM_51 mv_M_planeWidth rfl rfl rfl (Nat.le_of_ble_eq_true rfl) (by decide) (m_planeWidth) ?_
  refine g_istore d_M_dotOf_5 (Nat.le_of_ble_eq_true rfl) ?_
  refine g_aload_n d_M_dotOf_7 rfl rfl ?_
  refine g_iload_n d_M_dotOf_8 rfl rfl ?_
  refine g_calli (As := [_]) d_M_dotOf_9 lM_54 mv_M_planeHeight rfl rfl rfl (Nat.le_of_ble_eq_true rfl) (by decide) (m_planeHeight) ?_
  refine g_istore d_M_dotOf_12 (Nat.le_of_ble_eq_true rfl) ?_
  refine g_iload_n d_M_dotOf_14 rfl rfl ?_
  refine g_if_ge (tgt := 22) d_M_dotOf_15 (by decide) (fun c_15 => ?_) (fun c_15 => ?_)
  · skip
    refine g_iload_n d_M_dotOf_22 rfl rfl ?_
    refine g_iload d_M_dotOf_23 rfl ?_
    refine g_icmp_lt (tgt := 35) d_M_dotOf_25 (by decide) (fun c_25 => ?_) (fun c_25 => ?_)
    · skip
      refine g_iload_n d_M_dotOf_35 rfl rfl ?_
      refine g_istore d_M_dotOf_36 (Nat.le_of_ble_eq_true rfl) ?_
      refine g_iload d_M_dotOf_38 rfl ?_
      refine g_if_ge (tgt := 47) d_M_dotOf_40 (by decide) (fun c_40 => ?_) (fun c_40 => ?_)
      · skip
        refine g_iload d_M_dotOf_47 rfl ?_
        refine g_iload d_M_dotOf_49 rfl ?_
        refine g_icmp_lt (tgt := 61) d_M_dotOf_51 (by decide) (fun c_51 => ?_) (fun c_51 => ?_)
        · skip
          refine g_iload d_M_dotOf_61 rfl ?_
          refine g_istore d_M_dotOf_63 (Nat.le_of_ble_eq_true rfl) ?_
          refine g_aload_n d_M_dotOf_65 rfl rfl ?_
          refine g_aload_n d_M_dotOf_66 rfl rfl ?_
          refine g_iload_n d_M_dotOf_67 rfl rfl ?_
          refine g_calli (As := [_]) d_M_dotOf_68 lM_57 mv_M_planeAt rfl rfl rfl (Nat.le_of_ble_eq_true rfl) (by decide) (m_planeAt) ?_
          refine g_iload d_M_dotOf_71 rfl ?_
          refine g_iload d_M_dotOf_73 rfl ?_
          refine g_imul d_M_dotOf_75 ?_
          refine g_iadd d_M_dotOf_76 ?_
          refine g_iload d_M_dotOf_77 rfl ?_
          refine g_iadd d_M_dotOf_79 ?_
          refine g_iaload (k := k) d_M_dotOf_80 rfl hk.1 hk.2.1 hk.2.2.1 (hix _ (by unfold dIx cl; (try simp only [c_15, if_true, if_false]); (try simp only [c_25, if_true, if_false]); (try simp only [c_40, if_true, if_false]); (try simp only [c_51, if_true, if_false]))) ?_
          refine g_iret d_M_dotOf_81 rfl rfl ?_
          exact ⟨congrArg (fun j : Int32 => some (Value.int (σ k j.toNatClampNeg))) (by unfold dIx cl; (try simp only [c_15, if_true, if_false]); (try simp only [c_25, if_true, if_false]); (try simp only [c_40, if_true, if_false]); (try simp only [c_51, if_true, if_false])), rfl⟩
        · skip
          refine g_iload d_M_dotOf_54 rfl ?_
          refine g_iconst (v := nI 1) d_M_dotOf_56 (by decide) ?_
          refine g_isub d_M_dotOf_57 ?_
          refine g_goto (tgt := 63) d_M_dotOf_58 (by decide) ?_
          refine g_istore d_M_dotOf_63 (Nat.le_of_ble_eq_true rfl) ?_
          refine g_aload_n d_M_dotOf_65 rfl rfl ?_
          refine g_aload_n d_M_dotOf_66 rfl rfl ?_
          refine g_iload_n d_M_dotOf_67 rfl rfl ?_
          refine g_calli (As := [_]) d_M_dotOf_68 lM_57 mv_M_planeAt rfl rfl rfl (Nat.le_of_ble_eq_true rfl) (by decide) (m_planeAt) ?_
          refine g_iload d_M_dotOf_71 rfl ?_
          refine g_iload d_M_dotOf_73 rfl ?_
          refine g_imul d_M_dotOf_75 ?_
          refine g_iadd d_M_dotOf_76 ?_
          refine g_iload d_M_dotOf_77 rfl ?_
          refine g_iadd d_M_dotOf_79 ?_
          refine g_iaload (k := k) d_M_dotOf_80 rfl hk.1 hk.2.1 hk.2.2.1 (hix _ (by unfold dIx cl; (try simp only [c_15, if_true, if_false]); (try simp only [c_25, if_true, if_false]); (try simp only [c_40, if_true, if_false]); (try simp only [c_51, if_true, if_false]))) ?_
          refine g_iret d_M_dotOf_81 rfl rfl ?_
          exact ⟨congrArg (fun j : Int32 => some (Value.int (σ k j.toNatClampNeg))) (by unfold dIx cl; (try simp only [c_15, if_true, if_false]); (try simp only [c_25, if_true, if_false]); (try simp only [c_40, if_true, if_false]); (try simp only [c_51, if_true, if_false])), rfl⟩
      · skip
        refine g_iconst (v := nI 0) d_M_dotOf_43 (by decide) ?_
        refine g_goto (tgt := 63) d_M_dotOf_44 (by decide) ?_
        refine g_istore d_M_dotOf_63 (Nat.le_of_ble_eq_true rfl) ?_
        refine g_aload_n d_M_dotOf_65 rfl rfl ?_
        refine g_aload_n d_M_dotOf_66 rfl rfl ?_
        refine g_iload_n d_M_dotOf_67 rfl rfl ?_
        refine g_calli (As := [_]) d_M_dotOf_68 lM_57 mv_M_planeAt rfl rfl rfl (Nat.le_of_ble_eq_true rfl) (by decide) (m_planeAt) ?_
        refine g_iload d_M_dotOf_71 rfl ?_
        refine g_iload d_M_dotOf_73 rfl ?_
        refine g_imul d_M_dotOf_75 ?_
        refine g_iadd d_M_dotOf_76 ?_
        refine g_iload d_M_dotOf_77 rfl ?_
        refine g_iadd d_M_dotOf_79 ?_
        refine g_iaload (k := k) d_M_dotOf_80 rfl hk.1 hk.2.1 hk.2.2.1 (hix _ (by unfold dIx cl; (try simp only [c_15, if_true, if_false]); (try simp only [c_25, if_true, if_false]); (try simp only [c_40, if_true, if_false]); (try simp only [c_51, if_true, if_false]))) ?_
        refine g_iret d_M_dotOf_81 rfl rfl ?_
        exact ⟨congrArg (fun j : Int32 => some (Value.int (σ k j.toNatClampNeg))) (by unfold dIx cl; (try simp only [c_15, if_true, if_false]); (try simp only [c_25, if_true, if_false]); (try simp only [c_40, if_true, if_false]); (try simp only [c_51, if_true, if_false])), rfl⟩
    · skip
      refine g_iload d_M_dotOf_28 rfl ?_
      refine g_iconst (v := nI 1) d_M_dotOf_30 (by decide) ?_
      refine g_isub d_M_dotOf_31 ?_
      refine g_goto (tgt := 36) d_M_dotOf_32 (by decide) ?_
      refine g_istore d_M_dotOf_36 (Nat.le_of_ble_eq_true rfl) ?_
      refine g_iload d_M_dotOf_38 rfl ?_
      refine g_if_ge (tgt := 47) d_M_dotOf_40 (by decide) (fun c_40 => ?_) (fun c_40 => ?_)
      · skip
        refine g_iload d_M_dotOf_47 rfl ?_
        refine g_iload d_M_dotOf_49 rfl ?_
        refine g_icmp_lt (tgt := 61) d_M_dotOf_51 (by decide) (fun c_51 => ?_) (fun c_51 => ?_)
        · skip
          refine g_iload d_M_dotOf_61 rfl ?_
          refine g_istore d_M_dotOf_63 (Nat.le_of_ble_eq_true rfl) ?_
          refine g_aload_n d_M_dotOf_65 rfl rfl ?_
          refine g_aload_n d_M_dotOf_66 rfl rfl ?_
          refine g_iload_n d_M_dotOf_67 rfl rfl ?_
          refine g_calli (As := [_]) d_M_dotOf_68 lM_57 mv_M_planeAt rfl rfl rfl (Nat.le_of_ble_eq_true rfl) (by decide) (m_planeAt) ?_
          refine g_iload d_M_dotOf_71 rfl ?_
          refine g_iload d_M_dotOf_73 rfl ?_
          refine g_imul d_M_dotOf_75 ?_
          refine g_iadd d_M_dotOf_76 ?_
          refine g_iload d_M_dotOf_77 rfl ?_
          refine g_iadd d_M_dotOf_79 ?_
          refine g_iaload (k := k) d_M_dotOf_80 rfl hk.1 hk.2.1 hk.2.2.1 (hix _ (by unfold dIx cl; (try simp only [c_15, if_true, if_false]); (try simp only [c_25, if_true, if_false]); (try simp only [c_40, if_true, if_false]); (try simp only [c_51, if_true, if_false]))) ?_
          refine g_iret d_M_dotOf_81 rfl rfl ?_
          exact ⟨congrArg (fun j : Int32 => some (Value.int (σ k j.toNatClampNeg))) (by unfold dIx cl; (try simp only [c_15, if_true, if_false]); (try simp only [c_25, if_true, if_false]); (try simp only [c_40, if_true, if_false]); (try simp only [c_51, if_true, if_false])), rfl⟩
        · skip
          refine g_iload d_M_dotOf_54 rfl ?_
          refine g_iconst (v := nI 1) d_M_dotOf_56 (by decide) ?_
          refine g_isub d_M_dotOf_57 ?_
          refine g_goto (tgt := 63) d_M_dotOf_58 (by decide) ?_
          refine g_istore d_M_dotOf_63 (Nat.le_of_ble_eq_true rfl) ?_
          refine g_aload_n d_M_dotOf_65 rfl rfl ?_
          refine g_aload_n d_M_dotOf_66 rfl rfl ?_
          refine g_iload_n d_M_dotOf_67 rfl rfl ?_
          refine g_calli (As := [_]) d_M_dotOf_68 lM_57 mv_M_planeAt rfl rfl rfl (Nat.le_of_ble_eq_true rfl) (by decide) (m_planeAt) ?_
          refine g_iload d_M_dotOf_71 rfl ?_
          refine g_iload d_M_dotOf_73 rfl ?_
          refine g_imul d_M_dotOf_75 ?_
          refine g_iadd d_M_dotOf_76 ?_
          refine g_iload d_M_dotOf_77 rfl ?_
          refine g_iadd d_M_dotOf_79 ?_
          refine g_iaload (k := k) d_M_dotOf_80 rfl hk.1 hk.2.1 hk.2.2.1 (hix _ (by unfold dIx cl; (try simp only [c_15, if_true, if_false]); (try simp only [c_25, if_true, if_false]); (try simp only [c_40, if_true, if_false]); (try simp only [c_51, if_true, if_false]))) ?_
          refine g_iret d_M_dotOf_81 rfl rfl ?_
          exact ⟨congrArg (fun j : Int32 => some (Value.int (σ k j.toNatClampNeg))) (by unfold dIx cl; (try simp only [c_15, if_true, if_false]); (try simp only [c_25, if_true, if_false]); (try simp only [c_40, if_true, if_false]); (try simp only [c_51, if_true, if_false])), rfl⟩
      · skip
        refine g_iconst (v := nI 0) d_M_dotOf_43 (by decide) ?_
        refine g_goto (tgt := 63) d_M_dotOf_44 (by decide) ?_
        refine g_istore d_M_dotOf_63 (Nat.le_of_ble_eq_true rfl) ?_
        refine g_aload_n d_M_dotOf_65 rfl rfl ?_
        refine g_aload_n d_M_dotOf_66 rfl rfl ?_
        refine g_iload_n d_M_dotOf_67 rfl rfl ?_
        refine g_calli (As := [_]) d_M_dotOf_68 lM_57 mv_M_planeAt rfl rfl rfl (Nat.le_of_ble_eq_true rfl) (by decide) (m_planeAt) ?_
        refine g_iload d_M_dotOf_71 rfl ?_
        refine g_iload d_M_dotOf_73 rfl ?_
        refine g_imul d_M_dotOf_75 ?_
        refine g_iadd d_M_dotOf_76 ?_
        refine g_iload d_M_dotOf_77 rfl ?_
        refine g_iadd d_M_dotOf_79 ?_
        refine g_iaload (k := k) d_M_dotOf_80 rfl hk.1 hk.2.1 hk.2.2.1 (hix _ (by unfold dIx cl; (try simp only [c_15, if_true, if_false]); (try simp only [c_25, if_true, if_false]); (try simp only [c_40, if_true, if_false]); (try simp only [c_51, if_true, if_false]))) ?_
        refine g_iret d_M_dotOf_81 rfl rfl ?_
        exact ⟨congrArg (fun j : Int32 => some (Value.int (σ k j.toNatClampNeg))) (by unfold dIx cl; (try simp only [c_15, if_true, if_false]); (try simp only [c_25, if_true, if_false]); (try simp only [c_40, if_true, if_false]); (try simp only [c_51, if_true, if_false])), rfl⟩
  · skip
    refine g_iconst (v := nI 0) d_M_dotOf_18 (by decide) ?_
    refine g_goto (tgt := 36) d_M_dotOf_19 (by decide) ?_
    refine g_istore d_M_dotOf_36 (Nat.le_of_ble_eq_true rfl) ?_
    refine g_iload d_M_dotOf_38 rfl ?_
    refine g_if_ge (tgt := 47) d_M_dotOf_40 (by decide) (fun c_40 => ?_) (fun c_40 => ?_)
    · skip
      refine g_iload d_M_dotOf_47 rfl ?_
      refine g_iload d_M_dotOf_49 rfl ?_
      refine g_icmp_lt (tgt := 61) d_M_dotOf_51 (by decide) (fun c_51 => ?_) (fun c_51 => ?_)
      · skip
        refine g_iload d_M_dotOf_61 rfl ?_
        refine g_istore d_M_dotOf_63 (Nat.le_of_ble_eq_true rfl) ?_
        refine g_aload_n d_M_dotOf_65 rfl rfl ?_
        refine g_aload_n d_M_dotOf_66 rfl rfl ?_
        refine g_iload_n d_M_dotOf_67 rfl rfl ?_
        refine g_calli (As := [_]) d_M_dotOf_68 lM_57 mv_M_planeAt rfl rfl rfl (Nat.le_of_ble_eq_true rfl) (by decide) (m_planeAt) ?_
        refine g_iload d_M_dotOf_71 rfl ?_
        refine g_iload d_M_dotOf_73 rfl ?_
        refine g_imul d_M_dotOf_75 ?_
        refine g_iadd d_M_dotOf_76 ?_
        refine g_iload d_M_dotOf_77 rfl ?_
        refine g_iadd d_M_dotOf_79 ?_
        refine g_iaload (k := k) d_M_dotOf_80 rfl hk.1 hk.2.1 hk.2.2.1 (hix _ (by unfold dIx cl; (try simp only [c_15, if_true, if_false]); (try simp only [c_25, if_true, if_false]); (try simp only [c_40, if_true, if_false]); (try simp only [c_51, if_true, if_false]))) ?_
        refine g_iret d_M_dotOf_81 rfl rfl ?_
        exact ⟨congrArg (fun j : Int32 => some (Value.int (σ k j.toNatClampNeg))) (by unfold dIx cl; (try simp only [c_15, if_true, if_false]); (try simp only [c_25, if_true, if_false]); (try simp only [c_40, if_true, if_false]); (try simp only [c_51, if_true, if_false])), rfl⟩
      · skip
        refine g_iload d_M_dotOf_54 rfl ?_
        refine g_iconst (v := nI 1) d_M_dotOf_56 (by decide) ?_
        refine g_isub d_M_dotOf_57 ?_
        refine g_goto (tgt := 63) d_M_dotOf_58 (by decide) ?_
        refine g_istore d_M_dotOf_63 (Nat.le_of_ble_eq_true rfl) ?_
        refine g_aload_n d_M_dotOf_65 rfl rfl ?_
        refine g_aload_n d_M_dotOf_66 rfl rfl ?_
        refine g_iload_n d_M_dotOf_67 rfl rfl ?_
        refine g_calli (As := [_]) d_M_dotOf_68 lM_57 mv_M_planeAt rfl rfl rfl (Nat.le_of_ble_eq_true rfl) (by decide) (m_planeAt) ?_
        refine g_iload d_M_dotOf_71 rfl ?_
        refine g_iload d_M_dotOf_73 rfl ?_
        refine g_imul d_M_dotOf_75 ?_
        refine g_iadd d_M_dotOf_76 ?_
        refine g_iload d_M_dotOf_77 rfl ?_
        refine g_iadd d_M_dotOf_79 ?_
        refine g_iaload (k := k) d_M_dotOf_80 rfl hk.1 hk.2.1 hk.2.2.1 (hix _ (by unfold dIx cl; (try simp only [c_15, if_true, if_false]); (try simp only [c_25, if_true, if_false]); (try simp only [c_40, if_true, if_false]); (try simp only [c_51, if_true, if_false]))) ?_
        refine g_iret d_M_dotOf_81 rfl rfl ?_
        exact ⟨congrArg (fun j : Int32 => some (Value.int (σ k j.toNatClampNeg))) (by unfold dIx cl; (try simp only [c_15, if_true, if_false]); (try simp only [c_25, if_true, if_false]); (try simp only [c_40, if_true, if_false]); (try simp only [c_51, if_true, if_false])), rfl⟩
    · skip
      refine g_iconst (v := nI 0) d_M_dotOf_43 (by decide) ?_
      refine g_goto (tgt := 63) d_M_dotOf_44 (by decide) ?_
      refine g_istore d_M_dotOf_63 (Nat.le_of_ble_eq_true rfl) ?_
      refine g_aload_n d_M_dotOf_65 rfl rfl ?_
      refine g_aload_n d_M_dotOf_66 rfl rfl ?_
      refine g_iload_n d_M_dotOf_67 rfl rfl ?_
      refine g_calli (As := [_]) d_M_dotOf_68 lM_57 mv_M_planeAt rfl rfl rfl (Nat.le_of_ble_eq_true rfl) (by decide) (m_planeAt) ?_
      refine g_iload d_M_dotOf_71 rfl ?_
      refine g_iload d_M_dotOf_73 rfl ?_
      refine g_imul d_M_dotOf_75 ?_
      refine g_iadd d_M_dotOf_76 ?_
      refine g_iload d_M_dotOf_77 rfl ?_
      refine g_iadd d_M_dotOf_79 ?_
      refine g_iaload (k := k) d_M_dotOf_80 rfl hk.1 hk.2.1 hk.2.2.1 (hix _ (by unfold dIx cl; (try simp only [c_15, if_true, if_false]); (try simp only [c_25, if_true, if_false]); (try simp only [c_40, if_true, if_false]); (try simp only [c_51, if_true, if_false]))) ?_
      refine g_iret d_M_dotOf_81 rfl rfl ?_
      exact ⟨congrArg (fun j : Int32 => some (Value.int (σ k j.toNatClampNeg))) (by unfold dIx cl; (try simp only [c_15, if_true, if_false]); (try simp only [c_25, if_true, if_false]); (try simp only [c_40, if_true, if_false]); (try simp only [c_51, if_true, if_false])), rfl⟩
end
section
/-! ===== loops; whole arrays ===== -/
def sa (σ : Sg) (k : Nat) (f : Nat → Int32) : Sg := fun a b => if a = k then f b else σ a b
theorem sa_at (σ : Sg) (k : Nat) (f : Nat → Int32) (j : Nat) : sa σ k f k j = f j := by simp [sa]
theorem sa_k {σ : Sg} {k a b : Nat} {f : Nat → Int32} (h : a ≠ k) : sa σ k f a b = σ a b := by simp [sa, h]
theorem su_sa {σ : Sg} {k j : Nat} {f g : Nat → Int32} {v : Int32} (h : ∀ i, g i = if i = j then v else f i) : su (sa σ k f) k j v = sa σ k g := by
  funext a b
  unfold su sa
  by_cases e : a = k
  · by_cases e2 : b = j
    · simp [e, e2, h]
    · simp [e, e2, h]
  · simp [e]
theorem sa_self {σ : Sg} {k : Nat} {f : Nat → Int32} (h : ∀ j, f j = σ k j) : sa σ k f = σ := by
  funext a b
  unfold sa
  split
  · rename_i e; rw [e, h]
  · rfl
theorem sa_ext {σ : Sg} {k : Nat} {f g : Nat → Int32} (h : ∀ j, f j = g j) : sa σ k f = sa σ k g := by rw [funext h]
section Loop
variable {s0 : State} {l : Launch} {M M' : MI} {hB : Mem} {m pc : Nat} {L : List (Option Value)} {st : List Value} {σ : Sg} {P : Option Value → Sg → Prop}
theorem RQ.forget {h : Mem} {Q : Out → Mem → Prop} (i : Nat) (k : RQ s0 l M hB pc (L.set i none) st h Q) : RQ s0 l M hB pc L st h Q := by
  obtain ⟨o, hE, ⟨k1, k2⟩, q⟩ := k
  refine ⟨o, hE, ⟨k1, fun p e s m args below meth c E H locs ls S => k2 p e s m args below meth c E H locs ls ?_⟩, q⟩
  obtain ⟨a1, a2, a3, a4, a5⟩ := S
  refine ⟨a1, a2, ?_, a4, a5⟩
  obtain ⟨b1, b2, b3, b4⟩ := a3
  refine ⟨b1, b2, by rw [List.length_set]; exact b3, fun j w hj => ?_⟩
  rw [List.getElem?_set] at hj
  by_cases e : i = j
  · rw [if_pos e] at hj
    split at hj <;> cases hj
  · rw [if_neg e] at hj
    exact b4 j w hj
theorem g_forget (i : Nat) (k : GQ s0 l M hB m pc (L.set i none) st σ P) : GQ s0 l M hB m pc L st σ P := fun h hM => RQ.forget i (k h hM)
theorem g_loop (N : Nat) (S : Nat → Sg) (Lf : Nat → List (Option Value)) (hstep : ∀ i, i < N → GQ s0 l M hB m pc (Lf (i + 1)) [] (S (i + 1)) P → GQ s0 l M hB m pc (Lf i) [] (S i) P) (hend : GQ s0 l M hB m pc (Lf N) [] (S N) P) : ∀ i, i ≤ N → GQ s0 l M hB m pc (Lf i) [] (S i) P := by
  intro i hi
  obtain ⟨n, rfl⟩ := Nat.exists_eq_add_of_le hi
  clear hi
  induction n generalizing i with
  | zero => exact hend
  | succ n ih =>
    refine hstep i (by omega) ?_
    have e : i + (n + 1) = i + 1 + n := by omega
    rw [e] at hstep hend
    exact ih (i + 1) hstep hend
theorem g_iinc1 {i x : Nat} (hd : decode (iC M) pc = .ok (.iinc i 1, 3)) (hl : L[i]? = some (some (.int (nI x)))) (k : GQ s0 l M hB m (pc + 3) (L.set i (some (.int (nI (x + 1))))) st σ P) : GQ s0 l M hB m pc L st σ P := by
  refine g_iinc hd hl ?_
  have e : nI x + Int32.ofInt 1 = nI (x + 1) := nI_1 x
  rw [e]
  exact k
theorem g_getE {idx k : Nat} {x : Int32} (hd : decode (iC M) pc = .ok (.getfield idx, 3)) (hf : FL (iY M).cls idx 7 k) (hs : aOff k = 0) (hx : σ k 0 = x) (kk : GQ s0 l M hB m (pc + 3) L (.int x :: st) σ P) : GQ s0 l M hB m pc L (.ref m :: st) σ P := g_get hd hf hs (by rw [hx]; exact kk)
theorem g_iaddN {a b : Nat} (hd : decode (iC M) pc = .ok (.iadd, 1)) (k : GQ s0 l M hB m (pc + 1) L (.int (nI (a + b)) :: st) σ P) : GQ s0 l M hB m pc L (.int (nI b) :: .int (nI a) :: st) σ P := g_iadd hd (by rw [nI_add]; exact k)
theorem g_imulN {a b : Nat} (hd : decode (iC M) pc = .ok (.imul, 1)) (k : GQ s0 l M hB m (pc + 1) L (.int (nI (a * b)) :: st) σ P) : GQ s0 l M hB m pc L (.int (nI b) :: .int (nI a) :: st) σ P := g_imul hd (by rw [pk_mul]; exact k)
theorem g_isubN {a b : Nat} (hd : decode (iC M) pc = .ok (.isub, 1)) (h : b ≤ a) (k : GQ s0 l M hB m (pc + 1) L (.int (nI (a - b)) :: st) σ P) : GQ s0 l M hB m pc L (.int (nI b) :: .int (nI a) :: st) σ P := g_isub hd (by rw [pk_sub h]; exact k)
theorem g_idivN {a b : Nat} (hd : decode (iC M) pc = .ok (.idiv, 1)) (h : a < 2 ^ 31 ∧ 0 < b ∧ b < 2 ^ 31) (k : GQ s0 l M hB m (pc + 1) L (.int (nI (a / b)) :: st) σ P) : GQ s0 l M hB m pc L (.int (nI b) :: .int (nI a) :: st) σ P := g_idiv hd (nI_ne0 h.2.1 h.2.2) (by rw [pk_div h.1 h.2.1 h.2.2]; exact k)
theorem g_iremN {a b : Nat} (hd : decode (iC M) pc = .ok (.irem, 1)) (h : a < 2 ^ 31 ∧ 0 < b ∧ b < 2 ^ 31) (k : GQ s0 l M hB m (pc + 1) L (.int (nI (a % b)) :: st) σ P) : GQ s0 l M hB m pc L (.int (nI b) :: .int (nI a) :: st) σ P := g_irem hd (nI_ne0 h.2.1 h.2.2) (by rw [pk_rem h.1 h.2.1 h.2.2]; exact k)
end Loop
def eqOn (S : List Nat) (σ σ' : Sg) : Prop := ∀ k, k ∈ S → ∀ j, σ' k j = σ k j
theorem eqOn.trans {S : List Nat} {a b c : Sg} (h : eqOn S a b) (h' : eqOn S b c) : eqOn S a c := fun k hk j => (h' k hk j).trans (h k hk j)
theorem eqOn.mono {S T : List Nat} {a b : Sg} (h : eqOn S a b) (hs : ∀ k, k ∈ T → k ∈ S) : eqOn T a b := fun k hk j => h k (hs k hk) j
theorem eqOn.su {S : List Nat} {σ : Sg} {k j : Nat} {v : Int32} (h : k ∉ S) : eqOn S σ (su σ k j v) := fun k' hk' j' => su_k (fun e => h (e ▸ hk'))
theorem eqOn.sa {S : List Nat} {σ : Sg} {k : Nat} {f : Nat → Int32} (h : k ∉ S) : eqOn S σ (sa σ k f) := fun k' hk' j' => sa_k (fun e => h (e ▸ hk'))
theorem okD.eq {σ σ' : Sg} {A B : Nat} (h : okD σ A B) (e : eqOn [7, 8] σ σ') : okD σ' A B := ⟨(e 7 (by decide) 0).trans h.1, (e 8 (by decide) 0).trans h.2.1, h.2.2⟩
theorem fDot_eq {σ σ' : Sg} {k : Nat} (h : ∀ j, σ' k j = σ k j) (e : eqOn [7, 8] σ σ') (p x y : Int32) : fDot σ' k p x y = fDot σ k p x y := by
  unfold fDot dIx pA pW pH
  rw [h, e 7 (by decide), e 8 (by decide)]
theorem fMv_eq {σ σ' : Sg} {k : Nat} (h : ∀ j, σ' k j = σ k j) (e : eqOn [7, 8, 28] σ σ') (p x y : Int32) (w : Nat) : fMv σ' k p x y w = fMv σ k p x y w := by
  have e2 : eqOn [7, 8] σ σ' := e.mono (by simp)
  unfold fMv fBt
  simp only [fDot_eq h e2, e 28 (by decide)]
theorem fFD_eq {σ σ' : Sg} (e : eqOn [7, 8, 10, 11, 28, 30, 31, 34] σ σ') (p x y : Int32) : fFD σ' p x y = fFD σ p x y := by
  have e2 : eqOn [7, 8, 28] σ σ' := e.mono (by simp)
  have hk : fwK σ' = fwK σ := by unfold fwK; rw [e 34 (by decide)]
  have h9 : ∀ j, σ' (fwK σ) j = σ (fwK σ) j := by
    intro j
    unfold fwK
    split
    · exact e 10 (by decide) j
    · exact e 11 (by decide) j
  unfold fFD
  rw [hk, fMv_eq h9 e2, fMv_eq (fun j => e 10 (by decide) j) e2, e 30 (by decide), e 31 (by decide)]
theorem m_between {s0 : State} {l : Launch} {m : Nat} {σ : Sg} {A B P k : Nat} {x y : Int32} (hD : okD σ A B) (hP : P < 3) (hk : okK k) : GC s0 l M_M_between m [.ref (m + aOff k), .int (nI P), .int x, .int y] σ (fun r σ' => r = some (.int (fBt σ k (nI P) x y)) ∧ σ' = σ) := by
  refine g_in (by decide) rfl rfl (Nat.le_of_ble_eq_true rfl) (fun hB => ?_)
  refine g_iload_n d_M_between_0 rfl rfl ?_
  refine g_iconst (v := nI 1) d_M_between_1 (by decide) ?_
  refine g_ishr d_M_between_2 ?_
  refine g_istore d_M_between_3 (Nat.le_of_ble_eq_true rfl) ?_
  refine g_iload d_M_between_5 rfl ?_
  refine g_iconst (v := nI 1) d_M_between_7 (by decide) ?_
  refine g_ishr d_M_between_8 ?_
  refine g_istore d_M_between_9 (Nat.le_of_ble_eq_true rfl) ?_
  refine g_aload_n d_M_between_11 rfl rfl ?_
  refine g_aload_n d_M_between_12 rfl rfl ?_
  refine g_iload_n d_M_between_13 rfl rfl ?_
  refine g_iload d_M_between_14 rfl ?_
  refine g_iload d_M_between_16 rfl ?_
  refine g_calli (As := [_, _, _, _]) d_M_between_18 lM_60 mv_M_dotOf rfl rfl rfl (Nat.le_of_ble_eq_true rfl) (by decide) (m_dotOf hD hP hk) ?_
  refine g_istore d_M_between_21 (Nat.le_of_ble_eq_true rfl) ?_
  refine g_iload_n d_M_between_23 rfl rfl ?_
  refine g_iconst (v := nI 2) d_M_between_24 (by decide) ?_
  refine g_irem d_M_between_25 (by decide) ?_
  refine g_if_ne (tgt := 39) d_M_between_26 (by decide) (fun c_26 => ?_) (fun c_26 => ?_)
  · skip
    refine g_iload d_M_between_39 rfl ?_
    refine g_iconst (v := nI 2) d_M_between_41 (by decide) ?_
    refine g_irem d_M_between_42 (by decide) ?_
    refine g_if_ne (tgt := 66) d_M_between_43 (by decide) (fun c_43 => ?_) (fun c_43 => ?_)
    · skip
      refine g_iload_n d_M_between_66 rfl rfl ?_
      refine g_iconst (v := nI 2) d_M_between_67 (by decide) ?_
      refine g_irem d_M_between_68 (by decide) ?_
      refine g_if_ne (tgt := 92) d_M_between_69 (by decide) (fun c_69 => ?_) (fun c_69 => ?_)
      · skip
        refine g_iload d_M_between_92 rfl ?_
        refine g_aload_n d_M_between_94 rfl rfl ?_
        refine g_aload_n d_M_between_95 rfl rfl ?_
        refine g_iload_n d_M_between_96 rfl rfl ?_
        refine g_iload d_M_between_97 rfl ?_
        refine g_iconst (v := nI 1) d_M_between_99 (by decide) ?_
        refine g_iadd d_M_between_100 ?_
        refine g_iload d_M_between_101 rfl ?_
        refine g_calli (As := [_, _, _, _]) d_M_between_103 lM_60 mv_M_dotOf rfl rfl rfl (Nat.le_of_ble_eq_true rfl) (by decide) (m_dotOf hD hP hk) ?_
        refine g_iadd d_M_between_106 ?_
        refine g_aload_n d_M_between_107 rfl rfl ?_
        refine g_aload_n d_M_between_108 rfl rfl ?_
        refine g_iload_n d_M_between_109 rfl rfl ?_
        refine g_iload d_M_between_110 rfl ?_
        refine g_iload d_M_between_112 rfl ?_
        refine g_iconst (v := nI 1) d_M_between_114 (by decide) ?_
        refine g_iadd d_M_between_115 ?_
        refine g_calli (As := [_, _, _, _]) d_M_between_116 lM_60 mv_M_dotOf rfl rfl rfl (Nat.le_of_ble_eq_true rfl) (by decide) (m_dotOf hD hP hk) ?_
        refine g_iadd d_M_between_119 ?_
        refine g_aload_n d_M_between_120 rfl rfl ?_
        refine g_aload_n d_M_between_121 rfl rfl ?_
        refine g_iload_n d_M_between_122 rfl rfl ?_
        refine g_iload d_M_between_123 rfl ?_
        refine g_iconst (v := nI 1) d_M_between_125 (by decide) ?_
        refine g_iadd d_M_between_126 ?_
        refine g_iload d_M_between_127 rfl ?_
        refine g_iconst (v := nI 1) d_M_between_129 (by decide) ?_
        refine g_iadd d_M_between_130 ?_
        refine g_calli (As := [_, _, _, _]) d_M_between_131 lM_60 mv_M_dotOf rfl rfl rfl (Nat.le_of_ble_eq_true rfl) (by decide) (m_dotOf hD hP hk) ?_
        refine g_iadd d_M_between_134 ?_
        refine g_iconst (v := nI 2) d_M_between_135 (by decide) ?_
        refine g_iadd d_M_between_136 ?_
        refine g_iconst (v := nI 2) d_M_between_137 (by decide) ?_
        refine g_ishr d_M_between_138 ?_
        refine g_iret d_M_between_139 rfl rfl ?_
        refine ⟨?_, rfl⟩
        unfold fBt
        rw [if_neg (fun h9 : rm2 x = 0 ∧ rm2 y = 0 => c_43 h9.2), if_neg (show ¬ rm2 y = 0 from c_43), if_neg (show ¬ rm2 x = 0 from c_69)]
        rfl
      · skip
        refine g_iload d_M_between_72 rfl ?_
        refine g_aload_n d_M_between_74 rfl rfl ?_
        refine g_aload_n d_M_between_75 rfl rfl ?_
        refine g_iload_n d_M_between_76 rfl rfl ?_
        refine g_iload d_M_between_77 rfl ?_
        refine g_iload d_M_between_79 rfl ?_
        refine g_iconst (v := nI 1) d_M_between_81 (by decide) ?_
        refine g_iadd d_M_between_82 ?_
        refine g_calli (As := [_, _, _, _]) d_M_between_83 lM_60 mv_M_dotOf rfl rfl rfl (Nat.le_of_ble_eq_true rfl) (by decide) (m_dotOf hD hP hk) ?_
        refine g_iadd d_M_between_86 ?_
        refine g_iconst (v := nI 1) d_M_between_87 (by decide) ?_
        refine g_iadd d_M_between_88 ?_
        refine g_iconst (v := nI 1) d_M_between_89 (by decide) ?_
        refine g_ishr d_M_between_90 ?_
        refine g_iret d_M_between_91 rfl rfl ?_
        refine ⟨?_, rfl⟩
        unfold fBt
        rw [if_neg (fun h9 : rm2 x = 0 ∧ rm2 y = 0 => c_43 h9.2), if_neg (show ¬ rm2 y = 0 from c_43), if_pos (show rm2 x = 0 from c_69)]
        rfl
    · skip
      refine g_iload d_M_between_46 rfl ?_
      refine g_aload_n d_M_between_48 rfl rfl ?_
      refine g_aload_n d_M_between_49 rfl rfl ?_
      refine g_iload_n d_M_between_50 rfl rfl ?_
      refine g_iload d_M_between_51 rfl ?_
      refine g_iconst (v := nI 1) d_M_between_53 (by decide) ?_
      refine g_iadd d_M_between_54 ?_
      refine g_iload d_M_between_55 rfl ?_
      refine g_calli (As := [_, _, _, _]) d_M_between_57 lM_60 mv_M_dotOf rfl rfl rfl (Nat.le_of_ble_eq_true rfl) (by decide) (m_dotOf hD hP hk) ?_
      refine g_iadd d_M_between_60 ?_
      refine g_iconst (v := nI 1) d_M_between_61 (by decide) ?_
      refine g_iadd d_M_between_62 ?_
      refine g_iconst (v := nI 1) d_M_between_63 (by decide) ?_
      refine g_ishr d_M_between_64 ?_
      refine g_iret d_M_between_65 rfl rfl ?_
      refine ⟨?_, rfl⟩
      unfold fBt
      first
        | exact absurd c_43 c_33
        | (rw [if_neg (fun h9 : rm2 x = 0 ∧ rm2 y = 0 => c_26 h9.1), if_pos (show rm2 y = 0 from c_43)]; rfl)
  · skip
    refine g_iload d_M_between_29 rfl ?_
    refine g_iconst (v := nI 2) d_M_between_31 (by decide) ?_
    refine g_irem d_M_between_32 (by decide) ?_
    refine g_if_ne (tgt := 39) d_M_between_33 (by decide) (fun c_33 => ?_) (fun c_33 => ?_)
    · skip
      refine g_iload d_M_between_39 rfl ?_
      refine g_iconst (v := nI 2) d_M_between_41 (by decide) ?_
      refine g_irem d_M_between_42 (by decide) ?_
      refine g_if_ne (tgt := 66) d_M_between_43 (by decide) (fun c_43 => ?_) (fun c_43 => ?_)
      · skip
        refine g_iload_n d_M_between_66 rfl rfl ?_
        refine g_iconst (v := nI 2) d_M_between_67 (by decide) ?_
        refine g_irem d_M_between_68 (by decide) ?_
        refine g_if_ne (tgt := 92) d_M_between_69 (by decide) (fun c_69 => ?_) (fun c_69 => ?_)
        · skip
          refine g_iload d_M_between_92 rfl ?_
          refine g_aload_n d_M_between_94 rfl rfl ?_
          refine g_aload_n d_M_between_95 rfl rfl ?_
          refine g_iload_n d_M_between_96 rfl rfl ?_
          refine g_iload d_M_between_97 rfl ?_
          refine g_iconst (v := nI 1) d_M_between_99 (by decide) ?_
          refine g_iadd d_M_between_100 ?_
          refine g_iload d_M_between_101 rfl ?_
          refine g_calli (As := [_, _, _, _]) d_M_between_103 lM_60 mv_M_dotOf rfl rfl rfl (Nat.le_of_ble_eq_true rfl) (by decide) (m_dotOf hD hP hk) ?_
          refine g_iadd d_M_between_106 ?_
          refine g_aload_n d_M_between_107 rfl rfl ?_
          refine g_aload_n d_M_between_108 rfl rfl ?_
          refine g_iload_n d_M_between_109 rfl rfl ?_
          refine g_iload d_M_between_110 rfl ?_
          refine g_iload d_M_between_112 rfl ?_
          refine g_iconst (v := nI 1) d_M_between_114 (by decide) ?_
          refine g_iadd d_M_between_115 ?_
          refine g_calli (As := [_, _, _, _]) d_M_between_116 lM_60 mv_M_dotOf rfl rfl rfl (Nat.le_of_ble_eq_true rfl) (by decide) (m_dotOf hD hP hk) ?_
          refine g_iadd d_M_between_119 ?_
          refine g_aload_n d_M_between_120 rfl rfl ?_
          refine g_aload_n d_M_between_121 rfl rfl ?_
          refine g_iload_n d_M_between_122 rfl rfl ?_
          refine g_iload d_M_between_123 rfl ?_
          refine g_iconst (v := nI 1) d_M_between_125 (by decide) ?_
          refine g_iadd d_M_between_126 ?_
          refine g_iload d_M_between_127 rfl ?_
          refine g_iconst (v := nI 1) d_M_between_129 (by decide) ?_
          refine g_iadd d_M_between_130 ?_
          refine g_calli (As := [_, _, _, _]) d_M_between_131 lM_60 mv_M_dotOf rfl rfl rfl (Nat.le_of_ble_eq_true rfl) (by decide) (m_dotOf hD hP hk) ?_
          refine g_iadd d_M_between_134 ?_
          refine g_iconst (v := nI 2) d_M_between_135 (by decide) ?_
          refine g_iadd d_M_between_136 ?_
          refine g_iconst (v := nI 2) d_M_between_137 (by decide) ?_
          refine g_ishr d_M_between_138 ?_
          refine g_iret d_M_between_139 rfl rfl ?_
          refine ⟨?_, rfl⟩
          unfold fBt
          rw [if_neg (fun h9 : rm2 x = 0 ∧ rm2 y = 0 => c_43 h9.2), if_neg (show ¬ rm2 y = 0 from c_43), if_neg (show ¬ rm2 x = 0 from c_69)]
          rfl
        · skip
          refine g_iload d_M_between_72 rfl ?_
          refine g_aload_n d_M_between_74 rfl rfl ?_
          refine g_aload_n d_M_between_75 rfl rfl ?_
          refine g_iload_n d_M_between_76 rfl rfl ?_
          refine g_iload d_M_between_77 rfl ?_
          refine g_iload d_M_between_79 rfl ?_
          refine g_iconst (v := nI 1) d_M_between_81 (by decide) ?_
          refine g_iadd d_M_between_82 ?_
          refine g_calli (As := [_, _, _, _]) d_M_between_83 lM_60 mv_M_dotOf rfl rfl rfl (Nat.le_of_ble_eq_true rfl) (by decide) (m_dotOf hD hP hk) ?_
          refine g_iadd d_M_between_86 ?_
          refine g_iconst (v := nI 1) d_M_between_87 (by decide) ?_
          refine g_iadd d_M_between_88 ?_
          refine g_iconst (v := nI 1) d_M_between_89 (by decide) ?_
          refine g_ishr d_M_between_90 ?_
          refine g_iret d_M_between_91 rfl rfl ?_
          refine ⟨?_, rfl⟩
          unfold fBt
          rw [if_neg (fun h9 : rm2 x = 0 ∧ rm2 y = 0 => c_43 h9.2), if_neg (show ¬ rm2 y = 0 from c_43), if_pos (show rm2 x = 0 from c_69)]
          rfl
      · skip
        refine g_iload d_M_between_46 rfl ?_
        refine g_aload_n d_M_between_48 rfl rfl ?_
        refine g_aload_n d_M_between_49 rfl rfl ?_
        refine g_iload_n d_M_between_50 rfl rfl ?_
        refine g_iload d_M_between_51 rfl ?_
        refine g_iconst (v := nI 1) d_M_between_53 (by decide) ?_
        refine g_iadd d_M_between_54 ?_
        refine g_iload d_M_between_55 rfl ?_
        refine g_calli (As := [_, _, _, _]) d_M_between_57 lM_60 mv_M_dotOf rfl rfl rfl (Nat.le_of_ble_eq_true rfl) (by decide) (m_dotOf hD hP hk) ?_
        refine g_iadd d_M_between_60 ?_
        refine g_iconst (v := nI 1) d_M_between_61 (by decide) ?_
        refine g_iadd d_M_between_62 ?_
        refine g_iconst (v := nI 1) d_M_between_63 (by decide) ?_
        refine g_ishr d_M_between_64 ?_
        refine g_iret d_M_between_65 rfl rfl ?_
        refine ⟨?_, rfl⟩
        unfold fBt
        first
          | exact absurd c_43 c_33
          | (rw [if_neg (fun h9 : rm2 x = 0 ∧ rm2 y = 0 => c_26 h9.1), if_pos (show rm2 y = 0 from c_43)]; rfl)
    · skip
      refine g_iload d_M_between_36 rfl ?_
      refine g_iret d_M_between_38 rfl rfl ?_
      refine ⟨?_, rfl⟩
      unfold fBt
      rw [if_pos (show rm2 x = 0 ∧ rm2 y = 0 from ⟨c_26, c_33⟩)]
      rfl

theorem nI_ofw {w : Nat} (hw : w < 2) : vp_in (nI 2 * nI w) (aLen 28) ∧ vp_in (nI 2 * nI w + nI 1) (aLen 28) ∧ (nI 2 * nI w).toNatClampNeg = 2 * w ∧ (nI 2 * nI w + nI 1).toNatClampNeg = 2 * w + 1 := by
  rw [pk_mul, nI_add]
  exact ⟨vp_in_nI (by show 2 * w < 4; omega) (by decide), vp_in_nI (by show 2 * w + 1 < 4; omega) (by decide), nI_clamp (by omega), nI_clamp (by omega)⟩
theorem m_moved {s0 : State} {l : Launch} {m : Nat} {σ : Sg} {A B P k w : Nat} {x y : Int32} (hD : okD σ A B) (hP : P < 3) (hk : okK k) (hw : w < 2) : GC s0 l M_M_moved m [.ref (m + aOff k), .int (nI P), .int x, .int y, .int (nI w)] σ (fun r σ' => r = some (.int (fMv σ k (nI P) x y w)) ∧ σ' = σ) := by
  refine g_in (by decide) rfl rfl (Nat.le_of_ble_eq_true rfl) (fun hB => ?_)
  refine g_aload_n d_M_moved_0 rfl rfl ?_
  refine g_getA d_M_moved_1 fM_64 (by decide) ?_
  refine g_iconst (v := nI 2) d_M_moved_4 (by decide) ?_
  refine g_iload d_M_moved_5 rfl ?_
  refine g_imul d_M_moved_7 ?_
  refine g_iaload (k := 28) d_M_moved_8 rfl (by decide) (by decide) rfl (nI_ofw hw).1 ?_
  refine g_istore d_M_moved_9 (Nat.le_of_ble_eq_true rfl) ?_
  refine g_aload_n d_M_moved_11 rfl rfl ?_
  refine g_getA d_M_moved_12 fM_64 (by decide) ?_
  refine g_iconst (v := nI 2) d_M_moved_15 (by decide) ?_
  refine g_iload d_M_moved_16 rfl ?_
  refine g_imul d_M_moved_18 ?_
  refine g_iconst (v := nI 1) d_M_moved_19 (by decide) ?_
  refine g_iadd d_M_moved_20 ?_
  refine g_iaload (k := 28) d_M_moved_21 rfl (by decide) (by decide) rfl (nI_ofw hw).2.1 ?_
  refine g_istore d_M_moved_22 (Nat.le_of_ble_eq_true rfl) ?_
  refine g_iload_n d_M_moved_24 rfl rfl ?_
  refine g_if_le (tgt := 40) d_M_moved_25 (by decide) (fun c_25 => ?_) (fun c_25 => ?_)
  · skip
    refine g_aload_n d_M_moved_40 rfl rfl ?_
    refine g_aload_n d_M_moved_41 rfl rfl ?_
    refine g_iload_n d_M_moved_42 rfl rfl ?_
    refine g_iconst (v := nI 2) d_M_moved_43 (by decide) ?_
    refine g_iload_n d_M_moved_44 rfl rfl ?_
    refine g_imul d_M_moved_45 ?_
    refine g_iload d_M_moved_46 rfl ?_
    refine g_iadd d_M_moved_48 ?_
    refine g_iconst (v := nI 2) d_M_moved_49 (by decide) ?_
    refine g_iload d_M_moved_50 rfl ?_
    refine g_imul d_M_moved_52 ?_
    refine g_iload d_M_moved_53 rfl ?_
    refine g_iadd d_M_moved_55 ?_
    refine g_calli (As := [_, _, _, _]) d_M_moved_56 lM_67 mv_M_between rfl rfl rfl (Nat.le_of_ble_eq_true rfl) (by decide) (m_between hD hP hk) ?_
    refine g_iret d_M_moved_59 rfl rfl ?_
    refine ⟨?_, rfl⟩
    unfold fMv
    obtain ⟨-, -, e1, e2⟩ := nI_ofw hw
    rw [e1, e2]
    first
      | rw [if_pos c_25]
      | rw [if_neg c_25]
  · skip
    refine g_iload d_M_moved_28 rfl ?_
    refine g_iconst (v := nI 2) d_M_moved_30 (by decide) ?_
    refine g_idiv d_M_moved_31 (by decide) ?_
    refine g_istore d_M_moved_32 (Nat.le_of_ble_eq_true rfl) ?_
    refine g_iload d_M_moved_34 rfl ?_
    refine g_iconst (v := nI 2) d_M_moved_36 (by decide) ?_
    refine g_idiv d_M_moved_37 (by decide) ?_
    refine g_istore d_M_moved_38 (Nat.le_of_ble_eq_true rfl) ?_
    refine g_aload_n d_M_moved_40 rfl rfl ?_
    refine g_aload_n d_M_moved_41 rfl rfl ?_
    refine g_iload_n d_M_moved_42 rfl rfl ?_
    refine g_iconst (v := nI 2) d_M_moved_43 (by decide) ?_
    refine g_iload_n d_M_moved_44 rfl rfl ?_
    refine g_imul d_M_moved_45 ?_
    refine g_iload d_M_moved_46 rfl ?_
    refine g_iadd d_M_moved_48 ?_
    refine g_iconst (v := nI 2) d_M_moved_49 (by decide) ?_
    refine g_iload d_M_moved_50 rfl ?_
    refine g_imul d_M_moved_52 ?_
    refine g_iload d_M_moved_53 rfl ?_
    refine g_iadd d_M_moved_55 ?_
    refine g_calli (As := [_, _, _, _]) d_M_moved_56 lM_67 mv_M_between rfl rfl rfl (Nat.le_of_ble_eq_true rfl) (by decide) (m_between hD hP hk) ?_
    refine g_iret d_M_moved_59 rfl rfl ?_
    refine ⟨?_, rfl⟩
    unfold fMv
    obtain ⟨-, -, e1, e2⟩ := nI_ofw hw
    rw [e1, e2]
    first
      | rw [if_pos c_25]
      | rw [if_neg c_25]

theorem m_foretoldDot {s0 : State} {l : Launch} {m : Nat} {σ : Sg} {A B P : Nat} {x y : Int32} (hD : okD σ A B) (hP : P < 3) : GC s0 l M_M_foretoldDot m [.int (nI P), .int x, .int y] σ (fun r σ' => r = some (.int (fFD σ (nI P) x y)) ∧ σ' = σ) := by
  refine g_in (by decide) rfl rfl (Nat.le_of_ble_eq_true rfl) (fun hB => ?_)
  refine g_aload_n d_M_foretoldDot_0 rfl rfl ?_
  refine g_get d_M_foretoldDot_1 fM_79 rfl ?_
  refine g_if_eq (tgt := 44) d_M_foretoldDot_4 (by decide) (fun c_4 => ?_) (fun c_4 => ?_)
  · skip
    refine g_aload_n d_M_foretoldDot_44 rfl rfl ?_
    refine g_get d_M_foretoldDot_45 fM_79 rfl ?_
    refine g_if_eq (tgt := 66) d_M_foretoldDot_48 (by decide) (fun c_48 => ?_) (fun c_48 => ?_)
    · skip
      refine g_aload_n d_M_foretoldDot_66 rfl rfl ?_
      refine g_aload_n d_M_foretoldDot_67 rfl rfl ?_
      refine g_getA d_M_foretoldDot_68 fM_73 (by decide) ?_
      refine g_iload_n d_M_foretoldDot_71 rfl rfl ?_
      refine g_iload_n d_M_foretoldDot_72 rfl rfl ?_
      refine g_iload_n d_M_foretoldDot_73 rfl rfl ?_
      refine g_iconst (v := nI 1) d_M_foretoldDot_74 (by decide) ?_
      refine g_calli (As := [_, _, _, _, _]) d_M_foretoldDot_75 lM_90 mv_M_moved rfl rfl rfl (Nat.le_of_ble_eq_true rfl) (by decide) (m_moved (k := 10) (w := 1) hD hP okK10 (by decide)) ?_
      refine g_iret d_M_foretoldDot_78 rfl rfl ?_
      refine ⟨?_, rfl⟩
      unfold fFD
      first
        | exact absurd c_4 c_48
        | exact absurd c_48 c_4
        | rw [if_pos c_4]
        | rw [if_neg c_4, if_pos c_11]
    · skip
      refine g_aload_n d_M_foretoldDot_51 rfl rfl ?_
      refine g_aload_n d_M_foretoldDot_52 rfl rfl ?_
      refine g_callw (As := []) d_M_foretoldDot_53 lM_86 mv_M_forward rfl rfl rfl (Nat.le_of_ble_eq_true rfl) (by decide) (m_forward) ?_
      refine g_iload_n d_M_foretoldDot_56 rfl rfl ?_
      refine g_iload_n d_M_foretoldDot_57 rfl rfl ?_
      refine g_iload_n d_M_foretoldDot_58 rfl rfl ?_
      refine g_iconst (v := nI 0) d_M_foretoldDot_59 (by decide) ?_
      refine g_calli (As := [_, _, _, _, _]) d_M_foretoldDot_60 lM_90 mv_M_moved rfl rfl rfl (Nat.le_of_ble_eq_true rfl) (by decide) (m_moved (w := 0) hD hP (okKf σ) (by decide)) ?_
      refine g_goto (tgt := 78) d_M_foretoldDot_63 (by decide) ?_
      refine g_iret d_M_foretoldDot_78 rfl rfl ?_
      refine ⟨?_, rfl⟩
      unfold fFD
      first
        | exact absurd c_4 c_48
        | exact absurd c_48 c_4
        | rw [if_pos c_4]
        | rw [if_neg c_4, if_pos c_11]
  · skip
    refine g_aload_n d_M_foretoldDot_7 rfl rfl ?_
    refine g_get d_M_foretoldDot_8 fM_83 rfl ?_
    refine g_if_eq (tgt := 44) d_M_foretoldDot_11 (by decide) (fun c_11 => ?_) (fun c_11 => ?_)
    · skip
      refine g_aload_n d_M_foretoldDot_44 rfl rfl ?_
      refine g_get d_M_foretoldDot_45 fM_79 rfl ?_
      refine g_if_eq (tgt := 66) d_M_foretoldDot_48 (by decide) (fun c_48 => ?_) (fun c_48 => ?_)
      · skip
        refine g_aload_n d_M_foretoldDot_66 rfl rfl ?_
        refine g_aload_n d_M_foretoldDot_67 rfl rfl ?_
        refine g_getA d_M_foretoldDot_68 fM_73 (by decide) ?_
        refine g_iload_n d_M_foretoldDot_71 rfl rfl ?_
        refine g_iload_n d_M_foretoldDot_72 rfl rfl ?_
        refine g_iload_n d_M_foretoldDot_73 rfl rfl ?_
        refine g_iconst (v := nI 1) d_M_foretoldDot_74 (by decide) ?_
        refine g_calli (As := [_, _, _, _, _]) d_M_foretoldDot_75 lM_90 mv_M_moved rfl rfl rfl (Nat.le_of_ble_eq_true rfl) (by decide) (m_moved (k := 10) (w := 1) hD hP okK10 (by decide)) ?_
        refine g_iret d_M_foretoldDot_78 rfl rfl ?_
        refine ⟨?_, rfl⟩
        unfold fFD
        first
          | exact absurd c_4 c_48
          | exact absurd c_48 c_4
          | rw [if_pos c_4]
          | rw [if_neg c_4, if_pos c_11]
      · skip
        refine g_aload_n d_M_foretoldDot_51 rfl rfl ?_
        refine g_aload_n d_M_foretoldDot_52 rfl rfl ?_
        refine g_callw (As := []) d_M_foretoldDot_53 lM_86 mv_M_forward rfl rfl rfl (Nat.le_of_ble_eq_true rfl) (by decide) (m_forward) ?_
        refine g_iload_n d_M_foretoldDot_56 rfl rfl ?_
        refine g_iload_n d_M_foretoldDot_57 rfl rfl ?_
        refine g_iload_n d_M_foretoldDot_58 rfl rfl ?_
        refine g_iconst (v := nI 0) d_M_foretoldDot_59 (by decide) ?_
        refine g_calli (As := [_, _, _, _, _]) d_M_foretoldDot_60 lM_90 mv_M_moved rfl rfl rfl (Nat.le_of_ble_eq_true rfl) (by decide) (m_moved (w := 0) hD hP (okKf σ) (by decide)) ?_
        refine g_goto (tgt := 78) d_M_foretoldDot_63 (by decide) ?_
        refine g_iret d_M_foretoldDot_78 rfl rfl ?_
        refine ⟨?_, rfl⟩
        unfold fFD
        first
          | exact absurd c_4 c_48
          | exact absurd c_48 c_4
          | rw [if_pos c_4]
          | rw [if_neg c_4, if_pos c_11]
    · skip
      refine g_aload_n d_M_foretoldDot_14 rfl rfl ?_
      refine g_aload_n d_M_foretoldDot_15 rfl rfl ?_
      refine g_callw (As := []) d_M_foretoldDot_16 lM_86 mv_M_forward rfl rfl rfl (Nat.le_of_ble_eq_true rfl) (by decide) (m_forward) ?_
      refine g_iload_n d_M_foretoldDot_19 rfl rfl ?_
      refine g_iload_n d_M_foretoldDot_20 rfl rfl ?_
      refine g_iload_n d_M_foretoldDot_21 rfl rfl ?_
      refine g_iconst (v := nI 0) d_M_foretoldDot_22 (by decide) ?_
      refine g_calli (As := [_, _, _, _, _]) d_M_foretoldDot_23 lM_90 mv_M_moved rfl rfl rfl (Nat.le_of_ble_eq_true rfl) (by decide) (m_moved (w := 0) hD hP (okKf σ) (by decide)) ?_
      refine g_aload_n d_M_foretoldDot_26 rfl rfl ?_
      refine g_aload_n d_M_foretoldDot_27 rfl rfl ?_
      refine g_getA d_M_foretoldDot_28 fM_73 (by decide) ?_
      refine g_iload_n d_M_foretoldDot_31 rfl rfl ?_
      refine g_iload_n d_M_foretoldDot_32 rfl rfl ?_
      refine g_iload_n d_M_foretoldDot_33 rfl rfl ?_
      refine g_iconst (v := nI 1) d_M_foretoldDot_34 (by decide) ?_
      refine g_calli (As := [_, _, _, _, _]) d_M_foretoldDot_35 lM_90 mv_M_moved rfl rfl rfl (Nat.le_of_ble_eq_true rfl) (by decide) (m_moved (k := 10) (w := 1) hD hP okK10 (by decide)) ?_
      refine g_iadd d_M_foretoldDot_38 ?_
      refine g_iconst (v := nI 1) d_M_foretoldDot_39 (by decide) ?_
      refine g_iadd d_M_foretoldDot_40 ?_
      refine g_iconst (v := nI 1) d_M_foretoldDot_41 (by decide) ?_
      refine g_ishr d_M_foretoldDot_42 ?_
      refine g_iret d_M_foretoldDot_43 rfl rfl ?_
      refine ⟨?_, rfl⟩
      unfold fFD
      rw [if_neg c_4, if_neg c_11]
      rfl
end
section
/-! ===== foretells ===== -/
def plN (A B j : Nat) : Nat := if j < 256 * A * B then 0 else if j < 320 * A * B then 1 else 2
def ofN (A B j : Nat) : Nat := j - atN A B (plN A B j)
def xN (A B j : Nat) : Nat := ofN A B j % wdN A (plN A B j)
def yN (A B j : Nat) : Nat := ofN A B j / wdN A (plN A B j)
def szN (P : Nat) : Nat := if P = 0 then 16 else 8
theorem wdN_sz (A P : Nat) : wdN A P = szN P * A := by unfold wdN szN; split <;> rfl
theorem wdN_pos {A P : Nat} (h : 1 ≤ A) : 1 ≤ wdN A P := by unfold wdN; split <;> omega
theorem atN_0 (A B : Nat) : atN A B 0 = 0 := rfl
theorem atN_1 (A B : Nat) : atN A B 1 = 256 * (A * B) := by show 256 * A * B + (1 - 1) * 64 * A * B = _; rw [Nat.mul_assoc]; simp
theorem atN_2 (A B : Nat) : atN A B 2 = 320 * (A * B) := by show 256 * A * B + (2 - 1) * 64 * A * B = _; rw [Nat.mul_assoc, Nat.mul_assoc]; omega
theorem atN_3 (A B : Nat) : atN A B 3 = 384 * (A * B) := by show 256 * A * B + (3 - 1) * 64 * A * B = _; rw [Nat.mul_assoc, Nat.mul_assoc]; omega
theorem dec_n {A B P x y : Nat} (hA : 1 ≤ A ∧ A ≤ 4) (hB : 1 ≤ B ∧ B ≤ 4) (hP : P < 3) (h1 : x < wdN A P) (h2 : y < wdN B P) : plN A B (atN A B P + wdN A P * y + x) = P ∧ xN A B (atN A B P + wdN A P * y + x) = x ∧ yN A B (atN A B P + wdN A P * y + x) = y := by
  have e : plN A B (atN A B P + wdN A P * y + x) = P := by
    have h3 := idx_lt hA hB hP h1 h2
    generalize wdN A P * y = z at h3 ⊢
    unfold plN
    rw [Nat.mul_assoc, Nat.mul_assoc]
    rcases (show P = 0 ∨ P = 1 ∨ P = 2 by omega) with rfl | rfl | rfl
    · rw [atN_0] at h3 ⊢
      rw [atN_1] at h3
      rw [if_pos (by omega)]
    · rw [atN_1] at h3 ⊢
      rw [atN_2] at h3
      rw [if_neg (by omega), if_pos (by omega)]
    · rw [atN_2] at h3 ⊢
      rw [if_neg (by omega), if_neg (by omega)]
  have e2 : ofN A B (atN A B P + wdN A P * y + x) = wdN A P * y + x := by unfold ofN; rw [e]; omega
  refine ⟨e, ?_, ?_⟩
  · unfold xN
    rw [e, e2, Nat.mul_add_mod, Nat.mod_eq_of_lt h1]
  · unfold yN
    rw [e, e2, Nat.mul_add_div (by omega), Nat.div_eq_of_lt h1, Nat.add_zero]
theorem enc_n {A B j : Nat} (hA : 1 ≤ A) : atN A B (plN A B j) + wdN A (plN A B j) * yN A B j + xN A B j = j := by
  have h1 : atN A B (plN A B j) ≤ j := by
    unfold plN
    rw [Nat.mul_assoc, Nat.mul_assoc]
    split
    · exact Nat.zero_le _
    · split
      · rw [atN_1]; omega
      · rw [atN_2]; omega
  have h2 := Nat.div_add_mod (ofN A B j) (wdN A (plN A B j))
  unfold xN yN
  unfold ofN at h2 ⊢
  omega
theorem enc_iff {A B P x y j : Nat} (hA : 1 ≤ A ∧ A ≤ 4) (hB : 1 ≤ B ∧ B ≤ 4) (hP : P < 3) (h1 : x < wdN A P) (h2 : y < wdN B P) : j = atN A B P + wdN A P * y + x ↔ plN A B j = P ∧ yN A B j = y ∧ xN A B j = x := by
  constructor
  · rintro rfl
    have := dec_n hA hB hP h1 h2
    exact ⟨this.1, this.2.2, this.2.1⟩
  · rintro ⟨a, b, c⟩
    have := enc_n (A := A) (B := B) (j := j) hA.1
    rw [a, b, c] at this
    exact this.symm
/-- what square s foretells at the place j -/
def tdN (σ : Sg) (A B j : Nat) : Int32 := fFD σ (nI (plN A B j)) (nI (xN A B j)) (nI (yN A B j))
abbrev inS (A B s j : Nat) : Prop := xN A B j / szN (plN A B j) = s % A ∧ yN A B j / szN (plN A B j) = s / A
abbrev ltN (A B p y x j : Nat) : Prop := plN A B j < p ∨ (plN A B j = p ∧ (yN A B j < y ∨ (yN A B j = y ∧ xN A B j < x)))
def fTp (σ : Sg) (A B s p y x : Nat) : Sg := sa σ 9 (fun j => if inS A B s j ∧ ltN A B p y x j then tdN σ A B j else σ 9 j)
def fT (σ : Sg) (A B s : Nat) : Sg := sa σ 9 (fun j => if inS A B s j then tdN σ A B j else σ 9 j)
theorem fTp_c {σ : Sg} {A B s p y x p' y' x' : Nat} (h : ∀ j, inS A B s j → (ltN A B p y x j ↔ ltN A B p' y' x' j)) : fTp σ A B s p y x = fTp σ A B s p' y' x' := by
  refine sa_ext (fun j => ?_)
  by_cases e : inS A B s j
  · by_cases e2 : ltN A B p y x j
    · rw [if_pos ⟨e, e2⟩, if_pos ⟨e, (h j e).mp e2⟩]
    · rw [if_neg (fun z => e2 z.2), if_neg (fun z => e2 ((h j e).mpr z.2))]
  · rw [if_neg (fun z => e z.1), if_neg (fun z => e z.1)]
theorem dv {a d q : Nat} (hd : 0 < d) (h : a / d = q) : d * q ≤ a ∧ a < d * q + d := by
  have h1 := Nat.div_add_mod a d
  have h2 := Nat.mod_lt a hd
  rw [h] at h1
  omega
theorem szN_pos (P : Nat) : 0 < szN P ∧ szN P ≤ 16 := by unfold szN; split <;> omega
theorem fT_1 {σ : Sg} {A B s p : Nat} : fTp σ A B s p 0 0 = fTp σ A B s p (szN p * (s / A) + 0) 0 := fTp_c (fun j hj => by
  have h := dv (szN_pos _).1 hj.2
  constructor
  · rintro (a | ⟨a, b⟩)
    · exact Or.inl a
    · omega
  · rintro (a | ⟨a, b⟩)
    · exact Or.inl a
    · rw [a] at h; omega)
theorem fT_2 {σ : Sg} {A B s p : Nat} : fTp σ A B s p (szN p * (s / A) + szN p) 0 = fTp σ A B s (p + 1) 0 0 := fTp_c (fun j hj => by
  have h := dv (szN_pos _).1 hj.2
  constructor
  · rintro (a | ⟨a, b⟩)
    · exact Or.inl (by omega)
    · exact Or.inl (by omega)
  · rintro (a | ⟨a, b⟩)
    · by_cases e : plN A B j = p
      · rw [e] at h; exact Or.inr ⟨e, by omega⟩
      · exact Or.inl (by omega)
    · omega)
theorem fT_3 {σ : Sg} {A B s p y : Nat} : fTp σ A B s p y 0 = fTp σ A B s p y (szN p * (s % A) + 0) := fTp_c (fun j hj => by
  have h := dv (szN_pos _).1 hj.1
  constructor
  · rintro (a | ⟨a, b⟩)
    · exact Or.inl a
    · exact Or.inr ⟨a, by omega⟩
  · rintro (a | ⟨a, b⟩)
    · exact Or.inl a
    · rw [a] at h; exact Or.inr ⟨a, by omega⟩)
theorem fT_4 {σ : Sg} {A B s p y : Nat} : fTp σ A B s p y (szN p * (s % A) + szN p) = fTp σ A B s p (y + 1) 0 := fTp_c (fun j hj => by
  have h := dv (szN_pos _).1 hj.1
  constructor
  · rintro (a | ⟨a, b⟩)
    · exact Or.inl a
    · exact Or.inr ⟨a, by omega⟩
  · rintro (a | ⟨a, b⟩)
    · exact Or.inl a
    · rw [a] at h; exact Or.inr ⟨a, by omega⟩)
theorem fT_5 {σ : Sg} {A B s : Nat} : fTp σ A B s 3 0 0 = fT σ A B s := sa_ext (fun j => by
  have h : plN A B j < 3 := by unfold plN; split <;> (try split) <;> omega
  by_cases e : inS A B s j
  · rw [if_pos ⟨e, Or.inl h⟩, if_pos e]
  · rw [if_neg (fun z => e z.1), if_neg e])
theorem fT_0 {σ : Sg} {A B s : Nat} : fTp σ A B s 0 0 0 = σ := sa_self (fun j => by
  rw [if_neg]
  rintro ⟨-, a | ⟨-, b⟩⟩ <;> omega)
theorem sq_in {A s P i : Nat} (hA : 1 ≤ A) (hi : i < szN P) : szN P * (s % A) + i < wdN A P := by
  rw [wdN_sz]
  have h1 : s % A + 1 ≤ A := Nat.mod_lt s (by omega)
  have h2 := Nat.mul_le_mul_left (szN P) h1
  rw [Nat.mul_add] at h2
  omega
theorem sq_in2 {A B s P i : Nat} (hs : s < A * B) (hi : i < szN P) : szN P * (s / A) + i < wdN B P := by
  rw [wdN_sz]
  have h1 : s / A + 1 ≤ B := Nat.div_lt_of_lt_mul hs
  have h2 := Nat.mul_le_mul_left (szN P) h1
  rw [Nat.mul_add] at h2
  omega
theorem fT_s {σ : Sg} {A B s p y x : Nat} (hA : 1 ≤ A ∧ A ≤ 4) (hB : 1 ≤ B ∧ B ≤ 4) (hp : p < 3) (hs : s < A * B) (hy : y < szN p) (hx : x < szN p) : su (fTp σ A B s p (szN p * (s / A) + y) (szN p * (s % A) + x)) 9 (atN A B p + wdN A p * (szN p * (s / A) + y) + (szN p * (s % A) + x)) (fFD σ (nI p) (nI (szN p * (s % A) + x)) (nI (szN p * (s / A) + y))) = fTp σ A B s p (szN p * (s / A) + y) (szN p * (s % A) + x + 1) := su_sa (fun j => by
  have hi := enc_iff (j := j) hA hB hp (sq_in (s := s) hA.1 hx) (sq_in2 hs hy)
  have z0 := (szN_pos p).1
  by_cases e : j = atN A B p + wdN A p * (szN p * (s / A) + y) + (szN p * (s % A) + x)
  · obtain ⟨a, b, c⟩ := hi.mp e
    rw [if_pos e, if_pos]
    · unfold tdN
      rw [a, b, c]
    · refine ⟨⟨?_, ?_⟩, Or.inr ⟨a, Or.inr ⟨b, by omega⟩⟩⟩
      · rw [c, a, Nat.mul_add_div z0, Nat.div_eq_of_lt hx, Nat.add_zero]
      · rw [b, a, Nat.mul_add_div z0, Nat.div_eq_of_lt hy, Nat.add_zero]
  · rw [if_neg e]
    have hne : ¬ (plN A B j = p ∧ yN A B j = szN p * (s / A) + y ∧ xN A B j = szN p * (s % A) + x) := fun z => e (hi.mpr z)
    have hiff : ltN A B p (szN p * (s / A) + y) (szN p * (s % A) + x + 1) j ↔ ltN A B p (szN p * (s / A) + y) (szN p * (s % A) + x) j := by
      constructor
      · rintro (a | ⟨a, b | ⟨b, c⟩⟩)
        · exact Or.inl a
        · exact Or.inr ⟨a, Or.inl b⟩
        · exact Or.inr ⟨a, Or.inr ⟨b, by omega⟩⟩
      · rintro (a | ⟨a, b | ⟨b, c⟩⟩)
        · exact Or.inl a
        · exact Or.inr ⟨a, Or.inl b⟩
        · exact Or.inr ⟨a, Or.inr ⟨b, by omega⟩⟩
    by_cases e4 : inS A B s j ∧ ltN A B p (szN p * (s / A) + y) (szN p * (s % A) + x) j
    · rw [if_pos e4, if_pos ⟨e4.1, hiff.mpr e4.2⟩]
    · rw [if_neg e4, if_neg (fun z => e4 ⟨z.1, hiff.mp z.2⟩)])
theorem fTp_eq {σ : Sg} {A B s p y x : Nat} {S : List Nat} (h : 9 ∉ S) : eqOn S σ (fTp σ A B s p y x) := eqOn.sa h
section FT
variable {s0 : State} {l : Launch} {hB : Mem} {m A B s : Nat} {σ : Sg} {P : Option Value → Sg → Prop}
theorem m_ft_x {p y : Nat} (hD : okD σ A B) (hp : p < 3) (hs : s < A * B) (hy : y < szN p) (k : GQ s0 l M_M_foretells hB m 106 [some (.ref m), some (.int (nI s)), some (.int (nI p)), some (.int (nI (szN p))), some (.int (nI (szN p * (s / A) + y))), none] [] (fTp σ A B s p (szN p * (s / A) + (y + 1)) 0) P) : GQ s0 l M_M_foretells hB m 54 [some (.ref m), some (.int (nI s)), some (.int (nI p)), some (.int (nI (szN p))), some (.int (nI (szN p * (s / A) + y))), some (.int (nI (szN p * (s % A) + 0)))] [] (fTp σ A B s p (szN p * (s / A) + y) (szN p * (s % A) + 0)) P := by
  have hs4 : s < 16 := Nat.lt_of_lt_of_le hs (Nat.mul_le_mul hD.2.2.2.1 hD.2.2.2.2.2)
  have hA0 : 0 < A ∧ A < 2 ^ 31 := by have := hD.2.2; omega
  have hm : s % A < A := Nat.mod_lt s hA0.1
  have hz := szN_pos p
  have hmul : szN p * (s % A + 1) = szN p * (s % A) + szN p := by rw [Nat.mul_add, Nat.mul_one]
  have hb1 : szN p * (s % A) + szN p ≤ 64 := by
    rw [← hmul]
    exact Nat.mul_le_mul hz.2 (by have := hD.2.2; omega : s % A + 1 ≤ 4)
  refine g_loop (szN p) (fun x => fTp σ A B s p (szN p * (s / A) + y) (szN p * (s % A) + x)) (fun x => [some (.ref m), some (.int (nI s)), some (.int (nI p)), some (.int (nI (szN p))), some (.int (nI (szN p * (s / A) + y))), some (.int (nI (szN p * (s % A) + x)))]) (fun x hx ih => ?_) ?_ 0 (Nat.zero_le _)
  · have hac : okD (fTp σ A B s p (szN p * (s / A) + y) (szN p * (s % A) + x)) A B := hD.eq (fTp_eq (by decide))
    refine g_iload d_M_foretells_54 rfl ?_
    refine g_iload_n d_M_foretells_56 rfl rfl ?_
    refine g_iload_n d_M_foretells_57 rfl rfl ?_
    refine g_aload_n d_M_foretells_58 rfl rfl ?_
    refine g_getE d_M_foretells_59 fM_35 rfl hac.1 ?_
    refine g_iremN d_M_foretells_62 ⟨by omega, hA0⟩ ?_
    refine g_iconst (v := nI 1) d_M_foretells_63 (by decide) ?_
    refine g_iaddN d_M_foretells_64  ?_
    refine g_imulN d_M_foretells_65  ?_
    refine g_icmp_ge (tgt := 106) d_M_foretells_66 (by decide) (fun c_66 => ?_) (fun c_66 => ?_)
    · rw [hmul] at c_66
      exact absurd ((nI_leI (by omega) (by omega)).mp c_66) (by omega)
    · skip
      refine g_aload_n d_M_foretells_69 rfl rfl ?_
      refine g_getA d_M_foretells_70 fM_94 (by decide) ?_
      refine g_aload_n d_M_foretells_73 rfl rfl ?_
      refine g_iload_n d_M_foretells_74 rfl rfl ?_
      refine g_calli (As := [_]) d_M_foretells_75 lM_57 mv_M_planeAt rfl rfl rfl (Nat.le_of_ble_eq_true rfl) (by decide) (m_planeAt) ?_
      refine g_aload_n d_M_foretells_78 rfl rfl ?_
      refine g_iload_n d_M_foretells_79 rfl rfl ?_
      refine g_calli (As := [_]) d_M_foretells_80 lM_51 mv_M_planeWidth rfl rfl rfl (Nat.le_of_ble_eq_true rfl) (by decide) (m_planeWidth) ?_
      rw [pA_n hac (by omega), pW_n hac (by omega)]
      refine g_iload d_M_foretells_83 rfl ?_
      refine g_imulN d_M_foretells_85  ?_
      refine g_iaddN d_M_foretells_86  ?_
      refine g_iload d_M_foretells_87 rfl ?_
      refine g_iaddN d_M_foretells_89  ?_
      refine g_aload_n d_M_foretells_90 rfl rfl ?_
      refine g_iload_n d_M_foretells_91 rfl rfl ?_
      refine g_iload d_M_foretells_92 rfl ?_
      refine g_iload d_M_foretells_94 rfl ?_
      refine g_calli (As := [_, _, _]) d_M_foretells_96 lM_97 mv_M_foretoldDot rfl rfl rfl (Nat.le_of_ble_eq_true rfl) (by decide) (m_foretoldDot hac hp) ?_
      have hlt := (idx_lt ⟨hD.2.2.1, hD.2.2.2.1⟩ ⟨hD.2.2.2.2.1, hD.2.2.2.2.2⟩ hp (sq_in (s := s) hD.2.2.1 hx) (sq_in2 hs hy))
      rw [fFD_eq (fTp_eq (by decide))]
      refine g_iastore (k := 9) d_M_foretells_99 rfl (by decide) (by decide) rfl (vp_in_nI (Nat.lt_of_lt_of_le hlt.1 (Nat.le_trans hlt.2.1 hlt.2.2)) (by decide)) ?_
      first | refine g_iinc1 d_M_foretells_100 rfl ?_ | refine g_iinc d_M_foretells_100 rfl ?_
      refine g_goto (tgt := 54) d_M_foretells_103 (by decide) ?_
      rw [nI_clamp (by omega), fT_s ⟨hD.2.2.1, hD.2.2.2.1⟩ ⟨hD.2.2.2.2.1, hD.2.2.2.2.2⟩ hp hs hy hx]
      exact ih
  · have hac : okD (fTp σ A B s p (szN p * (s / A) + y) (szN p * (s % A) + szN p)) A B := hD.eq (fTp_eq (by decide))
    refine g_iload d_M_foretells_54 rfl ?_
    refine g_iload_n d_M_foretells_56 rfl rfl ?_
    refine g_iload_n d_M_foretells_57 rfl rfl ?_
    refine g_aload_n d_M_foretells_58 rfl rfl ?_
    refine g_getE d_M_foretells_59 fM_35 rfl hac.1 ?_
    refine g_iremN d_M_foretells_62 ⟨by omega, hA0⟩ ?_
    refine g_iconst (v := nI 1) d_M_foretells_63 (by decide) ?_
    refine g_iaddN d_M_foretells_64  ?_
    refine g_imulN d_M_foretells_65  ?_
    refine g_icmp_ge (tgt := 106) d_M_foretells_66 (by decide) (fun c_66 => ?_) (fun c_66 => ?_)
    · skip
      show GQ s0 l M_M_foretells hB m 106 _ [] (fTp σ A B s p (szN p * (s / A) + y) (szN p * (s % A) + szN p)) P
      rw [fT_4]
      exact g_forget 5 k
    · rw [hmul] at c_66
      exact absurd (nI_le (Nat.le_refl _) (by omega)) c_66
theorem m_ft_y {p : Nat} (hD : okD σ A B) (hp : p < 3) (hs : s < A * B) (k : GQ s0 l M_M_foretells hB m 112 [some (.ref m), some (.int (nI s)), some (.int (nI p)), none, none, none] [] (fTp σ A B s (p + 1) 0 0) P) : GQ s0 l M_M_foretells hB m 29 [some (.ref m), some (.int (nI s)), some (.int (nI p)), some (.int (nI (szN p))), some (.int (nI (szN p * (s / A) + 0))), none] [] (fTp σ A B s p (szN p * (s / A) + 0) 0) P := by
  have hs4 : s < 16 := Nat.lt_of_lt_of_le hs (Nat.mul_le_mul hD.2.2.2.1 hD.2.2.2.2.2)
  have hA0 : 0 < A ∧ A < 2 ^ 31 := by have := hD.2.2; omega
  have hm : s / A + 1 ≤ B := Nat.div_lt_of_lt_mul hs
  have hz := szN_pos p
  have hmul : szN p * (s / A + 1) = szN p * (s / A) + szN p := by rw [Nat.mul_add, Nat.mul_one]
  have hb1 : szN p * (s / A) + szN p ≤ 64 := by
    rw [← hmul]
    exact Nat.mul_le_mul hz.2 (by have := hD.2.2; omega : s / A + 1 ≤ 4)
  refine g_loop (szN p) (fun y => fTp σ A B s p (szN p * (s / A) + y) 0) (fun y => [some (.ref m), some (.int (nI s)), some (.int (nI p)), some (.int (nI (szN p))), some (.int (nI (szN p * (s / A) + y))), none]) (fun y hy ih => ?_) ?_ 0 (Nat.zero_le _)
  · have hac : okD (fTp σ A B s p (szN p * (s / A) + y) 0) A B := hD.eq (fTp_eq (by decide))
    refine g_iload d_M_foretells_29 rfl ?_
    refine g_iload_n d_M_foretells_31 rfl rfl ?_
    refine g_iload_n d_M_foretells_32 rfl rfl ?_
    refine g_aload_n d_M_foretells_33 rfl rfl ?_
    refine g_getE d_M_foretells_34 fM_35 rfl hac.1 ?_
    refine g_idivN d_M_foretells_37 ⟨by omega, hA0⟩ ?_
    refine g_iconst (v := nI 1) d_M_foretells_38 (by decide) ?_
    refine g_iaddN d_M_foretells_39  ?_
    refine g_imulN d_M_foretells_40  ?_
    refine g_icmp_ge (tgt := 112) d_M_foretells_41 (by decide) (fun c_41 => ?_) (fun c_41 => ?_)
    · rw [hmul] at c_41
      exact absurd ((nI_leI (by omega) (by omega)).mp c_41) (by omega)
    · skip
      refine g_iload_n d_M_foretells_44 rfl rfl ?_
      refine g_iload_n d_M_foretells_45 rfl rfl ?_
      refine g_aload_n d_M_foretells_46 rfl rfl ?_
      refine g_getE d_M_foretells_47 fM_35 rfl hac.1 ?_
      refine g_iremN d_M_foretells_50 ⟨by omega, hA0⟩ ?_
      refine g_imulN d_M_foretells_51  ?_
      refine g_istore d_M_foretells_52 (Nat.le_of_ble_eq_true rfl) ?_
      show GQ s0 l M_M_foretells hB m 54 _ [] (fTp σ A B s p (szN p * (s / A) + y) 0) P
      rw [fT_3]
      refine m_ft_x hD hp hs hy ?_
      first | refine g_iinc1 d_M_foretells_106 rfl ?_ | refine g_iinc d_M_foretells_106 rfl ?_
      refine g_goto (tgt := 29) d_M_foretells_109 (by decide) ?_
      exact ih
  · have hac : okD (fTp σ A B s p (szN p * (s / A) + szN p) 0) A B := hD.eq (fTp_eq (by decide))
    refine g_iload d_M_foretells_29 rfl ?_
    refine g_iload_n d_M_foretells_31 rfl rfl ?_
    refine g_iload_n d_M_foretells_32 rfl rfl ?_
    refine g_aload_n d_M_foretells_33 rfl rfl ?_
    refine g_getE d_M_foretells_34 fM_35 rfl hac.1 ?_
    refine g_idivN d_M_foretells_37 ⟨by omega, hA0⟩ ?_
    refine g_iconst (v := nI 1) d_M_foretells_38 (by decide) ?_
    refine g_iaddN d_M_foretells_39  ?_
    refine g_imulN d_M_foretells_40  ?_
    refine g_icmp_ge (tgt := 112) d_M_foretells_41 (by decide) (fun c_41 => ?_) (fun c_41 => ?_)
    · skip
      show GQ s0 l M_M_foretells hB m 112 _ [] (fTp σ A B s p (szN p * (s / A) + szN p) 0) P
      rw [fT_2]
      exact g_forget 3 (g_forget 4 k)
    · rw [hmul] at c_41
      exact absurd (nI_le (Nat.le_refl _) (by omega)) c_41
end FT
theorem m_foretells {s0 : State} {l : Launch} {m A B s : Nat} {σ : Sg} (hD : okD σ A B) (hs : s < A * B) : GC s0 l M_M_foretells m [.int (nI s)] σ (fun r σ' => r = none ∧ σ' = fT σ A B s) := by
  have hs4 : s < 16 := Nat.lt_of_lt_of_le hs (Nat.mul_le_mul hD.2.2.2.1 hD.2.2.2.2.2)
  have hA0 : 0 < A ∧ A < 2 ^ 31 := by have := hD.2.2; omega
  refine g_in (by decide) rfl rfl (Nat.le_of_ble_eq_true rfl) (fun hB => ?_)
  refine g_iconst (v := nI 0) d_M_foretells_0 (by decide) ?_
  refine g_istore_n d_M_foretells_1 rfl (Nat.le_of_ble_eq_true rfl) ?_
  have key := g_loop (s0 := s0) (l := l) (M := M_M_foretells) (hB := hB) (m := m) (pc := 2) (P := fun r σ' => r = none ∧ σ' = fT σ A B s) 3 (fun p => fTp σ A B s p 0 0) (fun p => [some (.ref m), some (.int (nI s)), some (.int (nI p)), none, none, none]) (fun p hp ih => ?_) ?_ 0 (by decide)
  · rw [fT_0] at key
    exact key
  · have hac : okD (fTp σ A B s p 0 0) A B := hD.eq (fTp_eq (by decide))
    refine g_iload_n d_M_foretells_2 rfl rfl ?_
    refine g_iconst (v := nI 3) d_M_foretells_3 (by decide) ?_
    refine g_icmp_ge (tgt := 118) d_M_foretells_4 (by decide) (fun c_4 => ?_) (fun c_4 => ?_)
    · exact absurd ((nI_leI (by omega) (by omega)).mp c_4) (by omega)
    · skip
      refine g_iload_n d_M_foretells_7 rfl rfl ?_
      refine g_if_ne (tgt := 16) d_M_foretells_8 (by decide) (fun c_8 => ?_) (fun c_8 => ?_)
      · skip
        refine g_bipush (v := nI 8) d_M_foretells_16 (by decide) ?_
        have hsz : szN p = 8 := by unfold szN; first | rw [if_pos ((nI_eq (by omega) (by decide)).mp c_8)] | rw [if_neg (fun e => c_8 (by rw [e]; rfl))]
        rw [← hsz]
        refine g_istore_n d_M_foretells_18 rfl (Nat.le_of_ble_eq_true rfl) ?_
        refine g_iload_n d_M_foretells_19 rfl rfl ?_
        refine g_iload_n d_M_foretells_20 rfl rfl ?_
        refine g_aload_n d_M_foretells_21 rfl rfl ?_
        refine g_getE d_M_foretells_22 fM_35 rfl hac.1 ?_
        refine g_idivN d_M_foretells_25 ⟨by omega, hA0⟩ ?_
        refine g_imulN d_M_foretells_26  ?_
        refine g_istore d_M_foretells_27 (Nat.le_of_ble_eq_true rfl) ?_
        show GQ s0 l M_M_foretells hB m 29 _ [] (fTp σ A B s p 0 0) _
        rw [fT_1]
        refine m_ft_y hD hp hs ?_
        first | refine g_iinc1 d_M_foretells_112 rfl ?_ | refine g_iinc d_M_foretells_112 rfl ?_
        refine g_goto (tgt := 2) d_M_foretells_115 (by decide) ?_
        exact ih
      · skip
        refine g_bipush (v := nI 16) d_M_foretells_11 (by decide) ?_
        refine g_goto (tgt := 18) d_M_foretells_13 (by decide) ?_
        have hsz : szN p = 16 := by unfold szN; first | rw [if_pos ((nI_eq (by omega) (by decide)).mp c_8)] | rw [if_neg (fun e => c_8 (by rw [e]; rfl))]
        rw [← hsz]
        refine g_istore_n d_M_foretells_18 rfl (Nat.le_of_ble_eq_true rfl) ?_
        refine g_iload_n d_M_foretells_19 rfl rfl ?_
        refine g_iload_n d_M_foretells_20 rfl rfl ?_
        refine g_aload_n d_M_foretells_21 rfl rfl ?_
        refine g_getE d_M_foretells_22 fM_35 rfl hac.1 ?_
        refine g_idivN d_M_foretells_25 ⟨by omega, hA0⟩ ?_
        refine g_imulN d_M_foretells_26  ?_
        refine g_istore d_M_foretells_27 (Nat.le_of_ble_eq_true rfl) ?_
        show GQ s0 l M_M_foretells hB m 29 _ [] (fTp σ A B s p 0 0) _
        rw [fT_1]
        refine m_ft_y hD hp hs ?_
        first | refine g_iinc1 d_M_foretells_112 rfl ?_ | refine g_iinc d_M_foretells_112 rfl ?_
        refine g_goto (tgt := 2) d_M_foretells_115 (by decide) ?_
        exact ih
  · skip
    refine g_iload_n d_M_foretells_2 rfl rfl ?_
    refine g_iconst (v := nI 3) d_M_foretells_3 (by decide) ?_
    refine g_icmp_ge (tgt := 118) d_M_foretells_4 (by decide) (fun c_4 => ?_) (fun c_4 => ?_)
    · skip
      refine g_vret d_M_foretells_118 rfl ?_
      exact ⟨rfl, fT_5⟩
    · exact absurd (nI_le (Nat.le_refl 3) (by decide)) c_4
end
section
/-! ===== isFirst, shows, wave, factor ===== -/
def nx1 (one : Int32) (n : Nat) (a v : Int32) : Int32 := if a = 0 then nI 0 else if one >>> (nI n &&& 31) &&& nI 1 = v then nI 1 else nI 0
def fIF (one two : Int32) : Nat → Int32 → Int32 → Sg → Int32 × Sg
  | 0, a, _, σ => (a, σ)
  | n + 1, a, b, σ => if 0 ≤ σ 6 0 then (a, σ) else if 0 ≤ (fBit σ).2 6 0 then (nI 0, (fBit σ).2) else
      if nx1 one n a (fBit σ).1 = 0 then (if nx1 two n b (fBit σ).1 = 0 then fIF one two n (nx1 one n a (fBit σ).1) (nx1 two n b (fBit σ).1) (fW (fBit σ).2 ((fBit σ).2 4 0 - nI 1)) else fIF one two n (nx1 one n a (fBit σ).1) (nx1 two n b (fBit σ).1) (fBit σ).2) else fIF one two n (nx1 one n a (fBit σ).1) (nx1 two n b (fBit σ).1) (fBit σ).2
theorem okA.if1 {one two : Int32} : ∀ (n : Nat) (a b : Int32) {σ : Sg}, okA σ → okA (fIF one two n a b σ).2
  | 0, _, _, _, h => h
  | n + 1, a, b, σ, h => by
    unfold fIF
    split
    · exact h
    · split
      · exact h.bit
      · split
        · split
          · exact okA.if1 n _ _ h.bit.fW
          · exact okA.if1 n _ _ h.bit
        · exact okA.if1 n _ _ h.bit
theorem nx1_b {one : Int32} {n : Nat} {a v : Int32} : nx1 one n a v = nI 0 ∨ nx1 one n a v = nI 1 := by
  unfold nx1
  split
  · exact Or.inl rfl
  · split
    · exact Or.inr rfl
    · exact Or.inl rfl
theorem nar01 {x : Int32} (h : x = nI 0 ∨ x = nI 1) : narrow .boolean (.int x) = .int x := by rcases h with rfl | rfl <;> rfl
theorem m_isFirst_l {s0 : State} {l : Launch} {hB : Mem} {m : Nat} {one two w : Int32} : ∀ (n : Nat) (a b : Int32) (y8 y7 : Option Value) (σ : Sg), n < 2 ^ 31 → (a = nI 0 ∨ a = nI 1) → okA σ → GQ s0 l M_M_isFirst hB m 11 [some (.ref m), some (.int one), some (.int two), some (.int w), some (.int a), some (.int b), some (.int (nI n - nI 1)), y7, y8] [] σ (fun r σ' => r = some (.int (fIF one two n a b σ).1) ∧ σ' = (fIF one two n a b σ).2) := by
  intro n
  induction n with
  | zero =>
    intro a b y8 y7 σ hn ha hA
    unfold fIF
    refine g_iload d_M_isFirst_11 rfl ?_
    refine g_if_lt (tgt := 112) d_M_isFirst_13 (by decide) (fun c_13 => ?_) (fun c_13 => ?_)
    · skip
      refine g_iload d_M_isFirst_112 rfl ?_
      refine g_iret d_M_isFirst_114 rfl (nar01 ha) ?_
      exact ⟨rfl, rfl⟩
    · exact absurd (show nI 0 - nI 1 < 0 by decide) c_13
  | succ n ih =>
    intro a b y8 y7 σ hn ha hA
    have e0 : nI (n + 1) - nI 1 = nI n := pk_sub (by omega)
    rw [e0]
    have e1 : nI n + Int32.ofInt (-1) = nI n - nI 1 := by rw [Int32.sub_eq_add_neg]; rfl
    unfold fIF
    refine g_iload d_M_isFirst_11 rfl ?_
    refine g_if_lt (tgt := 112) d_M_isFirst_13 (by decide) (fun c_13 => ?_) (fun c_13 => ?_)
    · exact absurd c_13 (Int32.not_lt.mpr (nI_pos' (by omega)))
    · skip
      refine g_aload_n d_M_isFirst_16 rfl rfl ?_
      refine g_get d_M_isFirst_17 fM_7 rfl ?_
      refine g_if_ge (tgt := 112) d_M_isFirst_20 (by decide) (fun c_20 => ?_) (fun c_20 => ?_)
      · skip
        refine g_iload d_M_isFirst_112 rfl ?_
        refine g_iret d_M_isFirst_114 rfl (nar01 ha) ?_
        rw [if_pos c_20]
        exact ⟨rfl, rfl⟩
      · skip
        refine g_aload_n d_M_isFirst_23 rfl rfl ?_
        refine g_calli (As := []) d_M_isFirst_24 lM_24 mv_M_bit rfl rfl rfl (Nat.le_of_ble_eq_true rfl) (by decide) (m_bit hA) ?_
        refine g_istore d_M_isFirst_27 (Nat.le_of_ble_eq_true rfl) ?_
        refine g_aload_n d_M_isFirst_29 rfl rfl ?_
        refine g_get d_M_isFirst_30 fM_7 rfl ?_
        refine g_if_lt (tgt := 38) d_M_isFirst_33 (by decide) (fun c_33 => ?_) (fun c_33 => ?_)
        · skip
          refine g_iload d_M_isFirst_38 rfl ?_
          refine g_if_eq (tgt := 58) d_M_isFirst_40 (by decide) (fun c_40 => ?_) (fun c_40 => ?_)
          · skip
            refine g_iconst (v := nI 0) d_M_isFirst_58 (by decide) ?_
            have ea : nx1 one n a (fBit σ).1 = nI 0 := by unfold nx1; first | rw [if_pos c_40] | rw [if_neg c_40, if_pos c_51] | rw [if_neg c_40, if_neg c_51]
            refine g_istore d_M_isFirst_59 (Nat.le_of_ble_eq_true rfl) ?_
            refine g_iload d_M_isFirst_61 rfl ?_
            refine g_if_eq (tgt := 81) d_M_isFirst_63 (by decide) (fun c_63 => ?_) (fun c_63 => ?_)
            · skip
              refine g_iconst (v := nI 0) d_M_isFirst_81 (by decide) ?_
              have eb : nx1 two n b (fBit σ).1 = nI 0 := by unfold nx1; first | rw [if_pos c_63] | rw [if_neg c_63, if_pos c_74] | rw [if_neg c_63, if_neg c_74]
              refine g_istore d_M_isFirst_82 (Nat.le_of_ble_eq_true rfl) ?_
              refine g_iload d_M_isFirst_84 rfl ?_
              refine g_if_ne (tgt := 106) d_M_isFirst_86 (by decide) (fun c_86 => ?_) (fun c_86 => ?_)
              · skip
                refine g_iinc d_M_isFirst_106 rfl ?_
                refine g_goto (tgt := 11) d_M_isFirst_109 (by decide) ?_
                rw [if_neg c_20, if_neg (Int32.not_le.mpr c_33), ea, eb]
                have ha2 := nx1_b (one := one) (n := n) (a := a) (v := (fBit σ).1)
                rw [ea] at ha2
                first
                  | exact absurd c_86 (by decide)
                  | exact absurd (by decide) c_86
                  | exact absurd c_91 (by decide)
                  | exact absurd (by decide) c_91
                  | (rw [if_neg c_86]; exact e1 ▸ ih _ _ _ _ _ (by omega) ha2 hA.bit)
                  | (rw [if_pos c_86, if_neg c_91]; exact e1 ▸ ih _ _ _ _ _ (by omega) ha2 hA.bit)
                  | (rw [if_pos c_86, if_pos c_91]; exact e1 ▸ ih _ _ _ _ _ (by omega) ha2 hA.bit.fW)
              · skip
                refine g_iload d_M_isFirst_89 rfl ?_
                refine g_if_ne (tgt := 106) d_M_isFirst_91 (by decide) (fun c_91 => ?_) (fun c_91 => ?_)
                · skip
                  refine g_iinc d_M_isFirst_106 rfl ?_
                  refine g_goto (tgt := 11) d_M_isFirst_109 (by decide) ?_
                  rw [if_neg c_20, if_neg (Int32.not_le.mpr c_33), ea, eb]
                  have ha2 := nx1_b (one := one) (n := n) (a := a) (v := (fBit σ).1)
                  rw [ea] at ha2
                  first
                    | exact absurd c_86 (by decide)
                    | exact absurd (by decide) c_86
                    | exact absurd c_91 (by decide)
                    | exact absurd (by decide) c_91
                    | (rw [if_neg c_86]; exact e1 ▸ ih _ _ _ _ _ (by omega) ha2 hA.bit)
                    | (rw [if_pos c_86, if_neg c_91]; exact e1 ▸ ih _ _ _ _ _ (by omega) ha2 hA.bit)
                    | (rw [if_pos c_86, if_pos c_91]; exact e1 ▸ ih _ _ _ _ _ (by omega) ha2 hA.bit.fW)
                · skip
                  refine g_aload_n d_M_isFirst_94 rfl rfl ?_
                  refine g_aload_n d_M_isFirst_95 rfl rfl ?_
                  refine g_get d_M_isFirst_96 fM_10 rfl ?_
                  refine g_iconst (v := nI 1) d_M_isFirst_99 (by decide) ?_
                  refine g_isub d_M_isFirst_100 ?_
                  refine g_calli (As := [_]) d_M_isFirst_101 lM_16 mv_M_isWrong rfl rfl rfl (Nat.le_of_ble_eq_true rfl) (by decide) (m_isWrong) ?_
                  refine g_istore d_M_isFirst_104 (Nat.le_of_ble_eq_true rfl) ?_
                  refine g_iinc d_M_isFirst_106 rfl ?_
                  refine g_goto (tgt := 11) d_M_isFirst_109 (by decide) ?_
                  rw [if_neg c_20, if_neg (Int32.not_le.mpr c_33), ea, eb]
                  have ha2 := nx1_b (one := one) (n := n) (a := a) (v := (fBit σ).1)
                  rw [ea] at ha2
                  first
                    | exact absurd c_86 (by decide)
                    | exact absurd (by decide) c_86
                    | exact absurd c_91 (by decide)
                    | exact absurd (by decide) c_91
                    | (rw [if_neg c_86]; exact e1 ▸ ih _ _ _ _ _ (by omega) ha2 hA.bit)
                    | (rw [if_pos c_86, if_neg c_91]; exact e1 ▸ ih _ _ _ _ _ (by omega) ha2 hA.bit)
                    | (rw [if_pos c_86, if_pos c_91]; exact e1 ▸ ih _ _ _ _ _ (by omega) ha2 hA.bit.fW)
            · skip
              refine g_iload_n d_M_isFirst_66 rfl rfl ?_
              refine g_iload d_M_isFirst_67 rfl ?_
              refine g_ishr d_M_isFirst_69 ?_
              refine g_iconst (v := nI 1) d_M_isFirst_70 (by decide) ?_
              refine g_iand d_M_isFirst_71 ?_
              refine g_iload d_M_isFirst_72 rfl ?_
              refine g_icmp_ne (tgt := 81) d_M_isFirst_74 (by decide) (fun c_74 => ?_) (fun c_74 => ?_)
              · skip
                refine g_iconst (v := nI 0) d_M_isFirst_81 (by decide) ?_
                have eb : nx1 two n b (fBit σ).1 = nI 0 := by unfold nx1; first | rw [if_pos c_63] | rw [if_neg c_63, if_pos c_74] | rw [if_neg c_63, if_neg c_74]
                refine g_istore d_M_isFirst_82 (Nat.le_of_ble_eq_true rfl) ?_
                refine g_iload d_M_isFirst_84 rfl ?_
                refine g_if_ne (tgt := 106) d_M_isFirst_86 (by decide) (fun c_86 => ?_) (fun c_86 => ?_)
                · skip
                  refine g_iinc d_M_isFirst_106 rfl ?_
                  refine g_goto (tgt := 11) d_M_isFirst_109 (by decide) ?_
                  rw [if_neg c_20, if_neg (Int32.not_le.mpr c_33), ea, eb]
                  have ha2 := nx1_b (one := one) (n := n) (a := a) (v := (fBit σ).1)
                  rw [ea] at ha2
                  first
                    | exact absurd c_86 (by decide)
                    | exact absurd (by decide) c_86
                    | exact absurd c_91 (by decide)
                    | exact absurd (by decide) c_91
                    | (rw [if_neg c_86]; exact e1 ▸ ih _ _ _ _ _ (by omega) ha2 hA.bit)
                    | (rw [if_pos c_86, if_neg c_91]; exact e1 ▸ ih _ _ _ _ _ (by omega) ha2 hA.bit)
                    | (rw [if_pos c_86, if_pos c_91]; exact e1 ▸ ih _ _ _ _ _ (by omega) ha2 hA.bit.fW)
                · skip
                  refine g_iload d_M_isFirst_89 rfl ?_
                  refine g_if_ne (tgt := 106) d_M_isFirst_91 (by decide) (fun c_91 => ?_) (fun c_91 => ?_)
                  · skip
                    refine g_iinc d_M_isFirst_106 rfl ?_
                    refine g_goto (tgt := 11) d_M_isFirst_109 (by decide) ?_
                    rw [if_neg c_20, if_neg (Int32.not_le.mpr c_33), ea, eb]
                    have ha2 := nx1_b (one := one) (n := n) (a := a) (v := (fBit σ).1)
                    rw [ea] at ha2
                    first
                      | exact absurd c_86 (by decide)
                      | exact absurd (by decide) c_86
                      | exact absurd c_91 (by decide)
                      | exact absurd (by decide) c_91
                      | (rw [if_neg c_86]; exact e1 ▸ ih _ _ _ _ _ (by omega) ha2 hA.bit)
                      | (rw [if_pos c_86, if_neg c_91]; exact e1 ▸ ih _ _ _ _ _ (by omega) ha2 hA.bit)
                      | (rw [if_pos c_86, if_pos c_91]; exact e1 ▸ ih _ _ _ _ _ (by omega) ha2 hA.bit.fW)
                  · skip
                    refine g_aload_n d_M_isFirst_94 rfl rfl ?_
                    refine g_aload_n d_M_isFirst_95 rfl rfl ?_
                    refine g_get d_M_isFirst_96 fM_10 rfl ?_
                    refine g_iconst (v := nI 1) d_M_isFirst_99 (by decide) ?_
                    refine g_isub d_M_isFirst_100 ?_
                    refine g_calli (As := [_]) d_M_isFirst_101 lM_16 mv_M_isWrong rfl rfl rfl (Nat.le_of_ble_eq_true rfl) (by decide) (m_isWrong) ?_
                    refine g_istore d_M_isFirst_104 (Nat.le_of_ble_eq_true rfl) ?_
                    refine g_iinc d_M_isFirst_106 rfl ?_
                    refine g_goto (tgt := 11) d_M_isFirst_109 (by decide) ?_
                    rw [if_neg c_20, if_neg (Int32.not_le.mpr c_33), ea, eb]
                    have ha2 := nx1_b (one := one) (n := n) (a := a) (v := (fBit σ).1)
                    rw [ea] at ha2
                    first
                      | exact absurd c_86 (by decide)
                      | exact absurd (by decide) c_86
                      | exact absurd c_91 (by decide)
                      | exact absurd (by decide) c_91
                      | (rw [if_neg c_86]; exact e1 ▸ ih _ _ _ _ _ (by omega) ha2 hA.bit)
                      | (rw [if_pos c_86, if_neg c_91]; exact e1 ▸ ih _ _ _ _ _ (by omega) ha2 hA.bit)
                      | (rw [if_pos c_86, if_pos c_91]; exact e1 ▸ ih _ _ _ _ _ (by omega) ha2 hA.bit.fW)
              · skip
                refine g_iconst (v := nI 1) d_M_isFirst_77 (by decide) ?_
                refine g_goto (tgt := 82) d_M_isFirst_78 (by decide) ?_
                have eb : nx1 two n b (fBit σ).1 = nI 1 := by unfold nx1; first | rw [if_pos c_63] | rw [if_neg c_63, if_pos c_74] | rw [if_neg c_63, if_neg c_74]
                refine g_istore d_M_isFirst_82 (Nat.le_of_ble_eq_true rfl) ?_
                refine g_iload d_M_isFirst_84 rfl ?_
                refine g_if_ne (tgt := 106) d_M_isFirst_86 (by decide) (fun c_86 => ?_) (fun c_86 => ?_)
                · skip
                  refine g_iinc d_M_isFirst_106 rfl ?_
                  refine g_goto (tgt := 11) d_M_isFirst_109 (by decide) ?_
                  rw [if_neg c_20, if_neg (Int32.not_le.mpr c_33), ea, eb]
                  have ha2 := nx1_b (one := one) (n := n) (a := a) (v := (fBit σ).1)
                  rw [ea] at ha2
                  first
                    | exact absurd c_86 (by decide)
                    | exact absurd (by decide) c_86
                    | exact absurd c_91 (by decide)
                    | exact absurd (by decide) c_91
                    | (rw [if_neg c_86]; exact e1 ▸ ih _ _ _ _ _ (by omega) ha2 hA.bit)
                    | (rw [if_pos c_86, if_neg c_91]; exact e1 ▸ ih _ _ _ _ _ (by omega) ha2 hA.bit)
                    | (rw [if_pos c_86, if_pos c_91]; exact e1 ▸ ih _ _ _ _ _ (by omega) ha2 hA.bit.fW)
                · skip
                  refine g_iload d_M_isFirst_89 rfl ?_
                  refine g_if_ne (tgt := 106) d_M_isFirst_91 (by decide) (fun c_91 => ?_) (fun c_91 => ?_)
                  · skip
                    refine g_iinc d_M_isFirst_106 rfl ?_
                    refine g_goto (tgt := 11) d_M_isFirst_109 (by decide) ?_
                    rw [if_neg c_20, if_neg (Int32.not_le.mpr c_33), ea, eb]
                    have ha2 := nx1_b (one := one) (n := n) (a := a) (v := (fBit σ).1)
                    rw [ea] at ha2
                    first
                      | exact absurd c_86 (by decide)
                      | exact absurd (by decide) c_86
                      | exact absurd c_91 (by decide)
                      | exact absurd (by decide) c_91
                      | (rw [if_neg c_86]; exact e1 ▸ ih _ _ _ _ _ (by omega) ha2 hA.bit)
                      | (rw [if_pos c_86, if_neg c_91]; exact e1 ▸ ih _ _ _ _ _ (by omega) ha2 hA.bit)
                      | (rw [if_pos c_86, if_pos c_91]; exact e1 ▸ ih _ _ _ _ _ (by omega) ha2 hA.bit.fW)
                  · skip
                    refine g_aload_n d_M_isFirst_94 rfl rfl ?_
                    refine g_aload_n d_M_isFirst_95 rfl rfl ?_
                    refine g_get d_M_isFirst_96 fM_10 rfl ?_
                    refine g_iconst (v := nI 1) d_M_isFirst_99 (by decide) ?_
                    refine g_isub d_M_isFirst_100 ?_
                    refine g_calli (As := [_]) d_M_isFirst_101 lM_16 mv_M_isWrong rfl rfl rfl (Nat.le_of_ble_eq_true rfl) (by decide) (m_isWrong) ?_
                    refine g_istore d_M_isFirst_104 (Nat.le_of_ble_eq_true rfl) ?_
                    refine g_iinc d_M_isFirst_106 rfl ?_
                    refine g_goto (tgt := 11) d_M_isFirst_109 (by decide) ?_
                    rw [if_neg c_20, if_neg (Int32.not_le.mpr c_33), ea, eb]
                    have ha2 := nx1_b (one := one) (n := n) (a := a) (v := (fBit σ).1)
                    rw [ea] at ha2
                    first
                      | exact absurd c_86 (by decide)
                      | exact absurd (by decide) c_86
                      | exact absurd c_91 (by decide)
                      | exact absurd (by decide) c_91
                      | (rw [if_neg c_86]; exact e1 ▸ ih _ _ _ _ _ (by omega) ha2 hA.bit)
                      | (rw [if_pos c_86, if_neg c_91]; exact e1 ▸ ih _ _ _ _ _ (by omega) ha2 hA.bit)
                      | (rw [if_pos c_86, if_pos c_91]; exact e1 ▸ ih _ _ _ _ _ (by omega) ha2 hA.bit.fW)
          · skip
            refine g_iload_n d_M_isFirst_43 rfl rfl ?_
            refine g_iload d_M_isFirst_44 rfl ?_
            refine g_ishr d_M_isFirst_46 ?_
            refine g_iconst (v := nI 1) d_M_isFirst_47 (by decide) ?_
            refine g_iand d_M_isFirst_48 ?_
            refine g_iload d_M_isFirst_49 rfl ?_
            refine g_icmp_ne (tgt := 58) d_M_isFirst_51 (by decide) (fun c_51 => ?_) (fun c_51 => ?_)
            · skip
              refine g_iconst (v := nI 0) d_M_isFirst_58 (by decide) ?_
              have ea : nx1 one n a (fBit σ).1 = nI 0 := by unfold nx1; first | rw [if_pos c_40] | rw [if_neg c_40, if_pos c_51] | rw [if_neg c_40, if_neg c_51]
              refine g_istore d_M_isFirst_59 (Nat.le_of_ble_eq_true rfl) ?_
              refine g_iload d_M_isFirst_61 rfl ?_
              refine g_if_eq (tgt := 81) d_M_isFirst_63 (by decide) (fun c_63 => ?_) (fun c_63 => ?_)
              · skip
                refine g_iconst (v := nI 0) d_M_isFirst_81 (by decide) ?_
                have eb : nx1 two n b (fBit σ).1 = nI 0 := by unfold nx1; first | rw [if_pos c_63] | rw [if_neg c_63, if_pos c_74] | rw [if_neg c_63, if_neg c_74]
                refine g_istore d_M_isFirst_82 (Nat.le_of_ble_eq_true rfl) ?_
                refine g_iload d_M_isFirst_84 rfl ?_
                refine g_if_ne (tgt := 106) d_M_isFirst_86 (by decide) (fun c_86 => ?_) (fun c_86 => ?_)
                · skip
                  refine g_iinc d_M_isFirst_106 rfl ?_
                  refine g_goto (tgt := 11) d_M_isFirst_109 (by decide) ?_
                  rw [if_neg c_20, if_neg (Int32.not_le.mpr c_33), ea, eb]
                  have ha2 := nx1_b (one := one) (n := n) (a := a) (v := (fBit σ).1)
                  rw [ea] at ha2
                  first
                    | exact absurd c_86 (by decide)
                    | exact absurd (by decide) c_86
                    | exact absurd c_91 (by decide)
                    | exact absurd (by decide) c_91
                    | (rw [if_neg c_86]; exact e1 ▸ ih _ _ _ _ _ (by omega) ha2 hA.bit)
                    | (rw [if_pos c_86, if_neg c_91]; exact e1 ▸ ih _ _ _ _ _ (by omega) ha2 hA.bit)
                    | (rw [if_pos c_86, if_pos c_91]; exact e1 ▸ ih _ _ _ _ _ (by omega) ha2 hA.bit.fW)
                · skip
                  refine g_iload d_M_isFirst_89 rfl ?_
                  refine g_if_ne (tgt := 106) d_M_isFirst_91 (by decide) (fun c_91 => ?_) (fun c_91 => ?_)
                  · skip
                    refine g_iinc d_M_isFirst_106 rfl ?_
                    refine g_goto (tgt := 11) d_M_isFirst_109 (by decide) ?_
                    rw [if_neg c_20, if_neg (Int32.not_le.mpr c_33), ea, eb]
                    have ha2 := nx1_b (one := one) (n := n) (a := a) (v := (fBit σ).1)
                    rw [ea] at ha2
                    first
                      | exact absurd c_86 (by decide)
                      | exact absurd (by decide) c_86
                      | exact absurd c_91 (by decide)
                      | exact absurd (by decide) c_91
                      | (rw [if_neg c_86]; exact e1 ▸ ih _ _ _ _ _ (by omega) ha2 hA.bit)
                      | (rw [if_pos c_86, if_neg c_91]; exact e1 ▸ ih _ _ _ _ _ (by omega) ha2 hA.bit)
                      | (rw [if_pos c_86, if_pos c_91]; exact e1 ▸ ih _ _ _ _ _ (by omega) ha2 hA.bit.fW)
                  · skip
                    refine g_aload_n d_M_isFirst_94 rfl rfl ?_
                    refine g_aload_n d_M_isFirst_95 rfl rfl ?_
                    refine g_get d_M_isFirst_96 fM_10 rfl ?_
                    refine g_iconst (v := nI 1) d_M_isFirst_99 (by decide) ?_
                    refine g_isub d_M_isFirst_100 ?_
                    refine g_calli (As := [_]) d_M_isFirst_101 lM_16 mv_M_isWrong rfl rfl rfl (Nat.le_of_ble_eq_true rfl) (by decide) (m_isWrong) ?_
                    refine g_istore d_M_isFirst_104 (Nat.le_of_ble_eq_true rfl) ?_
                    refine g_iinc d_M_isFirst_106 rfl ?_
                    refine g_goto (tgt := 11) d_M_isFirst_109 (by decide) ?_
                    rw [if_neg c_20, if_neg (Int32.not_le.mpr c_33), ea, eb]
                    have ha2 := nx1_b (one := one) (n := n) (a := a) (v := (fBit σ).1)
                    rw [ea] at ha2
                    first
                      | exact absurd c_86 (by decide)
                      | exact absurd (by decide) c_86
                      | exact absurd c_91 (by decide)
                      | exact absurd (by decide) c_91
                      | (rw [if_neg c_86]; exact e1 ▸ ih _ _ _ _ _ (by omega) ha2 hA.bit)
                      | (rw [if_pos c_86, if_neg c_91]; exact e1 ▸ ih _ _ _ _ _ (by omega) ha2 hA.bit)
                      | (rw [if_pos c_86, if_pos c_91]; exact e1 ▸ ih _ _ _ _ _ (by omega) ha2 hA.bit.fW)
              · skip
                refine g_iload_n d_M_isFirst_66 rfl rfl ?_
                refine g_iload d_M_isFirst_67 rfl ?_
                refine g_ishr d_M_isFirst_69 ?_
                refine g_iconst (v := nI 1) d_M_isFirst_70 (by decide) ?_
                refine g_iand d_M_isFirst_71 ?_
                refine g_iload d_M_isFirst_72 rfl ?_
                refine g_icmp_ne (tgt := 81) d_M_isFirst_74 (by decide) (fun c_74 => ?_) (fun c_74 => ?_)
                · skip
                  refine g_iconst (v := nI 0) d_M_isFirst_81 (by decide) ?_
                  have eb : nx1 two n b (fBit σ).1 = nI 0 := by unfold nx1; first | rw [if_pos c_63] | rw [if_neg c_63, if_pos c_74] | rw [if_neg c_63, if_neg c_74]
                  refine g_istore d_M_isFirst_82 (Nat.le_of_ble_eq_true rfl) ?_
                  refine g_iload d_M_isFirst_84 rfl ?_
                  refine g_if_ne (tgt := 106) d_M_isFirst_86 (by decide) (fun c_86 => ?_) (fun c_86 => ?_)
                  · skip
                    refine g_iinc d_M_isFirst_106 rfl ?_
                    refine g_goto (tgt := 11) d_M_isFirst_109 (by decide) ?_
                    rw [if_neg c_20, if_neg (Int32.not_le.mpr c_33), ea, eb]
                    have ha2 := nx1_b (one := one) (n := n) (a := a) (v := (fBit σ).1)
                    rw [ea] at ha2
                    first
                      | exact absurd c_86 (by decide)
                      | exact absurd (by decide) c_86
                      | exact absurd c_91 (by decide)
                      | exact absurd (by decide) c_91
                      | (rw [if_neg c_86]; exact e1 ▸ ih _ _ _ _ _ (by omega) ha2 hA.bit)
                      | (rw [if_pos c_86, if_neg c_91]; exact e1 ▸ ih _ _ _ _ _ (by omega) ha2 hA.bit)
                      | (rw [if_pos c_86, if_pos c_91]; exact e1 ▸ ih _ _ _ _ _ (by omega) ha2 hA.bit.fW)
                  · skip
                    refine g_iload d_M_isFirst_89 rfl ?_
                    refine g_if_ne (tgt := 106) d_M_isFirst_91 (by decide) (fun c_91 => ?_) (fun c_91 => ?_)
                    · skip
                      refine g_iinc d_M_isFirst_106 rfl ?_
                      refine g_goto (tgt := 11) d_M_isFirst_109 (by decide) ?_
                      rw [if_neg c_20, if_neg (Int32.not_le.mpr c_33), ea, eb]
                      have ha2 := nx1_b (one := one) (n := n) (a := a) (v := (fBit σ).1)
                      rw [ea] at ha2
                      first
                        | exact absurd c_86 (by decide)
                        | exact absurd (by decide) c_86
                        | exact absurd c_91 (by decide)
                        | exact absurd (by decide) c_91
                        | (rw [if_neg c_86]; exact e1 ▸ ih _ _ _ _ _ (by omega) ha2 hA.bit)
                        | (rw [if_pos c_86, if_neg c_91]; exact e1 ▸ ih _ _ _ _ _ (by omega) ha2 hA.bit)
                        | (rw [if_pos c_86, if_pos c_91]; exact e1 ▸ ih _ _ _ _ _ (by omega) ha2 hA.bit.fW)
                    · skip
                      refine g_aload_n d_M_isFirst_94 rfl rfl ?_
                      refine g_aload_n d_M_isFirst_95 rfl rfl ?_
                      refine g_get d_M_isFirst_96 fM_10 rfl ?_
                      refine g_iconst (v := nI 1) d_M_isFirst_99 (by decide) ?_
                      refine g_isub d_M_isFirst_100 ?_
                      refine g_calli (As := [_]) d_M_isFirst_101 lM_16 mv_M_isWrong rfl rfl rfl (Nat.le_of_ble_eq_true rfl) (by decide) (m_isWrong) ?_
                      refine g_istore d_M_isFirst_104 (Nat.le_of_ble_eq_true rfl) ?_
                      refine g_iinc d_M_isFirst_106 rfl ?_
                      refine g_goto (tgt := 11) d_M_isFirst_109 (by decide) ?_
                      rw [if_neg c_20, if_neg (Int32.not_le.mpr c_33), ea, eb]
                      have ha2 := nx1_b (one := one) (n := n) (a := a) (v := (fBit σ).1)
                      rw [ea] at ha2
                      first
                        | exact absurd c_86 (by decide)
                        | exact absurd (by decide) c_86
                        | exact absurd c_91 (by decide)
                        | exact absurd (by decide) c_91
                        | (rw [if_neg c_86]; exact e1 ▸ ih _ _ _ _ _ (by omega) ha2 hA.bit)
                        | (rw [if_pos c_86, if_neg c_91]; exact e1 ▸ ih _ _ _ _ _ (by omega) ha2 hA.bit)
                        | (rw [if_pos c_86, if_pos c_91]; exact e1 ▸ ih _ _ _ _ _ (by omega) ha2 hA.bit.fW)
                · skip
                  refine g_iconst (v := nI 1) d_M_isFirst_77 (by decide) ?_
                  refine g_goto (tgt := 82) d_M_isFirst_78 (by decide) ?_
                  have eb : nx1 two n b (fBit σ).1 = nI 1 := by unfold nx1; first | rw [if_pos c_63] | rw [if_neg c_63, if_pos c_74] | rw [if_neg c_63, if_neg c_74]
                  refine g_istore d_M_isFirst_82 (Nat.le_of_ble_eq_true rfl) ?_
                  refine g_iload d_M_isFirst_84 rfl ?_
                  refine g_if_ne (tgt := 106) d_M_isFirst_86 (by decide) (fun c_86 => ?_) (fun c_86 => ?_)
                  · skip
                    refine g_iinc d_M_isFirst_106 rfl ?_
                    refine g_goto (tgt := 11) d_M_isFirst_109 (by decide) ?_
                    rw [if_neg c_20, if_neg (Int32.not_le.mpr c_33), ea, eb]
                    have ha2 := nx1_b (one := one) (n := n) (a := a) (v := (fBit σ).1)
                    rw [ea] at ha2
                    first
                      | exact absurd c_86 (by decide)
                      | exact absurd (by decide) c_86
                      | exact absurd c_91 (by decide)
                      | exact absurd (by decide) c_91
                      | (rw [if_neg c_86]; exact e1 ▸ ih _ _ _ _ _ (by omega) ha2 hA.bit)
                      | (rw [if_pos c_86, if_neg c_91]; exact e1 ▸ ih _ _ _ _ _ (by omega) ha2 hA.bit)
                      | (rw [if_pos c_86, if_pos c_91]; exact e1 ▸ ih _ _ _ _ _ (by omega) ha2 hA.bit.fW)
                  · skip
                    refine g_iload d_M_isFirst_89 rfl ?_
                    refine g_if_ne (tgt := 106) d_M_isFirst_91 (by decide) (fun c_91 => ?_) (fun c_91 => ?_)
                    · skip
                      refine g_iinc d_M_isFirst_106 rfl ?_
                      refine g_goto (tgt := 11) d_M_isFirst_109 (by decide) ?_
                      rw [if_neg c_20, if_neg (Int32.not_le.mpr c_33), ea, eb]
                      have ha2 := nx1_b (one := one) (n := n) (a := a) (v := (fBit σ).1)
                      rw [ea] at ha2
                      first
                        | exact absurd c_86 (by decide)
                        | exact absurd (by decide) c_86
                        | exact absurd c_91 (by decide)
                        | exact absurd (by decide) c_91
                        | (rw [if_neg c_86]; exact e1 ▸ ih _ _ _ _ _ (by omega) ha2 hA.bit)
                        | (rw [if_pos c_86, if_neg c_91]; exact e1 ▸ ih _ _ _ _ _ (by omega) ha2 hA.bit)
                        | (rw [if_pos c_86, if_pos c_91]; exact e1 ▸ ih _ _ _ _ _ (by omega) ha2 hA.bit.fW)
                    · skip
                      refine g_aload_n d_M_isFirst_94 rfl rfl ?_
                      refine g_aload_n d_M_isFirst_95 rfl rfl ?_
                      refine g_get d_M_isFirst_96 fM_10 rfl ?_
                      refine g_iconst (v := nI 1) d_M_isFirst_99 (by decide) ?_
                      refine g_isub d_M_isFirst_100 ?_
                      refine g_calli (As := [_]) d_M_isFirst_101 lM_16 mv_M_isWrong rfl rfl rfl (Nat.le_of_ble_eq_true rfl) (by decide) (m_isWrong) ?_
                      refine g_istore d_M_isFirst_104 (Nat.le_of_ble_eq_true rfl) ?_
                      refine g_iinc d_M_isFirst_106 rfl ?_
                      refine g_goto (tgt := 11) d_M_isFirst_109 (by decide) ?_
                      rw [if_neg c_20, if_neg (Int32.not_le.mpr c_33), ea, eb]
                      have ha2 := nx1_b (one := one) (n := n) (a := a) (v := (fBit σ).1)
                      rw [ea] at ha2
                      first
                        | exact absurd c_86 (by decide)
                        | exact absurd (by decide) c_86
                        | exact absurd c_91 (by decide)
                        | exact absurd (by decide) c_91
                        | (rw [if_neg c_86]; exact e1 ▸ ih _ _ _ _ _ (by omega) ha2 hA.bit)
                        | (rw [if_pos c_86, if_neg c_91]; exact e1 ▸ ih _ _ _ _ _ (by omega) ha2 hA.bit)
                        | (rw [if_pos c_86, if_pos c_91]; exact e1 ▸ ih _ _ _ _ _ (by omega) ha2 hA.bit.fW)
            · skip
              refine g_iconst (v := nI 1) d_M_isFirst_54 (by decide) ?_
              refine g_goto (tgt := 59) d_M_isFirst_55 (by decide) ?_
              have ea : nx1 one n a (fBit σ).1 = nI 1 := by unfold nx1; first | rw [if_pos c_40] | rw [if_neg c_40, if_pos c_51] | rw [if_neg c_40, if_neg c_51]
              refine g_istore d_M_isFirst_59 (Nat.le_of_ble_eq_true rfl) ?_
              refine g_iload d_M_isFirst_61 rfl ?_
              refine g_if_eq (tgt := 81) d_M_isFirst_63 (by decide) (fun c_63 => ?_) (fun c_63 => ?_)
              · skip
                refine g_iconst (v := nI 0) d_M_isFirst_81 (by decide) ?_
                have eb : nx1 two n b (fBit σ).1 = nI 0 := by unfold nx1; first | rw [if_pos c_63] | rw [if_neg c_63, if_pos c_74] | rw [if_neg c_63, if_neg c_74]
                refine g_istore d_M_isFirst_82 (Nat.le_of_ble_eq_true rfl) ?_
                refine g_iload d_M_isFirst_84 rfl ?_
                refine g_if_ne (tgt := 106) d_M_isFirst_86 (by decide) (fun c_86 => ?_) (fun c_86 => ?_)
                · skip
                  refine g_iinc d_M_isFirst_106 rfl ?_
                  refine g_goto (tgt := 11) d_M_isFirst_109 (by decide) ?_
                  rw [if_neg c_20, if_neg (Int32.not_le.mpr c_33), ea, eb]
                  have ha2 := nx1_b (one := one) (n := n) (a := a) (v := (fBit σ).1)
                  rw [ea] at ha2
                  first
                    | exact absurd c_86 (by decide)
                    | exact absurd (by decide) c_86
                    | exact absurd c_91 (by decide)
                    | exact absurd (by decide) c_91
                    | (rw [if_neg c_86]; exact e1 ▸ ih _ _ _ _ _ (by omega) ha2 hA.bit)
                    | (rw [if_pos c_86, if_neg c_91]; exact e1 ▸ ih _ _ _ _ _ (by omega) ha2 hA.bit)
                    | (rw [if_pos c_86, if_pos c_91]; exact e1 ▸ ih _ _ _ _ _ (by omega) ha2 hA.bit.fW)
                · skip
                  refine g_iload d_M_isFirst_89 rfl ?_
                  refine g_if_ne (tgt := 106) d_M_isFirst_91 (by decide) (fun c_91 => ?_) (fun c_91 => ?_)
                  · skip
                    refine g_iinc d_M_isFirst_106 rfl ?_
                    refine g_goto (tgt := 11) d_M_isFirst_109 (by decide) ?_
                    rw [if_neg c_20, if_neg (Int32.not_le.mpr c_33), ea, eb]
                    have ha2 := nx1_b (one := one) (n := n) (a := a) (v := (fBit σ).1)
                    rw [ea] at ha2
                    first
                      | exact absurd c_86 (by decide)
                      | exact absurd (by decide) c_86
                      | exact absurd c_91 (by decide)
                      | exact absurd (by decide) c_91
                      | (rw [if_neg c_86]; exact e1 ▸ ih _ _ _ _ _ (by omega) ha2 hA.bit)
                      | (rw [if_pos c_86, if_neg c_91]; exact e1 ▸ ih _ _ _ _ _ (by omega) ha2 hA.bit)
                      | (rw [if_pos c_86, if_pos c_91]; exact e1 ▸ ih _ _ _ _ _ (by omega) ha2 hA.bit.fW)
                  · skip
                    refine g_aload_n d_M_isFirst_94 rfl rfl ?_
                    refine g_aload_n d_M_isFirst_95 rfl rfl ?_
                    refine g_get d_M_isFirst_96 fM_10 rfl ?_
                    refine g_iconst (v := nI 1) d_M_isFirst_99 (by decide) ?_
                    refine g_isub d_M_isFirst_100 ?_
                    refine g_calli (As := [_]) d_M_isFirst_101 lM_16 mv_M_isWrong rfl rfl rfl (Nat.le_of_ble_eq_true rfl) (by decide) (m_isWrong) ?_
                    refine g_istore d_M_isFirst_104 (Nat.le_of_ble_eq_true rfl) ?_
                    refine g_iinc d_M_isFirst_106 rfl ?_
                    refine g_goto (tgt := 11) d_M_isFirst_109 (by decide) ?_
                    rw [if_neg c_20, if_neg (Int32.not_le.mpr c_33), ea, eb]
                    have ha2 := nx1_b (one := one) (n := n) (a := a) (v := (fBit σ).1)
                    rw [ea] at ha2
                    first
                      | exact absurd c_86 (by decide)
                      | exact absurd (by decide) c_86
                      | exact absurd c_91 (by decide)
                      | exact absurd (by decide) c_91
                      | (rw [if_neg c_86]; exact e1 ▸ ih _ _ _ _ _ (by omega) ha2 hA.bit)
                      | (rw [if_pos c_86, if_neg c_91]; exact e1 ▸ ih _ _ _ _ _ (by omega) ha2 hA.bit)
                      | (rw [if_pos c_86, if_pos c_91]; exact e1 ▸ ih _ _ _ _ _ (by omega) ha2 hA.bit.fW)
              · skip
                refine g_iload_n d_M_isFirst_66 rfl rfl ?_
                refine g_iload d_M_isFirst_67 rfl ?_
                refine g_ishr d_M_isFirst_69 ?_
                refine g_iconst (v := nI 1) d_M_isFirst_70 (by decide) ?_
                refine g_iand d_M_isFirst_71 ?_
                refine g_iload d_M_isFirst_72 rfl ?_
                refine g_icmp_ne (tgt := 81) d_M_isFirst_74 (by decide) (fun c_74 => ?_) (fun c_74 => ?_)
                · skip
                  refine g_iconst (v := nI 0) d_M_isFirst_81 (by decide) ?_
                  have eb : nx1 two n b (fBit σ).1 = nI 0 := by unfold nx1; first | rw [if_pos c_63] | rw [if_neg c_63, if_pos c_74] | rw [if_neg c_63, if_neg c_74]
                  refine g_istore d_M_isFirst_82 (Nat.le_of_ble_eq_true rfl) ?_
                  refine g_iload d_M_isFirst_84 rfl ?_
                  refine g_if_ne (tgt := 106) d_M_isFirst_86 (by decide) (fun c_86 => ?_) (fun c_86 => ?_)
                  · skip
                    refine g_iinc d_M_isFirst_106 rfl ?_
                    refine g_goto (tgt := 11) d_M_isFirst_109 (by decide) ?_
                    rw [if_neg c_20, if_neg (Int32.not_le.mpr c_33), ea, eb]
                    have ha2 := nx1_b (one := one) (n := n) (a := a) (v := (fBit σ).1)
                    rw [ea] at ha2
                    first
                      | exact absurd c_86 (by decide)
                      | exact absurd (by decide) c_86
                      | exact absurd c_91 (by decide)
                      | exact absurd (by decide) c_91
                      | (rw [if_neg c_86]; exact e1 ▸ ih _ _ _ _ _ (by omega) ha2 hA.bit)
                      | (rw [if_pos c_86, if_neg c_91]; exact e1 ▸ ih _ _ _ _ _ (by omega) ha2 hA.bit)
                      | (rw [if_pos c_86, if_pos c_91]; exact e1 ▸ ih _ _ _ _ _ (by omega) ha2 hA.bit.fW)
                  · skip
                    refine g_iload d_M_isFirst_89 rfl ?_
                    refine g_if_ne (tgt := 106) d_M_isFirst_91 (by decide) (fun c_91 => ?_) (fun c_91 => ?_)
                    · skip
                      refine g_iinc d_M_isFirst_106 rfl ?_
                      refine g_goto (tgt := 11) d_M_isFirst_109 (by decide) ?_
                      rw [if_neg c_20, if_neg (Int32.not_le.mpr c_33), ea, eb]
                      have ha2 := nx1_b (one := one) (n := n) (a := a) (v := (fBit σ).1)
                      rw [ea] at ha2
                      first
                        | exact absurd c_86 (by decide)
                        | exact absurd (by decide) c_86
                        | exact absurd c_91 (by decide)
                        | exact absurd (by decide) c_91
                        | (rw [if_neg c_86]; exact e1 ▸ ih _ _ _ _ _ (by omega) ha2 hA.bit)
                        | (rw [if_pos c_86, if_neg c_91]; exact e1 ▸ ih _ _ _ _ _ (by omega) ha2 hA.bit)
                        | (rw [if_pos c_86, if_pos c_91]; exact e1 ▸ ih _ _ _ _ _ (by omega) ha2 hA.bit.fW)
                    · skip
                      refine g_aload_n d_M_isFirst_94 rfl rfl ?_
                      refine g_aload_n d_M_isFirst_95 rfl rfl ?_
                      refine g_get d_M_isFirst_96 fM_10 rfl ?_
                      refine g_iconst (v := nI 1) d_M_isFirst_99 (by decide) ?_
                      refine g_isub d_M_isFirst_100 ?_
                      refine g_calli (As := [_]) d_M_isFirst_101 lM_16 mv_M_isWrong rfl rfl rfl (Nat.le_of_ble_eq_true rfl) (by decide) (m_isWrong) ?_
                      refine g_istore d_M_isFirst_104 (Nat.le_of_ble_eq_true rfl) ?_
                      refine g_iinc d_M_isFirst_106 rfl ?_
                      refine g_goto (tgt := 11) d_M_isFirst_109 (by decide) ?_
                      rw [if_neg c_20, if_neg (Int32.not_le.mpr c_33), ea, eb]
                      have ha2 := nx1_b (one := one) (n := n) (a := a) (v := (fBit σ).1)
                      rw [ea] at ha2
                      first
                        | exact absurd c_86 (by decide)
                        | exact absurd (by decide) c_86
                        | exact absurd c_91 (by decide)
                        | exact absurd (by decide) c_91
                        | (rw [if_neg c_86]; exact e1 ▸ ih _ _ _ _ _ (by omega) ha2 hA.bit)
                        | (rw [if_pos c_86, if_neg c_91]; exact e1 ▸ ih _ _ _ _ _ (by omega) ha2 hA.bit)
                        | (rw [if_pos c_86, if_pos c_91]; exact e1 ▸ ih _ _ _ _ _ (by omega) ha2 hA.bit.fW)
                · skip
                  refine g_iconst (v := nI 1) d_M_isFirst_77 (by decide) ?_
                  refine g_goto (tgt := 82) d_M_isFirst_78 (by decide) ?_
                  have eb : nx1 two n b (fBit σ).1 = nI 1 := by unfold nx1; first | rw [if_pos c_63] | rw [if_neg c_63, if_pos c_74] | rw [if_neg c_63, if_neg c_74]
                  refine g_istore d_M_isFirst_82 (Nat.le_of_ble_eq_true rfl) ?_
                  refine g_iload d_M_isFirst_84 rfl ?_
                  refine g_if_ne (tgt := 106) d_M_isFirst_86 (by decide) (fun c_86 => ?_) (fun c_86 => ?_)
                  · skip
                    refine g_iinc d_M_isFirst_106 rfl ?_
                    refine g_goto (tgt := 11) d_M_isFirst_109 (by decide) ?_
                    rw [if_neg c_20, if_neg (Int32.not_le.mpr c_33), ea, eb]
                    have ha2 := nx1_b (one := one) (n := n) (a := a) (v := (fBit σ).1)
                    rw [ea] at ha2
                    first
                      | exact absurd c_86 (by decide)
                      | exact absurd (by decide) c_86
                      | exact absurd c_91 (by decide)
                      | exact absurd (by decide) c_91
                      | (rw [if_neg c_86]; exact e1 ▸ ih _ _ _ _ _ (by omega) ha2 hA.bit)
                      | (rw [if_pos c_86, if_neg c_91]; exact e1 ▸ ih _ _ _ _ _ (by omega) ha2 hA.bit)
                      | (rw [if_pos c_86, if_pos c_91]; exact e1 ▸ ih _ _ _ _ _ (by omega) ha2 hA.bit.fW)
                  · skip
                    refine g_iload d_M_isFirst_89 rfl ?_
                    refine g_if_ne (tgt := 106) d_M_isFirst_91 (by decide) (fun c_91 => ?_) (fun c_91 => ?_)
                    · skip
                      refine g_iinc d_M_isFirst_106 rfl ?_
                      refine g_goto (tgt := 11) d_M_isFirst_109 (by decide) ?_
                      rw [if_neg c_20, if_neg (Int32.not_le.mpr c_33), ea, eb]
                      have ha2 := nx1_b (one := one) (n := n) (a := a) (v := (fBit σ).1)
                      rw [ea] at ha2
                      first
                        | exact absurd c_86 (by decide)
                        | exact absurd (by decide) c_86
                        | exact absurd c_91 (by decide)
                        | exact absurd (by decide) c_91
                        | (rw [if_neg c_86]; exact e1 ▸ ih _ _ _ _ _ (by omega) ha2 hA.bit)
                        | (rw [if_pos c_86, if_neg c_91]; exact e1 ▸ ih _ _ _ _ _ (by omega) ha2 hA.bit)
                        | (rw [if_pos c_86, if_pos c_91]; exact e1 ▸ ih _ _ _ _ _ (by omega) ha2 hA.bit.fW)
                    · skip
                      refine g_aload_n d_M_isFirst_94 rfl rfl ?_
                      refine g_aload_n d_M_isFirst_95 rfl rfl ?_
                      refine g_get d_M_isFirst_96 fM_10 rfl ?_
                      refine g_iconst (v := nI 1) d_M_isFirst_99 (by decide) ?_
                      refine g_isub d_M_isFirst_100 ?_
                      refine g_calli (As := [_]) d_M_isFirst_101 lM_16 mv_M_isWrong rfl rfl rfl (Nat.le_of_ble_eq_true rfl) (by decide) (m_isWrong) ?_
                      refine g_istore d_M_isFirst_104 (Nat.le_of_ble_eq_true rfl) ?_
                      refine g_iinc d_M_isFirst_106 rfl ?_
                      refine g_goto (tgt := 11) d_M_isFirst_109 (by decide) ?_
                      rw [if_neg c_20, if_neg (Int32.not_le.mpr c_33), ea, eb]
                      have ha2 := nx1_b (one := one) (n := n) (a := a) (v := (fBit σ).1)
                      rw [ea] at ha2
                      first
                        | exact absurd c_86 (by decide)
                        | exact absurd (by decide) c_86
                        | exact absurd c_91 (by decide)
                        | exact absurd (by decide) c_91
                        | (rw [if_neg c_86]; exact e1 ▸ ih _ _ _ _ _ (by omega) ha2 hA.bit)
                        | (rw [if_pos c_86, if_neg c_91]; exact e1 ▸ ih _ _ _ _ _ (by omega) ha2 hA.bit)
                        | (rw [if_pos c_86, if_pos c_91]; exact e1 ▸ ih _ _ _ _ _ (by omega) ha2 hA.bit.fW)
        · skip
          refine g_iconst (v := nI 0) d_M_isFirst_36 (by decide) ?_
          refine g_iret d_M_isFirst_37 rfl rfl ?_
          rw [if_neg c_20, if_pos (Int32.not_lt.mp c_33)]
          exact ⟨rfl, rfl⟩

theorem m_isFirst {s0 : State} {l : Launch} {m : Nat} {σ : Sg} {one two : Int32} {n : Nat} (hA : okA σ) (hn : n < 2 ^ 31) : GC s0 l M_M_isFirst m [.int one, .int two, .int (nI n)] σ (fun r σ' => r = some (.int (fIF one two n (nI 1) (nI 1) σ).1) ∧ σ' = (fIF one two n (nI 1) (nI 1) σ).2) := by
  refine g_in (by decide) rfl rfl (Nat.le_of_ble_eq_true rfl) (fun hB => ?_)
  refine g_iconst (v := nI 1) d_M_isFirst_0 (by decide) ?_
  refine g_istore d_M_isFirst_1 (Nat.le_of_ble_eq_true rfl) ?_
  refine g_iconst (v := nI 1) d_M_isFirst_3 (by decide) ?_
  refine g_istore d_M_isFirst_4 (Nat.le_of_ble_eq_true rfl) ?_
  refine g_iload_n d_M_isFirst_6 rfl rfl ?_
  refine g_iconst (v := nI 1) d_M_isFirst_7 (by decide) ?_
  refine g_isub d_M_isFirst_8 ?_
  refine g_istore d_M_isFirst_9 (Nat.le_of_ble_eq_true rfl) ?_
  exact m_isFirst_l n _ _ none none σ hn (Or.inr rfl) hA

def fShd (σ : Sg) (k sh n : Nat) : Sg := sa σ 18 (fun j => if 6144 * sh ≤ j ∧ j < 6144 * sh + n then (σ k (j - 6144 * sh)).toInt8.toInt32 else σ 18 j)
def fSh (σ : Sg) (A B k sh : Nat) (a b c d : Int32) : Sg := su (if sh < 20 then su (su (su (su (fShd σ k sh (384 * A * B)) 19 (4 * sh) a) 19 (4 * sh + 1) b) 19 (4 * sh + 2) c) 19 (4 * sh + 3) d else σ) 22 0 (nI (sh + 1))
theorem fShd_0 {σ : Sg} {k sh : Nat} : fShd σ k sh 0 = σ := sa_self (fun j => by rw [if_neg (by omega)])
theorem fShd_s {σ : Sg} {k sh n : Nat} (hk : k ≠ 18) : su (fShd σ k sh n) 18 (6144 * sh + n) ((fShd σ k sh n k n).toInt8.toInt32.toInt8.toInt32) = fShd σ k sh (n + 1) := by
  have e : fShd σ k sh n k n = σ k n := sa_k hk
  rw [e]
  refine su_sa (fun j => ?_)
  by_cases h : j = 6144 * sh + n
  · rw [if_pos h, if_pos (by omega)]
    have e2 : j - 6144 * sh = n := by omega
    rw [e2]
    simp
  · rw [if_neg h]
    by_cases h2 : 6144 * sh ≤ j ∧ j < 6144 * sh + n
    · rw [if_pos h2, if_pos (by omega)]
    · rw [if_neg h2, if_neg (by omega)]
theorem m_shows_l {s0 : State} {l : Launch} {hB : Mem} {m A B k sh : Nat} {a b c d : Int32} {σ : Sg} {P : Option Value → Sg → Prop} (hD : okD σ A B) (hk : okK k) (hk2 : k ≠ 18) (hsh : σ 22 0 = nI sh) (h20 : sh < 20) (kk : GQ s0 l M_M_shows hB m 57 [some (.ref m), some (.ref (m + aOff k)), some (.int a), some (.int b), some (.int c), some (.int d), some (.int (nI (384 * A * B)))] [] (fShd σ k sh (384 * A * B)) P) : GQ s0 l M_M_shows hB m 12 [some (.ref m), some (.ref (m + aOff k)), some (.int a), some (.int b), some (.int c), some (.int d), some (.int (nI 0))] [] σ P := by
  have hab : 384 * A * B ≤ 6144 := by
    rw [Nat.mul_assoc]
    exact Nat.mul_le_mul_left 384 (Nat.mul_le_mul hD.2.2.2.1 hD.2.2.2.2.2)
  have key := g_loop (s0 := s0) (l := l) (M := M_M_shows) (hB := hB) (m := m) (pc := 12) (P := P) (384 * A * B) (fun i => fShd σ k sh i) (fun i => [some (.ref m), some (.ref (m + aOff k)), some (.int a), some (.int b), some (.int c), some (.int d), some (.int (nI i))]) (fun i hi ih => ?_) ?_ 0 (Nat.zero_le _)
  · rw [fShd_0] at key
    exact key
  · have hac : okD (fShd σ k sh i) A B := hD.eq (eqOn.sa (by decide))
    have h22 : fShd σ k sh i 22 0 = nI sh := hsh
    refine g_iload d_M_shows_12 rfl ?_
    refine g_sipush (v := nI 384) d_M_shows_14 (by decide) ?_
    refine g_aload_n d_M_shows_17 rfl rfl ?_
    refine g_getE d_M_shows_18 fM_35 rfl hac.1 ?_
    refine g_imulN d_M_shows_21  ?_
    refine g_aload_n d_M_shows_22 rfl rfl ?_
    refine g_getE d_M_shows_23 fM_38 rfl hac.2.1 ?_
    refine g_imulN d_M_shows_26  ?_
    refine g_icmp_ge (tgt := 57) d_M_shows_27 (by decide) (fun c_27 => ?_) (fun c_27 => ?_)
    · exact absurd ((nI_leI (by omega) (by omega)).mp c_27) (by omega)
    · skip
      refine g_aload_n d_M_shows_30 rfl rfl ?_
      refine g_getA d_M_shows_31 fM_44 (by decide) ?_
      refine g_sipush (v := nI 6144) d_M_shows_34 (by decide) ?_
      refine g_aload_n d_M_shows_37 rfl rfl ?_
      refine g_getE d_M_shows_38 fM_41 rfl h22 ?_
      refine g_imulN d_M_shows_41  ?_
      refine g_iload d_M_shows_42 rfl ?_
      refine g_iaddN d_M_shows_44  ?_
      refine g_aload_n d_M_shows_45 rfl rfl ?_
      refine g_iload d_M_shows_46 rfl ?_
      refine g_iaload (k := k) d_M_shows_48 rfl hk.1 hk.2.1 hk.2.2.1 (show vp_in (nI i) (aLen k) by rw [hk.2.2.2]; exact vp_in_nI (by omega) (by decide)) ?_
      refine g_i2b d_M_shows_49 ?_
      refine g_bastore (k := 18) d_M_shows_50 rfl (by decide) (by decide) rfl (vp_in_nI (by show 6144 * sh + i < 122880; omega) (by decide)) ?_
      first | refine g_iinc1 d_M_shows_51 rfl ?_ | refine g_iinc d_M_shows_51 rfl ?_
      refine g_goto (tgt := 12) d_M_shows_54 (by decide) ?_
      rw [nI_clamp (show i < 2 ^ 31 by omega), nI_clamp (show 6144 * sh + i < 2 ^ 31 by omega), fShd_s hk2]
      exact ih
  · have hac : okD (fShd σ k sh (384 * A * B)) A B := hD.eq (eqOn.sa (by decide))
    refine g_iload d_M_shows_12 rfl ?_
    refine g_sipush (v := nI 384) d_M_shows_14 (by decide) ?_
    refine g_aload_n d_M_shows_17 rfl rfl ?_
    refine g_getE d_M_shows_18 fM_35 rfl hac.1 ?_
    refine g_imulN d_M_shows_21  ?_
    refine g_aload_n d_M_shows_22 rfl rfl ?_
    refine g_getE d_M_shows_23 fM_38 rfl hac.2.1 ?_
    refine g_imulN d_M_shows_26  ?_
    refine g_icmp_ge (tgt := 57) d_M_shows_27 (by decide) (fun c_27 => ?_) (fun c_27 => ?_)
    · skip
      exact kk
    · exact absurd (nI_le (Nat.le_refl _) (by omega)) c_27

theorem m_shows {s0 : State} {l : Launch} {m : Nat} {σ : Sg} {A B k sh : Nat} {a b c d : Int32} (hD : okD σ A B) (hk : okK k) (hk2 : k ≠ 18) (hsh : σ 22 0 = nI sh) (hs2 : sh < 2 ^ 30) : GC s0 l M_M_shows m [.ref (m + aOff k), .int a, .int b, .int c, .int d] σ (fun r σ' => r = none ∧ σ' = fSh σ A B k sh a b c d) := by
  refine g_in (by decide) rfl rfl (Nat.le_of_ble_eq_true rfl) (fun hB => ?_)
  refine g_aload_n d_M_shows_0 rfl rfl ?_
  refine g_getE d_M_shows_1 fM_41 rfl hsh ?_
  refine g_bipush (v := nI 20) d_M_shows_4 (by decide) ?_
  refine g_icmp_ge (tgt := 113) d_M_shows_6 (by decide) (fun c_6 => ?_) (fun c_6 => ?_)
  · skip
    refine g_aload_n d_M_shows_113 rfl rfl ?_
    refine g_dup d_M_shows_114 rfl ?_
    refine g_getE d_M_shows_115 fM_41 rfl (show _ = nI sh from hsh) ?_
    refine g_iconst (v := nI 1) d_M_shows_118 (by decide) ?_
    refine g_iaddN d_M_shows_119  ?_
    refine g_put d_M_shows_120 fM_41 rfl rfl rfl rfl ?_
    refine g_vret d_M_shows_123 rfl ?_
    refine ⟨rfl, ?_⟩
    unfold fSh
    rw [if_neg (fun h9 => absurd c_6 (nI_ge h9 (by decide)))]
  · skip
    have h20 : sh < 20 := Nat.lt_of_not_le (fun h9 => c_6 (nI_le h9 (by omega)))
    refine g_iconst (v := nI 0) d_M_shows_9 (by decide) ?_
    refine g_istore d_M_shows_10 (Nat.le_of_ble_eq_true rfl) ?_
    refine m_shows_l hD hk hk2 hsh h20 ?_
    refine g_aload_n d_M_shows_57 rfl rfl ?_
    refine g_getA d_M_shows_58 fM_47 (by decide) ?_
    refine g_iconst (v := nI 4) d_M_shows_61 (by decide) ?_
    refine g_aload_n d_M_shows_62 rfl rfl ?_
    refine g_getE d_M_shows_63 fM_41 rfl (show _ = nI sh from hsh) ?_
    refine g_imulN d_M_shows_66  ?_
    refine g_iload_n d_M_shows_67 rfl rfl ?_
    refine g_iastore (k := 19) d_M_shows_68 rfl (by decide) (by decide) rfl (vp_in_nI (by show 4 * sh < 80; omega) (by decide)) ?_
    refine g_aload_n d_M_shows_69 rfl rfl ?_
    refine g_getA d_M_shows_70 fM_47 (by decide) ?_
    refine g_iconst (v := nI 4) d_M_shows_73 (by decide) ?_
    refine g_aload_n d_M_shows_74 rfl rfl ?_
    refine g_getE d_M_shows_75 fM_41 rfl (show _ = nI sh from hsh) ?_
    refine g_imulN d_M_shows_78  ?_
    refine g_iconst (v := nI 1) d_M_shows_79 (by decide) ?_
    refine g_iaddN d_M_shows_80  ?_
    refine g_iload_n d_M_shows_81 rfl rfl ?_
    refine g_iastore (k := 19) d_M_shows_82 rfl (by decide) (by decide) rfl (vp_in_nI (by show 4 * sh + 1 < 80; omega) (by decide)) ?_
    refine g_aload_n d_M_shows_83 rfl rfl ?_
    refine g_getA d_M_shows_84 fM_47 (by decide) ?_
    refine g_iconst (v := nI 4) d_M_shows_87 (by decide) ?_
    refine g_aload_n d_M_shows_88 rfl rfl ?_
    refine g_getE d_M_shows_89 fM_41 rfl (show _ = nI sh from hsh) ?_
    refine g_imulN d_M_shows_92  ?_
    refine g_iconst (v := nI 2) d_M_shows_93 (by decide) ?_
    refine g_iaddN d_M_shows_94  ?_
    refine g_iload d_M_shows_95 rfl ?_
    refine g_iastore (k := 19) d_M_shows_97 rfl (by decide) (by decide) rfl (vp_in_nI (by show 4 * sh + 2 < 80; omega) (by decide)) ?_
    refine g_aload_n d_M_shows_98 rfl rfl ?_
    refine g_getA d_M_shows_99 fM_47 (by decide) ?_
    refine g_iconst (v := nI 4) d_M_shows_102 (by decide) ?_
    refine g_aload_n d_M_shows_103 rfl rfl ?_
    refine g_getE d_M_shows_104 fM_41 rfl (show _ = nI sh from hsh) ?_
    refine g_imulN d_M_shows_107  ?_
    refine g_iconst (v := nI 3) d_M_shows_108 (by decide) ?_
    refine g_iaddN d_M_shows_109  ?_
    refine g_iload d_M_shows_110 rfl ?_
    refine g_iastore (k := 19) d_M_shows_112 rfl (by decide) (by decide) rfl (vp_in_nI (by show 4 * sh + 3 < 80; omega) (by decide)) ?_
    refine g_aload_n d_M_shows_113 rfl rfl ?_
    refine g_dup d_M_shows_114 rfl ?_
    refine g_getE d_M_shows_115 fM_41 rfl (show _ = nI sh from hsh) ?_
    refine g_iconst (v := nI 1) d_M_shows_118 (by decide) ?_
    refine g_iaddN d_M_shows_119  ?_
    refine g_put d_M_shows_120 fM_41 rfl rfl rfl rfl ?_
    refine g_vret d_M_shows_123 rfl ?_
    refine ⟨rfl, ?_⟩
    unfold fSh
    rw [if_pos h20, nI_clamp (by omega), nI_clamp (by omega), nI_clamp (by omega), nI_clamp (by omega)]

def fWv (k x : Nat) : Int32 := if x < 4 then wvT (4 * k + x) else if k % 2 = 1 then - wvT (4 * k + 7 - x) else wvT (4 * k + 7 - x)
theorem m_wave {s0 : State} {l : Launch} {h : Mem} {k x : Nat} (hk : k < 8) (hx : x < 8) (hW : WV s0 h) : CQ s0 l M_M_wave [.int (nI k), .int (nI x)] h (fun o h1 => o = .inl (some (.int (fWv k x))) ∧ h1 = h) := by
  refine c_in (by decide) rfl rfl (Nat.le_of_ble_eq_true rfl) ?_
  refine q_iload_n d_M_wave_0 rfl rfl ?_
  refine q_iconst (v := nI 4) d_M_wave_1 (by decide) ?_
  refine q_icmp_ge (tgt := 15) d_M_wave_2 (by decide) (fun c_2 => ?_) (fun c_2 => ?_)
  · skip
    have hx4 : ¬ x < 4 := fun h9 => absurd c_2 (nI_ge h9 (by decide))
    have e7 : nI 4 * nI k + nI 7 - nI x = nI (4 * k + 7 - x) := by rw [pk_mul, nI_add, pk_sub (by omega)]
    refine q_iload_n d_M_wave_15 rfl rfl ?_
    refine q_iconst (v := nI 2) d_M_wave_16 (by decide) ?_
    refine q_irem d_M_wave_17 (by decide) ?_
    refine q_iconst (v := nI 1) d_M_wave_18 (by decide) ?_
    refine q_icmp_ne (tgt := 38) d_M_wave_19 (by decide) (fun c_19 => ?_) (fun c_19 => ?_)
    · skip
      refine q_gets d_M_wave_38 (by decide) sM_129 ?_
      refine q_iconst (v := nI 4) d_M_wave_41 (by decide) ?_
      refine q_iload_n d_M_wave_42 rfl rfl ?_
      refine q_imul d_M_wave_43 ?_
      refine q_bipush (v := nI 7) d_M_wave_44 (by decide) ?_
      refine q_iadd d_M_wave_46 ?_
      refine q_iload_n d_M_wave_47 rfl rfl ?_
      refine q_isub d_M_wave_48 ?_
      refine q_iaload d_M_wave_49 (Or.inr hW.1) (by rw [hW.2.1, e7]; exact vp_in_nI (by omega) (by decide)) ?_
      refine q_iret d_M_wave_50 rfl rfl ?_
      refine ⟨?_, rfl⟩
      unfold fWv
      first
        | (show Sum.inl (some (Value.int (- mI h (sA s0 2) (nI 4 * nI k + nI 7 - nI x).toNatClampNeg))) = _
           have c1 : nI k - nI k / nI 2 * nI 2 = nI 1 := c_19
           rw [pk_rem (by omega) (by decide) (by decide)] at c1
           rw [if_neg hx4, if_pos ((nI_eq (by omega) (by decide)).mp c1), e7, nI_clamp (by omega), hW.2.2 _ (by omega)])
        | (show Sum.inl (some (Value.int (mI h (sA s0 2) (nI 4 * nI k + nI 7 - nI x).toNatClampNeg))) = _
           have c1 : ¬ nI k - nI k / nI 2 * nI 2 = nI 1 := c_19
           rw [pk_rem (by omega) (by decide) (by decide)] at c1
           rw [if_neg hx4, if_neg (fun h9 => c1 (by rw [h9])), e7, nI_clamp (by omega), hW.2.2 _ (by omega)])
    · skip
      refine q_gets d_M_wave_22 (by decide) sM_129 ?_
      refine q_iconst (v := nI 4) d_M_wave_25 (by decide) ?_
      refine q_iload_n d_M_wave_26 rfl rfl ?_
      refine q_imul d_M_wave_27 ?_
      refine q_bipush (v := nI 7) d_M_wave_28 (by decide) ?_
      refine q_iadd d_M_wave_30 ?_
      refine q_iload_n d_M_wave_31 rfl rfl ?_
      refine q_isub d_M_wave_32 ?_
      refine q_iaload d_M_wave_33 (Or.inr hW.1) (by rw [hW.2.1, e7]; exact vp_in_nI (by omega) (by decide)) ?_
      refine q_ineg d_M_wave_34 ?_
      refine q_goto (tgt := 50) d_M_wave_35 (by decide) ?_
      refine q_iret d_M_wave_50 rfl rfl ?_
      refine ⟨?_, rfl⟩
      unfold fWv
      first
        | (show Sum.inl (some (Value.int (- mI h (sA s0 2) (nI 4 * nI k + nI 7 - nI x).toNatClampNeg))) = _
           have c1 : nI k - nI k / nI 2 * nI 2 = nI 1 := c_19
           rw [pk_rem (by omega) (by decide) (by decide)] at c1
           rw [if_neg hx4, if_pos ((nI_eq (by omega) (by decide)).mp c1), e7, nI_clamp (by omega), hW.2.2 _ (by omega)])
        | (show Sum.inl (some (Value.int (mI h (sA s0 2) (nI 4 * nI k + nI 7 - nI x).toNatClampNeg))) = _
           have c1 : ¬ nI k - nI k / nI 2 * nI 2 = nI 1 := c_19
           rw [pk_rem (by omega) (by decide) (by decide)] at c1
           rw [if_neg hx4, if_neg (fun h9 => c1 (by rw [h9])), e7, nI_clamp (by omega), hW.2.2 _ (by omega)])
  · skip
    have hx4 : x < 4 := Nat.lt_of_not_le (fun h9 => c_2 (nI_le h9 (by omega)))
    refine q_gets d_M_wave_5 (by decide) sM_129 ?_
    refine q_iconst (v := nI 4) d_M_wave_8 (by decide) ?_
    refine q_iload_n d_M_wave_9 rfl rfl ?_
    refine q_imul d_M_wave_10 ?_
    refine q_iload_n d_M_wave_11 rfl rfl ?_
    refine q_iadd d_M_wave_12 ?_
    refine q_iaload d_M_wave_13 (Or.inr hW.1) (by rw [hW.2.1, pk_mul, nI_add]; exact vp_in_nI (by omega) (by decide)) ?_
    refine q_iret d_M_wave_14 rfl rfl ?_
    refine ⟨?_, rfl⟩
    show Sum.inl (some (Value.int (mI h (sA s0 2) (nI 4 * nI k + nI x).toNatClampNeg))) = _
    unfold fWv
    rw [if_pos hx4, pk_mul, nI_add, nI_clamp (by omega), hW.2.2 _ (by omega)]
def fFac (σ : Sg) (pl : Nat) (lv : Int32) : Int32 := if lv = 0 then nI 0 else
  hel (if σ 32 0 = 0 then (if 0 < lv then nI 2 * lv + nI 1 else nI 2 * lv - nI 1) * σ 35 0 else lv * nI (if 8 + 2 * (pl / 8 + pl % 8) ≤ 38 then 8 + 2 * (pl / 8 + pl % 8) else 38) * σ 35 0 / nI 8) (-2048) (nI 2047)
theorem m_factor {s0 : State} {l : Launch} {m : Nat} {σ : Sg} {pl : Nat} {lv : Int32} (hp : pl < 64) : GC s0 l M_M_factor m [.int (nI pl), .int lv] σ (fun r σ' => r = some (.int (fFac σ pl lv)) ∧ σ' = σ) := by
  refine g_in (by decide) rfl rfl (Nat.le_of_ble_eq_true rfl) (fun hB => ?_)
  refine g_iload_n d_M_factor_0 rfl rfl ?_
  refine g_if_ne (tgt := 6) d_M_factor_1 (by decide) (fun c_1 => ?_) (fun c_1 => ?_)
  · skip
    refine g_bipush (v := nI 8) d_M_factor_6 (by decide) ?_
    refine g_iconst (v := nI 2) d_M_factor_8 (by decide) ?_
    refine g_iload_n d_M_factor_9 rfl rfl ?_
    refine g_bipush (v := nI 8) d_M_factor_10 (by decide) ?_
    refine g_idivN d_M_factor_12 (by omega) ?_
    refine g_iload_n d_M_factor_13 rfl rfl ?_
    refine g_bipush (v := nI 8) d_M_factor_14 (by decide) ?_
    refine g_iremN d_M_factor_16 (by omega) ?_
    refine g_iaddN d_M_factor_17  ?_
    refine g_imulN d_M_factor_18  ?_
    refine g_iaddN d_M_factor_19  ?_
    refine g_istore_n d_M_factor_20 rfl (Nat.le_of_ble_eq_true rfl) ?_
    refine g_aload_n d_M_factor_21 rfl rfl ?_
    refine g_get d_M_factor_22 fM_132 rfl ?_
    refine g_if_eq (tgt := 53) d_M_factor_25 (by decide) (fun c_25 => ?_) (fun c_25 => ?_)
    · skip
      refine g_iload_n d_M_factor_53 rfl rfl ?_
      refine g_if_le (tgt := 65) d_M_factor_54 (by decide) (fun c_54 => ?_) (fun c_54 => ?_)
      · skip
        refine g_iconst (v := nI 2) d_M_factor_65 (by decide) ?_
        refine g_iload_n d_M_factor_66 rfl rfl ?_
        refine g_imul d_M_factor_67 ?_
        refine g_iconst (v := nI 1) d_M_factor_68 (by decide) ?_
        refine g_isub d_M_factor_69 ?_
        refine g_aload_n d_M_factor_70 rfl rfl ?_
        refine g_get d_M_factor_71 fM_135 rfl ?_
        refine g_imul d_M_factor_74 ?_
        refine g_istore d_M_factor_75 (Nat.le_of_ble_eq_true rfl) ?_
        refine g_iload d_M_factor_77 rfl ?_
        refine g_sipush (v := (-2048)) d_M_factor_79 (by decide) ?_
        refine g_sipush (v := nI 2047) d_M_factor_82 (by decide) ?_
        refine g_calls (As := [_, _, _]) d_M_factor_85 lM_138 ms_M_held rfl rfl rfl (Nat.le_of_ble_eq_true rfl) (by decide) (fun h hW => m_M_held) ?_
        refine g_iret d_M_factor_88 rfl rfl ?_
        refine ⟨?_, rfl⟩
        unfold fFac
        rw [if_neg c_1]
        first
          | rw [if_pos c_25, if_pos (Int32.not_le.mp c_54)]
          | rw [if_pos c_25, if_neg (Int32.not_lt.mpr c_54)]
          | rw [if_neg c_25, if_pos ((nI_leI (by omega) (by decide)).mp c_32)]
          | rw [if_neg c_25, if_neg (fun h9 => c_32 (nI_le h9 (by decide)))]
      · skip
        refine g_iconst (v := nI 2) d_M_factor_57 (by decide) ?_
        refine g_iload_n d_M_factor_58 rfl rfl ?_
        refine g_imul d_M_factor_59 ?_
        refine g_iconst (v := nI 1) d_M_factor_60 (by decide) ?_
        refine g_iadd d_M_factor_61 ?_
        refine g_goto (tgt := 70) d_M_factor_62 (by decide) ?_
        refine g_aload_n d_M_factor_70 rfl rfl ?_
        refine g_get d_M_factor_71 fM_135 rfl ?_
        refine g_imul d_M_factor_74 ?_
        refine g_istore d_M_factor_75 (Nat.le_of_ble_eq_true rfl) ?_
        refine g_iload d_M_factor_77 rfl ?_
        refine g_sipush (v := (-2048)) d_M_factor_79 (by decide) ?_
        refine g_sipush (v := nI 2047) d_M_factor_82 (by decide) ?_
        refine g_calls (As := [_, _, _]) d_M_factor_85 lM_138 ms_M_held rfl rfl rfl (Nat.le_of_ble_eq_true rfl) (by decide) (fun h hW => m_M_held) ?_
        refine g_iret d_M_factor_88 rfl rfl ?_
        refine ⟨?_, rfl⟩
        unfold fFac
        rw [if_neg c_1]
        first
          | rw [if_pos c_25, if_pos (Int32.not_le.mp c_54)]
          | rw [if_pos c_25, if_neg (Int32.not_lt.mpr c_54)]
          | rw [if_neg c_25, if_pos ((nI_leI (by omega) (by decide)).mp c_32)]
          | rw [if_neg c_25, if_neg (fun h9 => c_32 (nI_le h9 (by decide)))]
    · skip
      refine g_iload_n d_M_factor_28 rfl rfl ?_
      refine g_iload_n d_M_factor_29 rfl rfl ?_
      refine g_bipush (v := nI 38) d_M_factor_30 (by decide) ?_
      refine g_icmp_le (tgt := 40) d_M_factor_32 (by decide) (fun c_32 => ?_) (fun c_32 => ?_)
      · skip
        refine g_iload_n d_M_factor_40 rfl rfl ?_
        refine g_imul d_M_factor_41 ?_
        refine g_aload_n d_M_factor_42 rfl rfl ?_
        refine g_get d_M_factor_43 fM_135 rfl ?_
        refine g_imul d_M_factor_46 ?_
        refine g_bipush (v := nI 8) d_M_factor_47 (by decide) ?_
        refine g_idiv d_M_factor_49 (by decide) ?_
        refine g_goto (tgt := 75) d_M_factor_50 (by decide) ?_
        refine g_istore d_M_factor_75 (Nat.le_of_ble_eq_true rfl) ?_
        refine g_iload d_M_factor_77 rfl ?_
        refine g_sipush (v := (-2048)) d_M_factor_79 (by decide) ?_
        refine g_sipush (v := nI 2047) d_M_factor_82 (by decide) ?_
        refine g_calls (As := [_, _, _]) d_M_factor_85 lM_138 ms_M_held rfl rfl rfl (Nat.le_of_ble_eq_true rfl) (by decide) (fun h hW => m_M_held) ?_
        refine g_iret d_M_factor_88 rfl rfl ?_
        refine ⟨?_, rfl⟩
        unfold fFac
        rw [if_neg c_1]
        first
          | rw [if_pos c_25, if_pos (Int32.not_le.mp c_54)]
          | rw [if_pos c_25, if_neg (Int32.not_lt.mpr c_54)]
          | rw [if_neg c_25, if_pos ((nI_leI (by omega) (by decide)).mp c_32)]
          | rw [if_neg c_25, if_neg (fun h9 => c_32 (nI_le h9 (by decide)))]
      · skip
        refine g_bipush (v := nI 38) d_M_factor_35 (by decide) ?_
        refine g_goto (tgt := 41) d_M_factor_37 (by decide) ?_
        refine g_imul d_M_factor_41 ?_
        refine g_aload_n d_M_factor_42 rfl rfl ?_
        refine g_get d_M_factor_43 fM_135 rfl ?_
        refine g_imul d_M_factor_46 ?_
        refine g_bipush (v := nI 8) d_M_factor_47 (by decide) ?_
        refine g_idiv d_M_factor_49 (by decide) ?_
        refine g_goto (tgt := 75) d_M_factor_50 (by decide) ?_
        refine g_istore d_M_factor_75 (Nat.le_of_ble_eq_true rfl) ?_
        refine g_iload d_M_factor_77 rfl ?_
        refine g_sipush (v := (-2048)) d_M_factor_79 (by decide) ?_
        refine g_sipush (v := nI 2047) d_M_factor_82 (by decide) ?_
        refine g_calls (As := [_, _, _]) d_M_factor_85 lM_138 ms_M_held rfl rfl rfl (Nat.le_of_ble_eq_true rfl) (by decide) (fun h hW => m_M_held) ?_
        refine g_iret d_M_factor_88 rfl rfl ?_
        refine ⟨?_, rfl⟩
        unfold fFac
        rw [if_neg c_1]
        first
          | rw [if_pos c_25, if_pos (Int32.not_le.mp c_54)]
          | rw [if_pos c_25, if_neg (Int32.not_lt.mpr c_54)]
          | rw [if_neg c_25, if_pos ((nI_leI (by omega) (by decide)).mp c_32)]
          | rw [if_neg c_25, if_neg (fun h9 => c_32 (nI_le h9 (by decide)))]
  · skip
    refine g_iconst (v := nI 0) d_M_factor_4 (by decide) ?_
    refine g_iret d_M_factor_5 rfl rfl ?_
    unfold fFac
    rw [if_pos c_1]
    exact ⟨rfl, rfl⟩
end
