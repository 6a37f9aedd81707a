section
-- ===== PART A: goes FIRST, ahead of the names: the tables' words, and 'selects' of the private methods out of them =====
/-- a private method of a class that the tables say can be made, by its rows of tables_1 -/
def lw_okq (q : MethodName × Nat) : Prop := (q.1.cls ≠ "java/lang/invoke/MethodHandle" ∧ q.1.cls ≠ "java/lang/invoke/VarHandle") ∧ Cond.instantiable q.1.cls q.2 ∈ tables_1 ∧ Cond.privateMethod q.1 ∈ tables_1 ∧ Cond.instanceMethod q.1 ∈ tables_1
theorem lw_p0 : lw_okq (⟨"ReelReader$Tape", "appendBit", "(I)V"⟩, 4) := ⟨⟨by decide +kernel, by decide +kernel⟩, List.mem_of_getElem? (i := 26) (by decide +kernel), List.mem_of_getElem? (i := 211) (by decide +kernel), List.mem_of_getElem? (i := 212) (by decide +kernel)⟩
theorem lw_p1 : lw_okq (⟨"java/lang/Throwable", "fillInStackTrace", "(I)Ljava/lang/Throwable;"⟩, 6) := ⟨⟨by decide +kernel, by decide +kernel⟩, List.mem_of_getElem? (i := 289) (by decide +kernel), List.mem_of_getElem? (i := 287) (by decide +kernel), List.mem_of_getElem? (i := 288) (by decide +kernel)⟩
theorem lw_p2 : lw_okq (⟨"ReelReader$StreamReader", "readHead", "()V"⟩, 10) := ⟨⟨by decide +kernel, by decide +kernel⟩, List.mem_of_getElem? (i := 127) (by decide +kernel), List.mem_of_getElem? (i := 340) (by decide +kernel), List.mem_of_getElem? (i := 341) (by decide +kernel)⟩
theorem lw_p3 : lw_okq (⟨"ReelReader$StreamReader", "passOver", "(II)I"⟩, 10) := ⟨⟨by decide +kernel, by decide +kernel⟩, List.mem_of_getElem? (i := 127) (by decide +kernel), List.mem_of_getElem? (i := 362) (by decide +kernel), List.mem_of_getElem? (i := 363) (by decide +kernel)⟩
theorem lw_p4 : lw_okq (⟨"ReelReader$StreamReader", "mostPassedInB", "(I)I"⟩, 10) := ⟨⟨by decide +kernel, by decide +kernel⟩, List.mem_of_getElem? (i := 127) (by decide +kernel), List.mem_of_getElem? (i := 366) (by decide +kernel), List.mem_of_getElem? (i := 367) (by decide +kernel)⟩
theorem lw_p5 : lw_okq (⟨"ReelReader$StreamReader", "foretellSquare", "(II)V"⟩, 10) := ⟨⟨by decide +kernel, by decide +kernel⟩, List.mem_of_getElem? (i := 127) (by decide +kernel), List.mem_of_getElem? (i := 374) (by decide +kernel), List.mem_of_getElem? (i := 375) (by decide +kernel)⟩
theorem lw_p6 : lw_okq (⟨"ReelReader$StreamReader", "forgetDcs", "()V"⟩, 10) := ⟨⟨by decide +kernel, by decide +kernel⟩, List.mem_of_getElem? (i := 127) (by decide +kernel), List.mem_of_getElem? (i := 378) (by decide +kernel), List.mem_of_getElem? (i := 379) (by decide +kernel)⟩
theorem lw_p7 : lw_okq (⟨"ReelReader$StreamReader", "forgetVectors", "()V"⟩, 10) := ⟨⟨by decide +kernel, by decide +kernel⟩, List.mem_of_getElem? (i := 127) (by decide +kernel), List.mem_of_getElem? (i := 383) (by decide +kernel), List.mem_of_getElem? (i := 384) (by decide +kernel)⟩
theorem lw_p8 : lw_okq (⟨"ReelReader$Plane", "foretellLine", "(LReelReader$Plane;IIIZ)V"⟩, 4) := ⟨⟨by decide +kernel, by decide +kernel⟩, List.mem_of_getElem? (i := 62) (by decide +kernel), List.mem_of_getElem? (i := 394) (by decide +kernel), List.mem_of_getElem? (i := 395) (by decide +kernel)⟩
theorem lw_p9 : lw_okq (⟨"ReelReader$StreamReader", "readSquare", "(I)V"⟩, 10) := ⟨⟨by decide +kernel, by decide +kernel⟩, List.mem_of_getElem? (i := 127) (by decide +kernel), List.mem_of_getElem? (i := 401) (by decide +kernel), List.mem_of_getElem? (i := 402) (by decide +kernel)⟩
theorem lw_p10 : lw_okq (⟨"ReelReader$StreamReader", "readWays", "()I"⟩, 10) := ⟨⟨by decide +kernel, by decide +kernel⟩, List.mem_of_getElem? (i := 127) (by decide +kernel), List.mem_of_getElem? (i := 405) (by decide +kernel), List.mem_of_getElem? (i := 406) (by decide +kernel)⟩
theorem lw_p11 : lw_okq (⟨"ReelReader$StreamReader", "readVector", "([I)V"⟩, 10) := ⟨⟨by decide +kernel, by decide +kernel⟩, List.mem_of_getElem? (i := 127) (by decide +kernel), List.mem_of_getElem? (i := 409) (by decide +kernel), List.mem_of_getElem? (i := 410) (by decide +kernel)⟩
theorem lw_p12 : lw_okq (⟨"ReelReader$StreamReader", "readBlock", "(IZ)V"⟩, 10) := ⟨⟨by decide +kernel, by decide +kernel⟩, List.mem_of_getElem? (i := 127) (by decide +kernel), List.mem_of_getElem? (i := 419) (by decide +kernel), List.mem_of_getElem? (i := 420) (by decide +kernel)⟩
theorem lw_p13 : lw_okq (⟨"ReelReader$Block", "put", "(II)V"⟩, 4) := ⟨⟨by decide +kernel, by decide +kernel⟩, List.mem_of_getElem? (i := 133) (by decide +kernel), List.mem_of_getElem? (i := 432) (by decide +kernel), List.mem_of_getElem? (i := 433) (by decide +kernel)⟩
theorem lw_p14 : lw_okq (⟨"ReelReader$StreamReader", "drawBlock", "(IIZ)V"⟩, 10) := ⟨⟨by decide +kernel, by decide +kernel⟩, List.mem_of_getElem? (i := 127) (by decide +kernel), List.mem_of_getElem? (i := 446) (by decide +kernel), List.mem_of_getElem? (i := 447) (by decide +kernel)⟩
theorem lw_p15 : lw_okq (⟨"ReelReader$Block", "addRow", "(I)V"⟩, 4) := ⟨⟨by decide +kernel, by decide +kernel⟩, List.mem_of_getElem? (i := 133) (by decide +kernel), List.mem_of_getElem? (i := 454) (by decide +kernel), List.mem_of_getElem? (i := 455) (by decide +kernel)⟩
def lw_privs_1 : List (MethodName × Nat) := [(⟨"ReelReader$Tape", "appendBit", "(I)V"⟩, 4), (⟨"java/lang/Throwable", "fillInStackTrace", "(I)Ljava/lang/Throwable;"⟩, 6), (⟨"ReelReader$StreamReader", "readHead", "()V"⟩, 10), (⟨"ReelReader$StreamReader", "passOver", "(II)I"⟩, 10), (⟨"ReelReader$StreamReader", "mostPassedInB", "(I)I"⟩, 10), (⟨"ReelReader$StreamReader", "foretellSquare", "(II)V"⟩, 10), (⟨"ReelReader$StreamReader", "forgetDcs", "()V"⟩, 10), (⟨"ReelReader$StreamReader", "forgetVectors", "()V"⟩, 10), (⟨"ReelReader$Plane", "foretellLine", "(LReelReader$Plane;IIIZ)V"⟩, 4), (⟨"ReelReader$StreamReader", "readSquare", "(I)V"⟩, 10), (⟨"ReelReader$StreamReader", "readWays", "()I"⟩, 10), (⟨"ReelReader$StreamReader", "readVector", "([I)V"⟩, 10), (⟨"ReelReader$StreamReader", "readBlock", "(IZ)V"⟩, 10), (⟨"ReelReader$Block", "put", "(II)V"⟩, 4), (⟨"ReelReader$StreamReader", "drawBlock", "(IIZ)V"⟩, 10), (⟨"ReelReader$Block", "addRow", "(I)V"⟩, 4)]
theorem lw_r1 : ∀ q ∈ lw_privs_1, lw_okq q := List.forall_mem_cons.mpr ⟨lw_p0, List.forall_mem_cons.mpr ⟨lw_p1, List.forall_mem_cons.mpr ⟨lw_p2, List.forall_mem_cons.mpr ⟨lw_p3, List.forall_mem_cons.mpr ⟨lw_p4, List.forall_mem_cons.mpr ⟨lw_p5, List.forall_mem_cons.mpr ⟨lw_p6, List.forall_mem_cons.mpr ⟨lw_p7, List.forall_mem_cons.mpr ⟨lw_p8, List.forall_mem_cons.mpr ⟨lw_p9, List.forall_mem_cons.mpr ⟨lw_p10, List.forall_mem_cons.mpr ⟨lw_p11, List.forall_mem_cons.mpr ⟨lw_p12, List.forall_mem_cons.mpr ⟨lw_p13, List.forall_mem_cons.mpr ⟨lw_p14, List.forall_mem_cons.mpr ⟨lw_p15, fun _ h => absurd h List.not_mem_nil⟩⟩⟩⟩⟩⟩⟩⟩⟩⟩⟩⟩⟩⟩⟩⟩
theorem lw_p16 : lw_okq (⟨"ReelReader$Reel", "show", "(LReelReader$Picture;)V"⟩, 8) := ⟨⟨by decide +kernel, by decide +kernel⟩, List.mem_of_getElem? (i := 48) (by decide +kernel), List.mem_of_getElem? (i := 468) (by decide +kernel), List.mem_of_getElem? (i := 469) (by decide +kernel)⟩
theorem lw_p17 : lw_okq (⟨"ReelReaderModel", "taped", "()I"⟩, 43) := ⟨⟨by decide +kernel, by decide +kernel⟩, List.mem_of_getElem? (i := 549) (by decide +kernel), List.mem_of_getElem? (i := 690) (by decide +kernel), List.mem_of_getElem? (i := 691) (by decide +kernel)⟩
theorem lw_p18 : lw_okq (⟨"ReelReaderModel", "stream", "()V"⟩, 43) := ⟨⟨by decide +kernel, by decide +kernel⟩, List.mem_of_getElem? (i := 549) (by decide +kernel), List.mem_of_getElem? (i := 706) (by decide +kernel), List.mem_of_getElem? (i := 707) (by decide +kernel)⟩
theorem lw_p19 : lw_okq (⟨"ReelReaderModel", "isFirst", "(III)Z"⟩, 43) := ⟨⟨by decide +kernel, by decide +kernel⟩, List.mem_of_getElem? (i := 549) (by decide +kernel), List.mem_of_getElem? (i := 710) (by decide +kernel), List.mem_of_getElem? (i := 711) (by decide +kernel)⟩
theorem lw_p20 : lw_okq (⟨"ReelReaderModel", "bit", "()I"⟩, 43) := ⟨⟨by decide +kernel, by decide +kernel⟩, List.mem_of_getElem? (i := 549) (by decide +kernel), List.mem_of_getElem? (i := 714) (by decide +kernel), List.mem_of_getElem? (i := 715) (by decide +kernel)⟩
theorem lw_p21 : lw_okq (⟨"ReelReaderModel", "isWrong", "(I)Z"⟩, 43) := ⟨⟨by decide +kernel, by decide +kernel⟩, List.mem_of_getElem? (i := 549) (by decide +kernel), List.mem_of_getElem? (i := 718) (by decide +kernel), List.mem_of_getElem? (i := 719) (by decide +kernel)⟩
theorem lw_p22 : lw_okq (⟨"ReelReaderModel", "number", "(I)I"⟩, 43) := ⟨⟨by decide +kernel, by decide +kernel⟩, List.mem_of_getElem? (i := 549) (by decide +kernel), List.mem_of_getElem? (i := 722) (by decide +kernel), List.mem_of_getElem? (i := 723) (by decide +kernel)⟩
theorem lw_p23 : lw_okq (⟨"ReelReaderModel", "align", "()V"⟩, 43) := ⟨⟨by decide +kernel, by decide +kernel⟩, List.mem_of_getElem? (i := 549) (by decide +kernel), List.mem_of_getElem? (i := 726) (by decide +kernel), List.mem_of_getElem? (i := 727) (by decide +kernel)⟩
theorem lw_p24 : lw_okq (⟨"ReelReaderModel", "picture", "()Z"⟩, 43) := ⟨⟨by decide +kernel, by decide +kernel⟩, List.mem_of_getElem? (i := 549) (by decide +kernel), List.mem_of_getElem? (i := 730) (by decide +kernel), List.mem_of_getElem? (i := 731) (by decide +kernel)⟩
theorem lw_p25 : lw_okq (⟨"ReelReaderModel", "numberAbove", "(I)I"⟩, 43) := ⟨⟨by decide +kernel, by decide +kernel⟩, List.mem_of_getElem? (i := 549) (by decide +kernel), List.mem_of_getElem? (i := 734) (by decide +kernel), List.mem_of_getElem? (i := 735) (by decide +kernel)⟩
theorem lw_p26 : lw_okq (⟨"ReelReaderModel", "allSquares", "()Z"⟩, 43) := ⟨⟨by decide +kernel, by decide +kernel⟩, List.mem_of_getElem? (i := 549) (by decide +kernel), List.mem_of_getElem? (i := 738) (by decide +kernel), List.mem_of_getElem? (i := 739) (by decide +kernel)⟩
theorem lw_p27 : lw_okq (⟨"ReelReaderModel", "readU", "()I"⟩, 43) := ⟨⟨by decide +kernel, by decide +kernel⟩, List.mem_of_getElem? (i := 549) (by decide +kernel), List.mem_of_getElem? (i := 742) (by decide +kernel), List.mem_of_getElem? (i := 743) (by decide +kernel)⟩
theorem lw_p28 : lw_okq (⟨"ReelReaderModel", "passes", "(III)Z"⟩, 43) := ⟨⟨by decide +kernel, by decide +kernel⟩, List.mem_of_getElem? (i := 549) (by decide +kernel), List.mem_of_getElem? (i := 746) (by decide +kernel), List.mem_of_getElem? (i := 747) (by decide +kernel)⟩
theorem lw_p29 : lw_okq (⟨"ReelReaderModel", "begins", "()V"⟩, 43) := ⟨⟨by decide +kernel, by decide +kernel⟩, List.mem_of_getElem? (i := 549) (by decide +kernel), List.mem_of_getElem? (i := 750) (by decide +kernel), List.mem_of_getElem? (i := 751) (by decide +kernel)⟩
theorem lw_p30 : lw_okq (⟨"ReelReaderModel", "resetDcs", "()V"⟩, 43) := ⟨⟨by decide +kernel, by decide +kernel⟩, List.mem_of_getElem? (i := 549) (by decide +kernel), List.mem_of_getElem? (i := 754) (by decide +kernel), List.mem_of_getElem? (i := 755) (by decide +kernel)⟩
theorem lw_p31 : lw_okq (⟨"ReelReaderModel", "resetVectors", "()V"⟩, 43) := ⟨⟨by decide +kernel, by decide +kernel⟩, List.mem_of_getElem? (i := 549) (by decide +kernel), List.mem_of_getElem? (i := 758) (by decide +kernel), List.mem_of_getElem? (i := 759) (by decide +kernel)⟩
def lw_privs_2 : List (MethodName × Nat) := [(⟨"ReelReader$Reel", "show", "(LReelReader$Picture;)V"⟩, 8), (⟨"ReelReaderModel", "taped", "()I"⟩, 43), (⟨"ReelReaderModel", "stream", "()V"⟩, 43), (⟨"ReelReaderModel", "isFirst", "(III)Z"⟩, 43), (⟨"ReelReaderModel", "bit", "()I"⟩, 43), (⟨"ReelReaderModel", "isWrong", "(I)Z"⟩, 43), (⟨"ReelReaderModel", "number", "(I)I"⟩, 43), (⟨"ReelReaderModel", "align", "()V"⟩, 43), (⟨"ReelReaderModel", "picture", "()Z"⟩, 43), (⟨"ReelReaderModel", "numberAbove", "(I)I"⟩, 43), (⟨"ReelReaderModel", "allSquares", "()Z"⟩, 43), (⟨"ReelReaderModel", "readU", "()I"⟩, 43), (⟨"ReelReaderModel", "passes", "(III)Z"⟩, 43), (⟨"ReelReaderModel", "begins", "()V"⟩, 43), (⟨"ReelReaderModel", "resetDcs", "()V"⟩, 43), (⟨"ReelReaderModel", "resetVectors", "()V"⟩, 43)]
theorem lw_r2 : ∀ q ∈ lw_privs_2, lw_okq q := List.forall_mem_cons.mpr ⟨lw_p16, List.forall_mem_cons.mpr ⟨lw_p17, List.forall_mem_cons.mpr ⟨lw_p18, List.forall_mem_cons.mpr ⟨lw_p19, List.forall_mem_cons.mpr ⟨lw_p20, List.forall_mem_cons.mpr ⟨lw_p21, List.forall_mem_cons.mpr ⟨lw_p22, List.forall_mem_cons.mpr ⟨lw_p23, List.forall_mem_cons.mpr ⟨lw_p24, List.forall_mem_cons.mpr ⟨lw_p25, List.forall_mem_cons.mpr ⟨lw_p26, List.forall_mem_cons.mpr ⟨lw_p27, List.forall_mem_cons.mpr ⟨lw_p28, List.forall_mem_cons.mpr ⟨lw_p29, List.forall_mem_cons.mpr ⟨lw_p30, List.forall_mem_cons.mpr ⟨lw_p31, fun _ h => absurd h List.not_mem_nil⟩⟩⟩⟩⟩⟩⟩⟩⟩⟩⟩⟩⟩⟩⟩⟩
theorem lw_p32 : lw_okq (⟨"ReelReaderModel", "foretells", "(I)V"⟩, 43) := ⟨⟨by decide +kernel, by decide +kernel⟩, List.mem_of_getElem? (i := 549) (by decide +kernel), List.mem_of_getElem? (i := 762) (by decide +kernel), List.mem_of_getElem? (i := 763) (by decide +kernel)⟩
theorem lw_p33 : lw_okq (⟨"ReelReaderModel", "planeAt", "(I)I"⟩, 43) := ⟨⟨by decide +kernel, by decide +kernel⟩, List.mem_of_getElem? (i := 549) (by decide +kernel), List.mem_of_getElem? (i := 766) (by decide +kernel), List.mem_of_getElem? (i := 767) (by decide +kernel)⟩
theorem lw_p34 : lw_okq (⟨"ReelReaderModel", "planeWidth", "(I)I"⟩, 43) := ⟨⟨by decide +kernel, by decide +kernel⟩, List.mem_of_getElem? (i := 549) (by decide +kernel), List.mem_of_getElem? (i := 770) (by decide +kernel), List.mem_of_getElem? (i := 771) (by decide +kernel)⟩
theorem lw_p35 : lw_okq (⟨"ReelReaderModel", "foretoldDot", "(III)I"⟩, 43) := ⟨⟨by decide +kernel, by decide +kernel⟩, List.mem_of_getElem? (i := 549) (by decide +kernel), List.mem_of_getElem? (i := 774) (by decide +kernel), List.mem_of_getElem? (i := 775) (by decide +kernel)⟩
theorem lw_p36 : lw_okq (⟨"ReelReaderModel", "forward", "()[I"⟩, 43) := ⟨⟨by decide +kernel, by decide +kernel⟩, List.mem_of_getElem? (i := 549) (by decide +kernel), List.mem_of_getElem? (i := 778) (by decide +kernel), List.mem_of_getElem? (i := 779) (by decide +kernel)⟩
theorem lw_p37 : lw_okq (⟨"ReelReaderModel", "moved", "([IIIII)I"⟩, 43) := ⟨⟨by decide +kernel, by decide +kernel⟩, List.mem_of_getElem? (i := 549) (by decide +kernel), List.mem_of_getElem? (i := 782) (by decide +kernel), List.mem_of_getElem? (i := 783) (by decide +kernel)⟩
theorem lw_p38 : lw_okq (⟨"ReelReaderModel", "between", "([IIII)I"⟩, 43) := ⟨⟨by decide +kernel, by decide +kernel⟩, List.mem_of_getElem? (i := 549) (by decide +kernel), List.mem_of_getElem? (i := 786) (by decide +kernel), List.mem_of_getElem? (i := 787) (by decide +kernel)⟩
theorem lw_p39 : lw_okq (⟨"ReelReaderModel", "dotOf", "([IIII)I"⟩, 43) := ⟨⟨by decide +kernel, by decide +kernel⟩, List.mem_of_getElem? (i := 549) (by decide +kernel), List.mem_of_getElem? (i := 790) (by decide +kernel), List.mem_of_getElem? (i := 791) (by decide +kernel)⟩
theorem lw_p40 : lw_okq (⟨"ReelReaderModel", "planeHeight", "(I)I"⟩, 43) := ⟨⟨by decide +kernel, by decide +kernel⟩, List.mem_of_getElem? (i := 549) (by decide +kernel), List.mem_of_getElem? (i := 794) (by decide +kernel), List.mem_of_getElem? (i := 795) (by decide +kernel)⟩
theorem lw_p41 : lw_okq (⟨"ReelReaderModel", "square", "(I)Z"⟩, 43) := ⟨⟨by decide +kernel, by decide +kernel⟩, List.mem_of_getElem? (i := 549) (by decide +kernel), List.mem_of_getElem? (i := 798) (by decide +kernel), List.mem_of_getElem? (i := 799) (by decide +kernel)⟩
theorem lw_p42 : lw_okq (⟨"ReelReaderModel", "vector", "(I)Z"⟩, 43) := ⟨⟨by decide +kernel, by decide +kernel⟩, List.mem_of_getElem? (i := 549) (by decide +kernel), List.mem_of_getElem? (i := 802) (by decide +kernel), List.mem_of_getElem? (i := 803) (by decide +kernel)⟩
theorem lw_p43 : lw_okq (⟨"ReelReaderModel", "readS", "()I"⟩, 43) := ⟨⟨by decide +kernel, by decide +kernel⟩, List.mem_of_getElem? (i := 549) (by decide +kernel), List.mem_of_getElem? (i := 806) (by decide +kernel), List.mem_of_getElem? (i := 807) (by decide +kernel)⟩
theorem lw_p44 : lw_okq (⟨"ReelReaderModel", "allBlocks", "(II)Z"⟩, 43) := ⟨⟨by decide +kernel, by decide +kernel⟩, List.mem_of_getElem? (i := 549) (by decide +kernel), List.mem_of_getElem? (i := 810) (by decide +kernel), List.mem_of_getElem? (i := 811) (by decide +kernel)⟩
theorem lw_p45 : lw_okq (⟨"ReelReaderModel", "block", "(I)Z"⟩, 43) := ⟨⟨by decide +kernel, by decide +kernel⟩, List.mem_of_getElem? (i := 549) (by decide +kernel), List.mem_of_getElem? (i := 814) (by decide +kernel), List.mem_of_getElem? (i := 815) (by decide +kernel)⟩
theorem lw_p46 : lw_okq (⟨"ReelReaderModel", "factor", "(II)I"⟩, 43) := ⟨⟨by decide +kernel, by decide +kernel⟩, List.mem_of_getElem? (i := 549) (by decide +kernel), List.mem_of_getElem? (i := 818) (by decide +kernel), List.mem_of_getElem? (i := 819) (by decide +kernel)⟩
theorem lw_p47 : lw_okq (⟨"ReelReaderModel", "sums", "(III)V"⟩, 43) := ⟨⟨by decide +kernel, by decide +kernel⟩, List.mem_of_getElem? (i := 549) (by decide +kernel), List.mem_of_getElem? (i := 825) (by decide +kernel), List.mem_of_getElem? (i := 826) (by decide +kernel)⟩
def lw_privs_3 : List (MethodName × Nat) := [(⟨"ReelReaderModel", "foretells", "(I)V"⟩, 43), (⟨"ReelReaderModel", "planeAt", "(I)I"⟩, 43), (⟨"ReelReaderModel", "planeWidth", "(I)I"⟩, 43), (⟨"ReelReaderModel", "foretoldDot", "(III)I"⟩, 43), (⟨"ReelReaderModel", "forward", "()[I"⟩, 43), (⟨"ReelReaderModel", "moved", "([IIIII)I"⟩, 43), (⟨"ReelReaderModel", "between", "([IIII)I"⟩, 43), (⟨"ReelReaderModel", "dotOf", "([IIII)I"⟩, 43), (⟨"ReelReaderModel", "planeHeight", "(I)I"⟩, 43), (⟨"ReelReaderModel", "square", "(I)Z"⟩, 43), (⟨"ReelReaderModel", "vector", "(I)Z"⟩, 43), (⟨"ReelReaderModel", "readS", "()I"⟩, 43), (⟨"ReelReaderModel", "allBlocks", "(II)Z"⟩, 43), (⟨"ReelReaderModel", "block", "(I)Z"⟩, 43), (⟨"ReelReaderModel", "factor", "(II)I"⟩, 43), (⟨"ReelReaderModel", "sums", "(III)V"⟩, 43)]
theorem lw_r3 : ∀ q ∈ lw_privs_3, lw_okq q := List.forall_mem_cons.mpr ⟨lw_p32, List.forall_mem_cons.mpr ⟨lw_p33, List.forall_mem_cons.mpr ⟨lw_p34, List.forall_mem_cons.mpr ⟨lw_p35, List.forall_mem_cons.mpr ⟨lw_p36, List.forall_mem_cons.mpr ⟨lw_p37, List.forall_mem_cons.mpr ⟨lw_p38, List.forall_mem_cons.mpr ⟨lw_p39, List.forall_mem_cons.mpr ⟨lw_p40, List.forall_mem_cons.mpr ⟨lw_p41, List.forall_mem_cons.mpr ⟨lw_p42, List.forall_mem_cons.mpr ⟨lw_p43, List.forall_mem_cons.mpr ⟨lw_p44, List.forall_mem_cons.mpr ⟨lw_p45, List.forall_mem_cons.mpr ⟨lw_p46, List.forall_mem_cons.mpr ⟨lw_p47, fun _ h => absurd h List.not_mem_nil⟩⟩⟩⟩⟩⟩⟩⟩⟩⟩⟩⟩⟩⟩⟩⟩
theorem lw_p48 : lw_okq (⟨"ReelReaderModel", "lands", "(I)V"⟩, 43) := ⟨⟨by decide +kernel, by decide +kernel⟩, List.mem_of_getElem? (i := 549) (by decide +kernel), List.mem_of_getElem? (i := 834) (by decide +kernel), List.mem_of_getElem? (i := 835) (by decide +kernel)⟩
theorem lw_p49 : lw_okq (⟨"ReelReaderModel", "shows", "([IIIII)V"⟩, 43) := ⟨⟨by decide +kernel, by decide +kernel⟩, List.mem_of_getElem? (i := 549) (by decide +kernel), List.mem_of_getElem? (i := 838) (by decide +kernel), List.mem_of_getElem? (i := 839) (by decide +kernel)⟩
theorem lw_p50 : lw_okq (⟨"ReelReaderModel", "noPicture", "(I)Z"⟩, 43) := ⟨⟨by decide +kernel, by decide +kernel⟩, List.mem_of_getElem? (i := 549) (by decide +kernel), List.mem_of_getElem? (i := 854) (by decide +kernel), List.mem_of_getElem? (i := 855) (by decide +kernel)⟩
theorem lw_p51 : lw_okq (⟨"ReelReaderModel", "noPlane", "(II)Z"⟩, 43) := ⟨⟨by decide +kernel, by decide +kernel⟩, List.mem_of_getElem? (i := 549) (by decide +kernel), List.mem_of_getElem? (i := 862) (by decide +kernel), List.mem_of_getElem? (i := 863) (by decide +kernel)⟩
def lw_privs_4 : List (MethodName × Nat) := [(⟨"ReelReaderModel", "lands", "(I)V"⟩, 43), (⟨"ReelReaderModel", "shows", "([IIIII)V"⟩, 43), (⟨"ReelReaderModel", "noPicture", "(I)Z"⟩, 43), (⟨"ReelReaderModel", "noPlane", "(II)Z"⟩, 43)]
theorem lw_r4 : ∀ q ∈ lw_privs_4, lw_okq q := List.forall_mem_cons.mpr ⟨lw_p48, List.forall_mem_cons.mpr ⟨lw_p49, List.forall_mem_cons.mpr ⟨lw_p50, List.forall_mem_cons.mpr ⟨lw_p51, fun _ h => absurd h List.not_mem_nil⟩⟩⟩⟩
def lw_privs : List (MethodName × Nat) := lw_privs_1 ++ (lw_privs_2 ++ (lw_privs_3 ++ (lw_privs_4)))
def lw_tbl : List Cond := k2_sels lw_privs ++ tables_1
theorem lw_privs_ok : ∀ q ∈ lw_privs, lw_okq q := by
  show ∀ q ∈ lw_privs_1 ++ (lw_privs_2 ++ (lw_privs_3 ++ (lw_privs_4))), lw_okq q
  exact List.forall_mem_append.mpr ⟨lw_r1, List.forall_mem_append.mpr ⟨lw_r2, List.forall_mem_append.mpr ⟨lw_r3, lw_r4⟩⟩⟩
/-! ===== BEGIN words of one list among another's, by their places ===== -/
theorem goodIn_r {big : List Cond} (ws : List Cond) (ps : List Nat) (hp : ws = ps.filterMap (fun i => big[i]?)) (h : ws.all goodWord = true) : GoodIn big ws := by
  intro w hw
  have h1 := List.all_eq_true.mp h w hw
  rw [hp] at hw
  obtain ⟨i, -, hi⟩ := List.mem_filterMap.mp hw
  have hm : w ∈ big := by first | exact List.mem_of_getElem? hi | exact List.getElem?_mem hi
  exact ⟨hm, good_of_word h1⟩
theorem goodIn_app {big a b : List Cond} (ha : GoodIn big a) (hb : GoodIn big b) : GoodIn big (a ++ b) := fun w h => (List.mem_append.mp h).elim (ha w) (hb w)
theorem goodIn_ca {big a b : List Cond} {c : Cond} (ha : GoodIn big (c :: a)) (hb : GoodIn big b) : GoodIn big (c :: (a ++ b)) := fun w h => (List.mem_cons.mp h).elim (fun e => ha w (List.mem_cons.mpr (Or.inl e))) (fun h => (List.mem_append.mp h).elim (fun h => ha w (List.mem_cons.mpr (Or.inr h))) (hb w))
theorem goodIn_sub {big ws : List Cond} (hm : ∀ w ∈ ws, w ∈ big) (h : ws.all goodWord = true) : GoodIn big ws := fun w hw => ⟨hm w hw, good_of_word (List.all_eq_true.mp h w hw)⟩
/-! ===== END ===== -/

/-! ===== BEGIN exceptions that leave a method, and their catching by the caller (launches without stack traces) ===== -/
section VXA
/-! The laws vx_back, vx_callV, vx_callS, vx_callSW, vx_throw0, vx_throwS follow proofs of the library, with one case more: JvmDerived/Free/Laws.lean (Back.of_free), Shelf42/LK1.lean (callV, callS), Shelf/KitTraced.lean (throwNew0V, throwNewS). -/
/-- where a method has thrown q: the class by its name, the cell, what was written, the world -/
def vx_T (XC : String → State → State → Prop) (st : State) (q : Addr) (t : State) (mc ms : Nat) (free : Addr → Prop) : Prop :=
  ∃ (E : String) (ce : Cell) (L : List Loc), XC E st t ∧ t.heap[q]? = some ce ∧ ce.vm = .none ∧ st.vm.findClass E = some ce.cls ∧ st.WarmedH t.vm ∧ st.sameButNew ({ t with vm := st.vm } : State) L mc ms ∧ ∀ z ∈ L, free z.base
def vx_Q (Qc : Array Value → State → Outcome → State → Prop) (XC : String → State → State → Prop) (mc ms : Nat) (free : Addr → Prop) : Array Value → State → Outcome → State → Prop := fun a st o t =>
  (Qc a st o t ∧ ∃ L, FrameEnd st o t L mc ms ∧ ∀ q ∈ L, free q.base) ∨ ∃ q, o = .threw q ∧ vx_T XC st q t mc ms free
/-- a callee that returns or throws -/
def vx_Met (l : Launch) (y : MethodName) (ws : List Cond) (rm : Room) (Pc : Array Value → State → Prop) (Qc : Array Value → State → Outcome → State → Prop) (XC : String → State → State → Prop) (mc ms : Nat) (free : Addr → Prop) : Prop :=
  MetFree l y (headSpec ws rm) Pc (fun _ _ _ _ _ => True) (vx_Q Qc XC mc ms free)
def vx_Post (XC : String → State → State → Prop) (mc ms : Nat) (free : Addr → Prop) : Pt → Array Value → Addr → Pt → Prop := fun A a q B =>
  ∃ (g : JFrame) (mk : MethodId) (t : State) (L : List Loc) (E : String) (ce : Cell), B.U.heap = t.heap ∧ B.U.vm = t.vm ∧ XC E (A.U.calling g mk a) t ∧ t.heap[q]? = some ce ∧ ce.vm = .none ∧ A.U.vm.findClass E = some ce.cls ∧ B.locs = A.locs ++ L ∧ (∀ z ∈ L, free z.base) ∧ B.cells = A.cells + mc ∧ B.slots = A.slots + ms
def vx_Back (l : Launch) (R : Room) (p : Program) (e : Env) (below : List Frame) (s : State) (sargs : Array Value) (y : MethodName) (len W9 : Nat)
    (Pre : Pt → Array Value → Prop) (Post : Pt → Array Value → Option Value → Pt → Prop) (PostX : Pt → Array Value → Addr → Pt → Prop) : Prop :=
  ∀ (m : MethodId) (meth : Method) (c : Code) (A : Pt) (g : JFrame) (ig : Instr) (mk : MethodId) (a : Array Value),
    Stand p l e R s m sargs below meth c A.U A.locs A.cells A.slots → g.method = m → g.locals.size = c.maxLocals → decode c.code g.pc = .ok (ig, len) →
    2 * g.monitorRoom + (g.stack.map fun v => v.category).sum ≤ W9 → A.U.methodNamed? y = some mk → Pre A a →
    (∃ (v : Option Value) (B : Pt), Stand p l e R s m sargs below meth c B.U B.locs B.cells B.slots ∧ Post A a v B ∧
      Steps p.tables e below (doInvoke e (A.U.setTop g) [] mk a).1 (B.U.setTop { g with pc := g.pc + len, stack := v.toList ++ g.stack })) ∨
    (∃ (q : Addr) (B : Pt), Stand p l e R s m sargs below meth c B.U B.locs B.cells B.slots ∧ PostX A a q B ∧
      Steps p.tables e below (doInvoke e (A.U.setTop g) [] mk a).1 ((B.U.setTop g).pushFrame (.throwing q)))
section Payer
variable {l : Launch} {R : Room} {p : Program} {e : Env} {below : List Frame} {s : State} {sargs : Array Value} {y : MethodName} {len W9 : Nat}
theorem vx_back {ws : List Cond} {rm : Room} {Pc : Array Value → State → Prop} {Qc : Array Value → State → Outcome → State → Prop} {XC : String → State → State → Prop} {mc ms : Nat} {free : Addr → Prop} {bytes : ByteArray} {maxL : Nat} {ret : Option FieldType}
    (hM : vx_Met l y ws rm Pc Qc XC mc ms free) (hblind : FrameBlind Pc) (hrc : rm.cells = mc) (hrs : rm.slots = ms)
    (hframes : rm.frames + 1 ≤ R.frames) (hlocals : W9 + (maxL + 11) + rm.locals ≤ R.locals)
    (hws : ∀ w ∈ ws, ∀ a' U, s.WarmedH U.vm → w.before a' U = true) (hcode : Cond.code y bytes maxL ret ∈ ws) (hinit : ∀ a' U, s.WarmedH U.vm → (Cond.initialized y.cls).before a' U = true) :
    vx_Back l R p e below s sargs y len W9 (PreOf R mc ms Pc) (PostOf Qc mc ms free) (vx_Post XC mc ms free) := by
  intro m meth c A g ig mk a X hg hsize hdg hW hn hp
  have h1 : (headSpec ws rm).pre.before a A.U = true := atoms_intro fun w hw => hws w hw _ _ X.warmed
  have h2 : (Cond.code y bytes maxL ret).before a A.U = true := hws _ hcode _ _ X.warmed
  have h3 : (Cond.initialized y.cls).before a A.U = true := hinit _ _ X.warmed
  have h4 : A.cells + (headSpec ws rm).room.cells ≤ R.cells := by rw [show (headSpec ws rm).room.cells = mc from hrc]; exact hp.1
  have h5 : A.slots + (headSpec ws rm).room.slots ≤ R.slots := by rw [show (headSpec ws rm).room.slots = ms from hrs]; exact hp.2.1
  have hPc : Pc a (A.U.calling g mk a) := hblind _ _ _ _ hp.2.2
  obtain ⟨U, Ls, c0, s0⟩ := A
  dsimp only [Pt.U, Pt.locs, Pt.cells, Pt.slots] at h1 h2 h3 h4 h5 X hn hPc ⊢
  obtain ⟨methY, cY, hmY, hcY, -, hlY, -, -, -, -⟩ := Cond.code_spec hn h2
  obtain ⟨kY, hkY, -⟩ := className_of_methodNamed hn
  have hinitY : kY.init = .initialized := Cond.initialized_spec (findClass_of_methodNamed hn) hkY h3
  have h : At U g.method c below := by rw [hg]; exact X.here
  have hlocals9 : W9 + (maxL + 11) + (headSpec ws rm).room.locals ≤ R.locals := hlocals
  have happ : (headSpec ws rm).appliesLoose y e.platform (U.calling g mk a) = true :=
    Spec.appliesLoose_calling (g := g) h hdg hn hkY hinitY
      (X.room_calling (g := g) (R' := (headSpec ws rm).room) hsize hmY hcY hframes (by rw [hlY]; omega) h4 h5) h1
  obtain ⟨mid, hmid⟩ := h.above
  have hfr : (U.setTop g).frames = (.java g :: mid) ++ below := by rw [State.frames_setTop' g h.top, hmid]; rfl
  obtain ⟨o, s₂, hsteps, -, hend, hq⟩ := Steps.callFree hM p X.admits X.cas X.clock (acts := []) hfr happ hPc trivial
  have hq' : vx_Q Qc XC mc ms free a (U.calling g mk a) o s₂ := hq
  rw [State.frames_setTop' g h.top] at hend
  obtain ⟨g₀, hg0⟩ := Option.isSome_iff_exists.mp h.top
  obtain ⟨r, hr⟩ := State.topJava?_eq_some.mp hg0
  have hr' : (({ U with heap := s₂.heap, slotsUsed := s₂.slotsUsed } : State).setVm s₂.vm).frames = .java g₀ :: r := hr
  rcases hq' with ⟨hqc, L, hfe, hL⟩ | ⟨q, rfl, E, ce, L, hx, hce, hcv, hcl, hW₂, hsm, hL⟩
  · obtain ⟨⟨v, rfl⟩, hW₂, e2, q2, q3, q4, q5, q6⟩ := id hfe
    have e3 : s₂ = ({ (U.calling g mk a).setFrames s₂.frames with heap := s₂.heap, slotsUsed := s₂.slotsUsed } : State).setVm s₂.vm := by
      have : s₂ = ({ s₂ with vm := (U.calling g mk a).vm } : State).setVm s₂.vm := rfl
      rw [e2] at this
      exact this
    obtain ⟨c₂, i₂, len₂, hc₂, hd₂, hf₂⟩ := hend
    have hW' : U.WarmedH s₂.vm := hW₂
    have hcc : c₂ = c := by
      have h1 : s₂.code? g.method = U.code? g.method := by
        rw [State.code?_eq, State.code?_eq, hW'.alike.method?]
      exact Option.some.inj (hc₂.symm.trans (h1.trans h.code))
    subst hcc
    have hlen : len₂ = len := by rw [hdg] at hd₂; cases hd₂; rfl
    subst hlen
    have hs₂ : s₂ = (({ U with heap := s₂.heap, slotsUsed := s₂.slotsUsed } : State).setVm s₂.vm).setTop { g with pc := g.pc + len₂, stack := v.toList ++ g.stack } := by
      refine e3.trans ?_
      rw [hf₂, State.calling_eq h.top, State.setFrames_setFrames, State.setTop_of_frames _ hr', hr]
      rfl
    have hsame : U.sameButNew ({ U with heap := s₂.heap, slotsUsed := s₂.slotsUsed } : State) L mc ms := by
      refine ⟨?_, q2, q3, q4, q5, q6⟩
      obtain ⟨t, ht, -⟩ := State.frames_cons hr
      show ({ U with heap := s₂.heap, slotsUsed := s₂.slotsUsed } : State) = { U.setFrames U.frames with heap := s₂.heap, slotsUsed := s₂.slotsUsed }
      rw [State.setFrames_self ht]
    subst hg
    refine Or.inl ⟨v, ⟨(({ U with heap := s₂.heap, slotsUsed := s₂.slotsUsed } : State).setVm s₂.vm), Ls ++ L, c0 + mc, s0 + ms⟩,
      ⟨X.admits, X.cas, X.clock, X.frames, X.room, X.hears, X.method, X.code, (X.here.setHeapUsed s₂.heap s₂.slotsUsed).setVm hW'.alike, X.tail, State.WarmedH.trans X.warmed hW', X.limits, X.bytes, X.same.trans (hsame.setVm s.vm)⟩,
      ⟨g, mk, s₂, L, rfl, rfl, hqc, rfl, hL, rfl, rfl⟩, ?_⟩
    show Steps p.tables e below _ ((({ U with heap := s₂.heap, slotsUsed := s₂.slotsUsed } : State).setVm s₂.vm).setTop { g with pc := g.pc + len₂, stack := v.toList ++ g.stack })
    rw [← hs₂]
    exact hsteps
  · obtain ⟨e2, q2, q3, q4, q5, q6⟩ := id hsm
    have e3 : s₂ = ({ (U.calling g mk a).setFrames s₂.frames with heap := s₂.heap, slotsUsed := s₂.slotsUsed } : State).setVm s₂.vm := by
      have : s₂ = ({ s₂ with vm := (U.calling g mk a).vm } : State).setVm s₂.vm := rfl
      rw [e2] at this
      exact this
    have hf₂ : s₂.frames = .throwing q :: .java g :: U.frames.tail := hend
    have hW' : U.WarmedH s₂.vm := hW₂
    have hs₂ : s₂ = ((({ U with heap := s₂.heap, slotsUsed := s₂.slotsUsed } : State).setVm s₂.vm).setTop g).pushFrame (.throwing q) := by
      refine e3.trans ?_
      rw [hf₂, State.calling_eq h.top, State.setFrames_setFrames, State.pushFrame, State.frames_setTop _ hr', State.setTop_of_frames _ hr', State.setFrames_setFrames, hr]
      rfl
    have hsame : U.sameButNew ({ U with heap := s₂.heap, slotsUsed := s₂.slotsUsed } : State) L mc ms := by
      refine ⟨?_, q2, q3, q4, q5, q6⟩
      obtain ⟨t, ht, -⟩ := State.frames_cons hr
      show ({ U with heap := s₂.heap, slotsUsed := s₂.slotsUsed } : State) = { U.setFrames U.frames with heap := s₂.heap, slotsUsed := s₂.slotsUsed }
      rw [State.setFrames_self ht]
    subst hg
    refine Or.inr ⟨q, ⟨(({ U with heap := s₂.heap, slotsUsed := s₂.slotsUsed } : State).setVm s₂.vm), Ls ++ L, c0 + mc, s0 + ms⟩,
      ⟨X.admits, X.cas, X.clock, X.frames, X.room, X.hears, X.method, X.code, (X.here.setHeapUsed s₂.heap s₂.slotsUsed).setVm hW'.alike, X.tail, State.WarmedH.trans X.warmed hW', X.limits, X.bytes, X.same.trans (hsame.setVm s.vm)⟩,
      ⟨g, mk, s₂, L, E, ce, rfl, rfl, hx, hce, hcv, hcl, rfl, hL, rfl, rfl⟩, ?_⟩
    show Steps p.tables e below _ (((({ U with heap := s₂.heap, slotsUsed := s₂.slotsUsed } : State).setVm s₂.vm).setTop g).pushFrame (.throwing q))
    rw [← hs₂]
    exact hsteps
end Payer
section Calls
variable {p : Program} {l : Launch} {e : Env} {R : Room} {s : State} {m : MethodId} {args : Array Value} {below : List Frame} {meth : Method} {c : Code} {T : State} {locs : List Loc} {cells slots : Nat}
theorem vx_callV (X : Stand p l e R s m args below meth c T locs cells slots) (hexec : p.tables.exec = Jvm.exec) {own C : String} {index : Nat} {y : MethodName} {bytes : ByteArray} {maxL : Nat} {ret : Option FieldType}
    (hown : s.vm.findClass own = some m.cls) (hlink : (Cond.methodLink own index y).before args s = true) (hinst : (Cond.instanceMethod y).before args s = true) (hsel : (Cond.selects C y y).before args s = true)
    (hcode : (Cond.code y bytes maxL ret).before args s = true) (hy : y.cls ≠ "java/lang/invoke/MethodHandle" ∧ y.cls ≠ "java/lang/invoke/VarHandle")
    {W9 : Nat} {Pre : Pt → Array Value → Prop} {Post : Pt → Array Value → Option Value → Pt → Prop} {PostX : Pt → Array Value → Addr → Pt → Prop} (hK : vx_Back l R p e below s args y 3 W9 Pre Post PostX)
    {b : Addr} {cellB : Cell} (hcell : T.heap[b]? = some cellB) (hobj : cellB.vm.isStatics = false) (hcls : s.vm.findClass C = some cellB.cls)
    {g : JFrame} (hg : g.method = m) (hsize : g.locals.size = c.maxLocals) {argsL rest : List Value} (hlen : ∀ sig, parseMethodDescriptor y.desc = some sig → argsL.length = sig.parameters.length)
    (hstack : g.stack = argsL.reverse ++ .ref b :: rest) (hW : 2 * g.monitorRoom + (rest.map fun v => v.category).sum ≤ W9) (hdg : decode c.code g.pc = .ok (.invokevirtual index, 3))
    (hpre : ∀ vm₁, s.WarmedH vm₁ → Pre ⟨T.setVm vm₁, locs, cells, slots⟩ (Value.ref b :: argsL).toArray) :
    (∃ (v : Option Value) (vm₁ : Vm) (B : Pt), s.WarmedH vm₁ ∧ Stand p l e R s m args below meth c B.U B.locs B.cells B.slots ∧ Post ⟨T.setVm vm₁, locs, cells, slots⟩ (Value.ref b :: argsL).toArray v B ∧
      ∀ target, Steps p.tables e below (B.U.setTop { g with pc := g.pc + 3, stack := v.toList ++ rest }) target → Steps p.tables e below (T.setTop g) target) ∨
    (∃ (q : Addr) (vm₁ : Vm) (B : Pt), s.WarmedH vm₁ ∧ Stand p l e R s m args below meth c B.U B.locs B.cells B.slots ∧ PostX ⟨T.setVm vm₁, locs, cells, slots⟩ (Value.ref b :: argsL).toArray q B ∧
      Steps p.tables e below (T.setTop g) ((B.U.setTop { g with stack := rest }).pushFrame (.throwing q))) := by
  obtain ⟨mk, methM, hnamed, hmethM, hstM, habM⟩ := Cond.instanceMethod_spec hinst
  obtain ⟨methM', cM, hmethM', -, -, -, -, -, -, hsigM⟩ := Cond.code_spec hnamed hcode
  cases hmethM.symm.trans hmethM'
  obtain ⟨c2, r2, m2, q1, q2, q3, q4, kP, hkP, hkPi⟩ := Cond.selects_spec hsel
  cases hcls.symm.trans q1
  cases (State.methodFound?_of_named hnamed hy).symm.trans q2
  cases hnamed.symm.trans q3
  have hselP : selectMethod e.platform s.vm cellB.cls mk = .method mk := by rw [Launch.admits_selectMethod X.admits]; exact q4
  obtain ⟨vm₁, X₁, hstep₁⟩ := X.invokevirtual hexec hown hlink hnamed hmethM hstM hkP hkPi hy (a := b) (cell := cellB) hcell
    (fun z h => by rw [h] at hobj; cases hobj) hselP hmethM habM hkP hkPi (g := g) hg (argsL := argsL) (rest := rest) (hlen _ hsigM) hstack hdg
  rcases hK m meth c ⟨T.setVm vm₁, locs, cells, slots⟩ { g with stack := rest } (.invokevirtual index) mk (Value.ref b :: argsL).toArray X₁ hg hsize hdg hW (X₁.named hnamed) (hpre vm₁ X₁.warmed) with ⟨v, B, X', hpost, hsteps⟩ | ⟨q, B, X', hpost, hsteps⟩
  · exact Or.inl ⟨v, vm₁, B, X₁.warmed, X', hpost, fun target h => hstep₁ _ fun acts => by rw [doInvoke_state]; exact hsteps.trans h⟩
  · exact Or.inr ⟨q, vm₁, B, X₁.warmed, X', hpost, hstep₁ _ fun acts => by rw [doInvoke_state]; exact hsteps⟩
theorem vx_callS (X : Stand p l e R s m args below meth c T locs cells slots) (hexec : p.tables.exec = Jvm.exec) {own : String} {index : Nat} {y : MethodName} {bytes : ByteArray} {maxL : Nat} {ret : Option FieldType}
    (hown : s.vm.findClass own = some m.cls) (hlink : (Cond.methodLink own index y).before args s = true) (hstat : (Cond.static y).before args s = true) (hinit : (Cond.initialized y.cls).before args s = true)
    (hcode : (Cond.code y bytes maxL ret).before args s = true) (hy : y.cls ≠ "java/lang/invoke/MethodHandle" ∧ y.cls ≠ "java/lang/invoke/VarHandle")
    {W9 : Nat} {Pre : Pt → Array Value → Prop} {Post : Pt → Array Value → Option Value → Pt → Prop} {PostX : Pt → Array Value → Addr → Pt → Prop} (hK : vx_Back l R p e below s args y 3 W9 Pre Post PostX)
    {g : JFrame} (hg : g.method = m) (hsize : g.locals.size = c.maxLocals) {argsL rest : List Value} (hlen : ∀ sig, parseMethodDescriptor y.desc = some sig → argsL.length = sig.parameters.length)
    (hstack : g.stack = argsL.reverse ++ rest) (hW : 2 * g.monitorRoom + (rest.map fun v => v.category).sum ≤ W9) (hdg : decode c.code g.pc = .ok (.invokestatic index, 3))
    (hpre : ∀ vm₁, s.WarmedH vm₁ → Pre ⟨T.setVm vm₁, locs, cells, slots⟩ argsL.toArray) :
    (∃ (v : Option Value) (vm₁ : Vm) (B : Pt), s.WarmedH vm₁ ∧ Stand p l e R s m args below meth c B.U B.locs B.cells B.slots ∧ Post ⟨T.setVm vm₁, locs, cells, slots⟩ argsL.toArray v B ∧
      ∀ target, Steps p.tables e below (B.U.setTop { g with pc := g.pc + 3, stack := v.toList ++ rest }) target → Steps p.tables e below (T.setTop g) target) ∨
    (∃ (q : Addr) (vm₁ : Vm) (B : Pt), s.WarmedH vm₁ ∧ Stand p l e R s m args below meth c B.U B.locs B.cells B.slots ∧ PostX ⟨T.setVm vm₁, locs, cells, slots⟩ argsL.toArray q B ∧
      Steps p.tables e below (T.setTop g) ((B.U.setTop { g with stack := rest }).pushFrame (.throwing q))) := by
  obtain ⟨mk, hnamed⟩ := Cond.code_named hcode
  obtain ⟨methM, cM, hmethM, -, -, -, -, -, -, hsigM⟩ := Cond.code_spec hnamed hcode
  have hstatic : methM.isStatic = true := Cond.static_spec hnamed hmethM hstat
  obtain ⟨kP, hkP, -⟩ := className_of_methodNamed hnamed
  have hinitP : kP.init = .initialized := Cond.initialized_spec (findClass_of_methodNamed hnamed) hkP hinit
  obtain ⟨vm₁, X₁, hstep₁⟩ := X.invokestatic hexec hown hlink hnamed hmethM hstatic hkP hinitP hy (g := g) hg (argsL := argsL) (rest := rest) (hlen _ hsigM) hstack hdg
  rcases hK m meth c ⟨T.setVm vm₁, locs, cells, slots⟩ { g with stack := rest } (.invokestatic index) mk argsL.toArray X₁ hg hsize hdg hW (X₁.named hnamed) (hpre vm₁ X₁.warmed) with ⟨v, B, X', hpost, hsteps⟩ | ⟨q, B, X', hpost, hsteps⟩
  · exact Or.inl ⟨v, vm₁, B, X₁.warmed, X', hpost, fun target h => hstep₁ _ fun acts => by rw [doInvoke_state]; exact hsteps.trans h⟩
  · exact Or.inr ⟨q, vm₁, B, X₁.warmed, X', hpost, hstep₁ _ fun acts => by rw [doInvoke_state]; exact hsteps⟩
end Calls
theorem vx_cls {s : State} {T : State} {vm₁ : Vm} {E : String} {k : ClassId} (hW : s.WarmedH vm₁) (h : (T.setVm vm₁).vm.findClass E = some k) : s.vm.findClass E = some k := by
  have h1 : vm₁.findClass E = some k := h
  rw [hW.alike.findClass] at h1
  exact h1
/-- the method's frame g, with q thrown over it -/
def vx_W (p : Program) (l : Launch) (e : Env) (R : Room) (s : State) (m : MethodId) (args : Array Value) (below : List Frame) (meth : Method) (c : Code) (H : Heap) (locs : List Loc) (cells slots : Nat) (Q : State → Prop) (g : JFrame) (q : Addr) : Prop :=
  ∀ T : State, T.heap = H → Stand p l e R s m args below meth c T locs cells slots → ∃ t, Steps p.tables e below ((T.setTop g).pushFrame (.throwing q)) t ∧ Q t
def vx_Run (p : Program) (l : Launch) (e : Env) (R : Room) (s : State) (m : MethodId) (args : Array Value) (below : List Frame) (meth : Method) (c : Code) (H : Heap) (locs : List Loc) (cells slots mc ms : Nat) (g : JFrame) (rest : List Value) (Qa : State → Outcome → State → Prop) (XC : String → State → State → Prop) (free : Addr → Prop) : Prop :=
  ∀ T : State, T.heap = H → Stand p l e R s m args below meth c T locs cells slots →
    (∃ (v : Option Value) (st₀ t T' : State) (L : List Loc), st₀.heap = H ∧ Stand p l e R s m args below meth c T' (locs ++ L) (cells + mc) (slots + ms) ∧ (∀ q ∈ L, free q.base) ∧ T'.heap = t.heap ∧ T'.vm = t.vm ∧ Qa st₀ (.returned v) t ∧
      Goes p e below T g T' { g with pc := g.pc + 3, stack := v.toList ++ rest }) ∨
    (∃ (q : Addr) (st₀ t T' : State) (L : List Loc) (E : String) (ce : Cell), st₀.heap = H ∧ Stand p l e R s m args below meth c T' (locs ++ L) (cells + mc) (slots + ms) ∧ (∀ z ∈ L, free z.base) ∧ T'.heap = t.heap ∧ T'.vm = t.vm ∧ XC E st₀ t ∧ t.heap[q]? = some ce ∧ ce.vm = .none ∧ s.vm.findClass E = some ce.cls ∧
      Steps p.tables e below (T.setTop g) ((T'.setTop { g with stack := rest }).pushFrame (.throwing q)))
def vx_X {S : Type} (px : S → Prop) (B : String → S → State → Prop) (A : Nat → Prop) : String → State → State → Prop := fun E st t => ∃ u : S, px u ∧ B E u t ∧ va_F A st t
section Runs
variable {p : Program} {l : Launch} {e : Env} {R : Room} {s : State} {m : MethodId} {args : Array Value} {below : List Frame} {meth : Method} {c : Code} {H : Heap} {locs : List Loc} {cells slots : Nat}
variable {y : MethodName} {bytes cc : ByteArray} {maxL nL mc ms n index : Nat} {ret : Option FieldType} {ws : List Cond} {rm : Room} {Pc : Array Value → State → Prop} {Qc : Array Value → State → Outcome → State → Prop} {XC : String → State → State → Prop} {free : Addr → Prop} {Ts : List Cond} {own C : String} {b : Addr} {As rest : List Value} {g : JFrame}
theorem vx_callBack (cb : CallB R s args own index y bytes maxL ret ws rm mc ms n) (hM : vx_Met l y ws rm Pc Qc XC mc ms free) (hbl : FrameBlind Pc) : vx_Back l R p e below s args y 3 8 (PreOf R mc ms Pc) (PostOf Qc mc ms free) (vx_Post XC mc ms free) := by
  obtain ⟨hrc, hrs, hfr, hlo, hws, hcw, -, hini, -⟩ := cb
  exact vx_back (bytes := bytes) (maxL := maxL) (ret := ret) hM hbl hrc hrs hfr hlo hws hcw (fun a' U hW => word_at hW (Or.inl (by first | rfl | simp [Cond.onTables, Cond.keeps, Cond.steady])) hini)
theorem vx_runV (S : CallFix p m c cc nL s args Ts own) (hM : vx_Met l y ws rm Pc Qc XC mc ms free) (cw : CallW R s args own C index y bytes maxL ret ws rm mc ms n) (hp : PreV s H C b Pc As)
    (hg : g.method = m) (hn : As.length = n) (hsize : g.locals.size = nL) (hstack : g.stack = As.reverse ++ .ref b :: rest) (hW : 2 * g.monitorRoom + (rest.map fun v => v.category).sum ≤ 8) (hdg : decode cc g.pc = .ok (.invokevirtual index, 3)) (hf : cells + mc ≤ R.cells ∧ slots + ms ≤ R.slots) :
    vx_Run p l e R s m args below meth c H locs cells slots mc ms g rest (Qc (Value.ref b :: As).toArray) XC free := by
  have hK : vx_Back l R p e below s args y 3 8 (PreOf R mc ms Pc) (PostOf Qc mc ms free) (vx_Post XC mc ms free) := vx_callBack cw.1 hM hp.1
  obtain ⟨⟨-, -, -, -, -, -, hcode, -, hy, hlen, hl⟩, hin, hse⟩ := cw
  obtain ⟨hx, hb, hml, ho, -⟩ := S
  obtain ⟨-, ⟨cellB, hcB, hoB, hclB⟩, hPc⟩ := hp
  intro T hT X
  rcases vx_callV X hx (C := C) (bytes := bytes) (maxL := maxL) (ret := ret) ho hl hin hse hcode hy hK (by rw [hT]; exact hcB) hoB hclB hg (hsize.trans hml.symm) (argsL := As) (rest := rest) (fun sig h => hn.trans (hlen sig h)) hstack hW (by rw [hb]; exact hdg)
    (fun vm₁ hW₁ => ⟨hf.1, hf.2, hPc (T.setVm vm₁) hT hW₁⟩) with ⟨v, vm₁, ⟨U', l2, c2, s2⟩, hW₁, X', ⟨g', mk, t, L, e1, e2, hq, h1, hL, h2, h3⟩, st⟩ | ⟨q, vm₁, ⟨U', l2, c2, s2⟩, hW₁, X', ⟨g', mk, t, L, E, ce, e1, e2, hq, hce, hcv, hcl, h1, hL, h2, h3⟩, st⟩
  · dsimp only [Pt.U, Pt.locs, Pt.cells, Pt.slots] at X' e1 e2 h1 h2 h3 st
    subst h1; subst h2; subst h3
    exact Or.inl ⟨v, (T.setVm vm₁).calling g' mk (Value.ref b :: As).toArray, t, U', L, hT, X', hL, e1, e2, hq, st⟩
  · dsimp only [Pt.U, Pt.locs, Pt.cells, Pt.slots] at X' e1 e2 h1 h2 h3 st hcl
    subst h1; subst h2; subst h3
    exact Or.inr ⟨q, (T.setVm vm₁).calling g' mk (Value.ref b :: As).toArray, t, U', L, E, ce, hT, X', hL, e1, e2, hq, hce, hcv, vx_cls hW₁ hcl, st⟩
theorem vx_runS (S : CallFix p m c cc nL s args Ts own) (hM : vx_Met l y ws rm Pc Qc XC mc ms free) (cw : CallB R s args own index y bytes maxL ret ws rm mc ms n ∧ (Cond.static y).before args s = true) (hp : PreS s H Pc As)
    (hg : g.method = m) (hn : As.length = n) (hsize : g.locals.size = nL) (hstack : g.stack = As.reverse ++ rest) (hW : 2 * g.monitorRoom + (rest.map fun v => v.category).sum ≤ 8) (hdg : decode cc g.pc = .ok (.invokestatic index, 3)) (hf : cells + mc ≤ R.cells ∧ slots + ms ≤ R.slots) :
    vx_Run p l e R s m args below meth c H locs cells slots mc ms g rest (Qc As.toArray) XC free := by
  have hK : vx_Back l R p e below s args y 3 8 (PreOf R mc ms Pc) (PostOf Qc mc ms free) (vx_Post XC mc ms free) := vx_callBack cw.1 hM hp.1
  obtain ⟨⟨-, -, -, -, -, -, hcode, hini, hy, hlen, hl⟩, hstt⟩ := cw
  obtain ⟨hx, hb, hml, ho, -⟩ := S
  intro T hT X
  rcases vx_callS X hx (bytes := bytes) (maxL := maxL) (ret := ret) ho hl hstt hini hcode hy hK hg (hsize.trans hml.symm) (argsL := As) (rest := rest) (fun sig h => hn.trans (hlen sig h)) hstack hW (by rw [hb]; exact hdg)
    (fun vm₁ hW₁ => ⟨hf.1, hf.2, hp.2 (T.setVm vm₁) hT hW₁⟩) with ⟨v, vm₁, ⟨U', l2, c2, s2⟩, hW₁, X', ⟨g', mk, t, L, e1, e2, hq, h1, hL, h2, h3⟩, st⟩ | ⟨q, vm₁, ⟨U', l2, c2, s2⟩, hW₁, X', ⟨g', mk, t, L, E, ce, e1, e2, hq, hce, hcv, hcl, h1, hL, h2, h3⟩, st⟩
  · dsimp only [Pt.U, Pt.locs, Pt.cells, Pt.slots] at X' e1 e2 h1 h2 h3 st
    subst h1; subst h2; subst h3
    exact Or.inl ⟨v, (T.setVm vm₁).calling g' mk As.toArray, t, U', L, hT, X', hL, e1, e2, hq, st⟩
  · dsimp only [Pt.U, Pt.locs, Pt.cells, Pt.slots] at X' e1 e2 h1 h2 h3 st hcl
    subst h1; subst h2; subst h3
    exact Or.inr ⟨q, (T.setVm vm₁).calling g' mk As.toArray, t, U', L, E, ce, hT, X', hL, e1, e2, hq, hce, hcv, vx_cls hW₁ hcl, st⟩
end Runs
section Rows
variable {p : Program} {l : Launch} {e : Env} {R : Room} {s : State} {m : MethodId} {args : Array Value} {below : List Frame} {meth : Method} {c : Code} {H : Heap} {locs : List Loc} {cells slots : Nat} {Q : State → Prop}
variable {mc ms : Nat} {free : Addr → Prop} {A0 A1 : Nat → Prop} {H0 : Heap} {a : Array Value} {pc : Nat} {ls : Array Slot} {st0 rest : List Value}
theorem vx_keep {st₀ t T' : State} {L : List Loc} (h0 : st₀.heap = H) (e1 : T'.heap = t.heap) (hS : va_S A0 H0 H locs) (hA : ∀ q, q < H.size → A1 q → A0 q) (hf : ∀ q, free q → A0 q) (hL : ∀ q ∈ L, free q.base) (hF : va_F A1 st₀ t) :
    H.size ≤ T'.heap.size ∧ (∀ q : Nat, q < H.size → ¬ A1 q → T'.heap[q]? = H[q]?) ∧ va_S A0 H0 T'.heap (locs ++ L) := by
  obtain ⟨hz, hk⟩ := hF
  rw [h0] at hz hk
  exact ⟨by rw [e1]; exact hz, fun q h1 h2 => by rw [e1]; exact hk q h1 h2,
    ⟨Nat.le_trans hS.1 (by rw [e1]; exact hz), fun q h1 h2 => by rw [e1, hk q (Nat.lt_of_lt_of_le h1 hS.1) (fun z => h2 (hA q (Nat.lt_of_lt_of_le h1 hS.1) z))]; exact hS.2.1 q h1 h2, fun q hq => by
      rcases List.mem_append.mp hq with h | h
      · exact hS.2.2 q h
      · exact hf _ (hL q h)⟩⟩
theorem vx_calli {S SX : Type} {post : Int32 → S → Prop} {px : SX → Prop} {B : S → State → Prop} {BX : String → SX → State → Prop} {AX : Nat → Prop} (hr : vx_Run p l e R s m args below meth c H locs cells slots mc ms (F0 m pc ls st0) rest (va_Qi post B A1 a) (vx_X px BX AX) free) (hS : va_S A0 H0 H locs) (hA : ∀ q, q < H.size → A1 q → A0 q) (hf : ∀ q, free q → A0 q) (hAX : ∀ q, q < H.size → AX q → A0 q)
    (kx : ∀ (E : String) (ce : Cell) (q9 : Addr) (u : SX) (t : State) (H1 : Heap) (locs1 : List Loc), t.heap = H1 → s.vm.Alike t.vm → px u → BX E u t → H.size ≤ H1.size → (∀ q : Nat, q < H.size → ¬ AX q → H1[q]? = H[q]?) → va_S A0 H0 H1 locs1 → H1[q9]? = some ce → ce.vm = .none → s.vm.findClass E = some ce.cls → vx_W p l e R s m args below meth c H1 locs1 (cells + mc) (slots + ms) Q (F0 m pc ls rest) q9)
    (kk : ∀ (r : Int32) (u : S) (t : State) (H1 : Heap) (locs1 : List Loc), t.heap = H1 → s.vm.Alike t.vm → post r u → B u t → H.size ≤ H1.size → (∀ q : Nat, q < H.size → ¬ A1 q → H1[q]? = H[q]?) → va_S A0 H0 H1 locs1 → W p l e R s m args below meth c H1 locs1 (cells + mc) (slots + ms) Q (F0 m (pc + 3) ls (.int r :: rest))) : W p l e R s m args below meth c H locs cells slots Q (F0 m pc ls st0) := by
  intro T hT X
  rcases hr T hT X with ⟨v, st₀, t, T', L, h0, X', hL, e1, e2, ⟨⟨r, u, hv, hp, hb⟩, hF⟩, st⟩ | ⟨q, st₀, t, T', L, E, ce, h0, X', hL, e1, e2, ⟨u, hp, hb, hF⟩, hce, hcv, hcl, st⟩
  · cases hv
    obtain ⟨k1, k2, k3⟩ := vx_keep h0 e1 hS hA hf hL hF
    obtain ⟨t2, a1, b1⟩ := kk r u t T'.heap (locs ++ L) e1.symm (by rw [← e2]; exact X'.warmed.alike) hp hb k1 k2 k3 T' rfl X'
    exact ⟨t2, st t2 a1, b1⟩
  · obtain ⟨k1, k2, k3⟩ := vx_keep h0 e1 hS hAX hf hL hF
    obtain ⟨t2, a1, b1⟩ := kx E ce q u t T'.heap (locs ++ L) e1.symm (by rw [← e2]; exact X'.warmed.alike) hp hb k1 k2 k3 (by rw [e1]; exact hce) hcv hcl T' rfl X'
    exact ⟨t2, st.trans a1, b1⟩
theorem vx_calll {S SX : Type} {post : Int64 → S → Prop} {px : SX → Prop} {B : S → State → Prop} {BX : String → SX → State → Prop} {AX : Nat → Prop} (hr : vx_Run p l e R s m args below meth c H locs cells slots mc ms (F0 m pc ls st0) rest (va_Ql post B A1 a) (vx_X px BX AX) free) (hS : va_S A0 H0 H locs) (hA : ∀ q, q < H.size → A1 q → A0 q) (hf : ∀ q, free q → A0 q) (hAX : ∀ q, q < H.size → AX q → A0 q)
    (kx : ∀ (E : String) (ce : Cell) (q9 : Addr) (u : SX) (t : State) (H1 : Heap) (locs1 : List Loc), t.heap = H1 → s.vm.Alike t.vm → px u → BX E u t → H.size ≤ H1.size → (∀ q : Nat, q < H.size → ¬ AX q → H1[q]? = H[q]?) → va_S A0 H0 H1 locs1 → H1[q9]? = some ce → ce.vm = .none → s.vm.findClass E = some ce.cls → vx_W p l e R s m args below meth c H1 locs1 (cells + mc) (slots + ms) Q (F0 m pc ls rest) q9)
    (kk : ∀ (r : Int64) (u : S) (t : State) (H1 : Heap) (locs1 : List Loc), t.heap = H1 → s.vm.Alike t.vm → post r u → B u t → H.size ≤ H1.size → (∀ q : Nat, q < H.size → ¬ A1 q → H1[q]? = H[q]?) → va_S A0 H0 H1 locs1 → W p l e R s m args below meth c H1 locs1 (cells + mc) (slots + ms) Q (F0 m (pc + 3) ls (.long r :: rest))) : W p l e R s m args below meth c H locs cells slots Q (F0 m pc ls st0) := by
  intro T hT X
  rcases hr T hT X with ⟨v, st₀, t, T', L, h0, X', hL, e1, e2, ⟨⟨r, u, hv, hp, hb⟩, hF⟩, st⟩ | ⟨q, st₀, t, T', L, E, ce, h0, X', hL, e1, e2, ⟨u, hp, hb, hF⟩, hce, hcv, hcl, st⟩
  · cases hv
    obtain ⟨k1, k2, k3⟩ := vx_keep h0 e1 hS hA hf hL hF
    obtain ⟨t2, a1, b1⟩ := kk r u t T'.heap (locs ++ L) e1.symm (by rw [← e2]; exact X'.warmed.alike) hp hb k1 k2 k3 T' rfl X'
    exact ⟨t2, st t2 a1, b1⟩
  · obtain ⟨k1, k2, k3⟩ := vx_keep h0 e1 hS hAX hf hL hF
    obtain ⟨t2, a1, b1⟩ := kx E ce q u t T'.heap (locs ++ L) e1.symm (by rw [← e2]; exact X'.warmed.alike) hp hb k1 k2 k3 (by rw [e1]; exact hce) hcv hcl T' rfl X'
    exact ⟨t2, st.trans a1, b1⟩
theorem vx_callf {S SX : Type} {post : UInt32 → S → Prop} {px : SX → Prop} {B : S → State → Prop} {BX : String → SX → State → Prop} {AX : Nat → Prop} (hr : vx_Run p l e R s m args below meth c H locs cells slots mc ms (F0 m pc ls st0) rest (va_Qf post B A1 a) (vx_X px BX AX) free) (hS : va_S A0 H0 H locs) (hA : ∀ q, q < H.size → A1 q → A0 q) (hf : ∀ q, free q → A0 q) (hAX : ∀ q, q < H.size → AX q → A0 q)
    (kx : ∀ (E : String) (ce : Cell) (q9 : Addr) (u : SX) (t : State) (H1 : Heap) (locs1 : List Loc), t.heap = H1 → s.vm.Alike t.vm → px u → BX E u t → H.size ≤ H1.size → (∀ q : Nat, q < H.size → ¬ AX q → H1[q]? = H[q]?) → va_S A0 H0 H1 locs1 → H1[q9]? = some ce → ce.vm = .none → s.vm.findClass E = some ce.cls → vx_W p l e R s m args below meth c H1 locs1 (cells + mc) (slots + ms) Q (F0 m pc ls rest) q9)
    (kk : ∀ (r : UInt32) (u : S) (t : State) (H1 : Heap) (locs1 : List Loc), t.heap = H1 → s.vm.Alike t.vm → post r u → B u t → H.size ≤ H1.size → (∀ q : Nat, q < H.size → ¬ A1 q → H1[q]? = H[q]?) → va_S A0 H0 H1 locs1 → W p l e R s m args below meth c H1 locs1 (cells + mc) (slots + ms) Q (F0 m (pc + 3) ls (.float r :: rest))) : W p l e R s m args below meth c H locs cells slots Q (F0 m pc ls st0) := by
  intro T hT X
  rcases hr T hT X with ⟨v, st₀, t, T', L, h0, X', hL, e1, e2, ⟨⟨r, u, hv, hp, hb⟩, hF⟩, st⟩ | ⟨q, st₀, t, T', L, E, ce, h0, X', hL, e1, e2, ⟨u, hp, hb, hF⟩, hce, hcv, hcl, st⟩
  · cases hv
    obtain ⟨k1, k2, k3⟩ := vx_keep h0 e1 hS hA hf hL hF
    obtain ⟨t2, a1, b1⟩ := kk r u t T'.heap (locs ++ L) e1.symm (by rw [← e2]; exact X'.warmed.alike) hp hb k1 k2 k3 T' rfl X'
    exact ⟨t2, st t2 a1, b1⟩
  · obtain ⟨k1, k2, k3⟩ := vx_keep h0 e1 hS hAX hf hL hF
    obtain ⟨t2, a1, b1⟩ := kx E ce q u t T'.heap (locs ++ L) e1.symm (by rw [← e2]; exact X'.warmed.alike) hp hb k1 k2 k3 (by rw [e1]; exact hce) hcv hcl T' rfl X'
    exact ⟨t2, st.trans a1, b1⟩
theorem vx_calld {S SX : Type} {post : UInt64 → S → Prop} {px : SX → Prop} {B : S → State → Prop} {BX : String → SX → State → Prop} {AX : Nat → Prop} (hr : vx_Run p l e R s m args below meth c H locs cells slots mc ms (F0 m pc ls st0) rest (va_Qd post B A1 a) (vx_X px BX AX) free) (hS : va_S A0 H0 H locs) (hA : ∀ q, q < H.size → A1 q → A0 q) (hf : ∀ q, free q → A0 q) (hAX : ∀ q, q < H.size → AX q → A0 q)
    (kx : ∀ (E : String) (ce : Cell) (q9 : Addr) (u : SX) (t : State) (H1 : Heap) (locs1 : List Loc), t.heap = H1 → s.vm.Alike t.vm → px u → BX E u t → H.size ≤ H1.size → (∀ q : Nat, q < H.size → ¬ AX q → H1[q]? = H[q]?) → va_S A0 H0 H1 locs1 → H1[q9]? = some ce → ce.vm = .none → s.vm.findClass E = some ce.cls → vx_W p l e R s m args below meth c H1 locs1 (cells + mc) (slots + ms) Q (F0 m pc ls rest) q9)
    (kk : ∀ (r : UInt64) (u : S) (t : State) (H1 : Heap) (locs1 : List Loc), t.heap = H1 → s.vm.Alike t.vm → post r u → B u t → H.size ≤ H1.size → (∀ q : Nat, q < H.size → ¬ A1 q → H1[q]? = H[q]?) → va_S A0 H0 H1 locs1 → W p l e R s m args below meth c H1 locs1 (cells + mc) (slots + ms) Q (F0 m (pc + 3) ls (.double r :: rest))) : W p l e R s m args below meth c H locs cells slots Q (F0 m pc ls st0) := by
  intro T hT X
  rcases hr T hT X with ⟨v, st₀, t, T', L, h0, X', hL, e1, e2, ⟨⟨r, u, hv, hp, hb⟩, hF⟩, st⟩ | ⟨q, st₀, t, T', L, E, ce, h0, X', hL, e1, e2, ⟨u, hp, hb, hF⟩, hce, hcv, hcl, st⟩
  · cases hv
    obtain ⟨k1, k2, k3⟩ := vx_keep h0 e1 hS hA hf hL hF
    obtain ⟨t2, a1, b1⟩ := kk r u t T'.heap (locs ++ L) e1.symm (by rw [← e2]; exact X'.warmed.alike) hp hb k1 k2 k3 T' rfl X'
    exact ⟨t2, st t2 a1, b1⟩
  · obtain ⟨k1, k2, k3⟩ := vx_keep h0 e1 hS hAX hf hL hF
    obtain ⟨t2, a1, b1⟩ := kx E ce q u t T'.heap (locs ++ L) e1.symm (by rw [← e2]; exact X'.warmed.alike) hp hb k1 k2 k3 (by rw [e1]; exact hce) hcv hcl T' rfl X'
    exact ⟨t2, st.trans a1, b1⟩
theorem vx_callv {S SX : Type} {post : S → Prop} {px : SX → Prop} {B : S → State → Prop} {BX : String → SX → State → Prop} {AX : Nat → Prop} (hr : vx_Run p l e R s m args below meth c H locs cells slots mc ms (F0 m pc ls st0) rest (va_Qv post B A1 a) (vx_X px BX AX) free) (hS : va_S A0 H0 H locs) (hA : ∀ q, q < H.size → A1 q → A0 q) (hf : ∀ q, free q → A0 q) (hAX : ∀ q, q < H.size → AX q → A0 q)
    (kx : ∀ (E : String) (ce : Cell) (q9 : Addr) (u : SX) (t : State) (H1 : Heap) (locs1 : List Loc), t.heap = H1 → s.vm.Alike t.vm → px u → BX E u t → H.size ≤ H1.size → (∀ q : Nat, q < H.size → ¬ AX q → H1[q]? = H[q]?) → va_S A0 H0 H1 locs1 → H1[q9]? = some ce → ce.vm = .none → s.vm.findClass E = some ce.cls → vx_W p l e R s m args below meth c H1 locs1 (cells + mc) (slots + ms) Q (F0 m pc ls rest) q9)
    (kk : ∀ (u : S) (t : State) (H1 : Heap) (locs1 : List Loc), t.heap = H1 → s.vm.Alike t.vm → post u → B u t → H.size ≤ H1.size → (∀ q : Nat, q < H.size → ¬ A1 q → H1[q]? = H[q]?) → va_S A0 H0 H1 locs1 → W p l e R s m args below meth c H1 locs1 (cells + mc) (slots + ms) Q (F0 m (pc + 3) ls (rest))) : W p l e R s m args below meth c H locs cells slots Q (F0 m pc ls st0) := by
  intro T hT X
  rcases hr T hT X with ⟨v, st₀, t, T', L, h0, X', hL, e1, e2, ⟨⟨u, hv, hp, hb⟩, hF⟩, st⟩ | ⟨q, st₀, t, T', L, E, ce, h0, X', hL, e1, e2, ⟨u, hp, hb, hF⟩, hce, hcv, hcl, st⟩
  · cases hv
    obtain ⟨k1, k2, k3⟩ := vx_keep h0 e1 hS hA hf hL hF
    obtain ⟨t2, a1, b1⟩ := kk u t T'.heap (locs ++ L) e1.symm (by rw [← e2]; exact X'.warmed.alike) hp hb k1 k2 k3 T' rfl X'
    exact ⟨t2, st t2 a1, b1⟩
  · obtain ⟨k1, k2, k3⟩ := vx_keep h0 e1 hS hAX hf hL hF
    obtain ⟨t2, a1, b1⟩ := kx E ce q u t T'.heap (locs ++ L) e1.symm (by rw [← e2]; exact X'.warmed.alike) hp hb k1 k2 k3 (by rw [e1]; exact hce) hcv hcl T' rfl X'
    exact ⟨t2, st.trans a1, b1⟩
end Rows
section Ends
variable {p : Program} {l : Launch} {e : Env} {R : Room} {s : State} {m : MethodId} {args : Array Value} {below : List Frame} {meth : Method} {c : Code} {H : Heap} {locs : List Loc} {cells slots : Nat} {Q : State → Prop}
variable {mc ms : Nat} {free : Addr → Prop} {A0 A1 : Nat → Prop} {H0 : Heap} {a : Array Value} {ls : Array Slot} {st0 rest : List Value}
variable {Qc : Array Value → State → Outcome → State → Prop} {XC : String → State → State → Prop}
/-- what a body that may throw owes at its end -/
def vx_MQ (below : List Frame) (Qc : Array Value → State → Outcome → State → Prop) (XC : String → State → State → Prop) (a : Array Value) (s : State) (mc ms : Nat) (free : Addr → Prop) : State → Prop := fun t =>
  ∃ o, t.status = .running ∧ Ended t below o ∧ vx_Q Qc XC mc ms free a s o t
theorem vx_ret {g : JFrame} {mc ms : Nat} (k : W p l e R s m args below meth c H locs cells slots (MQ below Qc args s mc ms free) g) : W p l e R s m args below meth c H locs cells slots (vx_MQ below Qc XC args s mc ms free) g := by
  intro T hT X
  obtain ⟨t, a1, o, b1, b2, b3, b4⟩ := k T hT X
  exact ⟨t, a1, o, b1, b2, Or.inl ⟨b3, b4⟩⟩
/-- not caught here: it goes on to the caller -/
theorem vx_widen {g : JFrame} {q : Addr} {k n : Nat} (h1 : cells ≤ k) (h2 : slots ≤ n) (kk : vx_W p l e R s m args below meth c H locs k n Q g q) : vx_W p l e R s m args below meth c H locs cells slots Q g q := fun T hT X => kk T hT (stand_widen X h1 h2)
theorem vx_out {pc : Nat} {E : String} {ce : Cell} {q : Addr} {mc ms : Nat} (hout : ∀ x ∈ c.exceptionTable.toList, covers x pc = false) (hlocks : meth.locks = false) (hcell : H[q]? = some ce) (hv : ce.vm = .none) (hcl : s.vm.findClass E = some ce.cls)
    (hx : ∀ t : State, t.heap = H → s.vm.Alike t.vm → XC E s t) (hf : ∀ z ∈ locs, free z.base) (hc : cells ≤ mc) (hs : slots ≤ ms) :
    vx_W p l e R s m args below meth c H locs cells slots (vx_MQ below Qc XC args s mc ms free) (F0 m pc ls rest) q := by
  intro T hT X
  obtain ⟨st1, hrun, hend, hW, hsm⟩ := X.leaveThrown q (g := F0 m pc ls rest) rfl rfl rfl hout hlocks
  have hcell9 : (T.setFrames (.throwing q :: below)).heap[q]? = some ce := by
    show T.heap[q]? = some ce
    rw [hT]; exact hcell
  exact ⟨_, st1, .threw q, hrun, hend, Or.inr ⟨q, rfl, E, ce, locs, hx _ hT hW.alike, hcell9, hv, hcl, hW, hsm.mono hc hs, hf⟩⟩
theorem vx_frame {U : State} {k n : Nat} (h : s.sameButNew ({ U with vm := s.vm } : State) locs k n) : s.heap.size ≤ U.heap.size ∧ ∀ q : Nat, q < s.heap.size → (∀ z ∈ locs, z.base ≠ q) → U.heap[q]? = s.heap[q]? := by
  obtain ⟨-, h2, -, -, -, h6⟩ := h
  refine ⟨h2, fun q hq hz => ?_⟩
  obtain ⟨c9, e1, e2, e3, e4⟩ := h6 q _ (Array.getElem?_eq_getElem hq)
  have hs : c9.slots = (s.heap[q]).slots := Array.ext_getElem? fun i => e4 i fun hm => hz _ hm rfl
  have h9 : c9 = s.heap[q] := by
    rw [hs] at e2
    exact e2
  have e5 : U.heap[q]? = some c9 := e1
  rw [e5, h9, Array.getElem?_eq_getElem hq]
/-- the words of a throw but the four that speak of the heap -/
def vx_no (w : Cond) : Bool := decide (w ≠ .isRef (.static Bundle.tN "UNASSIGNED_STACK" Bundle.steD)) && decide (w ≠ .isRef (.static Bundle.tN "SUPPRESSED_SENTINEL" Bundle.listD)) && decide (w ≠ .laysStatic Bundle.tN "UNASSIGNED_STACK" Bundle.steD) && decide (w ≠ .laysStatic Bundle.tN "SUPPRESSED_SENTINEL" Bundle.listD)
def vx_at0 (own : String) (ic : Nat) (X : String) (names : List String) : List Cond := (Bundle.ownAtoms0 own ic X names).filter vx_no
def vx_atS (own : String) (ic : Nat) (X : String) (names : List String) : List Cond := (Bundle.ownAtoms own ic X names).filter vx_no
/-- a word that the tables alone decide, or a good one -/
def vx_ot (w : Cond) : Bool := w.onTables || goodWord w
theorem vx_ot_at {args a' : Array Value} {s U : State} {w : Cond} (hW : s.WarmedH U.vm) (hvm : s.vm = U.vm) (hg : vx_ot w = true) (h : w.before args s = true) : w.before a' U = true := by
  simp only [vx_ot, Bool.or_eq_true] at hg
  rcases hg with hg | hg
  · exact va_tabs hg hvm h
  · exact word_at hW (good_of_word hg) h
/-- a list's words: the good ones out of the method's own list, the others by premises of their own -/
theorem vx_hat {args : Array Value} {s : State} {L B : List Cond} (h1 : ∀ w ∈ L.filter goodWord, w.before args s = true) (h2 : ∀ w ∈ L.filter (fun w => !goodWord w), w ∈ B) (h3 : ∀ w ∈ B, w.before args s = true) : ∀ w ∈ L, w.before args s = true := by
  intro w hw
  by_cases g : goodWord w = true
  · exact h1 w (List.mem_filter.mpr ⟨hw, g⟩)
  · refine h3 w (h2 w (List.mem_filter.mpr ⟨hw, ?_⟩))
    show (!goodWord w) = true
    cases hgw : goodWord w
    · rfl
    · exact absurd hgw g
theorem vx_c {args : Array Value} {s : State} {w : Cond} {B : List Cond} (h : w.before args s = true) (t : ∀ w ∈ B, w.before args s = true) : ∀ w' ∈ w :: B, w'.before args s = true := fun w' h' => (List.mem_cons.mp h').elim (fun e => by rw [e]; exact h) (t w')
theorem vx_n {args : Array Value} {s : State} : ∀ w ∈ ([] : List Cond), w.before args s = true := fun _ h => nomatch h
theorem vx_own {args : Array Value} {s : State} {L : List Cond} (h1 : ∀ w ∈ L.filter vx_no, w.before args s = true)
    (hU : (Cond.isRef (.static Bundle.tN "UNASSIGNED_STACK" Bundle.steD)).before args s = true) (hN : (Cond.isRef (.static Bundle.tN "SUPPRESSED_SENTINEL" Bundle.listD)).before args s = true)
    (lU : (Cond.laysStatic Bundle.tN "UNASSIGNED_STACK" Bundle.steD).before args s = true) (lN : (Cond.laysStatic Bundle.tN "SUPPRESSED_SENTINEL" Bundle.listD).before args s = true) : ∀ w ∈ L, w.before args s = true := by
  intro w hw
  by_cases e1 : w = .isRef (.static Bundle.tN "UNASSIGNED_STACK" Bundle.steD)
  · rw [e1]; exact hU
  · by_cases e2 : w = .isRef (.static Bundle.tN "SUPPRESSED_SENTINEL" Bundle.listD)
    · rw [e2]; exact hN
    · by_cases e3 : w = .laysStatic Bundle.tN "UNASSIGNED_STACK" Bundle.steD
      · rw [e3]; exact lU
      · by_cases e4 : w = .laysStatic Bundle.tN "SUPPRESSED_SENTINEL" Bundle.listD
        · rw [e4]; exact lN
        · exact h1 w (List.mem_filter.mpr ⟨hw, by unfold vx_no; rw [decide_eq_true e1, decide_eq_true e2, decide_eq_true e3, decide_eq_true e4]; rfl⟩)
/-- where a static field lies, its class's statics cell in H -/
def vx_L (C n d : String) (A : Nat → Prop) (U : State) (H : Heap) : Prop := ∃ (c : ClassId) (k : Class) (i : Nat) (f : Field) (a : Nat) (cell : Cell), U.vm.findClass C = some c ∧ U.fieldFound? C n d = some (c, k, i, f) ∧ f.isStatic = true ∧ k.statics = some a ∧ H[a]? = some cell ∧ cell.vm.isStatics = true ∧ cell.cls = c ∧ f.slot < cell.slots.size ∧ k.staticTypes[f.slot]? = some f.type ∧ ¬ A a
theorem vx_L.moved {C n d : String} {A : Nat → Prop} {u U : State} {H : Heap} (hvm : u.vm.Alike U.vm) (h : vx_L C n d A u H) : vx_L C n d A U H := by
  obtain ⟨c, k, i, f, a, cell, h1, h2, h3, h4, h5, h6, h7, h8, h9, h10⟩ := h
  obtain ⟨k', hi', he⟩ := State.fieldFound?_setVm hvm h2
  exact ⟨c, k', i, f, a, cell, by rw [hvm.findClass]; exact h1, hi', h3, by rw [he]; exact h4, h5, h6, h7, h8, by rw [he]; exact h9, h10⟩
theorem vx_L.kept {C n d : String} {A : Nat → Prop} {U : State} {H H1 : Heap} (h : vx_L C n d A U H) (hq : ∀ a : Nat, a < H.size → ¬ A a → H1[a]? = H[a]?) : vx_L C n d A U H1 := by
  obtain ⟨c, k, i, f, a, cell, h1, h2, h3, h4, h5, h6, h7, h8, h9, h10⟩ := h
  exact ⟨c, k, i, f, a, cell, h1, h2, h3, h4, by rw [hq a (Array.getElem?_eq_some_iff.mp h5).1 h10]; exact h5, h6, h7, h8, h9, h10⟩
theorem vx_L.narrow {C n d : String} {A B : Nat → Prop} {U : State} {H : Heap} (h : vx_L C n d A U H) (hAB : ∀ q, B q → A q) : vx_L C n d B U H := by
  obtain ⟨c, k, i, f, a, cell, h1, h2, h3, h4, h5, h6, h7, h8, h9, h10⟩ := h
  exact ⟨c, k, i, f, a, cell, h1, h2, h3, h4, h5, h6, h7, h8, h9, fun z => h10 (hAB _ z)⟩
theorem vx_L.word {C n d : String} {A : Nat → Prop} {s : State} {args : Array Value} (h : vx_L C n d A s s.heap) : (Cond.laysStatic C n d).before args s = true := by
  obtain ⟨c, k, i, f, a, cell, h1, h2, h3, h4, h5, h6, h7, h8, h9, -⟩ := h
  show (Cond.laysStatic C n d).holds args s none s [] = true
  exact Cond.laysStatic_of h1 h2 h3 h4 h5 h6 h7 h8 h9
/-- .. and what it holds: null or some reference -/
def vx_Zq (C n d : String) (A : Nat → Prop) (U : State) (H : Heap) : Prop := va_Zq C n d A U H ∧ vx_L C n d A U H
theorem vx_Zq.moved {C n d : String} {A : Nat → Prop} {u U : State} {H : Heap} (hvm : u.vm.Alike U.vm) (h : vx_Zq C n d A u H) : vx_Zq C n d A U H := ⟨va_Zq.moved hvm h.1, vx_L.moved hvm h.2⟩
theorem vx_Zq.kept {C n d : String} {A : Nat → Prop} {U : State} {H H1 : Heap} (h : vx_Zq C n d A U H) (hq : ∀ a : Nat, a < H.size → ¬ A a → H1[a]? = H[a]?) : vx_Zq C n d A U H1 := ⟨va_Zq.kept h.1 hq, vx_L.kept h.2 hq⟩
theorem vx_Zq.narrow {C n d : String} {A B : Nat → Prop} {U : State} {H : Heap} (h : vx_Zq C n d A U H) (hAB : ∀ q, B q → A q) : vx_Zq C n d B U H := ⟨va_Zq.narrow h.1 hAB, vx_L.narrow h.2 hAB⟩
theorem vx_Zqof {args : Array Value} {s : State} {C n d : String} {A : Nat → Prop} (hl : (Cond.laysStatic C n d).before args s = true) (hini : (Cond.initialized C).before args s = true) (h : (Cond.isRef (.static C n d)).before args s = true) (hA : ∀ a : Nat, a < s.heap.size → ¬ A a) : vx_Zq C n d A s s.heap := by
  refine ⟨va_Zqof hl hini h hA, ?_⟩
  obtain ⟨c, k, i, f, a, cell, h1, h2, h3, h4, h5, h6, h7, h8, h9⟩ := Cond.laysStatic_spec hl
  exact ⟨c, k, i, f, a, cell, h1, h2, h3, h4, h5, h6, h7, h8, h9, hA a (Array.getElem?_eq_some_iff.mp h5).1⟩
theorem vx_isRef {C n d : String} {v : Value} {A : Nat → Prop} {s : State} {args : Array Value} (h : va_Z C n d v A s s.heap) (hv : v.isRef = true) : (Cond.isRef (.static C n d)).before args s = true := by
  obtain ⟨cf, kf, fi, f, a, cell, h1, h2, h3, h4, h5, h6, h7, -⟩ := h
  have he : (Term.static C n d).eval args s none [] s = some v := by
    simp [Term.eval, State.fieldNamed?, h1, h2, h4, h5, h6, h7]
  simp only [Cond.before, Cond.holds, Cond.value, he]
  cases v <;> simp_all [Value.isRef]
theorem vx_isRefq {C n d : String} {A : Nat → Prop} {s : State} {args : Array Value} (h : va_Zq C n d A s s.heap) : (Cond.isRef (.static C n d)).before args s = true := by
  rcases h with h | ⟨t, h⟩
  · exact vx_isRef h rfl
  · exact vx_isRef h rfl
/-- the same frame, seen from here: as if the method were called anew in this heap -/
theorem vx_rebase {T : State} (X : Stand p l e R s m args below meth c T locs cells slots) {R' : Room} (hf : R'.frames ≤ R.frames) (hl : R'.locals ≤ R.locals) (hc : cells + R'.cells ≤ R.cells) (hs : slots + R'.slots ≤ R.slots) :
    Stand p l e R' ((T.setVm s.vm).setFrames (.invoking m args :: below)) m args below meth c T [] 0 0 := by
  have htop : (T.setVm s.vm).topJava?.isSome := X.here.top
  have hF : ((T.setVm s.vm).setFrames (.invoking m args :: below)).frames = .invoking m args :: below := State.frames_setFrames _ (State.cur_lt_of_top htop)
  obtain ⟨g₀, hg0⟩ := Option.isSome_iff_exists.mp htop
  obtain ⟨r, hr⟩ := State.topJava?_eq_some.mp hg0
  have hl9 : e.platform.stackLimits (T.setVm s.vm).me = e.platform.stackLimits s.me := X.limits
  have hb9 : (T.setVm s.vm).me.stackBytes = s.me.stackBytes := X.bytes
  refine ⟨X.admits, X.cas, X.clock, hF, ?_, X.hears, X.method, X.code, X.here, X.tail, X.warmed, ?_, ?_, ?_⟩
  · have h := X.room
    have hU : ((T.setVm s.vm).setFrames (.invoking m args :: below)).localsInUse = s.localsInUse := by
      rw [State.localsInUse_invoking hF (meth := meth) (c := c) X.method X.code, State.localsInUse_invoking X.frames X.method X.code]
    simp only [State.hasRoom, Bool.and_eq_true, decide_eq_true_eq] at h ⊢
    obtain ⟨⟨⟨⟨h1, h2, h3, h4, h5, h6⟩, h7⟩, h8⟩, h9⟩ := h
    rw [X.frames, List.length_cons] at h2 h3
    have q1 := X.heapSize
    have q2 := X.used
    simp only [hF, hU, List.length_cons, State.stackLimits_setFrames, State.stackBytes_setFrames, hl9, hb9]
    refine ⟨⟨⟨⟨by omega, by omega, by omega, by omega, by omega, h6⟩, ?_⟩, ?_⟩, X.book⟩
    · show T.heap.size + R'.cells ≤ e.platform.maxCells
      omega
    · show T.slotsUsed + R'.slots ≤ e.platform.maxSlots
      omega
  · rw [State.stackLimits_setFrames]; rfl
  · rw [State.stackBytes_setFrames]; rfl
  · refine ⟨?_, Nat.le_refl _, Nat.le_refl _, ?_, ?_, fun a c9 h9 => ⟨c9, h9, rfl, rfl, fun _ _ => rfl⟩⟩
    · obtain ⟨t, ht, -⟩ := State.frames_cons hr
      show T.setVm s.vm = { ((T.setVm s.vm).setFrames (.invoking m args :: below)).setFrames (T.setVm s.vm).frames with heap := T.heap, slotsUsed := T.slotsUsed }
      rw [State.setFrames_setFrames, State.setFrames_self ht]
      rfl
    · show T.slotsUsed = T.slotsUsed + ((T.heap.toList.drop T.heap.size).map (·.slots.size)).sum
      rw [List.drop_eq_nil_of_le (Nat.le_of_eq Array.length_toList)]
      rfl
    · show ((T.heap.toList.drop T.heap.size).map (·.slots.size)).sum ≤ 0
      rw [List.drop_eq_nil_of_le (Nat.le_of_eq Array.length_toList)]
      exact Nat.le_refl _
/-- 'throw new E()': new; dup; invokespecial; athrow -/
theorem vx_throw0 {cc : ByteArray} {pc : Nat} (hexec : p.tables.exec = Jvm.exec) (hb : c.code = cc) (hl : l.stackTraces = false) {own cls : String} {names : List String} {ik ic mc ms : Nat} {A : Nat → Prop}
    (hown : s.vm.findClass own = some m.cls) (hcls : Bundle.fit cls = true) (hnames : ∀ n ∈ names, Bundle.fit n = true)
    (hk : (Cond.classLink own ik cls).before args s = true) (hini : (Cond.initialized cls).before args s = true) (hat : ∀ w ∈ vx_at0 own ic cls names, w.before args s = true)
    (hgood : ∀ w ∈ Cond.classLink own ik cls :: Cond.initialized cls :: vx_at0 own ic cls names, vx_ot w = true)
    (hU : vx_Zq Bundle.tN "UNASSIGNED_STACK" Bundle.steD A s s.heap) (hN : vx_Zq Bundle.tN "SUPPRESSED_SENTINEL" Bundle.listD A s s.heap) (hS : va_S A s.heap H locs) (hsize : ls.size = c.maxLocals)
    (d0 : decode cc pc = .ok (.new ik, 3)) (d3 : decode cc (pc + 3) = .ok (.dup, 1)) (d4 : decode cc (pc + 4) = .ok (.invokespecial ic, 3)) (d7 : decode cc (pc + 7) = .ok (.athrow, 1))
    (hout : ∀ x ∈ c.exceptionTable.toList, covers x (pc + 7) = false)
    (hRframes : names.length + 3 < R.frames) (hRlocals : (rest.map fun v => v.category).sum + (13 * (names.length + 1) + 42) ≤ R.locals) (hRcells : cells + 1 ≤ R.cells) (hRslots : slots + 6 ≤ R.slots) (hlocks : meth.locks = false)
    (hx : ∀ t : State, s.vm.Alike t.vm → H.size ≤ t.heap.size → (∀ q : Nat, q < H.size → t.heap[q]? = H[q]?) → XC cls s t)
    (hf : ∀ z ∈ locs, free z.base) (hc : cells + 1 ≤ mc) (hs : slots + 6 ≤ ms) :
    W p l e R s m args below meth c H locs cells slots (vx_MQ below Qc XC args s mc ms free) (F0 m pc ls rest) := by
  intro T hT X
  have htr : e.platform.stackTraces = false := (show e.platform.stackTraces = l.stackTraces by rw [X.admits.platform]).trans hl
  have Y := vx_rebase X (R' := { frames := R.frames, locals := R.locals, cells := 1, slots := 6 }) (Nat.le_refl _) (Nat.le_refl _) hRcells hRslots
  obtain ⟨s', hA⟩ : ∃ z, z = (T.setVm s.vm).setFrames (.invoking m args :: below) := ⟨_, rfl⟩
  rw [← hA] at Y
  have hvm : s'.vm = s.vm := by rw [hA]; rfl
  have hhp : s'.heap = H := by rw [hA]; exact hT
  have hW0 : s.WarmedH s'.vm := by rw [hvm]; exact State.WarmedH.refl s
  have hat' : ∀ w ∈ vx_at0 own ic cls names, w.before args s' = true := fun w hw => vx_ot_at hW0 hvm.symm (hgood w (List.mem_cons_of_mem _ (List.mem_cons_of_mem _ hw))) (hat w hw)
  have hk' : (Cond.classLink own ik cls).before args s' = true := vx_ot_at hW0 hvm.symm (hgood _ List.mem_cons_self) hk
  have hini' : (Cond.initialized cls).before args s' = true := vx_ot_at hW0 hvm.symm (hgood _ (List.mem_cons_of_mem _ List.mem_cons_self)) hini
  have hU' : vx_Zq Bundle.tN "UNASSIGNED_STACK" Bundle.steD A s' s'.heap := by rw [hhp]; exact vx_Zq.moved hW0.alike (hU.kept hS.2.1)
  have hN' : vx_Zq Bundle.tN "SUPPRESSED_SENTINEL" Bundle.listD A s' s'.heap := by rw [hhp]; exact vx_Zq.moved hW0.alike (hN.kept hS.2.1)
  have h : ∀ w ∈ Bundle.ownAtoms0 own ic cls names, w.before args s' = true := vx_own hat' (vx_isRefq hU'.1) (vx_isRefq hN'.1) hU'.2.word hN'.2.word
  have hown' : s'.vm.findClass own = some m.cls := by rw [hvm]; exact hown
  have hins : (Cond.instantiable cls 6).before args s' = true := h _ (by simp [Bundle.ownAtoms0])
  obtain ⟨vm₁, cX, kX, hfX, hkX, -, -, X₁, st1⟩ := Y.newCold hexec (own := own) (C := cls) (index := ik) (n := 6) hown' hk' hins hini'
    (g := F0 m pc ls rest) rfl (by rw [hb]; exact d0) (Nat.le_refl _) (Nat.le_refl _)
  generalize hT1 : (T.setVm vm₁).pushCell { cls := cX, slots := kX.instanceTypes.map defaultValue, vm := .none } = T1 at X₁ st1
  have hcat : (Value.ref T.heap.size).category = 1 := rfl
  have hcellA : T1.heap[T.heap.size]? = some (freshCell cX kX) := by rw [← hT1]; exact State.heap_pushCell_size _ _
  have d3' : decode c.code (pc + 3) = .ok (.dup, 1) := by rw [hb]; exact d3
  obtain ⟨U, hsteps, hrun, hend, hW, hsame, ce, hce, hO⟩ := X₁.ctorThrow0 hexec htr (own := own) (cls := cls) (names := names) (ic := ic) hown' hcls hnames h (fun x hx => nomatch hx) hfX hkX hcellA (by rw [hhp, hT]; exact Nat.le_refl _)
    (g := { method := m, pc := pc + 4, locals := ls, stack := .ref T.heap.size :: .ref T.heap.size :: rest, locked := none }) rfl hsize rfl rfl (rest := rest) rfl
    (by rw [hb]; exact d4) (by rw [hb]; exact d7) hout hRframes (by simp only [List.map_cons, List.sum_cons, hcat]; omega) hlocks
  obtain ⟨f1, f2⟩ := vx_frame hsame
  rw [hhp] at f1 f2
  have hWs : s.WarmedH U.vm := State.WarmedH.trans hW0 hW
  have hcl : s.vm.findClass cls = some ce.cls := by
    have h9 := hO.cls
    rw [hvm] at h9
    exact h9
  have hall : s.sameButNew ({ U with vm := s.vm } : State) locs mc ms := by
    subst hA
    obtain ⟨e1, e2⟩ := hsame
    rw [State.setFrames_setFrames] at e1
    have h2 : (T.setVm s.vm).sameButNew ({ U with vm := s.vm } : State) [] (0 + 1) (0 + 6) := ⟨e1, e2⟩
    have h3 := X.same.trans h2
    rw [List.append_nil] at h3
    exact h3.mono hc hs
  refine ⟨U, ?_, .threw T.heap.size, hrun, hend, Or.inr ⟨T.heap.size, rfl, cls, ce, locs, hx U hWs.alike f1 (fun q hq => f2 q hq (fun z hz => nomatch hz)), hce, hO.vm, hcl, hWs, hall, hf⟩⟩
  refine st1 _ ?_
  show Steps p.tables e below (T1.setTop { method := m, pc := pc + 3, locals := ls, stack := .ref T.heap.size :: rest, locked := none }) _
  jvm_step X₁.here [X₁.here.top, hexec, d3', Value.category]
  exact hsteps
end Ends
section Bodies
variable {l : Launch}
theorem vx_ofW {y : MethodName} {ws ws' : List Cond} {rm : Room} {Pc : Array Value → State → Prop} {Qc : Array Value → State → Outcome → State → Prop} {XC : String → State → State → Prop} {mc ms : Nat} {free : Addr → Prop} {cc : ByteArray} {maxL : Nat} {ret : Option FieldType}
    (hy : plainName y.cls = true) (hw : ws = Cond.code y cc maxL ret :: ws')
    (body : ∀ p e s m args below meth c s₁, BodyLoose p l y (headSpec ws rm) cc maxL ret e s m args below meth c s₁ → c.maxLocals = maxL → (∀ x ∈ c.exceptionTable.toList, False) → Pc args s →
      W p l e (headSpec ws rm).room s m args below meth c s.heap [] 0 0 (vx_MQ below Qc XC args s mc ms free) (entryFrame m args maxL)) : vx_Met l y ws rm Pc Qc XC mc ms free := by
  refine MetFree.of_bodyS (code := cc) (maxLocals := maxL) (ret := ret) hy ?_ ?_
  · intro args s m h hn
    obtain ⟨meth, c, h1, h2, h3, h4, h5, h6, -, -⟩ := Cond.code_spec hn (atoms_spec (ws := ws) h _ (by rw [hw]; exact List.mem_cons_self))
    exact ⟨meth, c, h1, h2, h3, h4, h5, h6⟩
  · intro p e s m args below meth c s₁ B hml hP _
    have hh0 : s₁.heap = s.heap := by rw [B.state]; rfl
    have ht : ∀ x ∈ c.exceptionTable.toList, False := by
      obtain ⟨meth9, c9, h1, h2, -, -, -, -, h7, -⟩ := Cond.code_spec B.named (atoms_spec (ws := ws) B.pre _ (by rw [hw]; exact List.mem_cons_self))
      cases Option.some.inj (h1.symm.trans B.method)
      cases Option.some.inj (h2.symm.trans (Stand.of_body B).code)
      intro x hx
      rw [Array.isEmpty_iff.mp h7] at hx
      cases hx
    obtain ⟨t, a1, o, b1, b2, b3⟩ := body p e s m args below meth c s₁ B hml ht hP s₁ hh0 (Stand.of_body B)
    exact ⟨t, o, a1, b1, b2, b3⟩
/-- the table of a body with handlers -/
theorem vx_table {p : Program} {x y : MethodName} {S : Spec} {cc bytes : ByteArray} {maxL maxL' : Nat} {ret ret' : Option FieldType} {e : Env} {s s₁ : State} {m : MethodId} {args : Array Value} {below : List Frame} {meth : Method} {c : Code} {hh : List (Nat × Nat × Nat × Nat)}
    (B : BodyLoose p l y S cc maxL ret e s m args below meth c s₁) (h : (Cond.codeWith y bytes maxL' ret' hh).before args s = true) : c.exceptionTable.toList = tableOf hh := by
  obtain ⟨m9, meth9, c9, hn9, h1, h2, -, -, h6, -⟩ := Cond.codeWith_spec h
  cases Option.some.inj (hn9.symm.trans B.named)
  cases Option.some.inj (h1.symm.trans B.method)
  cases Option.some.inj (h2.symm.trans (Stand.of_body B).code)
  rw [← h6, table_eq]
end Bodies
end VXA
/-! ===== END ===== -/
/-! ===== BEGIN a static call of a method with an exception table ===== -/
section VXS
variable {p : Program} {l : Launch} {e : Env} {R : Room} {s : State} {m : MethodId} {args : Array Value} {below : List Frame} {meth : Method} {c : Code} {T : State} {H : Heap} {locs : List Loc} {cells slots : Nat}
abbrev vx_CSW (R : Room) (s : State) (args : Array Value) (own : String) (index : Nat) (y : MethodName) (bytes : ByteArray) (maxL : Nat) (ret : Option FieldType) (hh : List (Nat × Nat × Nat × Nat)) (ws : List Cond) (rm : Room) (mc ms n : Nat) : Prop :=
  (rm.cells = mc ∧ rm.slots = ms ∧ rm.frames + 1 ≤ R.frames ∧ 8 + (maxL + 11) + rm.locals ≤ R.locals ∧ (∀ w ∈ ws, ∀ (a' : Array Value) (U : State), s.WarmedH U.vm → w.before a' U = true) ∧ Cond.codeWith y bytes maxL ret hh ∈ ws) ∧
  (Cond.codeWith y bytes maxL ret hh).before args s = true ∧ (Cond.initialized y.cls).before args s = true ∧ (y.cls ≠ "java/lang/invoke/MethodHandle" ∧ y.cls ≠ "java/lang/invoke/VarHandle") ∧
  (∀ sig, parseMethodDescriptor y.desc = some sig → n = sig.parameters.length) ∧ (Cond.methodLink own index y).before args s = true ∧ (Cond.static y).before args s = true
theorem vx_cwSW {own : String} {index maxL mc ms : Nat} {y : MethodName} {bytes : ByteArray} {ret : Option FieldType} {hh : List (Nat × Nat × Nat × Nat)} {Ts ws ws' : List Cond} {rm : Room} (n : Nat) (ht : ∀ w ∈ Ts, w.before args s = true) (hT : GoodIn Ts (va_wsS own index y ws)) (hw : ws = Cond.codeWith y bytes maxL ret hh :: ws') (hrc : rm.cells = mc) (hrs : rm.slots = ms)
    (hd : y.cls ≠ "java/lang/invoke/MethodHandle" ∧ y.cls ≠ "java/lang/invoke/VarHandle" ∧ (parseMethodDescriptor y.desc).map (fun d => d.parameters.length) = some n) (hR : rm.frames + 1 ≤ R.frames ∧ 8 + (maxL + 11) + rm.locals ≤ R.locals) :
    vx_CSW R s args own index y bytes maxL ret hh ws rm mc ms n := by
  have ok : ∀ w ∈ va_wsS own index y ws, w.before args s = true := fun w h => ht w (hT w h).1
  have hG : GoodIn Ts ws := fun w h => hT w (by unfold va_wsS; exact List.mem_append_right _ h)
  have hc : Cond.codeWith y bytes maxL ret hh ∈ ws := by rw [hw]; exact List.mem_cons_self
  refine ⟨⟨hrc, hrs, hR.1, hR.2, pay_in ht hG, hc⟩, ht _ (hG _ hc).1, ok _ (by simp [va_wsS]), ⟨hd.1, hd.2.1⟩, fun sig h => ?_, ok _ (by simp [va_wsS]), ok _ (by simp [va_wsS])⟩
  have h2 := hd.2.2
  rw [h] at h2
  exact (Option.some.inj h2).symm
theorem vx_callSW (X : Stand p l e R s m args below meth c T locs cells slots) (hexec : p.tables.exec = Jvm.exec) {own : String} {index : Nat} {y : MethodName} {bytes : ByteArray} {maxL : Nat} {ret : Option FieldType} {hh : List (Nat × Nat × Nat × Nat)}
    (hown : s.vm.findClass own = some m.cls) (hlink : (Cond.methodLink own index y).before args s = true) (hstat : (Cond.static y).before args s = true) (hinit : (Cond.initialized y.cls).before args s = true)
    (hcode : (Cond.codeWith y bytes maxL ret hh).before args s = true) (hy : y.cls ≠ "java/lang/invoke/MethodHandle" ∧ y.cls ≠ "java/lang/invoke/VarHandle")
    {W9 : Nat} {Pre : Pt → Array Value → Prop} {Post : Pt → Array Value → Option Value → Pt → Prop} (hK : Back l R p e below s args y 3 W9 Pre Post)
    {g : JFrame} (hg : g.method = m) (hsize : g.locals.size = c.maxLocals) {argsL rest : List Value} (hlen : ∀ sig, parseMethodDescriptor y.desc = some sig → argsL.length = sig.parameters.length)
    (hstack : g.stack = argsL.reverse ++ rest) (hW : 2 * g.monitorRoom + (rest.map fun v => v.category).sum ≤ W9) (hdg : decode c.code g.pc = .ok (.invokestatic index, 3))
    (hpre : ∀ vm₁, s.WarmedH vm₁ → Pre ⟨T.setVm vm₁, locs, cells, slots⟩ argsL.toArray) :
    ∃ (v : Option Value) (vm₁ : Vm) (B : Pt), s.WarmedH vm₁ ∧ Stand p l e R s m args below meth c B.U B.locs B.cells B.slots ∧ Post ⟨T.setVm vm₁, locs, cells, slots⟩ argsL.toArray v B ∧
      ∀ target, Steps p.tables e below (B.U.setTop { g with pc := g.pc + 3, stack := v.toList ++ rest }) target → Steps p.tables e below (T.setTop g) target := by
  obtain ⟨mk, methM, cM, hnamed, hmethM, -, -, -, -, -, -, hsigM⟩ := Cond.codeWith_spec hcode
  have hstatic : methM.isStatic = true := Cond.static_spec hnamed hmethM hstat
  obtain ⟨kP, hkP, -⟩ := className_of_methodNamed hnamed
  have hinitP : kP.init = .initialized := Cond.initialized_spec (findClass_of_methodNamed hnamed) hkP hinit
  obtain ⟨vm₁, X₁, hstep₁⟩ := X.invokestatic hexec hown hlink hnamed hmethM hstatic hkP hinitP hy (g := g) hg (argsL := argsL) (rest := rest) (hlen _ hsigM) hstack hdg
  obtain ⟨v, B, X', hpost, hsteps⟩ := hK m meth c ⟨T.setVm vm₁, locs, cells, slots⟩ { g with stack := rest } (.invokestatic index) mk argsL.toArray X₁ hg hsize hdg hW (X₁.named hnamed) (hpre vm₁ X₁.warmed)
  exact ⟨v, vm₁, B, X₁.warmed, X', hpost, fun target h => hstep₁ _ fun acts => by rw [doInvoke_state]; exact hsteps.trans h⟩
theorem vx_runSW {y : MethodName} {bytes cc : ByteArray} {maxL nL mc ms n index : Nat} {ret : Option FieldType} {hh : List (Nat × Nat × Nat × Nat)} {ws : List Cond} {rm : Room} {Pc : Array Value → State → Prop} {Qc : Array Value → State → Outcome → State → Prop} {free : Addr → Prop} {Ts : List Cond} {own : String} {As rest : List Value} {g : JFrame}
    (S : CallFix p m c cc nL s args Ts own) (hM : Met l y ws rm Pc Qc mc ms free) (cw : vx_CSW R s args own index y bytes maxL ret hh ws rm mc ms n) (hp : PreS s H Pc As)
    (hg : g.method = m) (hn : As.length = n) (hsize : g.locals.size = nL) (hstack : g.stack = As.reverse ++ rest) (hW : 2 * g.monitorRoom + (rest.map fun v => v.category).sum ≤ 8) (hdg : decode cc g.pc = .ok (.invokestatic index, 3)) (hf : cells + mc ≤ R.cells ∧ slots + ms ≤ R.slots) :
    va_Run p l e R s m args below meth c H locs cells slots mc ms g rest (Qc As.toArray) (free) := by
  obtain ⟨⟨hrc, hrs, hfr, hlo, hws, hcw⟩, hcode, hini, hy, hlen, hl, hstt⟩ := cw
  have hK : Back l R p e below s args y 3 8 (PreOf R mc ms Pc) (PostOf Qc mc ms free) := va_backW (hh := hh) (bytes := bytes) (maxL := maxL) (ret := ret) hM hp.1 hrc hrs hfr hlo hws hcw (fun a' U hW => word_at hW (Or.inl (by first | rfl | simp [Cond.onTables, Cond.keeps, Cond.steady])) hini)
  obtain ⟨hx, hb, hml, ho, -⟩ := S
  intro T hT X
  obtain ⟨v, vm₁, ⟨U', l2, c2, s2⟩, hW₁, X', ⟨g', mk, t, L, e1, e2, hq, h1, hL, h2, h3⟩, st⟩ := vx_callSW X hx (hh := hh) (bytes := bytes) (maxL := maxL) (ret := ret) ho hl hstt hini hcode hy hK hg (hsize.trans hml.symm) (argsL := As) (rest := rest) (fun sig h => hn.trans (hlen sig h)) hstack hW (by rw [hb]; exact hdg)
    (fun vm₁ hW₁ => ⟨hf.1, hf.2, hp.2 (T.setVm vm₁) hT hW₁⟩)
  dsimp only [Pt.U, Pt.locs, Pt.cells, Pt.slots] at X' e1 e2 h1 h2 h3 st
  subst h1; subst h2; subst h3
  exact ⟨v, (T.setVm vm₁).calling g' mk As.toArray, t, U', L, hT, X', hL, e1, e2, hq, st⟩
/-- not caught here, past rows that name other classes: it goes on to the caller -/
theorem vx_lt {D : va_G} {cl : List vw_C} {ws : va_W} {H1 : Heap} (h : va_P D cl ws H1) {k : Nat} {q : Nat × va_E} (hk : ws[k]? = some q) : q.1 < H1.size := (h k q hk).lt
end VXS
/-! ===== END ===== -/
/-! ===== BEGIN methods with a table of their own: called by a name, returning or throwing ===== -/
section VXH
/-! vx_backW, vx_callVX, vx_callSX, vx_callVW, vx_runVW, vx_runVX, vx_runSX, vx_ofWH follow the same proofs as their sisters above (Free/Laws.lean, Shelf42/LK1.lean); vx_outP calls Shelf42/NT130.lean (outThrough). -/
section
variable {l : Launch} {R : Room} {p : Program} {e : Env} {below : List Frame} {s : State} {sargs : Array Value} {y : MethodName} {len W9 : Nat}
theorem vx_backW {ws : List Cond} {rm : Room} {Pc : Array Value → State → Prop} {Qc : Array Value → State → Outcome → State → Prop} {XC : String → State → State → Prop} {mc ms : Nat} {free : Addr → Prop} {bytes : ByteArray} {maxL : Nat} {ret : Option FieldType} {hh : List (Nat × Nat × Nat × Nat)}
    (hM : vx_Met l y ws rm Pc Qc XC mc ms free) (hblind : FrameBlind Pc) (hrc : rm.cells = mc) (hrs : rm.slots = ms)
    (hframes : rm.frames + 1 ≤ R.frames) (hlocals : W9 + (maxL + 11) + rm.locals ≤ R.locals)
    (hws : ∀ w ∈ ws, ∀ a' U, s.WarmedH U.vm → w.before a' U = true) (hcode : Cond.codeWith y bytes maxL ret hh ∈ ws) (hinit : ∀ a' U, s.WarmedH U.vm → (Cond.initialized y.cls).before a' U = true) :
    vx_Back l R p e below s sargs y len W9 (PreOf R mc ms Pc) (PostOf Qc mc ms free) (vx_Post XC mc ms free) := by
  intro m meth c A g ig mk a X hg hsize hdg hW hn hp
  have h1 : (headSpec ws rm).pre.before a A.U = true := atoms_intro fun w hw => hws w hw _ _ X.warmed
  have h2 : (Cond.codeWith y bytes maxL ret hh).before a A.U = true := hws _ hcode _ _ X.warmed
  have h3 : (Cond.initialized y.cls).before a A.U = true := hinit _ _ X.warmed
  have h4 : A.cells + (headSpec ws rm).room.cells ≤ R.cells := by rw [show (headSpec ws rm).room.cells = mc from hrc]; exact hp.1
  have h5 : A.slots + (headSpec ws rm).room.slots ≤ R.slots := by rw [show (headSpec ws rm).room.slots = ms from hrs]; exact hp.2.1
  have hPc : Pc a (A.U.calling g mk a) := hblind _ _ _ _ hp.2.2
  obtain ⟨U, Ls, c0, s0⟩ := A
  dsimp only [Pt.U, Pt.locs, Pt.cells, Pt.slots] at h1 h2 h3 h4 h5 X hn hPc ⊢
  obtain ⟨m9, methY, cY, hn9, hmY, hcY, -, hlY, -⟩ := Cond.codeWith_spec h2
  cases Option.some.inj (hn9.symm.trans hn)
  obtain ⟨kY, hkY, -⟩ := className_of_methodNamed hn
  have hinitY : kY.init = .initialized := Cond.initialized_spec (findClass_of_methodNamed hn) hkY h3
  have h : At U g.method c below := by rw [hg]; exact X.here
  have hlocals9 : W9 + (maxL + 11) + (headSpec ws rm).room.locals ≤ R.locals := hlocals
  have happ : (headSpec ws rm).appliesLoose y e.platform (U.calling g mk a) = true :=
    Spec.appliesLoose_calling (g := g) h hdg hn hkY hinitY
      (X.room_calling (g := g) (R' := (headSpec ws rm).room) hsize hmY hcY hframes (by rw [hlY]; omega) h4 h5) h1
  obtain ⟨mid, hmid⟩ := h.above
  have hfr : (U.setTop g).frames = (.java g :: mid) ++ below := by rw [State.frames_setTop' g h.top, hmid]; rfl
  obtain ⟨o, s₂, hsteps, -, hend, hq⟩ := Steps.callFree hM p X.admits X.cas X.clock (acts := []) hfr happ hPc trivial
  have hq' : vx_Q Qc XC mc ms free a (U.calling g mk a) o s₂ := hq
  rw [State.frames_setTop' g h.top] at hend
  obtain ⟨g₀, hg0⟩ := Option.isSome_iff_exists.mp h.top
  obtain ⟨r, hr⟩ := State.topJava?_eq_some.mp hg0
  have hr' : (({ U with heap := s₂.heap, slotsUsed := s₂.slotsUsed } : State).setVm s₂.vm).frames = .java g₀ :: r := hr
  rcases hq' with ⟨hqc, L, hfe, hL⟩ | ⟨q, rfl, E, ce, L, hx, hce, hcv, hcl, hW₂, hsm, hL⟩
  · obtain ⟨⟨v, rfl⟩, hW₂, e2, q2, q3, q4, q5, q6⟩ := id hfe
    have e3 : s₂ = ({ (U.calling g mk a).setFrames s₂.frames with heap := s₂.heap, slotsUsed := s₂.slotsUsed } : State).setVm s₂.vm := by
      have : s₂ = ({ s₂ with vm := (U.calling g mk a).vm } : State).setVm s₂.vm := rfl
      rw [e2] at this
      exact this
    obtain ⟨c₂, i₂, len₂, hc₂, hd₂, hf₂⟩ := hend
    have hW' : U.WarmedH s₂.vm := hW₂
    have hcc : c₂ = c := by
      have h1 : s₂.code? g.method = U.code? g.method := by
        rw [State.code?_eq, State.code?_eq, hW'.alike.method?]
      exact Option.some.inj (hc₂.symm.trans (h1.trans h.code))
    subst hcc
    have hlen : len₂ = len := by rw [hdg] at hd₂; cases hd₂; rfl
    subst hlen
    have hs₂ : s₂ = (({ U with heap := s₂.heap, slotsUsed := s₂.slotsUsed } : State).setVm s₂.vm).setTop { g with pc := g.pc + len₂, stack := v.toList ++ g.stack } := by
      refine e3.trans ?_
      rw [hf₂, State.calling_eq h.top, State.setFrames_setFrames, State.setTop_of_frames _ hr', hr]
      rfl
    have hsame : U.sameButNew ({ U with heap := s₂.heap, slotsUsed := s₂.slotsUsed } : State) L mc ms := by
      refine ⟨?_, q2, q3, q4, q5, q6⟩
      obtain ⟨t, ht, -⟩ := State.frames_cons hr
      show ({ U with heap := s₂.heap, slotsUsed := s₂.slotsUsed } : State) = { U.setFrames U.frames with heap := s₂.heap, slotsUsed := s₂.slotsUsed }
      rw [State.setFrames_self ht]
    subst hg
    refine Or.inl ⟨v, ⟨(({ U with heap := s₂.heap, slotsUsed := s₂.slotsUsed } : State).setVm s₂.vm), Ls ++ L, c0 + mc, s0 + ms⟩,
      ⟨X.admits, X.cas, X.clock, X.frames, X.room, X.hears, X.method, X.code, (X.here.setHeapUsed s₂.heap s₂.slotsUsed).setVm hW'.alike, X.tail, State.WarmedH.trans X.warmed hW', X.limits, X.bytes, X.same.trans (hsame.setVm s.vm)⟩,
      ⟨g, mk, s₂, L, rfl, rfl, hqc, rfl, hL, rfl, rfl⟩, ?_⟩
    show Steps p.tables e below _ ((({ U with heap := s₂.heap, slotsUsed := s₂.slotsUsed } : State).setVm s₂.vm).setTop { g with pc := g.pc + len₂, stack := v.toList ++ g.stack })
    rw [← hs₂]
    exact hsteps
  · obtain ⟨e2, q2, q3, q4, q5, q6⟩ := id hsm
    have e3 : s₂ = ({ (U.calling g mk a).setFrames s₂.frames with heap := s₂.heap, slotsUsed := s₂.slotsUsed } : State).setVm s₂.vm := by
      have : s₂ = ({ s₂ with vm := (U.calling g mk a).vm } : State).setVm s₂.vm := rfl
      rw [e2] at this
      exact this
    have hf₂ : s₂.frames = .throwing q :: .java g :: U.frames.tail := hend
    have hW' : U.WarmedH s₂.vm := hW₂
    have hs₂ : s₂ = ((({ U with heap := s₂.heap, slotsUsed := s₂.slotsUsed } : State).setVm s₂.vm).setTop g).pushFrame (.throwing q) := by
      refine e3.trans ?_
      rw [hf₂, State.calling_eq h.top, State.setFrames_setFrames, State.pushFrame, State.frames_setTop _ hr', State.setTop_of_frames _ hr', State.setFrames_setFrames, hr]
      rfl
    have hsame : U.sameButNew ({ U with heap := s₂.heap, slotsUsed := s₂.slotsUsed } : State) L mc ms := by
      refine ⟨?_, q2, q3, q4, q5, q6⟩
      obtain ⟨t, ht, -⟩ := State.frames_cons hr
      show ({ U with heap := s₂.heap, slotsUsed := s₂.slotsUsed } : State) = { U.setFrames U.frames with heap := s₂.heap, slotsUsed := s₂.slotsUsed }
      rw [State.setFrames_self ht]
    subst hg
    refine Or.inr ⟨q, ⟨(({ U with heap := s₂.heap, slotsUsed := s₂.slotsUsed } : State).setVm s₂.vm), Ls ++ L, c0 + mc, s0 + ms⟩,
      ⟨X.admits, X.cas, X.clock, X.frames, X.room, X.hears, X.method, X.code, (X.here.setHeapUsed s₂.heap s₂.slotsUsed).setVm hW'.alike, X.tail, State.WarmedH.trans X.warmed hW', X.limits, X.bytes, X.same.trans (hsame.setVm s.vm)⟩,
      ⟨g, mk, s₂, L, E, ce, rfl, rfl, hx, hce, hcv, hcl, rfl, hL, rfl, rfl⟩, ?_⟩
    show Steps p.tables e below _ (((({ U with heap := s₂.heap, slotsUsed := s₂.slotsUsed } : State).setVm s₂.vm).setTop g).pushFrame (.throwing q))
    rw [← hs₂]
    exact hsteps
end
variable {p : Program} {l : Launch} {e : Env} {R : Room} {s : State} {m : MethodId} {args : Array Value} {below : List Frame} {meth : Method} {c : Code} {T : State} {H : Heap} {locs : List Loc} {cells slots : Nat}
theorem vx_callVX (X : Stand p l e R s m args below meth c T locs cells slots) (hexec : p.tables.exec = Jvm.exec) {own C : String} {index : Nat} {y : MethodName} {bytes : ByteArray} {maxL : Nat} {ret : Option FieldType} {hh : List (Nat × Nat × Nat × Nat)}
    (hown : s.vm.findClass own = some m.cls) (hlink : (Cond.methodLink own index y).before args s = true) (hinst : (Cond.instanceMethod y).before args s = true) (hsel : (Cond.selects C y y).before args s = true)
    (hcode : (Cond.codeWith y bytes maxL ret hh).before args s = true) (hy : y.cls ≠ "java/lang/invoke/MethodHandle" ∧ y.cls ≠ "java/lang/invoke/VarHandle")
    {W9 : Nat} {Pre : Pt → Array Value → Prop} {Post : Pt → Array Value → Option Value → Pt → Prop} {PostX : Pt → Array Value → Addr → Pt → Prop} (hK : vx_Back l R p e below s args y 3 W9 Pre Post PostX)
    {b : Addr} {cellB : Cell} (hcell : T.heap[b]? = some cellB) (hobj : cellB.vm.isStatics = false) (hcls : s.vm.findClass C = some cellB.cls)
    {g : JFrame} (hg : g.method = m) (hsize : g.locals.size = c.maxLocals) {argsL rest : List Value} (hlen : ∀ sig, parseMethodDescriptor y.desc = some sig → argsL.length = sig.parameters.length)
    (hstack : g.stack = argsL.reverse ++ .ref b :: rest) (hW : 2 * g.monitorRoom + (rest.map fun v => v.category).sum ≤ W9) (hdg : decode c.code g.pc = .ok (.invokevirtual index, 3))
    (hpre : ∀ vm₁, s.WarmedH vm₁ → Pre ⟨T.setVm vm₁, locs, cells, slots⟩ (Value.ref b :: argsL).toArray) :
    (∃ (v : Option Value) (vm₁ : Vm) (B : Pt), s.WarmedH vm₁ ∧ Stand p l e R s m args below meth c B.U B.locs B.cells B.slots ∧ Post ⟨T.setVm vm₁, locs, cells, slots⟩ (Value.ref b :: argsL).toArray v B ∧
      ∀ target, Steps p.tables e below (B.U.setTop { g with pc := g.pc + 3, stack := v.toList ++ rest }) target → Steps p.tables e below (T.setTop g) target) ∨
    (∃ (q : Addr) (vm₁ : Vm) (B : Pt), s.WarmedH vm₁ ∧ Stand p l e R s m args below meth c B.U B.locs B.cells B.slots ∧ PostX ⟨T.setVm vm₁, locs, cells, slots⟩ (Value.ref b :: argsL).toArray q B ∧
      Steps p.tables e below (T.setTop g) ((B.U.setTop { g with stack := rest }).pushFrame (.throwing q))) := by
  obtain ⟨mk, methM, hnamed, hmethM, hstM, habM⟩ := Cond.instanceMethod_spec hinst
  obtain ⟨m8, methM', cM, hn8, hmethM', -, -, -, -, -, -, hsigM⟩ := Cond.codeWith_spec hcode
  cases Option.some.inj (hn8.symm.trans hnamed)
  cases hmethM.symm.trans hmethM'
  obtain ⟨c2, r2, m2, q1, q2, q3, q4, kP, hkP, hkPi⟩ := Cond.selects_spec hsel
  cases hcls.symm.trans q1
  cases (State.methodFound?_of_named hnamed hy).symm.trans q2
  cases hnamed.symm.trans q3
  have hselP : selectMethod e.platform s.vm cellB.cls mk = .method mk := by rw [Launch.admits_selectMethod X.admits]; exact q4
  obtain ⟨vm₁, X₁, hstep₁⟩ := X.invokevirtual hexec hown hlink hnamed hmethM hstM hkP hkPi hy (a := b) (cell := cellB) hcell
    (fun z h => by rw [h] at hobj; cases hobj) hselP hmethM habM hkP hkPi (g := g) hg (argsL := argsL) (rest := rest) (hlen _ hsigM) hstack hdg
  rcases hK m meth c ⟨T.setVm vm₁, locs, cells, slots⟩ { g with stack := rest } (.invokevirtual index) mk (Value.ref b :: argsL).toArray X₁ hg hsize hdg hW (X₁.named hnamed) (hpre vm₁ X₁.warmed) with ⟨v, B, X', hpost, hsteps⟩ | ⟨q, B, X', hpost, hsteps⟩
  · exact Or.inl ⟨v, vm₁, B, X₁.warmed, X', hpost, fun target h => hstep₁ _ fun acts => by rw [doInvoke_state]; exact hsteps.trans h⟩
  · exact Or.inr ⟨q, vm₁, B, X₁.warmed, X', hpost, hstep₁ _ fun acts => by rw [doInvoke_state]; exact hsteps⟩
theorem vx_callSX (X : Stand p l e R s m args below meth c T locs cells slots) (hexec : p.tables.exec = Jvm.exec) {own : String} {index : Nat} {y : MethodName} {bytes : ByteArray} {maxL : Nat} {ret : Option FieldType} {hh : List (Nat × Nat × Nat × Nat)}
    (hown : s.vm.findClass own = some m.cls) (hlink : (Cond.methodLink own index y).before args s = true) (hstat : (Cond.static y).before args s = true) (hinit : (Cond.initialized y.cls).before args s = true)
    (hcode : (Cond.codeWith y bytes maxL ret hh).before args s = true) (hy : y.cls ≠ "java/lang/invoke/MethodHandle" ∧ y.cls ≠ "java/lang/invoke/VarHandle")
    {W9 : Nat} {Pre : Pt → Array Value → Prop} {Post : Pt → Array Value → Option Value → Pt → Prop} {PostX : Pt → Array Value → Addr → Pt → Prop} (hK : vx_Back l R p e below s args y 3 W9 Pre Post PostX)
    {g : JFrame} (hg : g.method = m) (hsize : g.locals.size = c.maxLocals) {argsL rest : List Value} (hlen : ∀ sig, parseMethodDescriptor y.desc = some sig → argsL.length = sig.parameters.length)
    (hstack : g.stack = argsL.reverse ++ rest) (hW : 2 * g.monitorRoom + (rest.map fun v => v.category).sum ≤ W9) (hdg : decode c.code g.pc = .ok (.invokestatic index, 3))
    (hpre : ∀ vm₁, s.WarmedH vm₁ → Pre ⟨T.setVm vm₁, locs, cells, slots⟩ argsL.toArray) :
    (∃ (v : Option Value) (vm₁ : Vm) (B : Pt), s.WarmedH vm₁ ∧ Stand p l e R s m args below meth c B.U B.locs B.cells B.slots ∧ Post ⟨T.setVm vm₁, locs, cells, slots⟩ argsL.toArray v B ∧
      ∀ target, Steps p.tables e below (B.U.setTop { g with pc := g.pc + 3, stack := v.toList ++ rest }) target → Steps p.tables e below (T.setTop g) target) ∨
    (∃ (q : Addr) (vm₁ : Vm) (B : Pt), s.WarmedH vm₁ ∧ Stand p l e R s m args below meth c B.U B.locs B.cells B.slots ∧ PostX ⟨T.setVm vm₁, locs, cells, slots⟩ argsL.toArray q B ∧
      Steps p.tables e below (T.setTop g) ((B.U.setTop { g with stack := rest }).pushFrame (.throwing q))) := by
  obtain ⟨mk, methM, cM, hnamed, hmethM, -, -, -, -, -, -, hsigM⟩ := Cond.codeWith_spec hcode
  have hstatic : methM.isStatic = true := Cond.static_spec hnamed hmethM hstat
  obtain ⟨kP, hkP, -⟩ := className_of_methodNamed hnamed
  have hinitP : kP.init = .initialized := Cond.initialized_spec (findClass_of_methodNamed hnamed) hkP hinit
  obtain ⟨vm₁, X₁, hstep₁⟩ := X.invokestatic hexec hown hlink hnamed hmethM hstatic hkP hinitP hy (g := g) hg (argsL := argsL) (rest := rest) (hlen _ hsigM) hstack hdg
  rcases hK m meth c ⟨T.setVm vm₁, locs, cells, slots⟩ { g with stack := rest } (.invokestatic index) mk argsL.toArray X₁ hg hsize hdg hW (X₁.named hnamed) (hpre vm₁ X₁.warmed) with ⟨v, B, X', hpost, hsteps⟩ | ⟨q, B, X', hpost, hsteps⟩
  · exact Or.inl ⟨v, vm₁, B, X₁.warmed, X', hpost, fun target h => hstep₁ _ fun acts => by rw [doInvoke_state]; exact hsteps.trans h⟩
  · exact Or.inr ⟨q, vm₁, B, X₁.warmed, X', hpost, hstep₁ _ fun acts => by rw [doInvoke_state]; exact hsteps⟩
theorem vx_callVW (X : Stand p l e R s m args below meth c T locs cells slots) (hexec : p.tables.exec = Jvm.exec) {own C : String} {index : Nat} {y : MethodName} {bytes : ByteArray} {maxL : Nat} {ret : Option FieldType} {hh : List (Nat × Nat × Nat × Nat)}
    (hown : s.vm.findClass own = some m.cls) (hlink : (Cond.methodLink own index y).before args s = true) (hinst : (Cond.instanceMethod y).before args s = true) (hsel : (Cond.selects C y y).before args s = true)
    (hcode : (Cond.codeWith y bytes maxL ret hh).before args s = true) (hy : y.cls ≠ "java/lang/invoke/MethodHandle" ∧ y.cls ≠ "java/lang/invoke/VarHandle")
    {W9 : Nat} {Pre : Pt → Array Value → Prop} {Post : Pt → Array Value → Option Value → Pt → Prop} (hK : Back l R p e below s args y 3 W9 Pre Post)
    {b : Addr} {cellB : Cell} (hcell : T.heap[b]? = some cellB) (hobj : cellB.vm.isStatics = false) (hcls : s.vm.findClass C = some cellB.cls)
    {g : JFrame} (hg : g.method = m) (hsize : g.locals.size = c.maxLocals) {argsL rest : List Value} (hlen : ∀ sig, parseMethodDescriptor y.desc = some sig → argsL.length = sig.parameters.length)
    (hstack : g.stack = argsL.reverse ++ .ref b :: rest) (hW : 2 * g.monitorRoom + (rest.map fun v => v.category).sum ≤ W9) (hdg : decode c.code g.pc = .ok (.invokevirtual index, 3))
    (hpre : ∀ vm₁, s.WarmedH vm₁ → Pre ⟨T.setVm vm₁, locs, cells, slots⟩ (Value.ref b :: argsL).toArray) :
    ∃ (v : Option Value) (vm₁ : Vm) (B : Pt), s.WarmedH vm₁ ∧ Stand p l e R s m args below meth c B.U B.locs B.cells B.slots ∧ Post ⟨T.setVm vm₁, locs, cells, slots⟩ (Value.ref b :: argsL).toArray v B ∧
      ∀ target, Steps p.tables e below (B.U.setTop { g with pc := g.pc + 3, stack := v.toList ++ rest }) target → Steps p.tables e below (T.setTop g) target := by
  obtain ⟨mk, methM, hnamed, hmethM, hstM, habM⟩ := Cond.instanceMethod_spec hinst
  obtain ⟨m8, methM', cM, hn8, hmethM', -, -, -, -, -, -, hsigM⟩ := Cond.codeWith_spec hcode
  cases Option.some.inj (hn8.symm.trans hnamed)
  cases hmethM.symm.trans hmethM'
  obtain ⟨c2, r2, m2, q1, q2, q3, q4, kP, hkP, hkPi⟩ := Cond.selects_spec hsel
  cases hcls.symm.trans q1
  cases (State.methodFound?_of_named hnamed hy).symm.trans q2
  cases hnamed.symm.trans q3
  have hselP : selectMethod e.platform s.vm cellB.cls mk = .method mk := by rw [Launch.admits_selectMethod X.admits]; exact q4
  obtain ⟨vm₁, X₁, hstep₁⟩ := X.invokevirtual hexec hown hlink hnamed hmethM hstM hkP hkPi hy (a := b) (cell := cellB) hcell
    (fun z h => by rw [h] at hobj; cases hobj) hselP hmethM habM hkP hkPi (g := g) hg (argsL := argsL) (rest := rest) (hlen _ hsigM) hstack hdg
  obtain ⟨v, B, X', hpost, hsteps⟩ := hK m meth c ⟨T.setVm vm₁, locs, cells, slots⟩ { g with stack := rest } (.invokevirtual index) mk (Value.ref b :: argsL).toArray X₁ hg hsize hdg hW (X₁.named hnamed) (hpre vm₁ X₁.warmed)
  exact ⟨v, vm₁, B, X₁.warmed, X', hpost, fun target h => hstep₁ _ fun acts => by rw [doInvoke_state]; exact hsteps.trans h⟩
abbrev vx_CVW (R : Room) (s : State) (args : Array Value) (own C : String) (index : Nat) (y : MethodName) (bytes : ByteArray) (maxL : Nat) (ret : Option FieldType) (hh : List (Nat × Nat × Nat × Nat)) (ws : List Cond) (rm : Room) (mc ms n : Nat) : Prop :=
  (rm.cells = mc ∧ rm.slots = ms ∧ rm.frames + 1 ≤ R.frames ∧ 8 + (maxL + 11) + rm.locals ≤ R.locals ∧ (∀ w ∈ ws, ∀ (a' : Array Value) (U : State), s.WarmedH U.vm → w.before a' U = true) ∧ Cond.codeWith y bytes maxL ret hh ∈ ws) ∧
  (Cond.codeWith y bytes maxL ret hh).before args s = true ∧ (Cond.initialized y.cls).before args s = true ∧ (y.cls ≠ "java/lang/invoke/MethodHandle" ∧ y.cls ≠ "java/lang/invoke/VarHandle") ∧
  (∀ sig, parseMethodDescriptor y.desc = some sig → n = sig.parameters.length) ∧ (Cond.methodLink own index y).before args s = true ∧ (Cond.instanceMethod y).before args s = true ∧ (Cond.selects C y y).before args s = true
theorem vx_cwVW {own C : String} {index maxL mc ms : Nat} {y : MethodName} {bytes : ByteArray} {ret : Option FieldType} {hh : List (Nat × Nat × Nat × Nat)} {Ts ws ws' : List Cond} {rm : Room} (n : Nat) (ht : ∀ w ∈ Ts, w.before args s = true) (hT : GoodIn Ts (wsV own index C y ws)) (hw : ws = Cond.codeWith y bytes maxL ret hh :: ws') (hrc : rm.cells = mc) (hrs : rm.slots = ms)
    (hd : y.cls = C ∧ y.cls ≠ "java/lang/invoke/MethodHandle" ∧ y.cls ≠ "java/lang/invoke/VarHandle" ∧ (parseMethodDescriptor y.desc).map (fun d => d.parameters.length) = some n) (hR : rm.frames + 1 ≤ R.frames ∧ 8 + (maxL + 11) + rm.locals ≤ R.locals) :
    vx_CVW R s args own C index y bytes maxL ret hh ws rm mc ms n := by
  obtain ⟨hC, hd⟩ := hd
  subst hC
  have ok : ∀ w ∈ wsV own index y.cls y ws, w.before args s = true := fun w h => ht w (hT w h).1
  have hG : GoodIn Ts ws := fun w h => hT w (by unfold wsV; exact List.mem_append_right _ h)
  have hc : Cond.codeWith y bytes maxL ret hh ∈ ws := by rw [hw]; exact List.mem_cons_self
  refine ⟨⟨hrc, hrs, hR.1, hR.2, pay_in ht hG, hc⟩, ht _ (hG _ hc).1, ok _ (by simp [wsV]), ⟨hd.1, hd.2.1⟩, fun sig h => ?_, ok _ (by simp [wsV]), ok _ (by simp [wsV]), ok _ (by simp [wsV])⟩
  have h2 := hd.2.2
  rw [h] at h2
  exact (Option.some.inj h2).symm
theorem vx_runVW {y : MethodName} {bytes cc : ByteArray} {maxL nL mc ms n index : Nat} {ret : Option FieldType} {hh : List (Nat × Nat × Nat × Nat)} {ws : List Cond} {rm : Room} {Pc : Array Value → State → Prop} {Qc : Array Value → State → Outcome → State → Prop} {free : Addr → Prop} {Ts : List Cond} {own C : String} {b : Addr} {As rest : List Value} {g : JFrame}
    (S : CallFix p m c cc nL s args Ts own) (hM : Met l y ws rm Pc Qc mc ms free) (cw : vx_CVW R s args own C index y bytes maxL ret hh ws rm mc ms n) (hp : PreV s H C b Pc As)
    (hg : g.method = m) (hn : As.length = n) (hsize : g.locals.size = nL) (hstack : g.stack = As.reverse ++ .ref b :: rest) (hW : 2 * g.monitorRoom + (rest.map fun v => v.category).sum ≤ 8) (hdg : decode cc g.pc = .ok (.invokevirtual index, 3)) (hf : cells + mc ≤ R.cells ∧ slots + ms ≤ R.slots) :
    va_Run p l e R s m args below meth c H locs cells slots mc ms g rest (Qc (Value.ref b :: As).toArray) free := by
  obtain ⟨⟨hrc, hrs, hfr, hlo, hws, hcw⟩, hcode, hini, hy, hlen, hl, hin, hse⟩ := cw
  have hK : Back l R p e below s args y 3 8 (PreOf R mc ms Pc) (PostOf Qc mc ms free) := va_backW (hh := hh) (bytes := bytes) (maxL := maxL) (ret := ret) hM hp.1 hrc hrs hfr hlo hws hcw (fun a' U hW => word_at hW (Or.inl (by first | rfl | simp [Cond.onTables, Cond.keeps, Cond.steady])) hini)
  obtain ⟨hx, hb, hml, ho, -⟩ := S
  obtain ⟨-, ⟨cellB, hcB, hoB, hclB⟩, hPc⟩ := hp
  intro T hT X
  obtain ⟨v, vm₁, ⟨U', l2, c2, s2⟩, hW₁, X', ⟨g', mk, t, L, e1, e2, hq, h1, hL, h2, h3⟩, st⟩ := vx_callVW X hx (C := C) (hh := hh) (bytes := bytes) (maxL := maxL) (ret := ret) ho hl hin hse hcode hy hK (by rw [hT]; exact hcB) hoB hclB hg (hsize.trans hml.symm) (argsL := As) (rest := rest) (fun sig h => hn.trans (hlen sig h)) hstack hW (by rw [hb]; exact hdg)
    (fun vm₁ hW₁ => ⟨hf.1, hf.2, hPc (T.setVm vm₁) hT hW₁⟩)
  dsimp only [Pt.U, Pt.locs, Pt.cells, Pt.slots] at X' e1 e2 h1 h2 h3 st
  subst h1; subst h2; subst h3
  exact ⟨v, (T.setVm vm₁).calling g' mk (Value.ref b :: As).toArray, t, U', L, hT, X', hL, e1, e2, hq, st⟩
section
variable {y : MethodName} {bytes cc : ByteArray} {maxL nL mc ms n index : Nat} {ret : Option FieldType} {ws : List Cond} {rm : Room} {Pc : Array Value → State → Prop} {Qc : Array Value → State → Outcome → State → Prop} {XC : String → State → State → Prop} {free : Addr → Prop} {Ts : List Cond} {own C : String} {b : Addr} {As rest : List Value} {g : JFrame}
theorem vx_runVX {hh : List (Nat × Nat × Nat × Nat)} (S : CallFix p m c cc nL s args Ts own) (hM : vx_Met l y ws rm Pc Qc XC mc ms free) (cw : vx_CVW R s args own C index y bytes maxL ret hh ws rm mc ms n) (hp : PreV s H C b Pc As)
    (hg : g.method = m) (hn : As.length = n) (hsize : g.locals.size = nL) (hstack : g.stack = As.reverse ++ .ref b :: rest) (hW : 2 * g.monitorRoom + (rest.map fun v => v.category).sum ≤ 8) (hdg : decode cc g.pc = .ok (.invokevirtual index, 3)) (hf : cells + mc ≤ R.cells ∧ slots + ms ≤ R.slots) :
    vx_Run p l e R s m args below meth c H locs cells slots mc ms g rest (Qc (Value.ref b :: As).toArray) XC free := by
  obtain ⟨⟨hrc, hrs, hfr, hlo, hws, hcw⟩, hcode, hini, hy, hlen, hl, hin, hse⟩ := cw
  have hK : vx_Back l R p e below s args y 3 8 (PreOf R mc ms Pc) (PostOf Qc mc ms free) (vx_Post XC mc ms free) := vx_backW (hh := hh) (bytes := bytes) (maxL := maxL) (ret := ret) hM hp.1 hrc hrs hfr hlo hws hcw (fun a' U hW => word_at hW (Or.inl (by first | rfl | simp [Cond.onTables, Cond.keeps, Cond.steady])) hini)
  obtain ⟨hx, hb, hml, ho, -⟩ := S
  obtain ⟨-, ⟨cellB, hcB, hoB, hclB⟩, hPc⟩ := hp
  intro T hT X
  rcases vx_callVX X hx (C := C) (hh := hh) (bytes := bytes) (maxL := maxL) (ret := ret) ho hl hin hse hcode hy hK (by rw [hT]; exact hcB) hoB hclB hg (hsize.trans hml.symm) (argsL := As) (rest := rest) (fun sig h => hn.trans (hlen sig h)) hstack hW (by rw [hb]; exact hdg)
    (fun vm₁ hW₁ => ⟨hf.1, hf.2, hPc (T.setVm vm₁) hT hW₁⟩) with ⟨v, vm₁, ⟨U', l2, c2, s2⟩, hW₁, X', ⟨g', mk, t, L, e1, e2, hq, h1, hL, h2, h3⟩, st⟩ | ⟨q, vm₁, ⟨U', l2, c2, s2⟩, hW₁, X', ⟨g', mk, t, L, E, ce, e1, e2, hq, hce, hcv, hcl, h1, hL, h2, h3⟩, st⟩
  · dsimp only [Pt.U, Pt.locs, Pt.cells, Pt.slots] at X' e1 e2 h1 h2 h3 st
    subst h1; subst h2; subst h3
    exact Or.inl ⟨v, (T.setVm vm₁).calling g' mk (Value.ref b :: As).toArray, t, U', L, hT, X', hL, e1, e2, hq, st⟩
  · dsimp only [Pt.U, Pt.locs, Pt.cells, Pt.slots] at X' e1 e2 h1 h2 h3 st hcl
    subst h1; subst h2; subst h3
    exact Or.inr ⟨q, (T.setVm vm₁).calling g' mk (Value.ref b :: As).toArray, t, U', L, E, ce, hT, X', hL, e1, e2, hq, hce, hcv, vx_cls hW₁ hcl, st⟩
theorem vx_runSX {hh : List (Nat × Nat × Nat × Nat)} (S : CallFix p m c cc nL s args Ts own) (hM : vx_Met l y ws rm Pc Qc XC mc ms free) (cw : vx_CSW R s args own index y bytes maxL ret hh ws rm mc ms n) (hp : PreS s H Pc As)
    (hg : g.method = m) (hn : As.length = n) (hsize : g.locals.size = nL) (hstack : g.stack = As.reverse ++ rest) (hW : 2 * g.monitorRoom + (rest.map fun v => v.category).sum ≤ 8) (hdg : decode cc g.pc = .ok (.invokestatic index, 3)) (hf : cells + mc ≤ R.cells ∧ slots + ms ≤ R.slots) :
    vx_Run p l e R s m args below meth c H locs cells slots mc ms g rest (Qc As.toArray) XC free := by
  obtain ⟨⟨hrc, hrs, hfr, hlo, hws, hcw⟩, hcode, hini, hy, hlen, hl, hstt⟩ := cw
  have hK : vx_Back l R p e below s args y 3 8 (PreOf R mc ms Pc) (PostOf Qc mc ms free) (vx_Post XC mc ms free) := vx_backW (hh := hh) (bytes := bytes) (maxL := maxL) (ret := ret) hM hp.1 hrc hrs hfr hlo hws hcw (fun a' U hW => word_at hW (Or.inl (by first | rfl | simp [Cond.onTables, Cond.keeps, Cond.steady])) hini)
  obtain ⟨hx, hb, hml, ho, -⟩ := S
  intro T hT X
  rcases vx_callSX X hx (hh := hh) (bytes := bytes) (maxL := maxL) (ret := ret) ho hl hstt hini hcode hy hK hg (hsize.trans hml.symm) (argsL := As) (rest := rest) (fun sig h => hn.trans (hlen sig h)) hstack hW (by rw [hb]; exact hdg)
    (fun vm₁ hW₁ => ⟨hf.1, hf.2, hp.2 (T.setVm vm₁) hT hW₁⟩) with ⟨v, vm₁, ⟨U', l2, c2, s2⟩, hW₁, X', ⟨g', mk, t, L, e1, e2, hq, h1, hL, h2, h3⟩, st⟩ | ⟨q, vm₁, ⟨U', l2, c2, s2⟩, hW₁, X', ⟨g', mk, t, L, E, ce, e1, e2, hq, hce, hcv, hcl, h1, hL, h2, h3⟩, st⟩
  · dsimp only [Pt.U, Pt.locs, Pt.cells, Pt.slots] at X' e1 e2 h1 h2 h3 st
    subst h1; subst h2; subst h3
    exact Or.inl ⟨v, (T.setVm vm₁).calling g' mk As.toArray, t, U', L, hT, X', hL, e1, e2, hq, st⟩
  · dsimp only [Pt.U, Pt.locs, Pt.cells, Pt.slots] at X' e1 e2 h1 h2 h3 st hcl
    subst h1; subst h2; subst h3
    exact Or.inr ⟨q, (T.setVm vm₁).calling g' mk As.toArray, t, U', L, E, ce, hT, X', hL, e1, e2, hq, hce, hcv, vx_cls hW₁ hcl, st⟩
end
end VXH
theorem vx_ofWH {l : Launch} {y : MethodName} {ws ws' : List Cond} {rm : Room} {Pc : Array Value → State → Prop} {Qc : Array Value → State → Outcome → State → Prop} {XC : String → State → State → Prop} {mc ms : Nat} {free : Addr → Prop} {cc : ByteArray} {maxL : Nat} {ret : Option FieldType} {hh : List (Nat × Nat × Nat × Nat)}
    (hy : plainName y.cls = true) (hw : ws = Cond.codeWith y cc maxL ret hh :: ws')
    (body : ∀ p e s m args below meth c s₁, BodyLoose p l y (headSpec ws rm) cc maxL ret e s m args below meth c s₁ → c.maxLocals = maxL → Pc args s →
      W p l e (headSpec ws rm).room s m args below meth c s.heap [] 0 0 (vx_MQ below Qc XC args s mc ms free) (entryFrame m args maxL)) : vx_Met l y ws rm Pc Qc XC mc ms free := by
  refine MetFree.of_bodyS (code := cc) (maxLocals := maxL) (ret := ret) hy ?_ ?_
  · intro args s m h hn
    obtain ⟨m9, meth, c, hn9, h1, h2, h3, h4, -, h5, h6, -⟩ := Cond.codeWith_spec (atoms_spec (ws := ws) h _ (by rw [hw]; exact List.mem_cons_self))
    cases hn.symm.trans hn9
    exact ⟨meth, c, h1, h2, h3, h4, h5, h6⟩
  · intro p e s m args below meth c s₁ B hml hP _
    have hh0 : s₁.heap = s.heap := by rw [B.state]; rfl
    obtain ⟨t, a1, o, b1, b2, b3⟩ := body p e s m args below meth c s₁ B hml hP s₁ hh0 (Stand.of_body B)
    exact ⟨t, o, a1, b1, b2, b3⟩
/-! ===== END ===== -/

/-! ===== an exception that the method's one handler takes ===== -/
section XH
theorem xh_go {Q : Handler → Pre} {E : CtlPost} {e : Env} {d : Bool} {acts : List Action} {s : State} {f : JFrame} {a : Addr} {x : ExceptionTableEntry} {c : ClassId} {cell : Cell} (hx : covers x f.pc = true) (h0 : x.catchType ≠ 0)
    (hl : s.vm.ClassLinks e.platform f.method.cls x.catchType c) (hcell : s.heap[a]? = some cell) (hobj : ∀ k, cell.vm ≠ .statics k)
    (hk : ∃ k, s.vm.classes[cell.cls]? = some k) (hc : ∃ k, s.vm.classes[c]? = some k) (hfit : s.vm.assignable cell.cls c = true) :
    wp (findHandler.go f a [x]) Q E e d acts s ↔ Q (.found x.handlerPc) d acts (s.setVm (s.vm.noted f.method.cls x.catchType (.cls c))) := by
  simp only [covers] at hx
  obtain ⟨ha, ht⟩ := (resolveClass_links e.toSetting hl).op (op := VmOp.resolveClass f.method.cls x.catchType) rfl
  have hal : s.vm.Alike (s.vm.noted f.method.cls x.catchType (.cls c)) := (Vm.Alike.refl s.vm).noted _ _ _
  obtain ⟨k1, hk1⟩ := hk
  obtain ⟨k2, hk2⟩ := hc
  obtain ⟨k1', hk1', -⟩ := hal.2.2 _ _ hk1
  obtain ⟨k2', hk2', -⟩ := hal.2.2 _ _ hk2
  have hfit' : (s.vm.noted f.method.cls x.catchType (.cls c)).assignable cell.cls c = true := by rw [hal.assignable]; exact hfit
  simp [findHandler.go, hx, h0, ha, ht, hcell, hobj, hk1', hk2', hfit', VmOp.dirties, VmOp.acts]
theorem xh_steps {tb : Tables} {e : Env} {s target : State} {g : JFrame} {c : Code} {below : List Frame} {a : Addr} (h : At s g.method c below) {pc : Nat} {vm' : Vm}
    (hfind : ∀ (Q : Handler → Pre) (E : CtlPost) (d : Bool) (acts : List Action), wp (findHandler g a) Q E e d acts ((s.setTop g).pushFrame (.throwing a)) ↔ Q (.found pc) d acts (((s.setTop g).pushFrame (.throwing a)).setVm vm'))
    (hrest : Steps tb e below ((s.setVm vm').setTop { g with pc := pc, stack := [.ref a] }) target) :
    Steps tb e below ((s.setTop g).pushFrame (.throwing a)) target := by
  have hst : (stepThrowing e ((s.setTop g).pushFrame (.throwing a)) a (.java g :: s.frames.tail)).Is ((((s.setTop g).pushFrame (.throwing a)).setVm vm').setFrames (.java { g with pc := pc, stack := [.ref a] } :: s.frames.tail)) [] := by
    simp only [stepThrowing, searchFrame, vmDo]
    generalize hr : Sem.go _ e false [] _ = res
    obtain ⟨as, rfl, ha⟩ := Sem.eq_ok_of hr (a := Handler.found pc) (s' := ((s.setTop g).pushFrame (.throwing a)).setVm vm') (acts' := []) (by simp [hfind _ _ _ _])
    exact ⟨rfl, ha⟩
  obtain ⟨hgo, hw⟩ := h.throwing a
  refine Steps.head hgo hw ?_
  rw [stepThread_throwing (frames_entered h.top _), hst.1]
  obtain ⟨g₀, hg⟩ := Option.isSome_iff_exists.mp h.top
  obtain ⟨r, hr⟩ := State.topJava?_eq_some.mp hg
  have hr' : (s.setVm vm').frames = .java g₀ :: r := hr
  rw [State.setTop_of_frames _ hr'] at hrest
  have e1 : ∀ (u : State) (F G : List Frame), ((u.setFrames F).setVm vm').setFrames G = (u.setVm vm').setFrames G := fun u F G => by
    have h1 : (u.setFrames F).setVm vm' = (u.setVm vm').setFrames F := rfl
    rw [h1, State.setFrames_setFrames]
  rw [hr, List.tail_cons, State.pushFrame, e1, State.setTop_of_frames _ hr, e1]
  exact hrest
variable {p : Program} {l : Launch} {e : Env} {R : Room} {s : State} {m : MethodId} {args : Array Value} {below : List Frame} {meth : Method} {c : Code} {H : Heap} {locs : List Loc} {cells slots : Nat} {Q : State → Prop}
variable {pc : Nat} {ls : Array Slot} {rest : List Value}
/-- the one row x of the method's table takes what was thrown -/
theorem xh_catch {own name : String} {E : String} {ce : Cell} {q : Addr} (hown : s.vm.findClass own = some m.cls) (x : ExceptionTableEntry) (hone : c.exceptionTable.toList = [x])
    (hx : covers x pc = true) (h0 : x.catchType ≠ 0)
    (hlink : (Cond.classLink own x.catchType name).before args s = true) (hcast : (Cond.castable E name).before args s = true) (hcell : H[q]? = some ce) (hv : ce.vm = .none) (hcl : s.vm.findClass E = some ce.cls)
    (kk : W p l e R s m args below meth c H locs cells slots Q (F0 m x.handlerPc ls [.ref q])) : vx_W p l e R s m args below meth c H locs cells slots Q (F0 m pc ls rest) q := by
  intro T hT X
  have hpl : e.platform.magicAccessors = ({} : Platform).magicAccessors := by rw [X.admits.platform]
  obtain ⟨c3, c4, hc3, hc4, hasg⟩ := Cond.castable_spec hcast
  cases Option.some.inj (hc3.symm.trans hcl)
  obtain ⟨c5, hc5, hcl5⟩ := Cond.classLink_spec hown hlink e.platform hpl
  cases Option.some.inj (hc4.symm.trans hc5)
  obtain ⟨dk, _, _, kt, hd, _, _, _, _, hkt, _, hopen⟩ := hcl5.here
  have hcl₀ := X.warmed.classLinks hcl5
  have hW' : s.WarmedH (T.vm.noted m.cls x.catchType (.cls c4)) := X.warmed.noted hd hopen (State.rightAt_cls hcl5)
  have hal := X.warmed.alike
  obtain ⟨kt', hkt', -⟩ := hal.2.2 _ _ hkt
  have hfit' : T.vm.assignable ce.cls c4 = true := by rw [hal.assignable]; exact hasg
  obtain ⟨t, a1, b1⟩ := kk (T.setVm (T.vm.noted m.cls x.catchType (.cls c4))) hT (X.noted hW')
  refine ⟨t, ?_, b1⟩
  refine xh_steps (s := T) (g := F0 m pc ls rest) (pc := x.handlerPc) (vm' := T.vm.noted m.cls x.catchType (.cls c4)) X.here (fun Q E d acts => ?_) a1
  have hmT : ((T.setTop (F0 m pc ls rest)).pushFrame (.throwing q)).vm.method? (F0 m pc ls rest).method = some meth := X.method'
  rw [W.findHandler_eq hmT X.code, hone]
  exact xh_go (s := (T.setTop (F0 m pc ls rest)).pushFrame (.throwing q)) (f := F0 m pc ls rest) hx h0 hcl₀ (cell := ce) (by show T.heap[q]? = _; rw [hT]; exact hcell) (by rw [hv]; intro k hk; cases hk)
    (Vm.classAt_of_assignable hfit' ⟨kt', hkt'⟩) ⟨kt', hkt'⟩ hfit'
end XH
end
section
/-! ===== the classes, their fields, the methods, the links: written by wip/whole/gen02.py ===== -/
def cnm (ci : Nat) : String := match ci with
  | 0 => "ReelReader$Block"
  | 1 => "ReelReader$Picture"
  | 2 => "ReelReader$Plane"
  | 3 => "ReelReader$Reel"
  | 4 => "ReelReader$StreamReader"
  | 5 => "ReelReader$Tape"
  | 6 => "ReelReader"
  | 7 => "ReelReaderModel"
  | _ => "ReelReaderLaw"
def cT0 : u_T := fun k => match k with
  | 0 => ("ReelReader$Block", "factors", "[I", true)
  | 1 => ("ReelReader$Block", "sums", "[I", true)
  | 2 => ("ReelReader$Block", "total", "I", false)
  | _ => ("ReelReader$Block", "rows", "I", false)
def cY0 : Nat → FieldType := fun k => match k with
  | 0 => .array .int
  | 1 => .array .int
  | 2 => .int
  | _ => .int
def cT1 : u_T := fun k => match k with
  | 0 => ("ReelReader$Picture", "planes", "[LReelReader$Plane;", true)
  | _ => ("ReelReader$Picture", "facts", "[I", true)
def cY1 : Nat → FieldType := fun k => match k with
  | 0 => .array (.object "ReelReader$Plane")
  | _ => .array .int
def cT2 : u_T := fun k => match k with
  | 0 => ("ReelReader$Plane", "side", "I", true)
  | 1 => ("ReelReader$Plane", "width", "I", false)
  | 2 => ("ReelReader$Plane", "height", "I", false)
  | _ => ("ReelReader$Plane", "dots", "[I", false)
def cY2 : Nat → FieldType := fun k => match k with
  | 0 => .int
  | 1 => .int
  | 2 => .int
  | _ => .array .int
def cT3 : u_T := fun k => match k with
  | 0 => ("ReelReader$Reel", "tally", "[I", true)
  | 1 => ("ReelReader$Reel", "kept", "[LReelReader$Picture;", true)
  | 2 => ("ReelReader$Reel", "across", "I", false)
  | 3 => ("ReelReader$Reel", "down", "I", false)
  | 4 => ("ReelReader$Reel", "now", "LReelReader$Picture;", false)
  | 5 => ("ReelReader$Reel", "latest", "LReelReader$Picture;", false)
  | 6 => ("ReelReader$Reel", "older", "LReelReader$Picture;", false)
  | _ => ("ReelReader$Reel", "leanable", "I", false)
def cY3 : Nat → FieldType := fun k => match k with
  | 0 => .array .int
  | 1 => .array (.object "ReelReader$Picture")
  | 2 => .int
  | 3 => .int
  | 4 => .object "ReelReader$Picture"
  | 5 => .object "ReelReader$Picture"
  | 6 => .object "ReelReader$Picture"
  | _ => .int
def cT4 : u_T := fun k => match k with
  | 0 => ("ReelReader$StreamReader", "tape", "LReelReader$Tape;", true)
  | 1 => ("ReelReader$StreamReader", "reel", "LReelReader$Reel;", true)
  | 2 => ("ReelReader$StreamReader", "block", "LReelReader$Block;", true)
  | 3 => ("ReelReader$StreamReader", "dcs", "[I", true)
  | 4 => ("ReelReader$StreamReader", "forward", "[I", true)
  | 5 => ("ReelReader$StreamReader", "backward", "[I", true)
  | 6 => ("ReelReader$StreamReader", "sort", "I", false)
  | 7 => ("ReelReader$StreamReader", "quant", "I", false)
  | 8 => ("ReelReader$StreamReader", "range", "I", false)
  | _ => ("ReelReader$StreamReader", "waysAhead", "I", false)
def cY4 : Nat → FieldType := fun k => match k with
  | 0 => .object "ReelReader$Tape"
  | 1 => .object "ReelReader$Reel"
  | 2 => .object "ReelReader$Block"
  | 3 => .array .int
  | 4 => .array .int
  | 5 => .array .int
  | 6 => .int
  | 7 => .int
  | 8 => .int
  | _ => .int
def cT5 : u_T := fun k => match k with
  | 0 => ("ReelReader$Tape", "bytes", "[B", true)
  | 1 => ("ReelReader$Tape", "length", "I", false)
  | 2 => ("ReelReader$Tape", "position", "I", false)
  | _ => ("ReelReader$Tape", "wrongBit", "I", false)
def cY5 : Nat → FieldType := fun k => match k with
  | 0 => .array .byte
  | 1 => .int
  | 2 => .int
  | _ => .int
def cT6 : u_T := fun k => match k with
  | 0 => ("ReelReader", "tape", "LReelReader$Tape;", true)
  | 1 => ("ReelReader", "reel", "LReelReader$Reel;", true)
  | _ => ("ReelReader", "stream", "LReelReader$StreamReader;", true)
def cY6 : Nat → FieldType := fun k => match k with
  | 0 => .object "ReelReader$Tape"
  | 1 => .object "ReelReader$Reel"
  | _ => .object "ReelReader$StreamReader"
def cT7 : u_T := fun k => match k with
  | 0 => ("ReelReaderModel", "thrown", "I", false)
  | 1 => ("ReelReaderModel", "tape", "[B", true)
  | 2 => ("ReelReaderModel", "tapeBits", "I", false)
  | 3 => ("ReelReaderModel", "bits", "[B", true)
  | 4 => ("ReelReaderModel", "at", "I", false)
  | 5 => ("ReelReaderModel", "end", "I", false)
  | 6 => ("ReelReaderModel", "wrong", "I", false)
  | 7 => ("ReelReaderModel", "across", "I", false)
  | 8 => ("ReelReaderModel", "down", "I", false)
  | 9 => ("ReelReaderModel", "picture", "[I", true)
  | 10 => ("ReelReaderModel", "latest", "[I", true)
  | 11 => ("ReelReaderModel", "ahead", "[I", true)
  | 12 => ("ReelReaderModel", "hasLatest", "Z", false)
  | 13 => ("ReelReaderModel", "hasAhead", "Z", false)
  | 14 => ("ReelReaderModel", "latestSort", "I", false)
  | 15 => ("ReelReaderModel", "latestNumber", "I", false)
  | 16 => ("ReelReaderModel", "latestInner", "I", false)
  | 17 => ("ReelReaderModel", "latestPassed", "I", false)
  | 18 => ("ReelReaderModel", "shownDots", "[B", true)
  | 19 => ("ReelReaderModel", "shownFacts", "[I", true)
  | 20 => ("ReelReaderModel", "width", "I", false)
  | 21 => ("ReelReaderModel", "height", "I", false)
  | 22 => ("ReelReaderModel", "shown", "I", false)
  | 23 => ("ReelReaderModel", "whole", "I", false)
  | 24 => ("ReelReaderModel", "squares", "I", false)
  | 25 => ("ReelReaderModel", "passed", "I", false)
  | 26 => ("ReelReaderModel", "blocks", "I", false)
  | 27 => ("ReelReaderModel", "levels", "I", false)
  | 28 => ("ReelReaderModel", "vectors", "[I", true)
  | 29 => ("ReelReaderModel", "foretold", "[I", true)
  | 30 => ("ReelReaderModel", "isForward", "Z", false)
  | 31 => ("ReelReaderModel", "isBackward", "Z", false)
  | 32 => ("ReelReaderModel", "isInner", "Z", false)
  | 33 => ("ReelReaderModel", "dcs", "[I", true)
  | 34 => ("ReelReaderModel", "sort", "I", false)
  | 35 => ("ReelReaderModel", "quant", "I", false)
  | 36 => ("ReelReaderModel", "span", "I", false)
  | 37 => ("ReelReaderModel", "order", "[I", true)
  | 38 => ("ReelReaderModel", "factors", "[I", true)
  | 39 => ("ReelReaderModel", "rows", "[I", true)
  | 40 => ("ReelReaderModel", "inner", "I", false)
  | 41 => ("ReelReaderModel", "over", "I", false)
  | _ => ("ReelReaderModel", "five", "[I", true)
def cY7 : Nat → FieldType := fun k => match k with
  | 0 => .int
  | 1 => .array .byte
  | 2 => .int
  | 3 => .array .byte
  | 4 => .int
  | 5 => .int
  | 6 => .int
  | 7 => .int
  | 8 => .int
  | 9 => .array .int
  | 10 => .array .int
  | 11 => .array .int
  | 12 => .boolean
  | 13 => .boolean
  | 14 => .int
  | 15 => .int
  | 16 => .int
  | 17 => .int
  | 18 => .array .byte
  | 19 => .array .int
  | 20 => .int
  | 21 => .int
  | 22 => .int
  | 23 => .int
  | 24 => .int
  | 25 => .int
  | 26 => .int
  | 27 => .int
  | 28 => .array .int
  | 29 => .array .int
  | 30 => .boolean
  | 31 => .boolean
  | 32 => .boolean
  | 33 => .array .int
  | 34 => .int
  | 35 => .int
  | 36 => .int
  | 37 => .array .int
  | 38 => .array .int
  | 39 => .array .int
  | 40 => .int
  | 41 => .int
  | _ => .array .int
def cT (ci : Nat) : u_T := match ci with
  | 0 => cT0
  | 1 => cT1
  | 2 => cT2
  | 3 => cT3
  | 4 => cT4
  | 5 => cT5
  | 6 => cT6
  | _ => cT7
def cY (ci : Nat) : Nat → FieldType := match ci with
  | 0 => cY0
  | 1 => cY1
  | 2 => cY2
  | 3 => cY3
  | 4 => cY4
  | 5 => cY5
  | 6 => cY6
  | _ => cY7
def cN (ci : Nat) : Nat := match ci with
  | 0 => 4
  | 1 => 2
  | 2 => 4
  | 3 => 8
  | 4 => 10
  | 5 => 4
  | 6 => 3
  | _ => 43
/-- is it a field of references -/
def isR (ci k : Nat) : Bool := match cY ci k with
  | .object _ => true
  | .array _ => true
  | _ => false
theorem cYo0 : ∀ k, k < 4 → parseFieldDescriptor (cT0 k).2.2.1 = some (cY0 k) := by decide +kernel
theorem cNo0 : ∀ a, a < 4 → ∀ b, b < 4 → a ≠ b → (cT0 a).2.1 ≠ (cT0 b).2.1 := by decide +kernel
theorem cDo0 : ∀ k, k < 4 → (cT0 k).1 = cnm 0 := by decide +kernel
theorem cWo0 : GoodIn lw_tbl (u_ws (cnm 0) cT0 4) := goodIn_r _ [195, 197, 199, 201] (by decide +kernel) (by decide +kernel)
theorem cYo1 : ∀ k, k < 2 → parseFieldDescriptor (cT1 k).2.2.1 = some (cY1 k) := by decide +kernel
theorem cNo1 : ∀ a, a < 2 → ∀ b, b < 2 → a ≠ b → (cT1 a).2.1 ≠ (cT1 b).2.1 := by decide +kernel
theorem cDo1 : ∀ k, k < 2 → (cT1 k).1 = cnm 1 := by decide +kernel
theorem cWo1 : GoodIn lw_tbl (u_ws (cnm 1) cT1 2) := goodIn_r _ [140, 142] (by decide +kernel) (by decide +kernel)
theorem cYo2 : ∀ k, k < 4 → parseFieldDescriptor (cT2 k).2.2.1 = some (cY2 k) := by decide +kernel
theorem cNo2 : ∀ a, a < 4 → ∀ b, b < 4 → a ≠ b → (cT2 a).2.1 ≠ (cT2 b).2.1 := by decide +kernel
theorem cDo2 : ∀ k, k < 4 → (cT2 k).1 = cnm 2 := by decide +kernel
theorem cWo2 : GoodIn lw_tbl (u_ws (cnm 2) cT2 4) := goodIn_r _ [123, 125, 127, 129] (by decide +kernel) (by decide +kernel)
theorem cYo3 : ∀ k, k < 8 → parseFieldDescriptor (cT3 k).2.2.1 = some (cY3 k) := by decide +kernel
theorem cNo3 : ∀ a, a < 8 → ∀ b, b < 8 → a ≠ b → (cT3 a).2.1 ≠ (cT3 b).2.1 := by decide +kernel
theorem cDo3 : ∀ k, k < 8 → (cT3 k).1 = cnm 3 := by decide +kernel
theorem cWo3 : GoodIn lw_tbl (u_ws (cnm 3) cT3 8) := goodIn_r _ [161, 163, 165, 167, 169, 171, 173, 175] (by decide +kernel) (by decide +kernel)
theorem cYo4 : ∀ k, k < 10 → parseFieldDescriptor (cT4 k).2.2.1 = some (cY4 k) := by decide +kernel
theorem cNo4 : ∀ a, a < 10 → ∀ b, b < 10 → a ≠ b → (cT4 a).2.1 ≠ (cT4 b).2.1 := by decide +kernel
theorem cDo4 : ∀ k, k < 10 → (cT4 k).1 = cnm 4 := by decide +kernel
theorem cWo4 : GoodIn lw_tbl (u_ws (cnm 4) cT4 10) := goodIn_r _ [214, 216, 218, 220, 222, 224, 226, 228, 230, 232] (by decide +kernel) (by decide +kernel)
theorem cYo5 : ∀ k, k < 4 → parseFieldDescriptor (cT5 k).2.2.1 = some (cY5 k) := by decide +kernel
theorem cNo5 : ∀ a, a < 4 → ∀ b, b < 4 → a ≠ b → (cT5 a).2.1 ≠ (cT5 b).2.1 := by decide +kernel
theorem cDo5 : ∀ k, k < 4 → (cT5 k).1 = cnm 5 := by decide +kernel
theorem cWo5 : GoodIn lw_tbl (u_ws (cnm 5) cT5 4) := goodIn_r _ [89, 91, 93, 95] (by decide +kernel) (by decide +kernel)
theorem cYo6 : ∀ k, k < 3 → parseFieldDescriptor (cT6 k).2.2.1 = some (cY6 k) := by decide +kernel
theorem cNo6 : ∀ a, a < 3 → ∀ b, b < 3 → a ≠ b → (cT6 a).2.1 ≠ (cT6 b).2.1 := by decide +kernel
theorem cDo6 : ∀ k, k < 3 → (cT6 k).1 = cnm 6 := by decide +kernel
theorem cWo6 : GoodIn lw_tbl (u_ws (cnm 6) cT6 3) := goodIn_r _ [238, 240, 242] (by decide +kernel) (by decide +kernel)
theorem cYo7 : ∀ k, k < 43 → parseFieldDescriptor (cT7 k).2.2.1 = some (cY7 k) := by decide +kernel
theorem cNo7 : ∀ a, a < 43 → ∀ b, b < 43 → a ≠ b → (cT7 a).2.1 ≠ (cT7 b).2.1 := by decide +kernel
theorem cDo7 : ∀ k, k < 43 → (cT7 k).1 = cnm 7 := by decide +kernel
theorem cWo7 : GoodIn lw_tbl (u_ws (cnm 7) cT7 43) := goodIn_r _ [650, 652, 654, 656, 658, 660, 662, 664, 666, 668, 670, 672, 674, 676, 678, 680, 682, 684, 686, 688, 690, 692, 694, 696, 698, 700, 702, 704, 706, 708, 710, 712, 714, 716, 718, 720, 722, 724, 726, 728, 730, 732, 734] (by decide +kernel) (by decide +kernel)
theorem cY_ok {ci : Nat} (h : ci < 8) : ∀ k, k < cN ci → parseFieldDescriptor (cT ci k).2.2.1 = some (cY ci k) := match ci, h with
  | 0, _ => cYo0
  | 1, _ => cYo1
  | 2, _ => cYo2
  | 3, _ => cYo3
  | 4, _ => cYo4
  | 5, _ => cYo5
  | 6, _ => cYo6
  | 7, _ => cYo7
  | n + 8, h => absurd h (by omega)
theorem cN_ok {ci : Nat} (h : ci < 8) : ∀ a, a < cN ci → ∀ b, b < cN ci → a ≠ b → (cT ci a).2.1 ≠ (cT ci b).2.1 := match ci, h with
  | 0, _ => cNo0
  | 1, _ => cNo1
  | 2, _ => cNo2
  | 3, _ => cNo3
  | 4, _ => cNo4
  | 5, _ => cNo5
  | 6, _ => cNo6
  | 7, _ => cNo7
  | n + 8, h => absurd h (by omega)
theorem cD_ok {ci : Nat} (h : ci < 8) : ∀ k, k < cN ci → (cT ci k).1 = cnm ci := match ci, h with
  | 0, _ => cDo0
  | 1, _ => cDo1
  | 2, _ => cDo2
  | 3, _ => cDo3
  | 4, _ => cDo4
  | 5, _ => cDo5
  | 6, _ => cDo6
  | 7, _ => cDo7
  | n + 8, h => absurd h (by omega)
theorem cW_ok {ci : Nat} (h : ci < 8) : GoodIn lw_tbl (u_ws (cnm ci) (cT ci) (cN ci)) := match ci, h with
  | 0, _ => cWo0
  | 1, _ => cWo1
  | 2, _ => cWo2
  | 3, _ => cWo3
  | 4, _ => cWo4
  | 5, _ => cWo5
  | 6, _ => cWo6
  | 7, _ => cWo7
  | n + 8, h => absurd h (by omega)
theorem cI_ok {ci : Nat} (h : ci < 8) : Cond.instantiable (cnm ci) (cN ci) ∈ lw_tbl := match ci, h with
  | 0, _ => List.mem_of_getElem? (i := 185) (by decide +kernel)
  | 1, _ => List.mem_of_getElem? (i := 107) (by decide +kernel)
  | 2, _ => List.mem_of_getElem? (i := 114) (by decide +kernel)
  | 3, _ => List.mem_of_getElem? (i := 100) (by decide +kernel)
  | 4, _ => List.mem_of_getElem? (i := 179) (by decide +kernel)
  | 5, _ => List.mem_of_getElem? (i := 78) (by decide +kernel)
  | 6, _ => List.mem_of_getElem? (i := 70) (by decide +kernel)
  | 7, _ => List.mem_of_getElem? (i := 601) (by decide +kernel)
  | n + 8, h => absurd h (by omega)
theorem cA_ok {ci : Nat} (h : ci < 8) : Cond.initialized (cnm ci) ∈ lw_tbl := match ci, h with
  | 0, _ => List.mem_of_getElem? (i := 59) (by decide +kernel)
  | 1, _ => List.mem_of_getElem? (i := 56) (by decide +kernel)
  | 2, _ => List.mem_of_getElem? (i := 57) (by decide +kernel)
  | 3, _ => List.mem_of_getElem? (i := 55) (by decide +kernel)
  | 4, _ => List.mem_of_getElem? (i := 58) (by decide +kernel)
  | 5, _ => List.mem_of_getElem? (i := 54) (by decide +kernel)
  | 6, _ => List.mem_of_getElem? (i := 53) (by decide +kernel)
  | 7, _ => List.mem_of_getElem? (i := 60) (by decide +kernel)
  | n + 8, h => absurd h (by omega)
abbrev MI : Type := MethodName × ByteArray × Nat × Option FieldType × List (Nat × Nat × Nat × Nat) × Nat × Nat
abbrev M_X_init : MI := (⟨cnm 6, "<init>", "()V"⟩, prog_1_method_1_code, 1, none, [], 4, 81)
abbrev M_T_init : MI := (⟨cnm 5, "<init>", "()V"⟩, prog_7_method_1_code, 1, none, [], 1, 20)
abbrev M_R_init : MI := (⟨cnm 3, "<init>", "()V"⟩, prog_5_method_1_code, 1, none, [], 3, 61)
abbrev M_P_init : MI := (⟨cnm 1, "<init>", "()V"⟩, prog_3_method_1_code, 1, none, [], 2, 41)
abbrev M_L_init : MI := (⟨cnm 2, "<init>", "(I)V"⟩, prog_4_method_1_code, 2, none, [], 1, 20)
abbrev M_S_init : MI := (⟨cnm 4, "<init>", "(LReelReader$Tape;LReelReader$Reel;)V"⟩, prog_6_method_1_code, 3, none, [], 2, 40)
abbrev M_B_init : MI := (⟨cnm 0, "<init>", "()V"⟩, prog_2_method_1_code, 1, none, [], 1, 20)
abbrev M_X_feed : MI := (⟨cnm 6, "feed", "(IIIII)I"⟩, prog_1_method_2_code, 7, some .int, [], 2, 47)
abbrev M_T_byteCount : MI := (⟨cnm 5, "byteCount", "()I"⟩, prog_7_method_2_code, 1, some .int, [], 0, 0)
abbrev M_T_cut : MI := (⟨cnm 5, "cut", "(I)Z"⟩, prog_7_method_3_code, 2, some .boolean, [], 1, 20)
abbrev M_T_append : MI := (⟨cnm 5, "append", "(II)I"⟩, prog_7_method_4_code, 4, some .int, [], 1, 24)
abbrev M_T_appendBit : MI := (⟨cnm 5, "appendBit", "(I)V"⟩, prog_7_method_5_code, 5, none, [], 0, 0)
abbrev M_X_end : MI := (⟨cnm 6, "end", "(I)Z"⟩, prog_1_method_3_code, 2, some .boolean, [], 2, 41)
abbrev M_X_bits : MI := (⟨cnm 6, "bits", "(II)I"⟩, prog_1_method_4_code, 3, some .int, [], 2, 47)
abbrev M_X_read : MI := (⟨cnm 6, "read", "()I"⟩, prog_1_method_5_code, 2, some .int, [(14, 54, 57, 61)], 12, 236)
abbrev M_R_clear : MI := (⟨cnm 3, "clear", "()V"⟩, prog_5_method_2_code, 1, none, [], 1, 23)
abbrev M_J_fill : MI := (⟨"java/util/Arrays", "fill", "([II)V"⟩, prog_16_method_103_code, 4, none, [], 0, 0)
abbrev M_T_rewind : MI := (⟨cnm 5, "rewind", "()V"⟩, prog_7_method_6_code, 1, none, [], 2, 41)
abbrev M_S_readSize : MI := (⟨cnm 4, "readSize", "()V"⟩, prog_6_method_2_code, 3, none, [], 9, 153)
abbrev M_T_expect : MI := (⟨cnm 5, "expect", "(II)V"⟩, prog_7_method_11_code, 4, none, [], 7, 110)
abbrev M_T_next : MI := (⟨cnm 5, "next", "()I"⟩, prog_7_method_8_code, 2, some .int, [], 6, 89)
abbrev M_T_failAt : MI := (⟨cnm 5, "failAt", "(I)V"⟩, prog_7_method_7_code, 2, none, [], 6, 89)
abbrev M_T_number : MI := (⟨cnm 5, "number", "(I)I"⟩, prog_7_method_9_code, 4, some .int, [], 7, 110)
abbrev M_R_setSize : MI := (⟨cnm 3, "setSize", "(II)V"⟩, prog_5_method_3_code, 3, none, [], 0, 0)
abbrev M_T_align : MI := (⟨cnm 5, "align", "()V"⟩, prog_7_method_12_code, 1, none, [], 8, 133)
abbrev M_S_pictureComes : MI := (⟨cnm 4, "pictureComes", "()Z"⟩, prog_6_method_3_code, 2, some .boolean, [], 8, 133)
abbrev M_S_readPicture : MI := (⟨cnm 4, "readPicture", "(I)V"⟩, prog_6_method_4_code, 4, none, [], 11, 213)
abbrev M_S_readHead : MI := (⟨cnm 4, "readHead", "()V"⟩, prog_6_method_5_code, 3, none, [], 9, 155)
abbrev M_T_nonZero : MI := (⟨cnm 5, "nonZero", "(I)I"⟩, prog_7_method_10_code, 3, some .int, [], 8, 133)
abbrev M_R_begin : MI := (⟨cnm 3, "begin", "(II)V"⟩, prog_5_method_4_code, 3, none, [], 2, 45)
abbrev M_P_resize : MI := (⟨cnm 1, "resize", "(II)V"⟩, prog_3_method_2_code, 4, none, [], 1, 22)
abbrev M_L_resize : MI := (⟨cnm 2, "resize", "(II)V"⟩, prog_4_method_2_code, 3, none, [], 0, 0)
abbrev M_S_passOver : MI := (⟨cnm 4, "passOver", "(II)I"⟩, prog_6_method_6_code, 5, some .int, [], 8, 135)
abbrev M_S_mostPassedInB : MI := (⟨cnm 4, "mostPassedInB", "(I)I"⟩, prog_6_method_7_code, 3, some .int, [], 0, 0)
abbrev M_T_unsigned : MI := (⟨cnm 5, "unsigned", "(I)I"⟩, prog_7_method_13_code, 6, some .int, [], 7, 110)
abbrev M_S_foretellSquare : MI := (⟨cnm 4, "foretellSquare", "(II)V"⟩, prog_6_method_11_code, 10, none, [], 3, 85)
abbrev M_S_forgetDcs : MI := (⟨cnm 4, "forgetDcs", "()V"⟩, prog_6_method_12_code, 1, none, [], 1, 23)
abbrev M_S_forgetVectors : MI := (⟨cnm 4, "forgetVectors", "()V"⟩, prog_6_method_13_code, 1, none, [], 1, 23)
abbrev M_L_foretell : MI := (⟨cnm 2, "foretell", "(LReelReader$Plane;II[IZ)V"⟩, prog_4_method_6_code, 12, none, [], 2, 54)
abbrev M_L_foretellLine : MI := (⟨cnm 2, "foretellLine", "(LReelReader$Plane;IIIZ)V"⟩, prog_4_method_7_code, 13, none, [], 1, 22)
abbrev M_X_held : MI := (⟨cnm 6, "held", "(III)I"⟩, prog_1_method_11_code, 3, some .int, [], 0, 0)
abbrev M_S_readSquare : MI := (⟨cnm 4, "readSquare", "(I)V"⟩, prog_6_method_8_code, 7, none, [], 10, 187)
abbrev M_S_readWays : MI := (⟨cnm 4, "readWays", "()I"⟩, prog_6_method_9_code, 1, some .int, [], 9, 155)
abbrev M_S_readVector : MI := (⟨cnm 4, "readVector", "([I)V"⟩, prog_6_method_10_code, 5, none, [], 9, 160)
abbrev M_T_signed : MI := (⟨cnm 5, "signed", "(II)I"⟩, prog_7_method_14_code, 6, some .int, [], 8, 135)
abbrev M_S_readBlock : MI := (⟨cnm 4, "readBlock", "(IZ)V"⟩, prog_6_method_14_code, 8, none, [], 9, 160)
abbrev M_B_clear : MI := (⟨cnm 0, "clear", "()V"⟩, prog_2_method_2_code, 1, none, [], 1, 23)
abbrev M_B_putDc : MI := (⟨cnm 0, "putDc", "(I)V"⟩, prog_2_method_3_code, 2, none, [], 1, 22)
abbrev M_B_put : MI := (⟨cnm 0, "put", "(II)V"⟩, prog_2_method_5_code, 3, none, [], 0, 0)
abbrev M_B_putLevel : MI := (⟨cnm 0, "putLevel", "(IIIZ)V"⟩, prog_2_method_4_code, 8, none, [], 1, 22)
abbrev M_S_drawBlock : MI := (⟨cnm 4, "drawBlock", "(IIZ)V"⟩, prog_6_method_15_code, 8, none, [], 2, 50)
abbrev M_B_makeSums : MI := (⟨cnm 0, "makeSums", "()V"⟩, prog_2_method_6_code, 2, none, [], 1, 24)
abbrev M_B_addRow : MI := (⟨cnm 0, "addRow", "(I)V"⟩, prog_2_method_7_code, 5, none, [], 0, 0)
abbrev M_L_draw : MI := (⟨cnm 2, "draw", "([IIIZ)V"⟩, prog_4_method_8_code, 9, none, [], 1, 22)
abbrev M_R_takeWhole : MI := (⟨cnm 3, "takeWhole", "()V"⟩, prog_5_method_5_code, 3, none, [], 4, 106)
abbrev M_R_show : MI := (⟨cnm 3, "show", "(LReelReader$Picture;)V"⟩, prog_5_method_7_code, 4, none, [], 3, 83)
abbrev M_P_copyFrom : MI := (⟨cnm 1, "copyFrom", "(LReelReader$Picture;)V"⟩, prog_3_method_3_code, 3, none, [], 2, 61)
abbrev M_L_copyFrom : MI := (⟨cnm 2, "copyFrom", "(LReelReader$Plane;)V"⟩, prog_4_method_3_code, 2, none, [], 1, 40)
abbrev M_R_finish : MI := (⟨cnm 3, "finish", "()V"⟩, prog_5_method_6_code, 1, none, [], 4, 106)
abbrev M_X_wrong : MI := (⟨cnm 6, "wrong", "()I"⟩, prog_1_method_6_code, 1, some .int, [], 0, 0)
abbrev M_X_dot : MI := (⟨cnm 6, "dot", "(IIII)I"⟩, prog_1_method_9_code, 6, some .int, [], 2, 44)
abbrev M_R_keptPlane : MI := (⟨cnm 3, "keptPlane", "(II)LReelReader$Plane;"⟩, prog_5_method_9_code, 4, some (.object "ReelReader$Plane"), [], 1, 21)
abbrev M_R_keptPicture : MI := (⟨cnm 3, "keptPicture", "(I)LReelReader$Picture;"⟩, prog_5_method_8_code, 2, some (.object "ReelReader$Picture"), [], 0, 0)
abbrev M_L_dotOrNone : MI := (⟨cnm 2, "dotOrNone", "(II)I"⟩, prog_4_method_4_code, 3, some .int, [], 0, 0)
abbrev M_X_sum : MI := (⟨cnm 6, "sum", "(II)I"⟩, prog_1_method_10_code, 4, some .int, [], 2, 44)
abbrev M_L_numberedTotal : MI := (⟨cnm 2, "numberedTotal", "()I"⟩, prog_4_method_5_code, 3, some .int, [], 0, 0)
abbrev M_W_look : MI := (⟨cnm 8, "look", "(LReelReader;I[J)I"⟩, method_3_code, 4, some .int, [(0, 9, 12, 13)], 7, 110)
abbrev M_X_look : MI := (⟨cnm 6, "look", "(I)I"⟩, prog_1_method_7_code, 2, some .int, [], 6, 89)
abbrev M_W_shown : MI := (⟨cnm 8, "shown", "(LReelReader;II[J)I"⟩, method_4_code, 5, some .int, [(0, 10, 13, 13)], 7, 112)
abbrev M_X_shown : MI := (⟨cnm 6, "shown", "(II)I"⟩, prog_1_method_8_code, 4, some .int, [], 6, 89)
abbrev M_M_thrown : MI := (⟨cnm 7, "thrown", "()I"⟩, prog_9_method_1_code, 1, some .int, [], 0, 0)
abbrev M_M_init : MI := (⟨cnm 7, "<init>", "()V"⟩, prog_9_method_20_code, 6, none, [], 1, 20)
abbrev M_M_feed : MI := (⟨cnm 7, "feed", "(IIIII)I"⟩, prog_9_method_38_code, 8, some .int, [], 1, 20)
abbrev M_M_taped : MI := (⟨cnm 7, "taped", "()I"⟩, prog_9_method_37_code, 1, some .int, [], 0, 0)
abbrev M_M_end : MI := (⟨cnm 7, "end", "(I)Z"⟩, prog_9_method_39_code, 2, some .boolean, [], 1, 20)
abbrev M_M_bits : MI := (⟨cnm 7, "bits", "(II)I"⟩, prog_9_method_40_code, 5, some .int, [], 0, 0)
abbrev M_M_read : MI := (⟨cnm 7, "read", "()I"⟩, prog_9_method_41_code, 3, some .int, [], 11, 252)
abbrev M_M_stream : MI := (⟨cnm 7, "stream", "()V"⟩, prog_9_method_36_code, 6, none, [], 10, 227)
abbrev M_M_isFirst : MI := (⟨cnm 7, "isFirst", "(III)Z"⟩, prog_9_method_9_code, 9, some .boolean, [], 2, 42)
abbrev M_M_bit : MI := (⟨cnm 7, "bit", "()I"⟩, prog_9_method_3_code, 2, some .int, [], 1, 21)
abbrev M_M_isWrong : MI := (⟨cnm 7, "isWrong", "(I)Z"⟩, prog_9_method_2_code, 2, some .boolean, [], 0, 0)
abbrev M_M_number : MI := (⟨cnm 7, "number", "(I)I"⟩, prog_9_method_4_code, 4, some .int, [], 2, 42)
abbrev M_M_align : MI := (⟨cnm 7, "align", "()V"⟩, prog_9_method_8_code, 2, none, [], 2, 42)
abbrev M_M_picture : MI := (⟨cnm 7, "picture", "()Z"⟩, prog_9_method_34_code, 2, some .boolean, [], 9, 206)
abbrev M_M_numberAbove : MI := (⟨cnm 7, "numberAbove", "(I)I"⟩, prog_9_method_5_code, 4, some .int, [], 3, 65)
abbrev M_M_allSquares : MI := (⟨cnm 7, "allSquares", "()Z"⟩, prog_9_method_33_code, 4, some .boolean, [], 8, 183)
abbrev M_M_readU : MI := (⟨cnm 7, "readU", "()I"⟩, prog_9_method_6_code, 3, some .int, [], 3, 65)
abbrev M_M_passes : MI := (⟨cnm 7, "passes", "(III)Z"⟩, prog_9_method_31_code, 6, some .boolean, [], 6, 151)
abbrev M_M_begins : MI := (⟨cnm 7, "begins", "()V"⟩, prog_9_method_32_code, 1, none, [], 1, 21)
abbrev M_M_resetDcs : MI := (⟨cnm 7, "resetDcs", "()V"⟩, prog_9_method_28_code, 2, none, [], 0, 0)
abbrev M_M_resetVectors : MI := (⟨cnm 7, "resetVectors", "()V"⟩, prog_9_method_27_code, 2, none, [], 0, 0)
abbrev M_M_foretells : MI := (⟨cnm 7, "foretells", "(I)V"⟩, prog_9_method_19_code, 6, none, [], 5, 126)
abbrev M_M_planeAt : MI := (⟨cnm 7, "planeAt", "(I)I"⟩, prog_9_method_12_code, 2, some .int, [], 0, 0)
abbrev M_M_planeWidth : MI := (⟨cnm 7, "planeWidth", "(I)I"⟩, prog_9_method_10_code, 2, some .int, [], 0, 0)
abbrev M_M_foretoldDot : MI := (⟨cnm 7, "foretoldDot", "(III)I"⟩, prog_9_method_18_code, 4, some .int, [], 4, 103)
abbrev M_M_forward : MI := (⟨cnm 7, "forward", "()[I"⟩, prog_9_method_17_code, 1, some (.array .int), [], 0, 0)
abbrev M_M_moved : MI := (⟨cnm 7, "moved", "([IIIII)I"⟩, prog_9_method_16_code, 8, some .int, [], 3, 76)
abbrev M_M_between : MI := (⟨cnm 7, "between", "([IIII)I"⟩, prog_9_method_15_code, 8, some .int, [], 2, 49)
abbrev M_M_dotOf : MI := (⟨cnm 7, "dotOf", "([IIII)I"⟩, prog_9_method_14_code, 9, some .int, [], 1, 21)
abbrev M_M_planeHeight : MI := (⟨cnm 7, "planeHeight", "(I)I"⟩, prog_9_method_11_code, 2, some .int, [], 0, 0)
abbrev M_M_square : MI := (⟨cnm 7, "square", "(I)Z"⟩, prog_9_method_30_code, 5, some .boolean, [], 7, 159)
abbrev M_M_vector : MI := (⟨cnm 7, "vector", "(I)Z"⟩, prog_9_method_29_code, 7, some .boolean, [], 5, 108)
abbrev M_M_readS : MI := (⟨cnm 7, "readS", "()I"⟩, prog_9_method_7_code, 2, some .int, [], 4, 87)
abbrev M_M_allBlocks : MI := (⟨cnm 7, "allBlocks", "(II)Z"⟩, prog_9_method_26_code, 7, some .boolean, [], 6, 133)
abbrev M_M_block : MI := (⟨cnm 7, "block", "(I)Z"⟩, prog_9_method_25_code, 6, some .boolean, [], 5, 108)
abbrev M_M_factor : MI := (⟨cnm 7, "factor", "(II)I"⟩, prog_9_method_23_code, 5, some .int, [], 1, 22)
abbrev M_M_held : MI := (⟨cnm 7, "held", "(III)I"⟩, prog_9_method_22_code, 3, some .int, [], 0, 0)
abbrev M_M_sums : MI := (⟨cnm 7, "sums", "(III)V"⟩, prog_9_method_24_code, 9, none, [], 1, 22)
abbrev M_M_wave : MI := (⟨cnm 7, "wave", "(II)I"⟩, prog_9_method_21_code, 2, some .int, [], 0, 0)
abbrev M_M_lands : MI := (⟨cnm 7, "lands", "(I)V"⟩, prog_9_method_35_code, 3, none, [], 1, 26)
abbrev M_M_shows : MI := (⟨cnm 7, "shows", "([IIIII)V"⟩, prog_9_method_13_code, 7, none, [], 0, 0)
abbrev M_M_wrong : MI := (⟨cnm 7, "wrong", "()I"⟩, prog_9_method_42_code, 1, some .int, [], 0, 0)
abbrev M_M_look : MI := (⟨cnm 7, "look", "(I)I"⟩, prog_9_method_43_code, 2, some .int, [], 0, 0)
abbrev M_M_shown : MI := (⟨cnm 7, "shown", "(II)I"⟩, prog_9_method_45_code, 3, some .int, [], 1, 21)
abbrev M_M_noPicture : MI := (⟨cnm 7, "noPicture", "(I)Z"⟩, prog_9_method_44_code, 2, some .boolean, [], 0, 0)
abbrev M_M_dot : MI := (⟨cnm 7, "dot", "(IIII)I"⟩, prog_9_method_47_code, 5, some .int, [], 2, 43)
abbrev M_M_noPlane : MI := (⟨cnm 7, "noPlane", "(II)Z"⟩, prog_9_method_46_code, 3, some .boolean, [], 1, 21)
abbrev M_M_sum : MI := (⟨cnm 7, "sum", "(II)I"⟩, prog_9_method_48_code, 5, some .int, [], 2, 43)
abbrev M_W_law : MI := (⟨cnm 8, "law", "([I)Z"⟩, code, 7, some .boolean, [], 15, 580)
def FL (own : String) (idx ci k : Nat) : Prop := ci < 8 ∧ k < cN ci ∧ Cond.fieldLink own idx (cnm ci) (cT ci k).2.1 (cT ci k).2.2.1 ∈ lw_tbl
theorem fX_10 : FL (cnm 6) 10 6 0 := ⟨by decide, by decide, List.mem_of_getElem? (i := 235) (by decide +kernel)⟩
theorem fX_19 : FL (cnm 6) 19 6 1 := ⟨by decide, by decide, List.mem_of_getElem? (i := 236) (by decide +kernel)⟩
theorem fX_28 : FL (cnm 6) 28 6 2 := ⟨by decide, by decide, List.mem_of_getElem? (i := 237) (by decide +kernel)⟩
theorem fX_66 : FL (cnm 6) 66 3 0 := ⟨by decide, by decide, List.mem_of_getElem? (i := 146) (by decide +kernel)⟩
theorem fX_70 : FL (cnm 6) 70 5 3 := ⟨by decide, by decide, List.mem_of_getElem? (i := 88) (by decide +kernel)⟩
theorem fX_81 : FL (cnm 6) 81 1 1 := ⟨by decide, by decide, List.mem_of_getElem? (i := 139) (by decide +kernel)⟩
theorem fB_7 : FL (cnm 0) 7 0 0 := ⟨by decide, by decide, List.mem_of_getElem? (i := 190) (by decide +kernel)⟩
theorem fB_13 : FL (cnm 0) 13 0 1 := ⟨by decide, by decide, List.mem_of_getElem? (i := 191) (by decide +kernel)⟩
theorem fB_22 : FL (cnm 0) 22 0 2 := ⟨by decide, by decide, List.mem_of_getElem? (i := 193) (by decide +kernel)⟩
theorem fB_26 : FL (cnm 0) 26 0 3 := ⟨by decide, by decide, List.mem_of_getElem? (i := 194) (by decide +kernel)⟩
theorem fP_12 : FL (cnm 1) 12 1 0 := ⟨by decide, by decide, List.mem_of_getElem? (i := 133) (by decide +kernel)⟩
theorem fP_18 : FL (cnm 1) 18 1 1 := ⟨by decide, by decide, List.mem_of_getElem? (i := 136) (by decide +kernel)⟩
theorem fL_9 : FL (cnm 2) 9 2 3 := ⟨by decide, by decide, List.mem_of_getElem? (i := 122) (by decide +kernel)⟩
theorem fL_15 : FL (cnm 2) 15 2 0 := ⟨by decide, by decide, List.mem_of_getElem? (i := 119) (by decide +kernel)⟩
theorem fL_19 : FL (cnm 2) 19 2 1 := ⟨by decide, by decide, List.mem_of_getElem? (i := 120) (by decide +kernel)⟩
theorem fL_22 : FL (cnm 2) 22 2 2 := ⟨by decide, by decide, List.mem_of_getElem? (i := 121) (by decide +kernel)⟩
theorem fR_9 : FL (cnm 3) 9 3 0 := ⟨by decide, by decide, List.mem_of_getElem? (i := 145) (by decide +kernel)⟩
theorem fR_17 : FL (cnm 3) 17 3 1 := ⟨by decide, by decide, List.mem_of_getElem? (i := 148) (by decide +kernel)⟩
theorem fR_21 : FL (cnm 3) 21 3 2 := ⟨by decide, by decide, List.mem_of_getElem? (i := 149) (by decide +kernel)⟩
theorem fR_25 : FL (cnm 3) 25 3 3 := ⟨by decide, by decide, List.mem_of_getElem? (i := 151) (by decide +kernel)⟩
theorem fR_29 : FL (cnm 3) 29 3 4 := ⟨by decide, by decide, List.mem_of_getElem? (i := 153) (by decide +kernel)⟩
theorem fR_33 : FL (cnm 3) 33 3 5 := ⟨by decide, by decide, List.mem_of_getElem? (i := 155) (by decide +kernel)⟩
theorem fR_36 : FL (cnm 3) 36 3 6 := ⟨by decide, by decide, List.mem_of_getElem? (i := 157) (by decide +kernel)⟩
theorem fR_45 : FL (cnm 3) 45 3 7 := ⟨by decide, by decide, List.mem_of_getElem? (i := 159) (by decide +kernel)⟩
theorem fR_52 : FL (cnm 3) 52 1 1 := ⟨by decide, by decide, List.mem_of_getElem? (i := 137) (by decide +kernel)⟩
theorem fR_72 : FL (cnm 3) 72 1 0 := ⟨by decide, by decide, List.mem_of_getElem? (i := 134) (by decide +kernel)⟩
theorem fS_12 : FL (cnm 4) 12 4 2 := ⟨by decide, by decide, List.mem_of_getElem? (i := 206) (by decide +kernel)⟩
theorem fS_18 : FL (cnm 4) 18 4 3 := ⟨by decide, by decide, List.mem_of_getElem? (i := 207) (by decide +kernel)⟩
theorem fS_22 : FL (cnm 4) 22 4 4 := ⟨by decide, by decide, List.mem_of_getElem? (i := 208) (by decide +kernel)⟩
theorem fS_25 : FL (cnm 4) 25 4 5 := ⟨by decide, by decide, List.mem_of_getElem? (i := 209) (by decide +kernel)⟩
theorem fS_28 : FL (cnm 4) 28 4 0 := ⟨by decide, by decide, List.mem_of_getElem? (i := 204) (by decide +kernel)⟩
theorem fS_32 : FL (cnm 4) 32 4 1 := ⟨by decide, by decide, List.mem_of_getElem? (i := 205) (by decide +kernel)⟩
theorem fS_61 : FL (cnm 4) 61 4 6 := ⟨by decide, by decide, List.mem_of_getElem? (i := 210) (by decide +kernel)⟩
theorem fS_68 : FL (cnm 4) 68 3 2 := ⟨by decide, by decide, List.mem_of_getElem? (i := 150) (by decide +kernel)⟩
theorem fS_71 : FL (cnm 4) 71 3 3 := ⟨by decide, by decide, List.mem_of_getElem? (i := 152) (by decide +kernel)⟩
theorem fS_85 : FL (cnm 4) 85 5 2 := ⟨by decide, by decide, List.mem_of_getElem? (i := 85) (by decide +kernel)⟩
theorem fS_91 : FL (cnm 4) 91 3 7 := ⟨by decide, by decide, List.mem_of_getElem? (i := 160) (by decide +kernel)⟩
theorem fS_97 : FL (cnm 4) 97 4 7 := ⟨by decide, by decide, List.mem_of_getElem? (i := 211) (by decide +kernel)⟩
theorem fS_100 : FL (cnm 4) 100 4 8 := ⟨by decide, by decide, List.mem_of_getElem? (i := 212) (by decide +kernel)⟩
theorem fS_109 : FL (cnm 4) 109 4 9 := ⟨by decide, by decide, List.mem_of_getElem? (i := 213) (by decide +kernel)⟩
theorem fS_115 : FL (cnm 4) 115 3 4 := ⟨by decide, by decide, List.mem_of_getElem? (i := 154) (by decide +kernel)⟩
theorem fS_119 : FL (cnm 4) 119 1 1 := ⟨by decide, by decide, List.mem_of_getElem? (i := 138) (by decide +kernel)⟩
theorem fS_124 : FL (cnm 4) 124 3 0 := ⟨by decide, by decide, List.mem_of_getElem? (i := 147) (by decide +kernel)⟩
theorem fS_151 : FL (cnm 4) 151 3 5 := ⟨by decide, by decide, List.mem_of_getElem? (i := 156) (by decide +kernel)⟩
theorem fS_154 : FL (cnm 4) 154 3 6 := ⟨by decide, by decide, List.mem_of_getElem? (i := 158) (by decide +kernel)⟩
theorem fS_157 : FL (cnm 4) 157 1 0 := ⟨by decide, by decide, List.mem_of_getElem? (i := 135) (by decide +kernel)⟩
theorem fS_186 : FL (cnm 4) 186 0 1 := ⟨by decide, by decide, List.mem_of_getElem? (i := 192) (by decide +kernel)⟩
theorem fT_11 : FL (cnm 5) 11 5 0 := ⟨by decide, by decide, List.mem_of_getElem? (i := 83) (by decide +kernel)⟩
theorem fT_15 : FL (cnm 5) 15 5 3 := ⟨by decide, by decide, List.mem_of_getElem? (i := 87) (by decide +kernel)⟩
theorem fT_19 : FL (cnm 5) 19 5 1 := ⟨by decide, by decide, List.mem_of_getElem? (i := 84) (by decide +kernel)⟩
theorem fT_34 : FL (cnm 5) 34 5 2 := ⟨by decide, by decide, List.mem_of_getElem? (i := 86) (by decide +kernel)⟩
theorem fM_1 : FL (cnm 7) 1 7 0 := ⟨by decide, by decide, List.mem_of_getElem? (i := 607) (by decide +kernel)⟩
theorem fM_7 : FL (cnm 7) 7 7 6 := ⟨by decide, by decide, List.mem_of_getElem? (i := 613) (by decide +kernel)⟩
theorem fM_10 : FL (cnm 7) 10 7 4 := ⟨by decide, by decide, List.mem_of_getElem? (i := 611) (by decide +kernel)⟩
theorem fM_13 : FL (cnm 7) 13 7 5 := ⟨by decide, by decide, List.mem_of_getElem? (i := 612) (by decide +kernel)⟩
theorem fM_20 : FL (cnm 7) 20 7 3 := ⟨by decide, by decide, List.mem_of_getElem? (i := 610) (by decide +kernel)⟩
theorem fM_35 : FL (cnm 7) 35 7 7 := ⟨by decide, by decide, List.mem_of_getElem? (i := 614) (by decide +kernel)⟩
theorem fM_38 : FL (cnm 7) 38 7 8 := ⟨by decide, by decide, List.mem_of_getElem? (i := 615) (by decide +kernel)⟩
theorem fM_41 : FL (cnm 7) 41 7 22 := ⟨by decide, by decide, List.mem_of_getElem? (i := 629) (by decide +kernel)⟩
theorem fM_44 : FL (cnm 7) 44 7 18 := ⟨by decide, by decide, List.mem_of_getElem? (i := 625) (by decide +kernel)⟩
theorem fM_47 : FL (cnm 7) 47 7 19 := ⟨by decide, by decide, List.mem_of_getElem? (i := 626) (by decide +kernel)⟩
theorem fM_64 : FL (cnm 7) 64 7 28 := ⟨by decide, by decide, List.mem_of_getElem? (i := 635) (by decide +kernel)⟩
theorem fM_70 : FL (cnm 7) 70 7 34 := ⟨by decide, by decide, List.mem_of_getElem? (i := 641) (by decide +kernel)⟩
theorem fM_73 : FL (cnm 7) 73 7 10 := ⟨by decide, by decide, List.mem_of_getElem? (i := 617) (by decide +kernel)⟩
theorem fM_76 : FL (cnm 7) 76 7 11 := ⟨by decide, by decide, List.mem_of_getElem? (i := 618) (by decide +kernel)⟩
theorem fM_79 : FL (cnm 7) 79 7 30 := ⟨by decide, by decide, List.mem_of_getElem? (i := 637) (by decide +kernel)⟩
theorem fM_83 : FL (cnm 7) 83 7 31 := ⟨by decide, by decide, List.mem_of_getElem? (i := 638) (by decide +kernel)⟩
theorem fM_94 : FL (cnm 7) 94 7 9 := ⟨by decide, by decide, List.mem_of_getElem? (i := 616) (by decide +kernel)⟩
theorem fM_107 : FL (cnm 7) 107 7 1 := ⟨by decide, by decide, List.mem_of_getElem? (i := 608) (by decide +kernel)⟩
theorem fM_111 : FL (cnm 7) 111 7 29 := ⟨by decide, by decide, List.mem_of_getElem? (i := 636) (by decide +kernel)⟩
theorem fM_114 : FL (cnm 7) 114 7 33 := ⟨by decide, by decide, List.mem_of_getElem? (i := 640) (by decide +kernel)⟩
theorem fM_117 : FL (cnm 7) 117 7 37 := ⟨by decide, by decide, List.mem_of_getElem? (i := 644) (by decide +kernel)⟩
theorem fM_120 : FL (cnm 7) 120 7 38 := ⟨by decide, by decide, List.mem_of_getElem? (i := 645) (by decide +kernel)⟩
theorem fM_123 : FL (cnm 7) 123 7 39 := ⟨by decide, by decide, List.mem_of_getElem? (i := 646) (by decide +kernel)⟩
theorem fM_126 : FL (cnm 7) 126 7 42 := ⟨by decide, by decide, List.mem_of_getElem? (i := 649) (by decide +kernel)⟩
theorem fM_132 : FL (cnm 7) 132 7 32 := ⟨by decide, by decide, List.mem_of_getElem? (i := 639) (by decide +kernel)⟩
theorem fM_135 : FL (cnm 7) 135 7 35 := ⟨by decide, by decide, List.mem_of_getElem? (i := 642) (by decide +kernel)⟩
theorem fM_151 : FL (cnm 7) 151 7 27 := ⟨by decide, by decide, List.mem_of_getElem? (i := 634) (by decide +kernel)⟩
theorem fM_157 : FL (cnm 7) 157 7 26 := ⟨by decide, by decide, List.mem_of_getElem? (i := 633) (by decide +kernel)⟩
theorem fM_164 : FL (cnm 7) 164 7 36 := ⟨by decide, by decide, List.mem_of_getElem? (i := 643) (by decide +kernel)⟩
theorem fM_181 : FL (cnm 7) 181 7 24 := ⟨by decide, by decide, List.mem_of_getElem? (i := 631) (by decide +kernel)⟩
theorem fM_184 : FL (cnm 7) 184 7 40 := ⟨by decide, by decide, List.mem_of_getElem? (i := 647) (by decide +kernel)⟩
theorem fM_196 : FL (cnm 7) 196 7 25 := ⟨by decide, by decide, List.mem_of_getElem? (i := 632) (by decide +kernel)⟩
theorem fM_199 : FL (cnm 7) 199 7 41 := ⟨by decide, by decide, List.mem_of_getElem? (i := 648) (by decide +kernel)⟩
theorem fM_212 : FL (cnm 7) 212 7 12 := ⟨by decide, by decide, List.mem_of_getElem? (i := 619) (by decide +kernel)⟩
theorem fM_215 : FL (cnm 7) 215 7 13 := ⟨by decide, by decide, List.mem_of_getElem? (i := 620) (by decide +kernel)⟩
theorem fM_222 : FL (cnm 7) 222 7 23 := ⟨by decide, by decide, List.mem_of_getElem? (i := 630) (by decide +kernel)⟩
theorem fM_229 : FL (cnm 7) 229 7 14 := ⟨by decide, by decide, List.mem_of_getElem? (i := 621) (by decide +kernel)⟩
theorem fM_232 : FL (cnm 7) 232 7 15 := ⟨by decide, by decide, List.mem_of_getElem? (i := 622) (by decide +kernel)⟩
theorem fM_235 : FL (cnm 7) 235 7 16 := ⟨by decide, by decide, List.mem_of_getElem? (i := 623) (by decide +kernel)⟩
theorem fM_238 : FL (cnm 7) 238 7 17 := ⟨by decide, by decide, List.mem_of_getElem? (i := 624) (by decide +kernel)⟩
theorem fM_244 : FL (cnm 7) 244 7 20 := ⟨by decide, by decide, List.mem_of_getElem? (i := 627) (by decide +kernel)⟩
theorem fM_247 : FL (cnm 7) 247 7 21 := ⟨by decide, by decide, List.mem_of_getElem? (i := 628) (by decide +kernel)⟩
theorem fM_255 : FL (cnm 7) 255 7 2 := ⟨by decide, by decide, List.mem_of_getElem? (i := 609) (by decide +kernel)⟩
end
section
/-! ===== a method's numbers; the memory: what every cell holds, by address and place ===== -/
def iY (M : MI) : MethodName := M.1
def iC (M : MI) : ByteArray := M.2.1
def iL (M : MI) : Nat := M.2.2.1
def iR (M : MI) : Option FieldType := M.2.2.2.1
def iH (M : MI) : List (Nat × Nat × Nat × Nat) := M.2.2.2.2.1
def iF (M : MI) : Nat := M.2.2.2.2.2.1
def iW (M : MI) : Nat := M.2.2.2.2.2.2
abbrev Out : Type := Option Value ⊕ String
/-- kinds, lengths, ints, references, longs, the next address, the slots used -/
def Mem : Type := (Nat → Nat) × (Nat → Nat) × (Nat → Nat → Int32) × (Nat → Nat → Option Nat) × (Nat → Nat → Int64) × Nat × Nat
def mK (h : Mem) : Nat → Nat := h.1
def mL (h : Mem) : Nat → Nat := h.2.1
def mI (h : Mem) : Nat → Nat → Int32 := h.2.2.1
def mR (h : Mem) : Nat → Nat → Option Nat := h.2.2.2.1
def mJ (h : Mem) : Nat → Nat → Int64 := h.2.2.2.2.1
def mN (h : Mem) : Nat := h.2.2.2.2.2.1
def mU (h : Mem) : Nat := h.2.2.2.2.2.2
def sI (h : Mem) (a k : Nat) (v : Int32) : Mem := (mK h, mL h, (fun b j => if b = a ∧ j = k then v else mI h b j), mR h, mJ h, mN h, mU h)
def sR (h : Mem) (a k : Nat) (v : Option Nat) : Mem := (mK h, mL h, mI h, (fun b j => if b = a ∧ j = k then v else mR h b j), mJ h, mN h, mU h)
def sJ (h : Mem) (a k : Nat) (v : Int64) : Mem := (mK h, mL h, mI h, mR h, (fun b j => if b = a ∧ j = k then v else mJ h b j), mN h, mU h)
/-- n ints from place sp of a to place dp of b -/
def cpI (h : Mem) (a sp b dp n : Nat) : Mem := (mK h, mL h, (fun c j => if c = b ∧ dp ≤ j ∧ j < dp + n then mI h a (sp + (j - dp)) else mI h c j), mR h, mJ h, mN h, mU h)
/-- a new cell of kind kd with len places, which takes n slots -/
def nw (h : Mem) (kd len n : Nat) : Mem := ((fun b => if b = mN h then kd else mK h b), (fun b => if b = mN h then len else mL h b), (fun b j => if b = mN h then 0 else mI h b j), (fun b j => if b = mN h then none else mR h b j), (fun b j => if b = mN h then 0 else mJ h b j), mN h + 1, mU h + n)
theorem mK_sI (h : Mem) (a k : Nat) (v : Int32) : mK (sI h a k v) = mK h := rfl
theorem mL_sI (h : Mem) (a k : Nat) (v : Int32) : mL (sI h a k v) = mL h := rfl
theorem mR_sI (h : Mem) (a k : Nat) (v : Int32) : mR (sI h a k v) = mR h := rfl
theorem mJ_sI (h : Mem) (a k : Nat) (v : Int32) : mJ (sI h a k v) = mJ h := rfl
theorem mN_sI (h : Mem) (a k : Nat) (v : Int32) : mN (sI h a k v) = mN h := rfl
theorem mU_sI (h : Mem) (a k : Nat) (v : Int32) : mU (sI h a k v) = mU h := rfl
theorem mI_sI (h : Mem) (a k : Nat) (v : Int32) (b j : Nat) : mI (sI h a k v) b j = if b = a ∧ j = k then v else mI h b j := rfl
theorem mK_sR (h : Mem) (a k : Nat) (v : Option Nat) : mK (sR h a k v) = mK h := rfl
theorem mL_sR (h : Mem) (a k : Nat) (v : Option Nat) : mL (sR h a k v) = mL h := rfl
theorem mI_sR (h : Mem) (a k : Nat) (v : Option Nat) : mI (sR h a k v) = mI h := rfl
theorem mJ_sR (h : Mem) (a k : Nat) (v : Option Nat) : mJ (sR h a k v) = mJ h := rfl
theorem mN_sR (h : Mem) (a k : Nat) (v : Option Nat) : mN (sR h a k v) = mN h := rfl
theorem mU_sR (h : Mem) (a k : Nat) (v : Option Nat) : mU (sR h a k v) = mU h := rfl
theorem mR_sR (h : Mem) (a k : Nat) (v : Option Nat) (b j : Nat) : mR (sR h a k v) b j = if b = a ∧ j = k then v else mR h b j := rfl
theorem mK_cpI (h : Mem) (a sp b dp n : Nat) : mK (cpI h a sp b dp n) = mK h := rfl
theorem mL_cpI (h : Mem) (a sp b dp n : Nat) : mL (cpI h a sp b dp n) = mL h := rfl
theorem mR_cpI (h : Mem) (a sp b dp n : Nat) : mR (cpI h a sp b dp n) = mR h := rfl
theorem mJ_cpI (h : Mem) (a sp b dp n : Nat) : mJ (cpI h a sp b dp n) = mJ h := rfl
theorem mN_cpI (h : Mem) (a sp b dp n : Nat) : mN (cpI h a sp b dp n) = mN h := rfl
theorem mU_cpI (h : Mem) (a sp b dp n : Nat) : mU (cpI h a sp b dp n) = mU h := rfl
theorem mI_cpI (h : Mem) (a sp b dp n c j : Nat) : mI (cpI h a sp b dp n) c j = if c = b ∧ dp ≤ j ∧ j < dp + n then mI h a (sp + (j - dp)) else mI h c j := rfl
theorem mN_nw (h : Mem) (kd len n : Nat) : mN (nw h kd len n) = mN h + 1 := rfl
theorem mU_nw (h : Mem) (kd len n : Nat) : mU (nw h kd len n) = mU h + n := rfl
theorem mK_nw (h : Mem) (kd len n b : Nat) : mK (nw h kd len n) b = if b = mN h then kd else mK h b := rfl
theorem mL_nw (h : Mem) (kd len n b : Nat) : mL (nw h kd len n) b = if b = mN h then len else mL h b := rfl
theorem mI_nw (h : Mem) (kd len n b j : Nat) : mI (nw h kd len n) b j = if b = mN h then 0 else mI h b j := rfl
theorem mR_nw (h : Mem) (kd len n b j : Nat) : mR (nw h kd len n) b j = if b = mN h then none else mR h b j := rfl
theorem mJ_nw (h : Mem) (kd len n b j : Nat) : mJ (nw h kd len n) b j = if b = mN h then 0 else mJ h b j := rfl
/-! ===== the memory and the machine's heap ===== -/
def xC (s0 : State) (ci : Nat) : ClassId := (s0.vm.findClass (cnm ci)).getD 0
def xI (s0 : State) (ci k : Nat) : Nat := match s0.fieldFound? (cT ci k).1 (cT ci k).2.1 (cT ci k).2.2.1 with
  | some q => q.2.2.2.slot
  | none => 0
def fV (h : Mem) (ci a k : Nat) : Value := if isR ci k = true then va_rf (mR h a k) else .int (mI h a k)
def aOK (s0 : State) (ty : FieldType) (n : Nat) (f : Nat → Value) (cell : Cell) : Prop := s0.isArrayOf cell ty ∧ cell.vm ≠ .unknown ∧ cell.slots.size = n ∧ n < 2 ^ 31 ∧ ∀ j, j < n → cell.slots[j]? = some (f j)
def rOK (s0 : State) (C : String) (n : Nat) (f : Nat → Value) (cell : Cell) : Prop := aOK s0 (.object C) n f cell ∧ ∃ kA comp, s0.vm.classes[cell.cls]? = some kA ∧ kA.kind = .array comp (.object C) ∧ s0.vm.findClass C = some comp
def oOK (s0 : State) (h : Mem) (ci a : Nat) (cell : Cell) : Prop := ci < 8 ∧ cell.cls = xC s0 ci ∧ cell.vm = .none ∧ ∀ j, j < cN ci → cell.slots[xI s0 ci j]? = some (fV h ci a j)
/-- kinds: 1 to 8 objects of the classes 0 to 7; 11 int[], 12 byte[], 13 long[], 14 Picture[], 15 Plane[]; 21 int[] that nobody writes -/
def cOK (s0 : State) (h : Mem) (a : Nat) (cell : Cell) : Prop :=
  if mK h a = 11 ∨ mK h a = 21 then aOK s0 .int (mL h a) (fun j => .int (mI h a j)) cell else
  if mK h a = 12 then aOK s0 .byte (mL h a) (fun j => .int (mI h a j)) cell else
  if mK h a = 13 then aOK s0 .long (mL h a) (fun j => .long (mJ h a j)) cell else
  if mK h a = 14 then rOK s0 (cnm 1) (mL h a) (fun j => va_rf (mR h a j)) cell else
  if mK h a = 15 then rOK s0 (cnm 2) (mL h a) (fun j => va_rf (mR h a j)) cell else
  oOK s0 h (mK h a - 1) a cell
def Rep (s0 : State) (h : Mem) (H : Heap) : Prop := H.size = mN h ∧ s0.heap.size ≤ mN h ∧ (∀ q, q < s0.heap.size → H[q]? = s0.heap[q]?) ∧ ∀ a, mK h a ≠ 0 → (∃ cell, H[a]? = some cell ∧ cOK s0 h a cell) ∧ (mK h a = 21 ∨ s0.heap.size ≤ a)
theorem cOK_congr {s0 : State} {h h' : Mem} {b : Nat} {cell : Cell} (hK : mK h' b = mK h b) (hL : mL h' b = mL h b) (hI : ∀ i, mI h' b i = mI h b i) (hR : ∀ i, mR h' b i = mR h b i) (hJ : ∀ i, mJ h' b i = mJ h b i) (hc : cOK s0 h b cell) : cOK s0 h' b cell := by
  unfold cOK oOK fV at hc ⊢
  simp only [hK, hL, hI, hR, hJ]
  exact hc
theorem Rep.upd {s0 : State} {h h' : Mem} {H H' : Heap} {a : Nat} {cell' : Cell} (hr : Rep s0 h H) (ha : s0.heap.size ≤ a) (e1 : H'[a]? = some cell') (e2 : H'.size = H.size) (e3 : ∀ q, q ≠ a → H'[q]? = H[q]?)
    (hN : mN h' = mN h) (hg : ∀ b, b ≠ a → mK h' b = mK h b ∧ mL h' b = mL h b ∧ (∀ i, mI h' b i = mI h b i) ∧ (∀ i, mR h' b i = mR h b i) ∧ ∀ i, mJ h' b i = mJ h b i) (hc : mK h' a ≠ 0 → cOK s0 h' a cell') : Rep s0 h' H' := by
  obtain ⟨r1, r2, r3, r4⟩ := hr
  refine ⟨by rw [e2, hN]; exact r1, by rw [hN]; exact r2, fun q hq => by rw [e3 q (by omega)]; exact r3 q hq, fun b hb => ?_⟩
  by_cases hba : b = a
  · subst hba
    exact ⟨⟨cell', e1, hc hb⟩, Or.inr ha⟩
  · obtain ⟨g1, g2, g3, g4, g5⟩ := hg b hba
    obtain ⟨⟨c, c1, c2⟩, c3⟩ := r4 b (by rw [← g1]; exact hb)
    exact ⟨⟨c, by rw [e3 b hba]; exact c1, cOK_congr g1 g2 g3 g4 g5 c2⟩, by rw [g1]; exact c3⟩
theorem Rep.new {s0 : State} {h h' : Mem} {H H' : Heap} (hr : Rep s0 h H) (e2 : H'.size = H.size + 1) (e3 : ∀ q, q < H.size → H'[q]? = H[q]?)
    (hN : mN h' = mN h + 1) (hg : ∀ b, b ≠ mN h → mK h' b = mK h b ∧ mL h' b = mL h b ∧ (∀ i, mI h' b i = mI h b i) ∧ (∀ i, mR h' b i = mR h b i) ∧ ∀ i, mJ h' b i = mJ h b i) (hc : mK h' (mN h) ≠ 0 → ∃ cell', H'[H.size]? = some cell' ∧ cOK s0 h' (mN h) cell') : Rep s0 h' H' := by
  obtain ⟨r1, r2, r3, r4⟩ := hr
  refine ⟨by rw [e2, hN, r1], by rw [hN]; omega, fun q hq => by rw [e3 q (by omega)]; exact r3 q hq, fun b hb => ?_⟩
  by_cases hba : b = mN h
  · subst hba
    obtain ⟨c, c1, c2⟩ := hc hb
    exact ⟨⟨c, by rw [← r1]; exact c1, c2⟩, Or.inr r2⟩
  · obtain ⟨g1, g2, g3, g4, g5⟩ := hg b hba
    obtain ⟨⟨c, c1, c2⟩, c3⟩ := r4 b (by rw [← g1]; exact hb)
    exact ⟨⟨c, by rw [e3 b (Array.getElem?_eq_some_iff.mp c1).1]; exact c1, cOK_congr g1 g2 g3 g4 g5 c2⟩, by rw [g1]; exact c3⟩
theorem Rep.newx {s0 : State} {h : Mem} {H H' : Heap} {kd len n : Nat} (hr : Rep s0 h H) (e2 : H'.size = H.size + 1) (e3 : ∀ q, q < H.size → H'[q]? = H[q]?) (hc : kd ≠ 0 → ∃ cell', H'[H.size]? = some cell' ∧ cOK s0 (nw h kd len n) (mN h) cell') : Rep s0 (nw h kd len n) H' :=
  hr.new e2 e3 rfl (fun b hb => by simp [mK_nw, mL_nw, mI_nw, mR_nw, mJ_nw, hb]) (fun hk => hc (by simpa [mK_nw] using hk))
theorem Rep.obj {s0 : State} {h : Mem} {H : Heap} {a ci : Nat} (hr : Rep s0 h H) (hci : ci < 8) (hk : mK h a = ci + 1) : ∃ cell, H[a]? = some cell ∧ cell.cls = xC s0 ci ∧ cell.vm = .none ∧ ∀ j, j < cN ci → cell.slots[xI s0 ci j]? = some (fV h ci a j) := by
  obtain ⟨⟨c, c1, c2⟩, -⟩ := hr.2.2.2 a (by omega)
  unfold cOK at c2
  rw [if_neg (by omega), if_neg (by omega), if_neg (by omega), if_neg (by omega), if_neg (by omega)] at c2
  have e : mK h a - 1 = ci := by omega
  rw [e] at c2
  exact ⟨c, c1, c2.2⟩
theorem Rep.own {s0 : State} {h : Mem} {H : Heap} {a : Nat} (hr : Rep s0 h H) (h1 : mK h a ≠ 0) (h2 : mK h a ≠ 21) : s0.heap.size ≤ a := (hr.2.2.2 a h1).2.elim (fun e => absurd e h2) id
theorem Rep.a11 {s0 : State} {h : Mem} {H : Heap} {a : Nat} (hr : Rep s0 h H) (hk : mK h a = 11 ∨ mK h a = 21) : ∃ cell, H[a]? = some cell ∧ aOK s0 .int (mL h a) (fun j => .int (mI h a j)) cell := by
  obtain ⟨⟨c, c1, c2⟩, -⟩ := hr.2.2.2 a (by omega)
  unfold cOK at c2
  rw [if_pos hk] at c2
  exact ⟨c, c1, c2⟩
theorem Rep.a12 {s0 : State} {h : Mem} {H : Heap} {a : Nat} (hr : Rep s0 h H) (hk : mK h a = 12) : ∃ cell, H[a]? = some cell ∧ aOK s0 .byte (mL h a) (fun j => .int (mI h a j)) cell := by
  obtain ⟨⟨c, c1, c2⟩, -⟩ := hr.2.2.2 a (by omega)
  unfold cOK at c2
  rw [if_neg (by omega), if_pos hk] at c2
  exact ⟨c, c1, c2⟩
theorem Rep.a13 {s0 : State} {h : Mem} {H : Heap} {a : Nat} (hr : Rep s0 h H) (hk : mK h a = 13) : ∃ cell, H[a]? = some cell ∧ aOK s0 .long (mL h a) (fun j => .long (mJ h a j)) cell := by
  obtain ⟨⟨c, c1, c2⟩, -⟩ := hr.2.2.2 a (by omega)
  unfold cOK at c2
  rw [if_neg (by omega), if_neg (by omega), if_pos hk] at c2
  exact ⟨c, c1, c2⟩
/-- kinds 14, 15: arrays of references to objects of the class ci (1, 2) -/
theorem Rep.aq {s0 : State} {h : Mem} {H : Heap} {a ci : Nat} (hr : Rep s0 h H) (hci : ci = 1 ∨ ci = 2) (hk : mK h a = ci + 13) : ∃ cell, H[a]? = some cell ∧ rOK s0 (cnm ci) (mL h a) (fun j => va_rf (mR h a j)) cell := by
  obtain ⟨⟨c, c1, c2⟩, -⟩ := hr.2.2.2 a (by omega)
  unfold cOK at c2
  rcases hci with rfl | rfl
  · rw [if_neg (by omega), if_neg (by omega), if_neg (by omega), if_pos (by omega)] at c2
    exact ⟨c, c1, c2⟩
  · rw [if_neg (by omega), if_neg (by omega), if_neg (by omega), if_neg (by omega), if_pos (by omega)] at c2
    exact ⟨c, c1, c2⟩
theorem cOK_obj {s0 : State} {h : Mem} {a ci : Nat} {cell : Cell} (hci : ci < 8) (hk : mK h a = ci + 1) (h1 : cell.cls = xC s0 ci) (h2 : cell.vm = .none) (h3 : ∀ j, j < cN ci → cell.slots[xI s0 ci j]? = some (fV h ci a j)) : cOK s0 h a cell := by
  unfold cOK
  rw [if_neg (by omega), if_neg (by omega), if_neg (by omega), if_neg (by omega), if_neg (by omega)]
  have e : mK h a - 1 = ci := by omega
  rw [e]
  exact ⟨hci, h1, h2, h3⟩
theorem aOK.set {s0 : State} {ty : FieldType} {n j : Nat} {f g : Nat → Value} {cell : Cell} {v : Value} (h : aOK s0 ty n f cell) (hj : j < n) (hg : ∀ i, i < n → g i = if i = j then v else f i) : aOK s0 ty n g (cell.setSlot j v) := by
  obtain ⟨h1, h2, h3, h4, h5⟩ := h
  refine ⟨h1, h2, by rw [k2_slotsz]; exact h3, h4, fun i hi => ?_⟩
  rw [hg i hi]
  by_cases e : i = j
  · subst e
    simp [Cell.setSlot, h3, hi]
  · rw [if_neg e]
    have e2 : (cell.setSlot j v).slots[i]? = cell.slots[i]? := by simp [Cell.setSlot, Array.getElem?_setIfInBounds, Ne.symm e]
    rw [e2]
    exact h5 i hi
end
section
/-! ===== locals as a list ===== -/
def lvs (ls : Array Slot) (n : Nat) (L : List (Option Value)) : Prop := ls.size = n ∧ lv_wf ls ∧ L.length = n ∧ ∀ (i : Nat) (v : Value), L[i]? = some (some v) → ls[i]? = some (Slot.val v) ∧ v.category = 1
def asc (L : List (Option Value)) : List (Nat × Value) := (List.range L.length).filterMap (fun i => match L[i]? with
  | some (some v) => some (i, v)
  | _ => none)
theorem mem_asc {L : List (Option Value)} {i : Nat} {v : Value} : (i, v) ∈ asc L ↔ L[i]? = some (some v) := by
  unfold asc
  rw [List.mem_filterMap]
  constructor
  · rintro ⟨j, -, hj⟩
    split at hj
    · rename_i w hw
      cases hj
      exact hw
    · cases hj
  · intro h
    have hi : i < L.length := (List.getElem?_eq_some_iff.mp h).1
    exact ⟨i, List.mem_range.mpr hi, by rw [h]⟩
theorem lvs.has {ls : Array Slot} {n : Nat} {L : List (Option Value)} (h : lvs ls n L) : lv_has ls n (asc L) := ⟨h.1, h.2.1, fun q hq => (h.2.2.2 q.1 q.2 (mem_asc.mp hq)).1⟩
theorem lvs.st {ls ls' : Array Slot} {n i : Nat} {L : List (Option Value)} {v : Value} (h : lvs ls n L) (hc : v.category = 1) (h' : lv_has ls' n ((i, v) :: (asc L).filter (fun q => !(q.1 == i) && !(q.1 + 1 == i && q.2.category == 2)))) : lvs ls' n (L.set i (some v)) := by
  obtain ⟨a1, a2, a3⟩ := h'
  refine ⟨a1, a2, by rw [List.length_set]; exact h.2.2.1, fun j w hj => ?_⟩
  rw [List.getElem?_set] at hj
  by_cases e : i = j
  · subst e
    rw [if_pos rfl] at hj
    split at hj
    · cases hj
      exact ⟨a3 _ List.mem_cons_self, hc⟩
    · cases hj
  · rw [if_neg e] at hj
    have hw := (h.2.2.2 j w hj).2
    exact ⟨a3 (j, w) (List.mem_cons_of_mem _ (List.mem_filter.mpr ⟨mem_asc.mpr hj, by simp [Ne.symm e, hw]⟩)), hw⟩
theorem lvs.drop {ls : Array Slot} {n i : Nat} {L : List (Option Value)} {x : Option Value} (h : lvs ls n (L.set i x)) : lvs ls n (L.set i none) := by
  obtain ⟨a1, a2, a3, a4⟩ := h
  refine ⟨a1, a2, by rw [List.length_set] at a3 ⊢; exact a3, fun j w hj => ?_⟩
  rw [List.getElem?_set] at hj
  by_cases e : i = j
  · subst e
    rw [if_pos rfl] at hj
    split at hj <;> cases hj
  · rw [if_neg e] at hj
    exact a4 j w (by rw [List.getElem?_set, if_neg e]; exact hj)
theorem lvs.at {ls : Array Slot} {n i : Nat} {L : List (Option Value)} {v : Value} (h : lvs ls n L) (hv : L[i]? = some (some v)) : ls[i]? = some (.val v) := (h.2.2.2 i v hv).1
theorem lvs.lt {ls : Array Slot} {n i : Nat} {L : List (Option Value)} (h : lvs ls n L) (hv : i < L.length) : i < n := by rw [← h.2.2.1]; exact hv
def ent (av : List Value) (n : Nat) : List (Option Value) := av.map some ++ List.replicate (n - av.length) none
theorem lv_args_1 : ∀ (av : List Value) (k : Nat), (∀ v ∈ av, v.category = 1) → ∀ i v, av[i]? = some v → (k + i, v) ∈ lv_args k av
  | [], _, _, i, v, h => by simp at h
  | w :: t, k, hc, i, v, h => by
    have hw : w.category = 1 := hc w List.mem_cons_self
    unfold lv_args
    cases i with
    | zero =>
      simp at h
      subst h
      simp
    | succ j =>
      have h2 := lv_args_1 t (k + 1) (fun x hx => hc x (List.mem_cons_of_mem _ hx)) j v (by simpa using h)
      have e : k + (j + 1) = k + 1 + j := by omega
      rw [e]
      simp [hw]
      exact Or.inr h2
theorem lg_sl_1 : ∀ (av : List Value), (∀ v ∈ av, v.category = 1) → (lg_sl av).length = av.length
  | [], _ => rfl
  | w :: t, hc => by
    have hw : w.category = 1 := hc w List.mem_cons_self
    have h2 := lg_sl_1 t (fun x hx => hc x (List.mem_cons_of_mem _ hx))
    unfold lg_sl at h2 ⊢
    simp [hw]
    simpa using h2
theorem lvs.ent {av : List Value} {n : Nat} (hc : ∀ v ∈ av, v.category = 1) (hn : av.length ≤ n) : lvs ((lg_sl av ++ List.replicate (n - (lg_sl av).length) Slot.unset).toArray) n (ent av n) := by
  have h := lv_entry av (n := n) (by rw [lg_sl_1 av hc]; exact hn)
  refine ⟨h.1, h.2.1, by simp [Jvm.Pilot.@@N@@.ent]; omega, fun i v hv => ?_⟩
  unfold Jvm.Pilot.@@N@@.ent at hv
  rw [List.getElem?_append] at hv
  split at hv
  · rw [List.getElem?_map] at hv
    cases hi : av[i]? with
    | none => rw [hi] at hv; simp at hv
    | some w =>
      rw [hi] at hv
      simp at hv
      subst hv
      have := lv_args_1 av 0 hc i w hi
      rw [Nat.zero_add] at this
      exact ⟨h.2.2 _ this, hc w (List.mem_of_getElem? hi)⟩
  · rw [List.getElem?_replicate] at hv
    split at hv <;> simp at hv
/-! ===== the start of the law, as every method sees it ===== -/
def frOf (s0 : State) : Addr → Prop := fun q => s0.heap.size ≤ q
def G0 (s0 : State) : Prop := ∃ av, ∀ w ∈ lw_tbl, w.before av s0 = true
theorem G0.word {s0 s : State} {args : Array Value} (g : G0 s0) (hW : s0.WarmedH s.vm) {w : Cond} (hw : w ∈ lw_tbl) (hg : goodWord w = true) : w.before args s = true := by
  obtain ⟨av, h⟩ := g
  exact word_at hW (good_of_word hg) (h w hw)
def sC (i : Nat) : String := match i with
  | 0 => cnm 0
  | 1 => cnm 0
  | _ => cnm 7
def sNm (i : Nat) : String := match i with
  | 0 => "ZIGZAG"
  | 1 => "COSINES"
  | _ => "WAVES"
def sA (s0 : State) (i : Nat) : Nat := match (Term.static (sC i) (sNm i) "[I").eval #[] s0 none [] s0 with
  | some (.ref a) => a
  | _ => 0
def CX (s0 : State) (l : Launch) : Prop := G0 s0 ∧ l.stackTraces = false ∧ vx_Zq Bundle.tN "UNASSIGNED_STACK" Bundle.steD (frOf s0) s0 s0.heap ∧ vx_Zq Bundle.tN "SUPPRESSED_SENTINEL" Bundle.listD (frOf s0) s0 s0.heap ∧ ∀ i, i < 3 → va_Z (sC i) (sNm i) "[I" (.ref (sA s0 i)) (frOf s0) s0 s0.heap
/-! ===== the judgement ===== -/
def EN (s0 : State) (l : Launch) (M : MI) (h0 : Mem) (p : Program) (s : State) (m : MethodId) (meth : Method) (c : Code) : Prop :=
  p.tables.exec = Jvm.exec ∧ c.code = iC M ∧ c.maxLocals = iL M ∧ s.vm.findClass (iY M).cls = some m.cls ∧ meth.locks = false ∧ meth.sig.returnType = iR M ∧ meth.name = (iY M).name ∧ c.exceptionTable.toList = tableOf (iH M) ∧ s0.WarmedH s.vm ∧ (∀ q, q < s0.heap.size → s.heap[q]? = s0.heap[q]?) ∧ s.heap.size = mN h0 ∧ s0.heap.size ≤ s.heap.size ∧ CX s0 l
def ST (s0 : State) (M : MI) (h0 h : Mem) (L : List (Option Value)) (H : Heap) (locs : List Loc) (ls : Array Slot) : Prop := Rep s0 h H ∧ (∀ q ∈ locs, frOf s0 q.base) ∧ lvs ls (iL M) L ∧ mN h0 ≤ mN h ∧ mU h0 ≤ mU h
def QcOf (s0 : State) (o : Out) (hE : Mem) : Array Value → State → Outcome → State → Prop := fun _ _ oc t => ∃ v, o = .inl v ∧ oc = .returned v ∧ Rep s0 hE t.heap
def XcOf (s0 : State) (o : Out) (hE : Mem) : String → State → State → Prop := fun E _ t => o = .inr E ∧ Rep s0 hE t.heap
def rmOf (M : MI) (h0 hE : Mem) : Room := { frames := iF M, cells := mN hE - mN h0, slots := mU hE - mU h0, locals := iW M }
/-- from this point of method M, entered with h0, it ends with o and the memory hE -/
def R (s0 : State) (l : Launch) (M : MI) (h0 : Mem) (o : Out) (hE : Mem) (pc : Nat) (L : List (Option Value)) (st : List Value) (h : Mem) : Prop :=
  (mN h ≤ mN hE ∧ mU h ≤ mU hE) ∧ ∀ (p : Program) (e : Env) (s : State) (m : MethodId) (args : Array Value) (below : List Frame) (meth : Method) (c : Code), EN s0 l M h0 p s m meth c → ∀ (H : Heap) (locs : List Loc) (ls : Array Slot), ST s0 M h0 h L H locs ls →
    W p l e (rmOf M h0 hE) s m args below meth c H locs (mN h - mN h0) (mU h - mU h0) (vx_MQ below (QcOf s0 o hE) (XcOf s0 o hE) args s (mN hE - mN h0) (mU hE - mU h0) (frOf s0)) (F0 m pc ls st)
def RQ (s0 : State) (l : Launch) (M : MI) (h0 : Mem) (pc : Nat) (L : List (Option Value)) (st : List Value) (h : Mem) (Q : Out → Mem → Prop) : Prop := ∃ o hE, R s0 l M h0 o hE pc L st h ∧ Q o hE
/-- something of class E is thrown over the frame -/
def RX (s0 : State) (l : Launch) (M : MI) (h0 : Mem) (o : Out) (hE : Mem) (pc : Nat) (L : List (Option Value)) (E : String) (h : Mem) : Prop :=
  (mN h ≤ mN hE ∧ mU h ≤ mU hE) ∧ ∀ (p : Program) (e : Env) (s : State) (m : MethodId) (args : Array Value) (below : List Frame) (meth : Method) (c : Code), EN s0 l M h0 p s m meth c → ∀ (H : Heap) (locs : List Loc) (ls : Array Slot) (st : List Value) (q : Addr) (ce : Cell), ST s0 M h0 h L H locs ls → H[q]? = some ce → ce.vm = .none → s.vm.findClass E = some ce.cls →
    vx_W p l e (rmOf M h0 hE) s m args below meth c H locs (mN h - mN h0) (mU h - mU h0) (vx_MQ below (QcOf s0 o hE) (XcOf s0 o hE) args s (mN hE - mN h0) (mU hE - mU h0) (frOf s0)) (F0 m pc ls st) q
def RQX (s0 : State) (l : Launch) (M : MI) (h0 : Mem) (pc : Nat) (L : List (Option Value)) (E : String) (h : Mem) (Q : Out → Mem → Prop) : Prop := ∃ o hE, RX s0 l M h0 o hE pc L E h ∧ Q o hE
def PcOf (s0 : State) (l : Launch) (av : List Value) (h : Mem) : Array Value → State → Prop := fun v U => v = av.toArray ∧ s0.WarmedH U.vm ∧ Rep s0 h U.heap ∧ CX s0 l
def cdw (M : MI) : Cond := if iH M = [] then .code (iY M) (iC M) (iL M) (iR M) else .codeWith (iY M) (iC M) (iL M) (iR M) (iH M)
/-- method M, called with av in the memory h, ends with o and hE -/
def C (s0 : State) (l : Launch) (M : MI) (av : List Value) (h : Mem) (o : Out) (hE : Mem) : Prop :=
  (mN h ≤ mN hE ∧ mU h ≤ mU hE) ∧ vx_Met l (iY M) [cdw M] (rmOf M h hE) (PcOf s0 l av h) (QcOf s0 o hE) (XcOf s0 o hE) (mN hE - mN h) (mU hE - mU h) (frOf s0)
def CQ (s0 : State) (l : Launch) (M : MI) (av : List Value) (h : Mem) (Q : Out → Mem → Prop) : Prop := ∃ o hE, C s0 l M av h o hE ∧ Q o hE
theorem CQ.mono {s0 : State} {l : Launch} {M : MI} {av : List Value} {h : Mem} {Q Q' : Out → Mem → Prop} (k : CQ s0 l M av h Q) (f : ∀ o hE, Q o hE → Q' o hE) : CQ s0 l M av h Q' := by
  obtain ⟨o, hE, a, b⟩ := k
  exact ⟨o, hE, a, f o hE b⟩
theorem RQ.mono {s0 : State} {l : Launch} {M : MI} {h0 : Mem} {pc : Nat} {L : List (Option Value)} {st : List Value} {h : Mem} {Q Q' : Out → Mem → Prop} (k : RQ s0 l M h0 pc L st h Q) (f : ∀ o hE, Q o hE → Q' o hE) : RQ s0 l M h0 pc L st h Q' := by
  obtain ⟨o, hE, a, b⟩ := k
  exact ⟨o, hE, a, f o hE b⟩
theorem PcOf.blind {s0 : State} {l : Launch} {av : List Value} {h : Mem} : FrameBlind (PcOf s0 l av h) := fun _ _ _ _ q => q
section Intro
variable {s0 : State} {l : Launch} {M : MI} {av : List Value} {h : Mem} {Q : Out → Mem → Prop}
theorem en_of {o : Out} {hE : Mem} {ws : List Cond} {p : Program} {e : Env} {s : State} {m : MethodId} {args : Array Value} {below : List Frame} {meth : Method} {c : Code} {s₁ : State} (B : BodyLoose p l (iY M) (headSpec ws (rmOf M h hE)) (iC M) (iL M) (iR M) e s m args below meth c s₁) (hml : c.maxLocals = iL M) (ht : c.exceptionTable.toList = tableOf (iH M)) (hP : PcOf s0 l av h args s) : EN s0 l M h p s m meth c := by
  obtain ⟨-, hW, hR, hC⟩ := hP
  exact ⟨B.exec, B.bytes, hml, findClass_of_methodNamed B.named, B.notSynchronized, B.returns, (name_of_methodNamed B.named B.method).1, ht, hW, hR.2.2.1, hR.1, by rw [hR.1]; exact hR.2.1, hC⟩
theorem c_intro (hy : plainName (iY M).cls = true) (hH : iH M = []) (hc : ∀ v ∈ av, v.category = 1) (hn : av.length ≤ iL M) (k : RQ s0 l M h 0 (ent av (iL M)) [] h Q) : CQ s0 l M av h Q := by
  obtain ⟨o, hE, k, q⟩ := k
  refine ⟨o, hE, ⟨k.1, ?_⟩, q⟩
  refine vx_ofW (cc := iC M) (maxL := iL M) (ret := iR M) hy (by unfold cdw; rw [if_pos hH]) ?_
  intro p e s m args below meth c s₁ B hml ht hP
  have he := en_of (o := o) B hml (by rw [hH]; exact List.eq_nil_iff_forall_not_mem.mpr fun x hx => ht x hx) hP
  obtain ⟨rfl, hW, hR, hC⟩ := hP
  rw [lg_entry_eq]
  have := k.2 p e s m av.toArray below meth c he s.heap [] _ ⟨hR, (fun _ hq => absurd hq List.not_mem_nil), lvs.ent hc hn, Nat.le_refl _, Nat.le_refl _⟩
  rw [Nat.sub_self, Nat.sub_self] at this
  exact this
theorem c_introH (hy : plainName (iY M).cls = true) (hH : iH M ≠ []) (hc : ∀ v ∈ av, v.category = 1) (hn : av.length ≤ iL M) (k : RQ s0 l M h 0 (ent av (iL M)) [] h Q) : CQ s0 l M av h Q := by
  obtain ⟨o, hE, k, q⟩ := k
  refine ⟨o, hE, ⟨k.1, ?_⟩, q⟩
  refine vx_ofWH (cc := iC M) (maxL := iL M) (ret := iR M) (hh := iH M) hy (by unfold cdw; rw [if_neg hH]) ?_
  intro p e s m args below meth c s₁ B hml hP
  have hw : (Cond.codeWith (iY M) (iC M) (iL M) (iR M) (iH M)).before args s = true := atoms_spec (ws := [cdw M]) B.pre _ (by unfold cdw; rw [if_neg hH]; exact List.mem_cons_self)
  have he := en_of (o := o) B hml (vx_table (x := iY M) B hw) hP
  obtain ⟨rfl, hW, hR, hC⟩ := hP
  rw [lg_entry_eq]
  have := k.2 p e s m av.toArray below meth c he s.heap [] _ ⟨hR, (fun _ hq => absurd hq List.not_mem_nil), lvs.ent hc hn, Nat.le_refl _, Nat.le_refl _⟩
  rw [Nat.sub_self, Nat.sub_self] at this
  exact this
end Intro
end
section
theorem G0.face {s0 s : State} {args : Array Value} (g : G0 s0) (hW : s0.WarmedH s.vm) {w : Cond} (hw : w ∈ lw_tbl) (hf : w.keepsFace = true) (ho : w.onTables = true) : w.before args s = true := by
  obtain ⟨av, h⟩ := g
  have h2 : w.before av (s0.setVm s.vm) = true := Cond.before_shiftedFace (State.Shifted.of_warmed hW) _ hf (h w hw)
  exact va_tabs (u := s0.setVm s.vm) (U := s) ho rfl h2
theorem G0.cast {s0 s : State} {args : Array Value} (g : G0 s0) (hW : s0.WarmedH s.vm) {A B : String} (hw : Cond.castable A B ∈ lw_tbl) : (Cond.castable A B).before args s = true := g.face hW hw rfl rfl
section Rules
variable {s0 : State} {l : Launch} {M : MI} {h0 : Mem} {pc : Nat} {L : List (Option Value)} {st : List Value} {h : Mem} {Q : Out → Mem → Prop}
theorem lift1 {pc' : Nat} {L' : List (Option Value)} {st' : List Value} {h' : Mem} (f : ∀ o hE, R s0 l M h0 o hE pc' L' st' h' → R s0 l M h0 o hE pc L st h) (k : RQ s0 l M h0 pc' L' st' h' Q) : RQ s0 l M h0 pc L st h Q := by
  obtain ⟨o, hE, a, b⟩ := k
  exact ⟨o, hE, f o hE a, b⟩
theorem q_iconst {n : Int} {v : Int32} (hd : decode (iC M) pc = .ok (.iconst n, 1)) (hv : Int32.ofInt n = v) (k : RQ s0 l M h0 (pc + 1) L (.int v :: st) h Q) : RQ s0 l M h0 pc L (st) h Q := lift1 (fun _ _ k => ⟨k.1, fun p e s m args below meth c E H locs ls S => lv_iconst E.1 E.2.1 hd hv (k.2 p e s m args below meth c E H locs ls S)⟩) k
theorem q_bipush {n : Int} {v : Int32} (hd : decode (iC M) pc = .ok (.bipush n, 2)) (hv : (Int8.ofInt n).toInt32 = v) (k : RQ s0 l M h0 (pc + 2) L (.int v :: st) h Q) : RQ s0 l M h0 pc L (st) h Q := lift1 (fun _ _ k => ⟨k.1, fun p e s m args below meth c E H locs ls S => lv_bipush E.1 E.2.1 hd hv (k.2 p e s m args below meth c E H locs ls S)⟩) k
theorem q_sipush {n : Int} {v : Int32} (hd : decode (iC M) pc = .ok (.sipush n, 3)) (hv : (Int16.ofInt n).toInt32 = v) (k : RQ s0 l M h0 (pc + 3) L (.int v :: st) h Q) : RQ s0 l M h0 pc L (st) h Q := lift1 (fun _ _ k => ⟨k.1, fun p e s m args below meth c E H locs ls S => lv_sipush E.1 E.2.1 hd hv (k.2 p e s m args below meth c E H locs ls S)⟩) k
theorem q_null  (hd : decode (iC M) pc = .ok (.aconst_null, 1))  (k : RQ s0 l M h0 (pc + 1) L (.null :: st) h Q) : RQ s0 l M h0 pc L (st) h Q := lift1 (fun _ _ k => ⟨k.1, fun p e s m args below meth c E H locs ls S => lv_null E.1 E.2.1 hd  (k.2 p e s m args below meth c E H locs ls S)⟩) k
theorem q_iload_n {k9 : Fin 4} {i : Nat} {x : Int32} (hd : decode (iC M) pc = .ok (.iload_n k9, 1)) (hi : (k9 : Nat) = i) (hl : L[i]? = some (some (.int x))) (k : RQ s0 l M h0 (pc + 1) L (.int x :: st) h Q) : RQ s0 l M h0 pc L (st) h Q := lift1 (fun _ _ k => ⟨k.1, fun p e s m args below meth c E H locs ls S => lv_iload_n E.1 E.2.1 hd hi (S.2.2.1.at hl) (k.2 p e s m args below meth c E H locs ls S)⟩) k
theorem q_iload {i : Nat} {x : Int32} (hd : decode (iC M) pc = .ok (.iload i, 2)) (hl : L[i]? = some (some (.int x))) (k : RQ s0 l M h0 (pc + 2) L (.int x :: st) h Q) : RQ s0 l M h0 pc L (st) h Q := lift1 (fun _ _ k => ⟨k.1, fun p e s m args below meth c E H locs ls S => lv_iload E.1 E.2.1 hd (S.2.2.1.at hl) (k.2 p e s m args below meth c E H locs ls S)⟩) k
theorem q_aload_n {k9 : Fin 4} {i : Nat} {x : Nat} (hd : decode (iC M) pc = .ok (.aload_n k9, 1)) (hi : (k9 : Nat) = i) (hl : L[i]? = some (some (.ref x))) (k : RQ s0 l M h0 (pc + 1) L (.ref x :: st) h Q) : RQ s0 l M h0 pc L (st) h Q := lift1 (fun _ _ k => ⟨k.1, fun p e s m args below meth c E H locs ls S => lv_aload_n E.1 E.2.1 hd hi (S.2.2.1.at hl) (k.2 p e s m args below meth c E H locs ls S)⟩) k
theorem q_aload {i : Nat} {x : Nat} (hd : decode (iC M) pc = .ok (.aload i, 2)) (hl : L[i]? = some (some (.ref x))) (k : RQ s0 l M h0 (pc + 2) L (.ref x :: st) h Q) : RQ s0 l M h0 pc L (st) h Q := lift1 (fun _ _ k => ⟨k.1, fun p e s m args below meth c E H locs ls S => lv_aload E.1 E.2.1 hd (S.2.2.1.at hl) (k.2 p e s m args below meth c E H locs ls S)⟩) k
theorem q_aload_nN {k9 : Fin 4} {i : Nat} (hd : decode (iC M) pc = .ok (.aload_n k9, 1)) (hi : (k9 : Nat) = i) (hl : L[i]? = some (some .null)) (k : RQ s0 l M h0 (pc + 1) L (.null :: st) h Q) : RQ s0 l M h0 pc L (st) h Q := lift1 (fun _ _ k => ⟨k.1, fun p e s m args below meth c E H locs ls S => lv_aload_nN E.1 E.2.1 hd hi (S.2.2.1.at hl) (k.2 p e s m args below meth c E H locs ls S)⟩) k
theorem q_aloadN {i : Nat} (hd : decode (iC M) pc = .ok (.aload i, 2)) (hl : L[i]? = some (some .null)) (k : RQ s0 l M h0 (pc + 2) L (.null :: st) h Q) : RQ s0 l M h0 pc L (st) h Q := lift1 (fun _ _ k => ⟨k.1, fun p e s m args below meth c E H locs ls S => lv_aloadN E.1 E.2.1 hd (S.2.2.1.at hl) (k.2 p e s m args below meth c E H locs ls S)⟩) k
theorem q_iadd {x y : Int32} (hd : decode (iC M) pc = .ok (.iadd, 1))  (k : RQ s0 l M h0 (pc + 1) L (.int (x + y) :: st) h Q) : RQ s0 l M h0 pc L (.int y :: .int x :: st) h Q := lift1 (fun _ _ k => ⟨k.1, fun p e s m args below meth c E H locs ls S => lv_iadd E.1 E.2.1 hd  (k.2 p e s m args below meth c E H locs ls S)⟩) k
theorem q_isub {x y : Int32} (hd : decode (iC M) pc = .ok (.isub, 1))  (k : RQ s0 l M h0 (pc + 1) L (.int (x - y) :: st) h Q) : RQ s0 l M h0 pc L (.int y :: .int x :: st) h Q := lift1 (fun _ _ k => ⟨k.1, fun p e s m args below meth c E H locs ls S => lv_isub E.1 E.2.1 hd  (k.2 p e s m args below meth c E H locs ls S)⟩) k
theorem q_imul {x y : Int32} (hd : decode (iC M) pc = .ok (.imul, 1))  (k : RQ s0 l M h0 (pc + 1) L (.int (x * y) :: st) h Q) : RQ s0 l M h0 pc L (.int y :: .int x :: st) h Q := lift1 (fun _ _ k => ⟨k.1, fun p e s m args below meth c E H locs ls S => lv_imul E.1 E.2.1 hd  (k.2 p e s m args below meth c E H locs ls S)⟩) k
theorem q_iand {x y : Int32} (hd : decode (iC M) pc = .ok (.iand, 1))  (k : RQ s0 l M h0 (pc + 1) L (.int (x &&& y) :: st) h Q) : RQ s0 l M h0 pc L (.int y :: .int x :: st) h Q := lift1 (fun _ _ k => ⟨k.1, fun p e s m args below meth c E H locs ls S => lv_iand E.1 E.2.1 hd  (k.2 p e s m args below meth c E H locs ls S)⟩) k
theorem q_ior {x y : Int32} (hd : decode (iC M) pc = .ok (.ior, 1))  (k : RQ s0 l M h0 (pc + 1) L (.int (x ||| y) :: st) h Q) : RQ s0 l M h0 pc L (.int y :: .int x :: st) h Q := lift1 (fun _ _ k => ⟨k.1, fun p e s m args below meth c E H locs ls S => lv_ior E.1 E.2.1 hd  (k.2 p e s m args below meth c E H locs ls S)⟩) k
theorem q_ixor {x y : Int32} (hd : decode (iC M) pc = .ok (.ixor, 1))  (k : RQ s0 l M h0 (pc + 1) L (.int (x ^^^ y) :: st) h Q) : RQ s0 l M h0 pc L (.int y :: .int x :: st) h Q := lift1 (fun _ _ k => ⟨k.1, fun p e s m args below meth c E H locs ls S => lv_ixor E.1 E.2.1 hd  (k.2 p e s m args below meth c E H locs ls S)⟩) k
theorem q_ishl {x y : Int32} (hd : decode (iC M) pc = .ok (.ishl, 1))  (k : RQ s0 l M h0 (pc + 1) L (.int (x <<< (y &&& 31)) :: st) h Q) : RQ s0 l M h0 pc L (.int y :: .int x :: st) h Q := lift1 (fun _ _ k => ⟨k.1, fun p e s m args below meth c E H locs ls S => lv_ishl E.1 E.2.1 hd  (k.2 p e s m args below meth c E H locs ls S)⟩) k
theorem q_ishr {x y : Int32} (hd : decode (iC M) pc = .ok (.ishr, 1))  (k : RQ s0 l M h0 (pc + 1) L (.int (x >>> (y &&& 31)) :: st) h Q) : RQ s0 l M h0 pc L (.int y :: .int x :: st) h Q := lift1 (fun _ _ k => ⟨k.1, fun p e s m args below meth c E H locs ls S => lv_ishr E.1 E.2.1 hd  (k.2 p e s m args below meth c E H locs ls S)⟩) k
theorem q_idiv {x y : Int32} (hd : decode (iC M) pc = .ok (.idiv, 1)) (hne : ¬ y = 0) (k : RQ s0 l M h0 (pc + 1) L (.int (x / y) :: st) h Q) : RQ s0 l M h0 pc L (.int y :: .int x :: st) h Q := lift1 (fun _ _ k => ⟨k.1, fun p e s m args below meth c E H locs ls S => lv_idiv E.1 E.2.1 hd hne (k.2 p e s m args below meth c E H locs ls S)⟩) k
theorem q_irem {x y : Int32} (hd : decode (iC M) pc = .ok (.irem, 1)) (hne : ¬ y = 0) (k : RQ s0 l M h0 (pc + 1) L (.int (x - x / y * y) :: st) h Q) : RQ s0 l M h0 pc L (.int y :: .int x :: st) h Q := lift1 (fun _ _ k => ⟨k.1, fun p e s m args below meth c E H locs ls S => lv_irem E.1 E.2.1 hd hne (k.2 p e s m args below meth c E H locs ls S)⟩) k
theorem q_ineg {x : Int32} (hd : decode (iC M) pc = .ok (.ineg, 1))  (k : RQ s0 l M h0 (pc + 1) L (.int (-x) :: st) h Q) : RQ s0 l M h0 pc L (.int x :: st) h Q := lift1 (fun _ _ k => ⟨k.1, fun p e s m args below meth c E H locs ls S => lv_ineg E.1 E.2.1 hd  (k.2 p e s m args below meth c E H locs ls S)⟩) k
theorem q_i2b {x : Int32} (hd : decode (iC M) pc = .ok (.i2b, 1))  (k : RQ s0 l M h0 (pc + 1) L (.int x.toInt8.toInt32 :: st) h Q) : RQ s0 l M h0 pc L (.int x :: st) h Q := lift1 (fun _ _ k => ⟨k.1, fun p e s m args below meth c E H locs ls S => lv_i2b E.1 E.2.1 hd rfl (k.2 p e s m args below meth c E H locs ls S)⟩) k
theorem q_i2l {x : Int32} (hd : decode (iC M) pc = .ok (.i2l, 1))  (k : RQ s0 l M h0 (pc + 1) L (.long x.toInt64 :: st) h Q) : RQ s0 l M h0 pc L (.int x :: st) h Q := lift1 (fun _ _ k => ⟨k.1, fun p e s m args below meth c E H locs ls S => lv_i2l E.1 E.2.1 hd rfl (k.2 p e s m args below meth c E H locs ls S)⟩) k
theorem q_lcmp {x y : Int64} (hd : decode (iC M) pc = .ok (.lcmp, 1)) (k : RQ s0 l M h0 (pc + 1) L (.int (lg_cmp x y) :: st) h Q) : RQ s0 l M h0 pc L (.long y :: .long x :: st) h Q := lift1 (fun _ _ k => ⟨k.1, fun p e s m args below meth c E H locs ls S => W.lcmp E.1 E.2.1 hd (k.2 p e s m args below meth c E H locs ls S)⟩) k
theorem q_dup {va : Value} (hd : decode (iC M) pc = .ok (.dup, 1)) (hva : va.category = 1) (k : RQ s0 l M h0 (pc + 1) L (va :: va :: st) h Q) : RQ s0 l M h0 pc L (va :: st) h Q := lift1 (fun _ _ k => ⟨k.1, fun p e s m args below meth c E H locs ls S => lv_dup E.1 E.2.1 hd hva (k.2 p e s m args below meth c E H locs ls S)⟩) k
theorem q_pop {va : Value} (hd : decode (iC M) pc = .ok (.pop, 1)) (hva : va.category = 1) (k : RQ s0 l M h0 (pc + 1) L (st) h Q) : RQ s0 l M h0 pc L (va :: st) h Q := lift1 (fun _ _ k => ⟨k.1, fun p e s m args below meth c E H locs ls S => lv_pop E.1 E.2.1 hd hva (k.2 p e s m args below meth c E H locs ls S)⟩) k
theorem q_dup2 {va vb : Value} (hd : decode (iC M) pc = .ok (.dup2, 1)) (hva : va.category = 1) (hvb : vb.category = 1) (k : RQ s0 l M h0 (pc + 1) L (va :: vb :: va :: vb :: st) h Q) : RQ s0 l M h0 pc L (va :: vb :: st) h Q := lift1 (fun _ _ k => ⟨k.1, fun p e s m args below meth c E H locs ls S => lv_dup2_11 E.1 E.2.1 hd hva hvb (k.2 p e s m args below meth c E H locs ls S)⟩) k
theorem q_istore_n {k9 : Fin 4} {i : Nat} {x : Int32} (hd : decode (iC M) pc = .ok (.istore_n k9, 1)) (hi : (k9 : Nat) = i) (hn : i < L.length) (k : RQ s0 l M h0 (pc + 1) (L.set i (some (.int x))) st h Q) : RQ s0 l M h0 pc L (.int x :: st) h Q := lift1 (fun _ _ k => ⟨k.1, fun p e s m args below meth c E H locs ls S => lv_istore_n E.1 E.2.1 hd hi S.2.2.1.has (S.2.2.1.lt hn) rfl (fun ls9 h9 => k.2 p e s m args below meth c E H locs ls9 ⟨S.1, S.2.1, S.2.2.1.st rfl h9, S.2.2.2⟩)⟩) k
theorem q_istore {i : Nat} {x : Int32} (hd : decode (iC M) pc = .ok (.istore i, 2)) (hn : i < L.length) (k : RQ s0 l M h0 (pc + 2) (L.set i (some (.int x))) st h Q) : RQ s0 l M h0 pc L (.int x :: st) h Q := lift1 (fun _ _ k => ⟨k.1, fun p e s m args below meth c E H locs ls S => lv_istore E.1 E.2.1 hd S.2.2.1.has (S.2.2.1.lt hn) rfl (fun ls9 h9 => k.2 p e s m args below meth c E H locs ls9 ⟨S.1, S.2.1, S.2.2.1.st rfl h9, S.2.2.2⟩)⟩) k
theorem q_astore_n {k9 : Fin 4} {i : Nat} {x : Nat} (hd : decode (iC M) pc = .ok (.astore_n k9, 1)) (hi : (k9 : Nat) = i) (hn : i < L.length) (k : RQ s0 l M h0 (pc + 1) (L.set i (some (.ref x))) st h Q) : RQ s0 l M h0 pc L (.ref x :: st) h Q := lift1 (fun _ _ k => ⟨k.1, fun p e s m args below meth c E H locs ls S => lv_astore_n E.1 E.2.1 hd hi S.2.2.1.has (S.2.2.1.lt hn) rfl (fun ls9 h9 => k.2 p e s m args below meth c E H locs ls9 ⟨S.1, S.2.1, S.2.2.1.st rfl h9, S.2.2.2⟩)⟩) k
theorem q_astore {i : Nat} {x : Nat} (hd : decode (iC M) pc = .ok (.astore i, 2)) (hn : i < L.length) (k : RQ s0 l M h0 (pc + 2) (L.set i (some (.ref x))) st h Q) : RQ s0 l M h0 pc L (.ref x :: st) h Q := lift1 (fun _ _ k => ⟨k.1, fun p e s m args below meth c E H locs ls S => lv_astore E.1 E.2.1 hd S.2.2.1.has (S.2.2.1.lt hn) rfl (fun ls9 h9 => k.2 p e s m args below meth c E H locs ls9 ⟨S.1, S.2.1, S.2.2.1.st rfl h9, S.2.2.2⟩)⟩) k
theorem q_astore_nN {k9 : Fin 4} {i : Nat} (hd : decode (iC M) pc = .ok (.astore_n k9, 1)) (hi : (k9 : Nat) = i) (hn : i < L.length) (k : RQ s0 l M h0 (pc + 1) (L.set i (some (.null))) st h Q) : RQ s0 l M h0 pc L (.null :: st) h Q := lift1 (fun _ _ k => ⟨k.1, fun p e s m args below meth c E H locs ls S => lv_astore_nN E.1 E.2.1 hd hi S.2.2.1.has (S.2.2.1.lt hn) rfl (fun ls9 h9 => k.2 p e s m args below meth c E H locs ls9 ⟨S.1, S.2.1, S.2.2.1.st rfl h9, S.2.2.2⟩)⟩) k
theorem q_astoreN {i : Nat} (hd : decode (iC M) pc = .ok (.astore i, 2)) (hn : i < L.length) (k : RQ s0 l M h0 (pc + 2) (L.set i (some (.null))) st h Q) : RQ s0 l M h0 pc L (.null :: st) h Q := lift1 (fun _ _ k => ⟨k.1, fun p e s m args below meth c E H locs ls S => lv_astoreN E.1 E.2.1 hd S.2.2.1.has (S.2.2.1.lt hn) rfl (fun ls9 h9 => k.2 p e s m args below meth c E H locs ls9 ⟨S.1, S.2.1, S.2.2.1.st rfl h9, S.2.2.2⟩)⟩) k
theorem q_iinc {i : Nat} {n : Int} {x : Int32} (hd : decode (iC M) pc = .ok (.iinc i n, 3)) (hl : L[i]? = some (some (.int x))) (k : RQ s0 l M h0 (pc + 3) (L.set i (some (.int (x + Int32.ofInt n)))) st h Q) : RQ s0 l M h0 pc L st h Q := by
  refine lift1 (fun _ _ k => ⟨k.1, fun p e s m args below meth c E H locs ls S => ?_⟩) k
  have hh := S.2.2.1.has
  have hi : i < L.length := (List.getElem?_eq_some_iff.mp hl).1
  refine lv_iinc E.1 E.2.1 (k := 0) (lv := (i, .int x) :: asc L) hd ⟨hh.1, hh.2.1, fun q hq => ?_⟩ rfl rfl (S.2.2.1.lt hi) rfl (fun ls9 h9 => ?_)
  · rcases List.mem_cons.mp hq with rfl | hq
    · exact S.2.2.1.at hl
    · exact hh.2.2 q hq
  · rw [List.filter_cons_of_neg (by simp)] at h9
    exact k.2 p e s m args below meth c E H locs ls9 ⟨S.1, S.2.1, S.2.2.1.st rfl h9, S.2.2.2⟩
theorem q_if_eq {x : Int32} {off : Int} {tgt : Nat} (hd : decode (iC M) pc = .ok (.ifCond .eq off, 3)) (ht : (pc : Int) + off = (tgt : Int)) (kt : x = 0 → RQ s0 l M h0 tgt L st h Q) (kf : ¬ x = 0 → RQ s0 l M h0 (pc + 3) L st h Q) : RQ s0 l M h0 pc L (.int x :: st) h Q := by
  by_cases hc : x = 0
  · exact lift1 (fun _ _ k => ⟨k.1, fun p e s m args below meth c E H locs ls S => lv_if_eq E.1 E.2.1 hd ht (fun _ => (k.2 p e s m args below meth c E H locs ls S)) (fun h9 => absurd hc h9)⟩) (kt hc)
  · exact lift1 (fun _ _ k => ⟨k.1, fun p e s m args below meth c E H locs ls S => lv_if_eq E.1 E.2.1 hd ht (fun h9 => absurd h9 hc) (fun _ => (k.2 p e s m args below meth c E H locs ls S))⟩) (kf hc)
theorem q_icmp_eq {x y : Int32} {off : Int} {tgt : Nat} (hd : decode (iC M) pc = .ok (.if_icmp .eq off, 3)) (ht : (pc : Int) + off = (tgt : Int)) (kt : x = y → RQ s0 l M h0 tgt L st h Q) (kf : ¬ x = y → RQ s0 l M h0 (pc + 3) L st h Q) : RQ s0 l M h0 pc L (.int y :: .int x :: st) h Q := by
  by_cases hc : x = y
  · exact lift1 (fun _ _ k => ⟨k.1, fun p e s m args below meth c E H locs ls S => lv_icmp_eq E.1 E.2.1 hd ht (fun _ => (k.2 p e s m args below meth c E H locs ls S)) (fun h9 => absurd hc h9)⟩) (kt hc)
  · exact lift1 (fun _ _ k => ⟨k.1, fun p e s m args below meth c E H locs ls S => lv_icmp_eq E.1 E.2.1 hd ht (fun h9 => absurd h9 hc) (fun _ => (k.2 p e s m args below meth c E H locs ls S))⟩) (kf hc)
theorem q_if_ne {x : Int32} {off : Int} {tgt : Nat} (hd : decode (iC M) pc = .ok (.ifCond .ne off, 3)) (ht : (pc : Int) + off = (tgt : Int)) (kt : ¬ x = 0 → RQ s0 l M h0 tgt L st h Q) (kf : x = 0 → RQ s0 l M h0 (pc + 3) L st h Q) : RQ s0 l M h0 pc L (.int x :: st) h Q := by
  by_cases hc : ¬ x = 0
  · exact lift1 (fun _ _ k => ⟨k.1, fun p e s m args below meth c E H locs ls S => lv_if_ne E.1 E.2.1 hd ht (fun _ => (k.2 p e s m args below meth c E H locs ls S)) (fun h9 => absurd h9 hc)⟩) (kt hc)
  · exact lift1 (fun _ _ k => ⟨k.1, fun p e s m args below meth c E H locs ls S => lv_if_ne E.1 E.2.1 hd ht (fun h9 => absurd h9 hc) (fun _ => (k.2 p e s m args below meth c E H locs ls S))⟩) (kf (Classical.byContradiction hc))
theorem q_icmp_ne {x y : Int32} {off : Int} {tgt : Nat} (hd : decode (iC M) pc = .ok (.if_icmp .ne off, 3)) (ht : (pc : Int) + off = (tgt : Int)) (kt : ¬ x = y → RQ s0 l M h0 tgt L st h Q) (kf : x = y → RQ s0 l M h0 (pc + 3) L st h Q) : RQ s0 l M h0 pc L (.int y :: .int x :: st) h Q := by
  by_cases hc : ¬ x = y
  · exact lift1 (fun _ _ k => ⟨k.1, fun p e s m args below meth c E H locs ls S => lv_icmp_ne E.1 E.2.1 hd ht (fun _ => (k.2 p e s m args below meth c E H locs ls S)) (fun h9 => absurd h9 hc)⟩) (kt hc)
  · exact lift1 (fun _ _ k => ⟨k.1, fun p e s m args below meth c E H locs ls S => lv_icmp_ne E.1 E.2.1 hd ht (fun h9 => absurd h9 hc) (fun _ => (k.2 p e s m args below meth c E H locs ls S))⟩) (kf (Classical.byContradiction hc))
theorem q_if_lt {x : Int32} {off : Int} {tgt : Nat} (hd : decode (iC M) pc = .ok (.ifCond .lt off, 3)) (ht : (pc : Int) + off = (tgt : Int)) (kt : x < 0 → RQ s0 l M h0 tgt L st h Q) (kf : ¬ x < 0 → RQ s0 l M h0 (pc + 3) L st h Q) : RQ s0 l M h0 pc L (.int x :: st) h Q := by
  by_cases hc : x < 0
  · exact lift1 (fun _ _ k => ⟨k.1, fun p e s m args below meth c E H locs ls S => lv_if_lt E.1 E.2.1 hd ht (fun _ => (k.2 p e s m args below meth c E H locs ls S)) (fun h9 => absurd hc h9)⟩) (kt hc)
  · exact lift1 (fun _ _ k => ⟨k.1, fun p e s m args below meth c E H locs ls S => lv_if_lt E.1 E.2.1 hd ht (fun h9 => absurd h9 hc) (fun _ => (k.2 p e s m args below meth c E H locs ls S))⟩) (kf hc)
theorem q_icmp_lt {x y : Int32} {off : Int} {tgt : Nat} (hd : decode (iC M) pc = .ok (.if_icmp .lt off, 3)) (ht : (pc : Int) + off = (tgt : Int)) (kt : x < y → RQ s0 l M h0 tgt L st h Q) (kf : ¬ x < y → RQ s0 l M h0 (pc + 3) L st h Q) : RQ s0 l M h0 pc L (.int y :: .int x :: st) h Q := by
  by_cases hc : x < y
  · exact lift1 (fun _ _ k => ⟨k.1, fun p e s m args below meth c E H locs ls S => lv_icmp_lt E.1 E.2.1 hd ht (fun _ => (k.2 p e s m args below meth c E H locs ls S)) (fun h9 => absurd hc h9)⟩) (kt hc)
  · exact lift1 (fun _ _ k => ⟨k.1, fun p e s m args below meth c E H locs ls S => lv_icmp_lt E.1 E.2.1 hd ht (fun h9 => absurd h9 hc) (fun _ => (k.2 p e s m args below meth c E H locs ls S))⟩) (kf hc)
theorem q_if_ge {x : Int32} {off : Int} {tgt : Nat} (hd : decode (iC M) pc = .ok (.ifCond .ge off, 3)) (ht : (pc : Int) + off = (tgt : Int)) (kt : 0 ≤ x → RQ s0 l M h0 tgt L st h Q) (kf : ¬ 0 ≤ x → RQ s0 l M h0 (pc + 3) L st h Q) : RQ s0 l M h0 pc L (.int x :: st) h Q := by
  by_cases hc : 0 ≤ x
  · exact lift1 (fun _ _ k => ⟨k.1, fun p e s m args below meth c E H locs ls S => lv_if_ge E.1 E.2.1 hd ht (fun _ => (k.2 p e s m args below meth c E H locs ls S)) (fun h9 => absurd hc h9)⟩) (kt hc)
  · exact lift1 (fun _ _ k => ⟨k.1, fun p e s m args below meth c E H locs ls S => lv_if_ge E.1 E.2.1 hd ht (fun h9 => absurd h9 hc) (fun _ => (k.2 p e s m args below meth c E H locs ls S))⟩) (kf hc)
theorem q_icmp_ge {x y : Int32} {off : Int} {tgt : Nat} (hd : decode (iC M) pc = .ok (.if_icmp .ge off, 3)) (ht : (pc : Int) + off = (tgt : Int)) (kt : y ≤ x → RQ s0 l M h0 tgt L st h Q) (kf : ¬ y ≤ x → RQ s0 l M h0 (pc + 3) L st h Q) : RQ s0 l M h0 pc L (.int y :: .int x :: st) h Q := by
  by_cases hc : y ≤ x
  · exact lift1 (fun _ _ k => ⟨k.1, fun p e s m args below meth c E H locs ls S => lv_icmp_ge E.1 E.2.1 hd ht (fun _ => (k.2 p e s m args below meth c E H locs ls S)) (fun h9 => absurd hc h9)⟩) (kt hc)
  · exact lift1 (fun _ _ k => ⟨k.1, fun p e s m args below meth c E H locs ls S => lv_icmp_ge E.1 E.2.1 hd ht (fun h9 => absurd h9 hc) (fun _ => (k.2 p e s m args below meth c E H locs ls S))⟩) (kf hc)
theorem q_if_gt {x : Int32} {off : Int} {tgt : Nat} (hd : decode (iC M) pc = .ok (.ifCond .gt off, 3)) (ht : (pc : Int) + off = (tgt : Int)) (kt : 0 < x → RQ s0 l M h0 tgt L st h Q) (kf : ¬ 0 < x → RQ s0 l M h0 (pc + 3) L st h Q) : RQ s0 l M h0 pc L (.int x :: st) h Q := by
  by_cases hc : 0 < x
  · exact lift1 (fun _ _ k => ⟨k.1, fun p e s m args below meth c E H locs ls S => lv_if_gt E.1 E.2.1 hd ht (fun _ => (k.2 p e s m args below meth c E H locs ls S)) (fun h9 => absurd hc h9)⟩) (kt hc)
  · exact lift1 (fun _ _ k => ⟨k.1, fun p e s m args below meth c E H locs ls S => lv_if_gt E.1 E.2.1 hd ht (fun h9 => absurd h9 hc) (fun _ => (k.2 p e s m args below meth c E H locs ls S))⟩) (kf hc)
theorem q_icmp_gt {x y : Int32} {off : Int} {tgt : Nat} (hd : decode (iC M) pc = .ok (.if_icmp .gt off, 3)) (ht : (pc : Int) + off = (tgt : Int)) (kt : y < x → RQ s0 l M h0 tgt L st h Q) (kf : ¬ y < x → RQ s0 l M h0 (pc + 3) L st h Q) : RQ s0 l M h0 pc L (.int y :: .int x :: st) h Q := by
  by_cases hc : y < x
  · exact lift1 (fun _ _ k => ⟨k.1, fun p e s m args below meth c E H locs ls S => lv_icmp_gt E.1 E.2.1 hd ht (fun _ => (k.2 p e s m args below meth c E H locs ls S)) (fun h9 => absurd hc h9)⟩) (kt hc)
  · exact lift1 (fun _ _ k => ⟨k.1, fun p e s m args below meth c E H locs ls S => lv_icmp_gt E.1 E.2.1 hd ht (fun h9 => absurd h9 hc) (fun _ => (k.2 p e s m args below meth c E H locs ls S))⟩) (kf hc)
theorem q_if_le {x : Int32} {off : Int} {tgt : Nat} (hd : decode (iC M) pc = .ok (.ifCond .le off, 3)) (ht : (pc : Int) + off = (tgt : Int)) (kt : x ≤ 0 → RQ s0 l M h0 tgt L st h Q) (kf : ¬ x ≤ 0 → RQ s0 l M h0 (pc + 3) L st h Q) : RQ s0 l M h0 pc L (.int x :: st) h Q := by
  by_cases hc : x ≤ 0
  · exact lift1 (fun _ _ k => ⟨k.1, fun p e s m args below meth c E H locs ls S => lv_if_le E.1 E.2.1 hd ht (fun _ => (k.2 p e s m args below meth c E H locs ls S)) (fun h9 => absurd hc h9)⟩) (kt hc)
  · exact lift1 (fun _ _ k => ⟨k.1, fun p e s m args below meth c E H locs ls S => lv_if_le E.1 E.2.1 hd ht (fun h9 => absurd h9 hc) (fun _ => (k.2 p e s m args below meth c E H locs ls S))⟩) (kf hc)
theorem q_icmp_le {x y : Int32} {off : Int} {tgt : Nat} (hd : decode (iC M) pc = .ok (.if_icmp .le off, 3)) (ht : (pc : Int) + off = (tgt : Int)) (kt : x ≤ y → RQ s0 l M h0 tgt L st h Q) (kf : ¬ x ≤ y → RQ s0 l M h0 (pc + 3) L st h Q) : RQ s0 l M h0 pc L (.int y :: .int x :: st) h Q := by
  by_cases hc : x ≤ y
  · exact lift1 (fun _ _ k => ⟨k.1, fun p e s m args below meth c E H locs ls S => lv_icmp_le E.1 E.2.1 hd ht (fun _ => (k.2 p e s m args below meth c E H locs ls S)) (fun h9 => absurd hc h9)⟩) (kt hc)
  · exact lift1 (fun _ _ k => ⟨k.1, fun p e s m args below meth c E H locs ls S => lv_icmp_le E.1 E.2.1 hd ht (fun h9 => absurd h9 hc) (fun _ => (k.2 p e s m args below meth c E H locs ls S))⟩) (kf hc)
theorem q_goto {off : Int} {tgt : Nat} (hd : decode (iC M) pc = .ok (.goto off, 3)) (ht : (pc : Int) + off = (tgt : Int)) (k : RQ s0 l M h0 tgt L st h Q) : RQ s0 l M h0 pc L st h Q := lift1 (fun _ _ k => ⟨k.1, fun p e s m args below meth c E H locs ls S => lv_goto E.1 E.2.1 hd ht (k.2 p e s m args below meth c E H locs ls S)⟩) k
theorem q_ifnonnull {x : Nat} {off : Int} {tgt : Nat} (hd : decode (iC M) pc = .ok (.ifnonnull off, 3)) (ht : (pc : Int) + off = (tgt : Int)) (k : RQ s0 l M h0 tgt L st h Q) : RQ s0 l M h0 pc L (.ref x :: st) h Q := lift1 (fun _ _ k => ⟨k.1, fun p e s m args below meth c E H locs ls S => lv_ifnonnull E.1 E.2.1 hd ht (k.2 p e s m args below meth c E H locs ls S)⟩) k
theorem q_ifnonnullN {off : Int} (hd : decode (iC M) pc = .ok (.ifnonnull off, 3)) (k : RQ s0 l M h0 (pc + 3) L st h Q) : RQ s0 l M h0 pc L (.null :: st) h Q := lift1 (fun _ _ k => ⟨k.1, fun p e s m args below meth c E H locs ls S => lv_ifnonnullN E.1 E.2.1 hd (k.2 p e s m args below meth c E H locs ls S)⟩) k
theorem q_ifnull {x : Nat} {off : Int} (hd : decode (iC M) pc = .ok (.ifnull off, 3)) (k : RQ s0 l M h0 (pc + 3) L st h Q) : RQ s0 l M h0 pc L (.ref x :: st) h Q := lift1 (fun _ _ k => ⟨k.1, fun p e s m args below meth c E H locs ls S => lv_ifnull E.1 E.2.1 hd (k.2 p e s m args below meth c E H locs ls S)⟩) k
theorem q_ifnullN {off : Int} {tgt : Nat} (hd : decode (iC M) pc = .ok (.ifnull off, 3)) (ht : (pc : Int) + off = (tgt : Int)) (k : RQ s0 l M h0 tgt L st h Q) : RQ s0 l M h0 pc L (.null :: st) h Q := lift1 (fun _ _ k => ⟨k.1, fun p e s m args below meth c E H locs ls S => lv_ifnullN E.1 E.2.1 hd ht (k.2 p e s m args below meth c E H locs ls S)⟩) k
theorem q_tableOut {dflt lo hi : Int} {offs : Array Int} {len : Nat} {x : Int32} {tgt : Nat} (hd : decode (iC M) pc = .ok (.tableswitch dflt lo hi offs, len)) (hx : x.toInt < lo ∨ hi < x.toInt) (ht : (pc : Int) + dflt = (tgt : Int)) (k : RQ s0 l M h0 tgt L st h Q) : RQ s0 l M h0 pc L (.int x :: st) h Q := lift1 (fun _ _ k => ⟨k.1, fun p e s m args below meth c E H locs ls S => lv_tableOut E.1 E.2.1 hd hx ht (k.2 p e s m args below meth c E H locs ls S)⟩) k
theorem q_tableIn {dflt lo hi : Int} {offs : Array Int} {len : Nat} {x : Int32} {off : Int} {tgt : Nat} (hd : decode (iC M) pc = .ok (.tableswitch dflt lo hi offs, len)) (h1 : ¬ x.toInt < lo) (h2 : ¬ hi < x.toInt) (ho : offs[(x.toInt - lo).toNat]? = some off) (ht : (pc : Int) + off = (tgt : Int)) (k : RQ s0 l M h0 tgt L st h Q) : RQ s0 l M h0 pc L (.int x :: st) h Q := lift1 (fun _ _ k => ⟨k.1, fun p e s m args below meth c E H locs ls S => lv_tableIn E.1 E.2.1 hd h1 h2 ho ht (k.2 p e s m args below meth c E H locs ls S)⟩) k
theorem q_ldc {idx : Nat} {v : Int32} (hd : decode (iC M) pc = .ok (.ldc idx, 2)) (hw : Cond.constant (iY M).cls idx v ∈ lw_tbl) (k : RQ s0 l M h0 (pc + 2) L (.int v :: st) h Q) : RQ s0 l M h0 pc L st h Q := lift1 (fun _ _ k => ⟨k.1, fun p e s m args below meth c E H locs ls S => lv_ldc E.1 E.2.1 E.2.2.2.1 (E.2.2.2.2.2.2.2.2.2.2.2.2.1.word E.2.2.2.2.2.2.2.2.1 hw rfl) hd (k.2 p e s m args below meth c E H locs ls S)⟩) k
theorem ret_q {o : Out} {hE : Mem} (hQ : Q o hE) (k : R s0 l M h0 o hE pc L st h) : RQ s0 l M h0 pc L st h Q := ⟨o, hE, k, hQ⟩
theorem q_iret {v : Int32} {ty : FieldType} (hd : decode (iC M) pc = .ok (.ireturn, 1)) (hr : iR M = some ty) (hn : narrow ty (.int v) = .int v) (hQ : Q (.inl (some (.int v))) h) : RQ s0 l M h0 pc L [.int v] h Q :=
  ret_q hQ ⟨⟨Nat.le_refl _, Nat.le_refl _⟩, fun p e s m args below meth c E H locs ls S => vx_ret (W.zret E.1 E.2.1 (E.2.2.2.2.2.1.trans hr) hn (fun t ht _ => ⟨_, rfl, rfl, by rw [ht]; exact S.1⟩) S.2.1 hd E.2.2.2.2.1)⟩
theorem q_vret (hd : decode (iC M) pc = .ok (.return_, 1)) (hr : iR M = none) (hQ : Q (.inl none) h) : RQ s0 l M h0 pc L [] h Q :=
  ret_q hQ ⟨⟨Nat.le_refl _, Nat.le_refl _⟩, fun p e s m args below meth c E H locs ls S => vx_ret (W.vret E.1 E.2.1 (E.2.2.2.2.2.1.trans hr) (fun t ht _ => ⟨_, rfl, rfl, by rw [ht]; exact S.1⟩) S.2.1 hd E.2.2.2.2.1)⟩
theorem q_aret {v : Value} {rt : FieldType} (hd : decode (iC M) pc = .ok (.areturn, 1)) (hr : iR M = some rt) (hrt : (∃ n, rt = .object n) ∨ ∃ t, rt = .array t) (hv : v = .null ∨ ∃ a, v = .ref a) (hQ : Q (.inl (some v)) h) : RQ s0 l M h0 pc L [v] h Q :=
  ret_q hQ ⟨⟨Nat.le_refl _, Nat.le_refl _⟩, fun p e s m args below meth c E H locs ls S => vx_ret (W.aret E.1 E.2.1 (E.2.2.2.2.2.1.trans hr) hrt hv (fun t ht _ => ⟨_, rfl, rfl, by rw [ht]; exact S.1⟩) S.2.1 hd E.2.2.2.2.1)⟩
/-- what was thrown leaves the method -/
theorem q_out {E0 : String} (hcov : ∀ x ∈ tableOf (iH M), covers x pc = false) (hQ : Q (.inr E0) h) : RQX s0 l M h0 pc L E0 h Q :=
  ⟨.inr E0, h, ⟨⟨Nat.le_refl _, Nat.le_refl _⟩, fun p e s m args below meth c E H locs ls st q ce S h1 h2 h3 => vx_out (by rw [E.2.2.2.2.2.2.2.1]; exact hcov) E.2.2.2.2.1 h1 h2 h3 (fun t ht _ => ⟨rfl, by rw [ht]; exact S.1⟩) S.2.1 (Nat.le_refl _) (Nat.le_refl _)⟩, hQ⟩
/-- caught by the method's one handler, which lays it into a place and forgets it -/
theorem q_catch {E0 nm : String} {x : ExceptionTableEntry} {k9 : Fin 4} {i : Nat} (hone : tableOf (iH M) = [x]) (hx : covers x pc = true) (hc0 : x.catchType ≠ 0) (hl : Cond.classLink (iY M).cls x.catchType nm ∈ lw_tbl) (hcast : Cond.castable E0 nm ∈ lw_tbl) (hd : decode (iC M) x.handlerPc = .ok (.astore_n k9, 1)) (hi : (k9 : Nat) = i) (hn : i < L.length)
    (k : RQ s0 l M h0 (x.handlerPc + 1) (L.set i none) [] h Q) : RQX s0 l M h0 pc L E0 h Q := by
  obtain ⟨o, hE, k, b⟩ := k
  refine ⟨o, hE, ⟨k.1, fun p e s m args below meth c E H locs ls st q ce S h1 h2 h3 => ?_⟩, b⟩
  have g := E.2.2.2.2.2.2.2.2.2.2.2.2.1
  have hW := E.2.2.2.2.2.2.2.2.1
  refine xh_catch E.2.2.2.1 x (by rw [E.2.2.2.2.2.2.2.1]; exact hone) hx hc0 (g.word hW hl rfl) (g.cast hW hcast) h1 h2 h3 ?_
  exact lv_astore_n E.1 E.2.1 hd hi S.2.2.1.has (S.2.2.1.lt hn) rfl (fun ls9 h9 => k.2 p e s m args below meth c E H locs ls9 ⟨S.1, S.2.1, (S.2.2.1.st rfl h9).drop, S.2.2.2⟩)
end Rules
end
section
/-! ===== fields of the classes at any method's state ===== -/
theorem uw {s0 s : State} {args : Array Value} {ci : Nat} (g : G0 s0) (hW : s0.WarmedH s.vm) (hci : ci < 8) : ∀ w ∈ u_ws (cnm ci) (cT ci) (cN ci), w.before args s = true := fun w hw => by
  obtain ⟨av, h⟩ := g
  exact word_at hW (cW_ok hci w hw).2 (h w (cW_ok hci w hw).1)
theorem kn0 {s0 : State} {ci : Nat} (g : G0 s0) (hci : ci < 8) : u_Kn s0 (cnm ci) (cT ci) (cN ci) (xC s0 ci) (xI s0 ci) := by
  obtain ⟨av, h⟩ := id g
  obtain ⟨cC, iS, h1, h2⟩ := u_known (C := cnm ci) (T := cT ci) (N := cN ci) (n := cN ci) (uw (args := av) g (State.WarmedH.refl s0) hci) (fun _ h => h) (h _ (cI_ok hci))
  have e1 : xC s0 ci = cC := by unfold xC; rw [h2.1]; rfl
  refine ⟨fun k hk => ?_, by rw [e1]; exact h2⟩
  obtain ⟨cf, kf, fi, fd, hi, he⟩ := h1 k hk
  have e2 : xI s0 ci k = fd.slot := by unfold xI; rw [hi]
  exact ⟨cf, kf, fi, fd, hi, e2.symm⟩
theorem kn {s0 s : State} {ci : Nat} (g : G0 s0) (hW : s0.WarmedH s.vm) (hci : ci < 8) : u_Kn s (cnm ci) (cT ci) (cN ci) (xC s0 ci) (xI s0 ci) := u_Kn_moved hW.alike (kn0 g hci)
theorem fAt {s0 s : State} {ci k : Nat} (args : Array Value) (g : G0 s0) (hW : s0.WarmedH s.vm) (hci : ci < 8) (hk : k < cN ci) : ∃ cf kf fi f, s.fieldFound? (cnm ci) (cT ci k).2.1 (cT ci k).2.2.1 = some (cf, kf, fi, f) ∧ f.isStatic = false ∧ f.slot = xI s0 ci k ∧
    (∀ v, narrow (cY ci k) v = v → fits (cY ci k) v = true → narrow f.type v = v ∧ s.fitsSlot (xC s0 ci) .none f.slot v = true) ∧ ((cT ci k).2.2.2 = false → hasFlag f.accessFlags Acc.final = false) ∧ ((cT ci k).2.2.2 = true → ∀ m : MethodId, s.vm.findClass (cnm ci) = some m.cls → m.cls = cf) := by
  obtain ⟨hS, hfc, kC, hkC, hkind⟩ := kn g hW hci
  obtain ⟨cf, kf, fi, f, hi, hsl⟩ := hS k hk
  have hts := uw (args := args) g hW hci
  have hl := u_lays hts (fun _ h => h) hk
  have hlay := hts _ (u_in_lay hk)
  have hD := cD_ok hci k hk
  refine ⟨cf, kf, fi, f, by rw [← hD]; exact hi, (u_facts hfc hkC hl hi).1, hsl, fun v hn hf => u_fits hfc hkC hkind hl hi (cY_ok hci k hk) hn hf, fun hfin => ?_, fun hfin m hm => ?_⟩
  · unfold u_lay at hlay
    rw [if_neg (by rw [hfin]; decide)] at hlay
    obtain ⟨c, k9, cf', kf', fi', fd', r1, r2, hi', hst, hfin', -⟩ := Cond.lays_spec hlay
    cases hi.symm.trans hi'
    exact hfin'
  · unfold u_lay at hlay
    rw [if_pos hfin] at hlay
    obtain ⟨_, _, c', _, _, _, -, -, hf', -, -, -, hown2, -⟩ := Cond.laysFinal_spec hlay
    have e1 : c' = cf := by have := hi.symm.trans hf'; simp at this; exact this.1.symm
    rw [hD] at hown2
    rw [← e1]; exact Option.some.inj (hm.symm.trans hown2)
theorem xI_apart {s0 : State} {ci : Nat} (g : G0 s0) (hci : ci < 8) : ∀ x y, x < cN ci → y < cN ci → x ≠ y → xI s0 ci x ≠ xI s0 ci y := by
  intro x y hx hy hne
  obtain ⟨hS, -⟩ := kn0 g hci
  have hts := uw (args := #[]) g (State.WarmedH.refl s0) hci
  obtain ⟨_, _, _, fa, hia, ea⟩ := hS x hx
  obtain ⟨_, _, _, fb, hib, eb⟩ := hS y hy
  rw [← ea, ← eb]
  refine u_apart (u_lays hts (fun _ h => h) hx) (u_lays hts (fun _ h => h) hy) hia hib ?_
  rw [(State.fieldFound?_type hia (cY_ok hci x hx)).1, (State.fieldFound?_type hib (cY_ok hci y hy)).1]
  exact cN_ok hci x hx y hy hne
theorem t_set9 {cell : Cell} {N : Nat} {iS : Nat → Nat} {V V' : Nat → Value} (h : ∀ k, k < N → cell.slots[iS k]? = some (V k)) (hap : ∀ a b, a < N → b < N → a ≠ b → iS a ≠ iS b) {k : Nat} (hk : k < N) (v : Value) (hv : ∀ j, j < N → V' j = if j = k then v else V j) :
    ∀ j, j < N → (cell.setSlot (iS k) v).slots[iS j]? = some (V' j) := by
  intro j hj
  rw [t_set h hap hk v j hj, hv j hj]
  rfl
section Rules
variable {s0 : State} {l : Launch} {M : MI} {h0 : Mem} {pc : Nat} {L : List (Option Value)} {st : List Value} {h : Mem} {Q : Out → Mem → Prop}
theorem EN.g {p : Program} {s : State} {m : MethodId} {meth : Method} {c : Code} (E : EN s0 l M h0 p s m meth c) : G0 s0 := E.2.2.2.2.2.2.2.2.2.2.2.2.1
theorem EN.w {p : Program} {s : State} {m : MethodId} {meth : Method} {c : Code} (E : EN s0 l M h0 p s m meth c) : s0.WarmedH s.vm := E.2.2.2.2.2.2.2.2.1
theorem EN.cx {p : Program} {s : State} {m : MethodId} {meth : Method} {c : Code} (E : EN s0 l M h0 p s m meth c) : CX s0 l := E.2.2.2.2.2.2.2.2.2.2.2.2
theorem EN.own {p : Program} {s : State} {m : MethodId} {meth : Method} {c : Code} (E : EN s0 l M h0 p s m meth c) : s.vm.findClass (iY M).cls = some m.cls := E.2.2.2.1
theorem EN.froz {p : Program} {s : State} {m : MethodId} {meth : Method} {c : Code} (E : EN s0 l M h0 p s m meth c) : ∀ q, q < s0.heap.size → s.heap[q]? = s0.heap[q]? := E.2.2.2.2.2.2.2.2.2.1
theorem EN.size {p : Program} {s : State} {m : MethodId} {meth : Method} {c : Code} (E : EN s0 l M h0 p s m meth c) : s.heap.size = mN h0 := E.2.2.2.2.2.2.2.2.2.2.1
theorem ST.vaS {p : Program} {s : State} {m : MethodId} {meth : Method} {c : Code} {H : Heap} {locs : List Loc} {ls : Array Slot} (E : EN s0 l M h0 p s m meth c) (S : ST s0 M h0 h L H locs ls) : va_S (frOf s0) s.heap H locs :=
  ⟨by rw [E.size, S.1.1]; exact S.2.2.2.1, fun q _ hq => by
    have hq' : q < s0.heap.size := Nat.not_le.mp hq
    rw [S.1.2.2.1 q hq', E.froz q hq'], S.2.1⟩
theorem get_q {a idx ci k : Nat} {v : Value} (hd : decode (iC M) pc = .ok (.getfield idx, 3)) (hf : FL (iY M).cls idx ci k) (hk : mK h a = ci + 1) (hv : fV h ci a k = v) (kk : RQ s0 l M h0 (pc + 3) L (v :: st) h Q) : RQ s0 l M h0 pc L (.ref a :: st) h Q := by
  refine lift1 (fun _ _ k9 => ⟨k9.1, fun p e s m args below meth c E H locs ls S => ?_⟩) kk
  obtain ⟨cell, c1, c2, c3, c4⟩ := S.1.obj hf.1 hk
  obtain ⟨cf, kf, fi, f, hi, hst, hsl, -⟩ := fAt args E.g E.w hf.1 hf.2.1
  refine W.getf E.1 E.2.1 E.own (E.g.word E.w hf.2.2 rfl) hi hst c1 (by rw [c3]; exact fun h => by cases h) (v := v) ?_ rfl rfl hd (k9.2 p e s m args below meth c E H locs ls S)
  rw [hsl, ← hv]
  exact c4 k hf.2.1
theorem q_getI {a idx ci k : Nat} (hd : decode (iC M) pc = .ok (.getfield idx, 3)) (hf : FL (iY M).cls idx ci k) (ht : isR ci k = false) (hk : mK h a = ci + 1) (kk : RQ s0 l M h0 (pc + 3) L (.int (mI h a k) :: st) h Q) : RQ s0 l M h0 pc L (.ref a :: st) h Q :=
  get_q hd hf hk (by unfold fV; rw [if_neg (by rw [ht]; decide)]) kk
theorem q_getR {a idx ci k q : Nat} (hd : decode (iC M) pc = .ok (.getfield idx, 3)) (hf : FL (iY M).cls idx ci k) (ht : isR ci k = true) (hk : mK h a = ci + 1) (hr : mR h a k = some q) (kk : RQ s0 l M h0 (pc + 3) L (.ref q :: st) h Q) : RQ s0 l M h0 pc L (.ref a :: st) h Q :=
  get_q hd hf hk (by unfold fV; rw [if_pos ht, hr]; rfl) kk
theorem q_getN {a idx ci k : Nat} (hd : decode (iC M) pc = .ok (.getfield idx, 3)) (hf : FL (iY M).cls idx ci k) (ht : isR ci k = true) (hk : mK h a = ci + 1) (hr : mR h a k = none) (kk : RQ s0 l M h0 (pc + 3) L (.null :: st) h Q) : RQ s0 l M h0 pc L (.ref a :: st) h Q :=
  get_q hd hf hk (by unfold fV; rw [if_pos ht, hr]; rfl) kk
theorem put_q {a idx ci k : Nat} {v : Value} {h' : Mem} (hd : decode (iC M) pc = .ok (.putfield idx, 3)) (hf : FL (iY M).cls idx ci k) (hk : mK h a = ci + 1) (hn : narrow (cY ci k) v = v) (hfit : fits (cY ci k) v = true) (hfin : (cT ci k).2.2.2 = false ∨ ((iY M).cls = cnm ci ∧ (iY M).name = "<init>"))
    (hK : mK h' = mK h) (hL : mL h' = mL h) (hN : mN h' = mN h) (hU : mU h' = mU h) (hJ : mJ h' = mJ h) (hg : ∀ b, b ≠ a → (∀ i, mI h' b i = mI h b i) ∧ ∀ i, mR h' b i = mR h b i) (hv : ∀ j, j < cN ci → fV h' ci a j = if j = k then v else fV h ci a j)
    (kk : RQ s0 l M h0 (pc + 3) L st h' Q) : RQ s0 l M h0 pc L (v :: .ref a :: st) h Q := by
  refine lift1 (fun _ _ k9 => ⟨by rw [← hN, ← hU]; exact k9.1, fun p e s m args below meth c E H locs ls S => ?_⟩) kk
  obtain ⟨cell, c1, c2, c3, c4⟩ := S.1.obj hf.1 hk
  obtain ⟨cf, kf, fi, f, hi, hst, hsl, hfs, hf1, hf2⟩ := fAt args E.g E.w hf.1 hf.2.1
  obtain ⟨n1, n2⟩ := hfs v hn hfit
  have ha : a < H.size := (Array.getElem?_eq_some_iff.mp c1).1
  have ho : s0.heap.size ≤ a := S.1.own (by omega) (by have := hf.1; omega)
  refine W.putf E.1 E.2.1 E.own (E.g.word E.w hf.2.2 rfl) hi hst ?_ c1 (by rw [c3]; exact fun h => by cases h) (by rw [hsl]; exact k2_hasslot (c4 k hf.2.1)) n1 (by rw [c2, c3]; exact n2) rfl rfl hd ?_
  · cases hb : (cT ci k).2.2.2 with
    | false => exact Or.inl (hf1 hb)
    | true =>
      rcases hfin with h9 | ⟨h8, h9⟩
      · rw [hb] at h9; cases h9
      · exact Or.inr ⟨hf2 hb m (by rw [← h8]; exact E.own), E.2.2.2.2.2.2.1.trans h9⟩
  · have := k9.2 p e s m args below meth c E (H.setIfInBounds a (cell.setSlot f.slot v)) (locs ++ [⟨a, f.slot⟩]) ls ⟨?_, ?_, S.2.2.1, by rw [hN]; exact S.2.2.2.1, by rw [hU]; exact S.2.2.2.2⟩
    · rw [hN, hU] at this
      exact this
    · refine S.1.upd (a := a) (cell' := cell.setSlot f.slot v) ho (by simp [Array.getElem?_setIfInBounds, ha]) (by simp) (fun q hq => by simp [Array.getElem?_setIfInBounds, Ne.symm hq]) hN (fun b hb => ⟨by rw [hK], by rw [hL], (hg b hb).1, (hg b hb).2, fun i => by rw [hJ]⟩) (fun _ => ?_)
      refine cOK_obj hf.1 (by rw [hK]; exact hk) c2 c3 ?_
      rw [hsl]
      exact t_set9 c4 (xI_apart E.g hf.1) hf.2.1 v hv
    · intro q hq
      rcases List.mem_append.mp hq with h9 | h9
      · exact S.2.1 q h9
      · rw [List.mem_singleton.mp h9]
        exact ho
theorem q_putI {a idx ci k : Nat} {x : Int32} (hd : decode (iC M) pc = .ok (.putfield idx, 3)) (hf : FL (iY M).cls idx ci k) (ht : isR ci k = false) (hk : mK h a = ci + 1) (hn : narrow (cY ci k) (.int x) = .int x) (hfit : fits (cY ci k) (.int x) = true) (hfin : (cT ci k).2.2.2 = false ∨ ((iY M).cls = cnm ci ∧ (iY M).name = "<init>"))
    (kk : RQ s0 l M h0 (pc + 3) L st (sI h a k x) Q) : RQ s0 l M h0 pc L (.int x :: .ref a :: st) h Q := by
  refine put_q (h' := sI h a k x) hd hf hk hn hfit hfin rfl rfl rfl rfl rfl (fun b hb => ⟨fun i => by simp [mI_sI, hb], fun i => rfl⟩) (fun j _ => ?_) kk
  unfold fV
  by_cases e : j = k
  · subst e
    simp [ht, mI_sI]
  · simp [e, mI_sI, mR_sI]
theorem q_putR {a idx ci k q : Nat} (hd : decode (iC M) pc = .ok (.putfield idx, 3)) (hf : FL (iY M).cls idx ci k) (ht : isR ci k = true) (hk : mK h a = ci + 1) (hn : narrow (cY ci k) (.ref q) = .ref q) (hfit : fits (cY ci k) (.ref q) = true) (hfin : (cT ci k).2.2.2 = false ∨ ((iY M).cls = cnm ci ∧ (iY M).name = "<init>"))
    (kk : RQ s0 l M h0 (pc + 3) L st (sR h a k (some q)) Q) : RQ s0 l M h0 pc L (.ref q :: .ref a :: st) h Q := by
  refine put_q (h' := sR h a k (some q)) hd hf hk hn hfit hfin rfl rfl rfl rfl rfl (fun b hb => ⟨fun i => rfl, fun i => by simp [mR_sR, hb]⟩) (fun j _ => ?_) kk
  unfold fV
  by_cases e : j = k
  · subst e
    simp [ht, mR_sR, va_rf]
  · simp [e, mR_sR, mI_sR]
theorem loc1 {locs : List Loc} {a i : Nat} (h1 : ∀ q ∈ locs, frOf s0 q.base) (h2 : s0.heap.size ≤ a) : ∀ q ∈ locs ++ [(⟨a, i⟩ : Loc)], frOf s0 q.base := fun q hq => by
  rcases List.mem_append.mp hq with h9 | h9
  · exact h1 q h9
  · rw [List.mem_singleton.mp h9]
    exact h2
theorem vp_lt {j : Int32} {n : Nat} (h : vp_in j n) : j.toNatClampNeg < n := Nat.not_le.mp fun q => h (Or.inr q)
theorem q_iaload {a : Nat} {j : Int32} (hd : decode (iC M) pc = .ok (.iaload, 1)) (hk : mK h a = 11 ∨ mK h a = 21) (hin : vp_in j (mL h a)) (kk : RQ s0 l M h0 (pc + 1) L (.int (mI h a j.toNatClampNeg) :: st) h Q) : RQ s0 l M h0 pc L (.int j :: .ref a :: st) h Q := by
  refine lift1 (fun _ _ k9 => ⟨k9.1, fun p e s m args below meth c E H locs ls S => ?_⟩) kk
  obtain ⟨cell, c1, c2, c3, c4, c5, c6⟩ := S.1.a11 hk
  exact W.iald E.1 E.2.1 c1 (State.isArrayOf_alike E.w.alike c2) c3 (by rw [c4]; exact hin) (c6 _ (vp_lt hin)) rfl rfl hd (k9.2 p e s m args below meth c E H locs ls S)
theorem q_baload {a : Nat} {j : Int32} (hd : decode (iC M) pc = .ok (.baload, 1)) (hk : mK h a = 12) (hin : vp_in j (mL h a)) (kk : RQ s0 l M h0 (pc + 1) L (.int (mI h a j.toNatClampNeg) :: st) h Q) : RQ s0 l M h0 pc L (.int j :: .ref a :: st) h Q := by
  refine lift1 (fun _ _ k9 => ⟨k9.1, fun p e s m args below meth c E H locs ls S => ?_⟩) kk
  obtain ⟨cell, c1, c2, c3, c4, c5, c6⟩ := S.1.a12 hk
  exact W.bald E.1 E.2.1 c1 (State.isArrayOf_alike E.w.alike c2) c3 (by rw [c4]; exact hin) (c6 _ (vp_lt hin)) rfl rfl hd (k9.2 p e s m args below meth c E H locs ls S)
theorem q_laload {a : Nat} {j : Int32} (hd : decode (iC M) pc = .ok (.laload, 1)) (hk : mK h a = 13) (hin : vp_in j (mL h a)) (kk : RQ s0 l M h0 (pc + 1) L (.long (mJ h a j.toNatClampNeg) :: st) h Q) : RQ s0 l M h0 pc L (.int j :: .ref a :: st) h Q := by
  refine lift1 (fun _ _ k9 => ⟨k9.1, fun p e s m args below meth c E H locs ls S => ?_⟩) kk
  obtain ⟨cell, c1, c2, c3, c4, c5, c6⟩ := S.1.a13 hk
  exact W.lald E.1 E.2.1 c1 (State.isArrayOf_alike E.w.alike c2) c3 (by rw [c4]; exact hin) (c6 _ (vp_lt hin)) rfl rfl hd (k9.2 p e s m args below meth c E H locs ls S)
theorem q_aaload {a ci q : Nat} {j : Int32} (hd : decode (iC M) pc = .ok (.aaload, 1)) (hci : ci = 1 ∨ ci = 2) (hk : mK h a = ci + 13) (hin : vp_in j (mL h a)) (hr : mR h a j.toNatClampNeg = some q) (kk : RQ s0 l M h0 (pc + 1) L (.ref q :: st) h Q) : RQ s0 l M h0 pc L (.int j :: .ref a :: st) h Q := by
  refine lift1 (fun _ _ k9 => ⟨k9.1, fun p e s m args below meth c E H locs ls S => ?_⟩) kk
  obtain ⟨cell, c1, ⟨c2, c3, c4, c5, c6⟩, -⟩ := S.1.aq hci hk
  exact W.aald (v := .ref q) E.1 E.2.1 c1 (State.isArrayOf_alike E.w.alike c2) rfl c3 (by rw [c4]; exact hin) (by rw [c6 _ (vp_lt hin)]; simp only [hr]; rfl) rfl rfl hd (k9.2 p e s m args below meth c E H locs ls S)
theorem q_aaloadN {a ci : Nat} {j : Int32} (hd : decode (iC M) pc = .ok (.aaload, 1)) (hci : ci = 1 ∨ ci = 2) (hk : mK h a = ci + 13) (hin : vp_in j (mL h a)) (hr : mR h a j.toNatClampNeg = none) (kk : RQ s0 l M h0 (pc + 1) L (.null :: st) h Q) : RQ s0 l M h0 pc L (.int j :: .ref a :: st) h Q := by
  refine lift1 (fun _ _ k9 => ⟨k9.1, fun p e s m args below meth c E H locs ls S => ?_⟩) kk
  obtain ⟨cell, c1, ⟨c2, c3, c4, c5, c6⟩, -⟩ := S.1.aq hci hk
  exact W.aald (v := .null) E.1 E.2.1 c1 (State.isArrayOf_alike E.w.alike c2) rfl c3 (by rw [c4]; exact hin) (by rw [c6 _ (vp_lt hin)]; simp only [hr]; rfl) rfl rfl hd (k9.2 p e s m args below meth c E H locs ls S)
theorem q_alen {a : Nat} (hd : decode (iC M) pc = .ok (.arraylength, 1)) (hk : mK h a = 11 ∨ mK h a = 21) (kk : RQ s0 l M h0 (pc + 1) L (.int (nI (mL h a)) :: st) h Q) : RQ s0 l M h0 pc L (.ref a :: st) h Q := by
  refine lift1 (fun _ _ k9 => ⟨k9.1, fun p e s m args below meth c E H locs ls S => ?_⟩) kk
  obtain ⟨cell, c1, c2, c3, c4, c5, c6⟩ := S.1.a11 hk
  exact W.alen (n := nI (mL h a)) E.1 E.2.1 c1 (State.isArrayOf_alike E.w.alike c2) (by rw [c4]; rfl) rfl rfl hd (k9.2 p e s m args below meth c E H locs ls S)
theorem q_alenQ {a ci : Nat} (hd : decode (iC M) pc = .ok (.arraylength, 1)) (hci : ci = 1 ∨ ci = 2) (hk : mK h a = ci + 13) (kk : RQ s0 l M h0 (pc + 1) L (.int (nI (mL h a)) :: st) h Q) : RQ s0 l M h0 pc L (.ref a :: st) h Q := by
  refine lift1 (fun _ _ k9 => ⟨k9.1, fun p e s m args below meth c E H locs ls S => ?_⟩) kk
  obtain ⟨cell, c1, ⟨c2, c3, c4, c5, c6⟩, -⟩ := S.1.aq hci hk
  exact W.alen (n := nI (mL h a)) E.1 E.2.1 c1 (State.isArrayOf_alike E.w.alike c2) (by rw [c4]; rfl) rfl rfl hd (k9.2 p e s m args below meth c E H locs ls S)
theorem q_iastore {a : Nat} {j x : Int32} (hd : decode (iC M) pc = .ok (.iastore, 1)) (hk : mK h a = 11) (hin : vp_in j (mL h a)) (kk : RQ s0 l M h0 (pc + 1) L st (sI h a j.toNatClampNeg x) Q) : RQ s0 l M h0 pc L (.int x :: .int j :: .ref a :: st) h Q := by
  refine lift1 (h' := sI h a j.toNatClampNeg x) (fun _ _ k9 => ⟨k9.1, fun p e s m args below meth c E H locs ls S => ?_⟩) kk
  obtain ⟨cell, c1, c2⟩ := S.1.a11 (Or.inl hk)
  have ho := S.1.own (a := a) (by omega) (by omega)
  refine W.iast E.1 E.2.1 c1 (State.isArrayOf_alike E.w.alike c2.1) c2.2.1 (by rw [c2.2.2.1]; exact hin) rfl rfl hd (fun H9 e1 e2 e3 => ?_)
  refine k9.2 p e s m args below meth c E H9 _ ls ⟨S.1.upd (a := a) ho e1 e2 e3 rfl (fun b hb => ⟨rfl, rfl, fun i => by simp [mI_sI, hb], fun i => rfl, fun i => rfl⟩) (fun _ => ?_), loc1 S.2.1 ho, S.2.2⟩
  unfold cOK
  rw [if_pos (Or.inl (by rw [mK_sI]; exact hk))]
  exact c2.set (vp_lt hin) (fun i _ => by simp only [mI_sI, true_and]; split <;> rfl)
theorem q_bastore {a : Nat} {j x : Int32} (hd : decode (iC M) pc = .ok (.bastore, 1)) (hk : mK h a = 12) (hin : vp_in j (mL h a)) (kk : RQ s0 l M h0 (pc + 1) L st (sI h a j.toNatClampNeg x.toInt8.toInt32) Q) : RQ s0 l M h0 pc L (.int x :: .int j :: .ref a :: st) h Q := by
  refine lift1 (h' := sI h a j.toNatClampNeg x.toInt8.toInt32) (fun _ _ k9 => ⟨k9.1, fun p e s m args below meth c E H locs ls S => ?_⟩) kk
  obtain ⟨cell, c1, c2⟩ := S.1.a12 hk
  have ho := S.1.own (a := a) (by omega) (by omega)
  refine W.bast E.1 E.2.1 c1 (State.isArrayOf_alike E.w.alike c2.1) c2.2.1 (by rw [c2.2.2.1]; exact hin) rfl rfl hd (fun H9 e1 e2 e3 => ?_)
  refine k9.2 p e s m args below meth c E H9 _ ls ⟨S.1.upd (a := a) ho e1 e2 e3 rfl (fun b hb => ⟨rfl, rfl, fun i => by simp [mI_sI, hb], fun i => rfl, fun i => rfl⟩) (fun _ => ?_), loc1 S.2.1 ho, S.2.2⟩
  unfold cOK
  rw [if_neg (by rw [mK_sI]; omega), if_pos (by rw [mK_sI]; exact hk)]
  exact c2.set (vp_lt hin) (fun i _ => by simp only [mI_sI, true_and, narrow_byte]; split <;> rfl)
theorem q_lastore {a : Nat} {j : Int32} {x : Int64} (hd : decode (iC M) pc = .ok (.lastore, 1)) (hk : mK h a = 13) (hin : vp_in j (mL h a)) (kk : RQ s0 l M h0 (pc + 1) L st (sJ h a j.toNatClampNeg x) Q) : RQ s0 l M h0 pc L (.long x :: .int j :: .ref a :: st) h Q := by
  refine lift1 (h' := sJ h a j.toNatClampNeg x) (fun _ _ k9 => ⟨k9.1, fun p e s m args below meth c E H locs ls S => ?_⟩) kk
  obtain ⟨cell, c1, c2⟩ := S.1.a13 hk
  have ho := S.1.own (a := a) (by omega) (by omega)
  refine W.last E.1 E.2.1 c1 (State.isArrayOf_alike E.w.alike c2.1) c2.2.1 (by rw [c2.2.2.1]; exact hin) rfl rfl hd (fun H9 e1 e2 e3 => ?_)
  refine k9.2 p e s m args below meth c E H9 _ ls ⟨S.1.upd (a := a) ho e1 e2 e3 rfl (fun b hb => ⟨rfl, rfl, fun i => rfl, fun i => rfl, fun i => by simp [mJ, sJ, hb]⟩) (fun _ => ?_), loc1 S.2.1 ho, S.2.2⟩
  have hk' : mK (sJ h a j.toNatClampNeg x) a = 13 := hk
  unfold cOK
  rw [if_neg (by omega), if_neg (by omega), if_pos hk']
  exact c2.set (vp_lt hin) (fun i _ => by simp only [mJ, sJ, true_and]; split <;> rfl)
theorem q_aastore {a ci v : Nat} {j : Int32} (hd : decode (iC M) pc = .ok (.aastore, 1)) (hci : ci = 1 ∨ ci = 2) (hk : mK h a = ci + 13) (hin : vp_in j (mL h a)) (hkv : mK h v = ci + 1) (kk : RQ s0 l M h0 (pc + 1) L st (sR h a j.toNatClampNeg (some v)) Q) : RQ s0 l M h0 pc L (.ref v :: .int j :: .ref a :: st) h Q := by
  refine lift1 (h' := sR h a j.toNatClampNeg (some v)) (fun _ _ k9 => ⟨k9.1, fun p e s m args below meth c E H locs ls S => ?_⟩) kk
  obtain ⟨cell, c1, c2, kA, comp, c3, c4, c5⟩ := S.1.aq hci hk
  obtain ⟨cv, v1, v2, v3, -⟩ := S.1.obj (ci := ci) (by omega) hkv
  have ho := S.1.own (a := a) (by omega) (by omega)
  have hal := E.w.alike
  obtain ⟨kA', hkA', heA⟩ := hal.2.2 _ _ c3
  obtain ⟨hS, hfc, kC, hkC, hkind⟩ := kn E.g E.w (ci := ci) (by omega)
  have hcomp : comp = xC s0 ci := by
    have h1 := (kn0 E.g (ci := ci) (by omega)).2.1
    exact Option.some.inj (c5.symm.trans h1)
  refine W.aast (k := kA') (kv := kC) (kcomp := kC) (comp := comp) (t := .object (cnm ci)) E.1 E.2.1 c1 c2.1.1 c2.2.1 hkA' (by rw [heA]; exact c4) rfl (by rw [hcomp]; exact hkC) ⟨fun h9 => hin (Or.inl h9), by rw [c2.2.2.1]; exact vp_lt hin⟩ v1 (by rw [v3]; intro k h9; cases h9) (by rw [v2]; exact hkC) (by rw [v2, hcomp]; exact va_assign ⟨hfc, kC, hkC, hkind⟩) rfl rfl hd (fun H9 e1 e2 e3 => ?_)
  refine k9.2 p e s m args below meth c E H9 _ ls ⟨S.1.upd (a := a) ho e1 e2 e3 rfl (fun b hb => ⟨rfl, rfl, fun i => rfl, fun i => by simp [mR_sR, hb], fun i => rfl⟩) (fun _ => ?_), loc1 S.2.1 ho, S.2.2⟩
  have hk' : mK (sR h a j.toNatClampNeg (some v)) a = ci + 13 := hk
  have hg : ∀ i, i < mL h a → va_rf (mR (sR h a j.toNatClampNeg (some v)) a i) = if i = j.toNatClampNeg then .ref v else va_rf (mR h a i) := fun i _ => by simp only [mR_sR, true_and]; split <;> rfl
  unfold cOK
  rcases hci with rfl | rfl
  · rw [if_neg (by omega), if_neg (by omega), if_neg (by omega), if_pos (by omega)]
    exact ⟨c2.set (vp_lt hin) hg, kA, comp, c3, c4, c5⟩
  · rw [if_neg (by omega), if_neg (by omega), if_neg (by omega), if_neg (by omega), if_pos (by omega)]
    exact ⟨c2.set (vp_lt hin) hg, kA, comp, c3, c4, c5⟩
theorem q_gets {idx i : Nat} (hd : decode (iC M) pc = .ok (.getstatic idx, 3)) (hi : i < 3) (hf : Cond.fieldLink (iY M).cls idx (sC i) (sNm i) "[I" ∈ lw_tbl) (kk : RQ s0 l M h0 (pc + 3) L (.ref (sA s0 i) :: st) h Q) : RQ s0 l M h0 pc L st h Q := by
  refine lift1 (fun _ _ k9 => ⟨k9.1, fun p e s m args below meth c E H locs ls S => ?_⟩) kk
  have hZ := va_Z.moved E.w.alike (((E.cx.2.2.2.2 i hi)).kept (H1 := s.heap) (fun a ha hna => E.froz a ha))
  exact va_gets E.1 E.2.1 hZ (S.vaS E) E.own (E.g.word E.w hf rfl) (fun _ h9 => h9) hd (k9.2 p e s m args below meth c E H locs ls S)
end Rules
end
section
section XThrow
variable {p : Program} {l : Launch} {e : Env} {R : Room} {s : State} {m : MethodId} {args : Array Value} {below : List Frame} {meth : Method} {c : Code} {H : Heap} {locs : List Loc} {cells slots : Nat} {Q : State → Prop}
variable {mc ms : Nat} {free : Addr → Prop} {A0 A1 : Nat → Prop} {H0 : Heap} {a : Array Value} {ls : Array Slot} {st0 rest : List Value}
variable {Qc : Array Value → State → Outcome → State → Prop} {XC : String → State → State → Prop}
/-- 'throw new E()': new; dup; invokespecial; athrow -/
theorem x_throw0 {cc : ByteArray} {pc : Nat} (hexec : p.tables.exec = Jvm.exec) (hb : c.code = cc) (hl : l.stackTraces = false) {own cls : String} {names : List String} {ik ic mc ms : Nat} {A : Nat → Prop}
    (hown : s.vm.findClass own = some m.cls) (hcls : Bundle.fit cls = true) (hnames : ∀ n ∈ names, Bundle.fit n = true)
    (hk : (Cond.classLink own ik cls).before args s = true) (hini : (Cond.initialized cls).before args s = true) (hat : ∀ w ∈ vx_at0 own ic cls names, w.before args s = true)
    (hgood : ∀ w ∈ Cond.classLink own ik cls :: Cond.initialized cls :: vx_at0 own ic cls names, vx_ot w = true)
    (hU : vx_Zq Bundle.tN "UNASSIGNED_STACK" Bundle.steD A s s.heap) (hN : vx_Zq Bundle.tN "SUPPRESSED_SENTINEL" Bundle.listD A s s.heap) (hS : va_S A s.heap H locs) (hsize : ls.size = c.maxLocals)
    (d0 : decode cc pc = .ok (.new ik, 3)) (d3 : decode cc (pc + 3) = .ok (.dup, 1)) (d4 : decode cc (pc + 4) = .ok (.invokespecial ic, 3)) (d7 : decode cc (pc + 7) = .ok (.athrow, 1))
    (hout : ∀ x ∈ c.exceptionTable.toList, covers x (pc + 7) = false)
    (hRframes : names.length + 3 < R.frames) (hRlocals : (rest.map fun v => v.category).sum + (13 * (names.length + 1) + 42) ≤ R.locals) (hRcells : cells + 1 ≤ R.cells) (hRslots : slots + 6 ≤ R.slots) (hlocks : meth.locks = false)
    (hx : ∀ t : State, s.vm.Alike t.vm → t.heap.size = H.size + 1 → (∀ q : Nat, q < H.size → t.heap[q]? = H[q]?) → XC cls s t)
    (hf : ∀ z ∈ locs, free z.base) (hc : cells + 1 ≤ mc) (hs : slots + 6 ≤ ms) :
    W p l e R s m args below meth c H locs cells slots (vx_MQ below Qc XC args s mc ms free) (F0 m pc ls rest) := by
  intro T hT X
  have htr : e.platform.stackTraces = false := (show e.platform.stackTraces = l.stackTraces by rw [X.admits.platform]).trans hl
  have Y := vx_rebase X (R' := { frames := R.frames, locals := R.locals, cells := 1, slots := 6 }) (Nat.le_refl _) (Nat.le_refl _) hRcells hRslots
  obtain ⟨s', hA⟩ : ∃ z, z = (T.setVm s.vm).setFrames (.invoking m args :: below) := ⟨_, rfl⟩
  rw [← hA] at Y
  have hvm : s'.vm = s.vm := by rw [hA]; rfl
  have hhp : s'.heap = H := by rw [hA]; exact hT
  have hW0 : s.WarmedH s'.vm := by rw [hvm]; exact State.WarmedH.refl s
  have hat' : ∀ w ∈ vx_at0 own ic cls names, w.before args s' = true := fun w hw => vx_ot_at hW0 hvm.symm (hgood w (List.mem_cons_of_mem _ (List.mem_cons_of_mem _ hw))) (hat w hw)
  have hk' : (Cond.classLink own ik cls).before args s' = true := vx_ot_at hW0 hvm.symm (hgood _ List.mem_cons_self) hk
  have hini' : (Cond.initialized cls).before args s' = true := vx_ot_at hW0 hvm.symm (hgood _ (List.mem_cons_of_mem _ List.mem_cons_self)) hini
  have hU' : vx_Zq Bundle.tN "UNASSIGNED_STACK" Bundle.steD A s' s'.heap := by rw [hhp]; exact vx_Zq.moved hW0.alike (hU.kept hS.2.1)
  have hN' : vx_Zq Bundle.tN "SUPPRESSED_SENTINEL" Bundle.listD A s' s'.heap := by rw [hhp]; exact vx_Zq.moved hW0.alike (hN.kept hS.2.1)
  have h : ∀ w ∈ Bundle.ownAtoms0 own ic cls names, w.before args s' = true := vx_own hat' (vx_isRefq hU'.1) (vx_isRefq hN'.1) hU'.2.word hN'.2.word
  have hown' : s'.vm.findClass own = some m.cls := by rw [hvm]; exact hown
  have hins : (Cond.instantiable cls 6).before args s' = true := h _ (by simp [Bundle.ownAtoms0])
  obtain ⟨vm₁, cX, kX, hfX, hkX, -, -, X₁, st1⟩ := Y.newCold hexec (own := own) (C := cls) (index := ik) (n := 6) hown' hk' hins hini'
    (g := F0 m pc ls rest) rfl (by rw [hb]; exact d0) (Nat.le_refl _) (Nat.le_refl _)
  generalize hT1 : (T.setVm vm₁).pushCell { cls := cX, slots := kX.instanceTypes.map defaultValue, vm := .none } = T1 at X₁ st1
  have hcat : (Value.ref T.heap.size).category = 1 := rfl
  have hcellA : T1.heap[T.heap.size]? = some (freshCell cX kX) := by rw [← hT1]; exact State.heap_pushCell_size _ _
  have d3' : decode c.code (pc + 3) = .ok (.dup, 1) := by rw [hb]; exact d3
  obtain ⟨U, hsteps, hrun, hend, hW, hsame, ce, hce, hO⟩ := X₁.ctorThrow0 hexec htr (own := own) (cls := cls) (names := names) (ic := ic) hown' hcls hnames h (fun x hx => nomatch hx) hfX hkX hcellA (by rw [hhp, hT]; exact Nat.le_refl _)
    (g := { method := m, pc := pc + 4, locals := ls, stack := .ref T.heap.size :: .ref T.heap.size :: rest, locked := none }) rfl hsize rfl rfl (rest := rest) rfl
    (by rw [hb]; exact d4) (by rw [hb]; exact d7) hout hRframes (by simp only [List.map_cons, List.sum_cons, hcat]; omega) hlocks
  obtain ⟨f1, f2⟩ := vx_frame hsame
  rw [hhp] at f1 f2
  have f0 : U.heap.size = H.size + 1 := by
    have z1 : U.heap.size ≤ s'.heap.size + (0 + 1) := hsame.2.2.1
    rw [hhp] at z1
    have z2 := (Array.getElem?_eq_some_iff.mp hce).1
    rw [hT] at z2
    omega
  have hWs : s.WarmedH U.vm := State.WarmedH.trans hW0 hW
  have hcl : s.vm.findClass cls = some ce.cls := by
    have h9 := hO.cls
    rw [hvm] at h9
    exact h9
  have hall : s.sameButNew ({ U with vm := s.vm } : State) locs mc ms := by
    subst hA
    obtain ⟨e1, e2⟩ := hsame
    rw [State.setFrames_setFrames] at e1
    have h2 : (T.setVm s.vm).sameButNew ({ U with vm := s.vm } : State) [] (0 + 1) (0 + 6) := ⟨e1, e2⟩
    have h3 := X.same.trans h2
    rw [List.append_nil] at h3
    exact h3.mono hc hs
  refine ⟨U, ?_, .threw T.heap.size, hrun, hend, Or.inr ⟨T.heap.size, rfl, cls, ce, locs, hx U hWs.alike f0 (fun q hq => f2 q hq (fun z hz => nomatch hz)), hce, hO.vm, hcl, hWs, hall, hf⟩⟩
  refine st1 _ ?_
  show Steps p.tables e below (T1.setTop { method := m, pc := pc + 3, locals := ls, stack := .ref T.heap.size :: rest, locked := none }) _
  jvm_step X₁.here [X₁.here.top, hexec, d3', Value.category]
  exact hsteps
end XThrow
theorem cY_dflt : ∀ ci, ci < 8 → ∀ k, k < cN ci → defaultValue (cY ci k) = if isR ci k = true then .null else .int 0 := by decide +kernel
theorem wtr {s0 s U : State} (h1 : s0.WarmedH s.vm) (h2 : s.WarmedH U.vm) : s0.WarmedH U.vm := State.WarmedH.trans h1 h2
theorem G0.over {s0 s : State} {args : Array Value} {C : String} (g : G0 s0) (hW : s0.WarmedH s.vm) (hw : Cond.arrayOver (.object C) ∈ lw_tbl) : (Cond.arrayOver (.object C)).before args s = true := by
  obtain ⟨av, h⟩ := g
  exact va_AO.use (va_AO.moved hW.alike (va_AO.of (h _ hw)))
theorem goodCd (M : MI) : goodWord (cdw M) = true := by unfold cdw; split <;> rfl
/-- what a call needs of a method: an instance method, a static one, a constructor -/
def MV (M : MI) (ci n : Nat) : Prop := (ci < 8 ∧ (iY M).cls = cnm ci) ∧ Cond.instanceMethod (iY M) ∈ lw_tbl ∧ Cond.selects (iY M).cls (iY M) (iY M) ∈ lw_tbl ∧ Cond.initialized (iY M).cls ∈ lw_tbl ∧ cdw M ∈ lw_tbl ∧ ((iY M).cls ≠ "java/lang/invoke/MethodHandle" ∧ (iY M).cls ≠ "java/lang/invoke/VarHandle") ∧ (parseMethodDescriptor (iY M).desc).map (fun d => d.parameters.length) = some n
def MS (M : MI) (n : Nat) : Prop := Cond.static (iY M) ∈ lw_tbl ∧ Cond.initialized (iY M).cls ∈ lw_tbl ∧ cdw M ∈ lw_tbl ∧ ((iY M).cls ≠ "java/lang/invoke/MethodHandle" ∧ (iY M).cls ≠ "java/lang/invoke/VarHandle") ∧ (parseMethodDescriptor (iY M).desc).map (fun d => d.parameters.length) = some n
def MC (M : MI) (n : Nat) : Prop := (iY M).name = "<init>" ∧ Cond.instanceMethod (iY M) ∈ lw_tbl ∧ Cond.initialized (iY M).cls ∈ lw_tbl ∧ cdw M ∈ lw_tbl ∧ ((iY M).cls ≠ "java/lang/invoke/MethodHandle" ∧ (iY M).cls ≠ "java/lang/invoke/VarHandle") ∧ (parseMethodDescriptor (iY M).desc).map (fun d => d.parameters.length) = some n
theorem plen {d : String} {n : Nat} (h : (parseMethodDescriptor d).map (fun d => d.parameters.length) = some n) : ∀ sig, parseMethodDescriptor d = some sig → n = sig.parameters.length := fun sig e => by
  rw [e] at h
  exact (Option.some.inj h).symm
theorem C.met {s0 : State} {l : Launch} {M : MI} {av : List Value} {h hE : Mem} {v : Option Value} (k : C s0 l M av h (.inl v) hE) : Met l (iY M) [cdw M] (rmOf M h hE) (PcOf s0 l av h) (QcOf s0 (.inl v) hE) (mN hE - mN h) (mU hE - mU h) (frOf s0) := by
  intro p e ha hc hk s m args below hf happ hP hK
  obtain ⟨n, o, h1, h2, h3, h4⟩ := k.2 p e ha hc hk s m args below hf happ hP hK
  refine ⟨n, o, h1, h2, h3, ?_⟩
  rcases h4 with h4 | ⟨q, -, E, ce, L, ⟨hx, -⟩, -⟩
  · exact h4
  · cases hx
section Rules
variable {s0 : State} {l : Launch} {M : MI} {h0 : Mem} {pc : Nat} {L : List (Option Value)} {st : List Value} {h : Mem} {Q : Out → Mem → Prop}
theorem nw_mono {kd len n : Nat} {hE : Mem} (k : mN (nw h kd len n) ≤ mN hE ∧ mU (nw h kd len n) ≤ mU hE) : mN h ≤ mN hE ∧ mU h ≤ mU hE := by
  rw [mN_nw, mU_nw] at k
  omega
theorem q_new {idx ci : Nat} (hd : decode (iC M) pc = .ok (.new idx, 3)) (hci : ci < 8) (hl : Cond.classLink (iY M).cls idx (cnm ci) ∈ lw_tbl) (kk : RQ s0 l M h0 (pc + 3) L (.ref (mN h) :: st) (nw h (ci + 1) 0 (cN ci)) Q) : RQ s0 l M h0 pc L st h Q := by
  refine lift1 (h' := nw h (ci + 1) 0 (cN ci)) (fun _ _ k9 => ⟨nw_mono k9.1, fun p e s m args below meth c E H locs ls S => ?_⟩) kk
  have k1 := k9.1
  rw [mN_nw, mU_nw] at k1
  have s3 := S.2.2.2.1
  have s4 := S.2.2.2.2
  have hKn := kn E.g E.w hci
  refine W.newcK (C := cnm ci) (n := cN ci) E.1 E.2.1 E.own (E.g.word E.w hl rfl) (E.g.word E.w (cI_ok hci) rfl) (E.g.word E.w (cA_ok hci) rfl) rfl hd (by show _ ≤ mN _ - mN h0; omega) (by show _ ≤ mU _ - mU h0; omega) hKn.2.1 rfl (fun H9 kC hkC e1 z1 o1 => ?_)
  rw [S.1.1]
  have := k9.2 p e s m args below meth c E H9 locs ls ⟨S.1.newx z1 o1 (fun _ => ?_), S.2.1, S.2.2.1, by rw [mN_nw]; omega, by rw [mU_nw]; omega⟩
  · rw [mN_nw, mU_nw, show mN h + 1 - mN h0 = mN h - mN h0 + 1 by omega, show mU h + cN ci - mU h0 = mU h - mU h0 + cN ci by omega] at this
    exact this
  · obtain ⟨cell, q1, q2, q3, q4⟩ := u_born (cY ci) (uw (args := args) E.g E.w hci) (fun _ h => h) hKn hkC e1 (cY_ok hci)
    refine ⟨cell, q1, cOK_obj hci (by simp [mK_nw]) q2 q3 (fun j hj => ?_)⟩
    rw [q4 j hj]
    show some (defaultValue (cY ci j)) = _
    rw [cY_dflt ci hci j hj]
    unfold fV
    simp only [mR_nw, mI_nw, if_true]
    rfl
theorem q_newarray {at9 : ArrayType} {ty : FieldType} {kd : Nat} {n : Int32} (hd : decode (iC M) pc = .ok (.newarray at9, 2)) (hty : newarray.typeOf at9 = ty) (hkd : (kd = 11 ∧ ty = .int) ∨ (kd = 12 ∧ ty = .byte) ∨ (kd = 13 ∧ ty = .long)) (hw : Cond.arrayClass ty ∈ lw_tbl) (hn : ¬ n < 0) (hb : n.toNatClampNeg ≤ 10000000) (kk : RQ s0 l M h0 (pc + 2) L (.ref (mN h) :: st) (nw h kd n.toNatClampNeg n.toNatClampNeg) Q) : RQ s0 l M h0 pc L (.int n :: st) h Q := by
  refine lift1 (h' := nw h kd n.toNatClampNeg n.toNatClampNeg) (fun _ _ k9 => ⟨nw_mono k9.1, fun p e s m args below meth c E H locs ls S => ?_⟩) kk
  have k1 := k9.1
  rw [mN_nw, mU_nw] at k1
  have s3 := S.2.2.2.1
  have s4 := S.2.2.2.2
  subst hty
  refine W.newaK (N := n.toNatClampNeg) E.1 E.2.1 (E.g.word E.w hw rfl) rfl hd rfl hn rfl ?_ (by show _ ≤ mN _ - mN h0; omega) (by show _ ≤ mU _ - mU h0; omega) rfl (fun H9 cA e1 z1 o1 hA => ?_)
  · rcases hkd with ⟨-, h9⟩ | ⟨-, h9⟩ | ⟨-, h9⟩ <;> rw [h9] <;> simp only [componentBytes] <;> omega
  · rw [S.1.1]
    have := k9.2 p e s m args below meth c E H9 locs ls ⟨S.1.newx z1 o1 (fun _ => ?_), S.2.1, S.2.2.1, by rw [mN_nw]; omega, by rw [mU_nw]; omega⟩
    · rw [mN_nw, mU_nw, show mN h + 1 - mN h0 = mN h - mN h0 + 1 by omega, show mU h + n.toNatClampNeg - mU h0 = mU h - mU h0 + n.toNatClampNeg by omega] at this
      exact this
    · refine ⟨_, e1, ?_⟩
      have hK : mK (nw h kd n.toNatClampNeg n.toNatClampNeg) (mN h) = kd := by simp [mK_nw]
      have hL : mL (nw h kd n.toNatClampNeg n.toNatClampNeg) (mN h) = n.toNatClampNeg := by simp [mL_nw]
      have hi : ∀ (f : Nat → Value), (∀ j, f j = defaultValue (newarray.typeOf at9)) → aOK s0 (newarray.typeOf at9) n.toNatClampNeg f (arrV cA n.toNatClampNeg (fun _ => defaultValue (newarray.typeOf at9))) := fun f hf =>
        ⟨State.isArrayOf_alike E.w.alike.symm (hA _ _), (fun h9 => by cases h9), arrV_size _ _ _, by omega, fun j hj => by rw [arrV_read _ _ hj, hf j]⟩
      unfold cOK
      rw [hK, hL]
      rcases hkd with ⟨rfl, h9⟩ | ⟨rfl, h9⟩ | ⟨rfl, h9⟩
      · rw [if_pos (Or.inl rfl), ← h9]
        exact hi _ (fun j => by rw [h9, mI_nw, if_pos rfl]; rfl)
      · rw [if_neg (by decide), if_pos rfl, ← h9]
        exact hi _ (fun j => by rw [h9, mI_nw, if_pos rfl]; rfl)
      · rw [if_neg (by decide), if_neg (by decide), if_pos rfl, ← h9]
        exact hi _ (fun j => by rw [h9, mJ_nw, if_pos rfl]; rfl)
theorem q_anewarray {idx ci : Nat} {n : Int32} (hd : decode (iC M) pc = .ok (.anewarray idx, 3)) (hci : ci = 1 ∨ ci = 2) (hl : Cond.classLink (iY M).cls idx (cnm ci) ∈ lw_tbl) (hw : Cond.arrayOver (.object (cnm ci)) ∈ lw_tbl) (hn : ¬ n < 0) (hb : n.toNatClampNeg ≤ 10000000) (kk : RQ s0 l M h0 (pc + 3) L (.ref (mN h) :: st) (nw h (ci + 13) n.toNatClampNeg n.toNatClampNeg) Q) : RQ s0 l M h0 pc L (.int n :: st) h Q := by
  refine lift1 (h' := nw h (ci + 13) n.toNatClampNeg n.toNatClampNeg) (fun _ _ k9 => ⟨nw_mono k9.1, fun p e s m args below meth c E H locs ls S => ?_⟩) kk
  have k1 := k9.1
  rw [mN_nw, mU_nw] at k1
  have s3 := S.2.2.2.1
  have s4 := S.2.2.2.2
  refine W.anew (C := cnm ci) E.1 E.2.1 E.own (E.g.word E.w hl rfl) (E.g.over E.w hw) rfl hd rfl hn (by omega) (by show _ ≤ mN _ - mN h0; omega) (by show _ ≤ mU _ - mU h0; omega) (fun cA kA comp f1 f2 f3 f4 => ?_)
  rw [S.1.1]
  have hal := E.w.alike.symm
  obtain ⟨kA', hkA', heA⟩ := hal.2.2 _ _ f2
  have f3' : kA'.kind = .array comp (.object (cnm ci)) := by rw [heA]; exact f3
  have := k9.2 p e s m args below meth c E _ locs ls ⟨S.1.newx (H' := H.push { cls := cA, slots := Array.replicate n.toNatClampNeg .null, vm := .none }) (by simp) (fun q hq => by rw [Array.getElem?_push, if_neg (Nat.ne_of_lt hq)]) (fun _ => ?_), S.2.1, S.2.2.1, by rw [mN_nw]; omega, by rw [mU_nw]; omega⟩
  · rw [mN_nw, mU_nw, show mN h + 1 - mN h0 = mN h - mN h0 + 1 by omega, show mU h + n.toNatClampNeg - mU h0 = mU h - mU h0 + n.toNatClampNeg by omega] at this
    exact this
  · refine ⟨{ cls := cA, slots := Array.replicate n.toNatClampNeg .null, vm := .none }, by simp, ?_⟩
    have hK : mK (nw h (ci + 13) n.toNatClampNeg n.toNatClampNeg) (mN h) = ci + 13 := by simp [mK_nw]
    have hL : mL (nw h (ci + 13) n.toNatClampNeg n.toNatClampNeg) (mN h) = n.toNatClampNeg := by simp [mL_nw]
    have hr : rOK s0 (cnm ci) n.toNatClampNeg (fun j => va_rf (mR (nw h (ci + 13) n.toNatClampNeg n.toNatClampNeg) (mN h) j)) { cls := cA, slots := Array.replicate n.toNatClampNeg .null, vm := .none } := by
      refine ⟨⟨⟨(by intro k h9; cases h9), kA', hkA', comp, f3'⟩, (fun h9 => by cases h9), by simp, by omega, fun j hj => ?_⟩, kA', comp, hkA', f3', by rw [hal.findClass]; exact f4⟩
      simp [mR_nw, va_rf, hj]
    unfold cOK
    rw [hK, hL]
    rcases hci with rfl | rfl
    · rw [if_neg (by decide), if_neg (by decide), if_neg (by decide), if_pos (by decide)]
      exact hr
    · rw [if_neg (by decide), if_neg (by decide), if_neg (by decide), if_neg (by decide), if_pos (by decide)]
      exact hr
theorem q_objinit {idx a : Nat} (hd : decode (iC M) pc = .ok (.invokespecial idx, 3)) (hl : Cond.methodLink (iY M).cls idx Lib.objectInit ∈ lw_tbl) (h1 : Cond.instanceMethod Lib.objectInit ∈ lw_tbl) (h2 : Cond.code Lib.objectInit ⟨#[0xb1]⟩ 1 none ∈ lw_tbl) (hs : (st.map fun v => v.category).sum ≤ 8) (hr : 1 ≤ iF M ∧ 20 ≤ iW M) (kk : RQ s0 l M h0 (pc + 3) L st h Q) : RQ s0 l M h0 pc L (.ref a :: st) h Q := by
  refine lift1 (fun _ _ k9 => ⟨k9.1, fun p e s m args below meth c E H locs ls S => ?_⟩) kk
  refine W.objInit E.1 E.2.1 E.own (E.g.word E.w hl rfl) (E.g.word E.w h1 rfl) (E.g.word E.w h2 rfl) rfl (by rw [E.2.2.1]; exact S.2.2.1.1) rfl hd hr.1 ?_ (k9.2 p e s m args below meth c E H locs ls S)
  show 2 * 0 + _ + 12 ≤ iW M
  omega
theorem q_min {idx : Nat} {x y : Int32} (hd : decode (iC M) pc = .ok (.invokestatic idx, 3)) (hl : Cond.methodLink (iY M).cls idx Lib.Math.min.name ∈ lw_tbl) (h1 : Cond.static Lib.Math.min.name ∈ lw_tbl) (h2 : Cond.initialized "java/lang/Math" ∈ lw_tbl) (h3 : Cond.code Lib.Math.min.name Lib.Math.min.code 2 (some .int) ∈ lw_tbl) (hs : (st.map fun v => v.category).sum ≤ 8) (hr : 1 ≤ iF M ∧ 21 ≤ iW M) (kk : RQ s0 l M h0 (pc + 3) L (.int (if y < x then y else x) :: st) h Q) : RQ s0 l M h0 pc L (.int y :: .int x :: st) h Q := by
  refine lift1 (fun _ _ k9 => ⟨k9.1, fun p e s m args below meth c E H locs ls S => ?_⟩) kk
  have k1 := k9.1
  have s3 := S.2.2.2.1
  have s4 := S.2.2.2.2
  exact va_mmin E.1 E.2.1 (by rw [E.2.2.1]; exact S.2.2.1.1.symm) E.own (E.g.word E.w hl rfl) (E.g.word E.w h1 rfl) (E.g.word E.w h2 rfl) (E.g.word E.w h3 rfl) hr.1 (by show _ ≤ iW M; omega) (by show _ ≤ mN _ - mN h0; omega) (by show _ ≤ mU _ - mU h0; omega) hd (k9.2 p e s m args below meth c E H locs ls S)
theorem q_throw {ik ic : Nat} {cls : String} (hd0 : decode (iC M) pc = .ok (.new ik, 3)) (hd3 : decode (iC M) (pc + 3) = .ok (.dup, 1)) (hd4 : decode (iC M) (pc + 4) = .ok (.invokespecial ic, 3)) (hd7 : decode (iC M) (pc + 7) = .ok (.athrow, 1)) (hcls : Bundle.fit cls = true)
    (hk : Cond.classLink (iY M).cls ik cls ∈ lw_tbl) (hi : Cond.initialized cls ∈ lw_tbl) (hat : ∀ w ∈ vx_at0 (iY M).cls ic cls ["java/lang/RuntimeException", "java/lang/Exception"], w ∈ lw_tbl ∧ w.onTables = true ∧ (goodWord w = true ∨ w.keepsFace = true)) (hH : iH M = []) (hs : (st.map fun v => v.category).sum ≤ 8) (hr : 6 ≤ iF M ∧ 89 ≤ iW M) (hQ : Q (.inr cls) (nw h 0 0 6)) : RQ s0 l M h0 pc L st h Q := by
  refine ⟨.inr cls, nw h 0 0 6, ⟨⟨by rw [mN_nw]; omega, by rw [mU_nw]; omega⟩, fun p e s m args below meth c E H locs ls S => ?_⟩, hQ⟩
  have s3 := S.2.2.2.1
  have s4 := S.2.2.2.2
  have hfz : ∀ a : Nat, a < s0.heap.size → ¬ frOf s0 a → s.heap[a]? = s0.heap[a]? := fun a ha _ => E.froz a ha
  have hU := vx_Zq.moved E.w.alike (E.cx.2.2.1.kept hfz)
  have hN := vx_Zq.moved E.w.alike (E.cx.2.2.2.1.kept hfz)
  refine x_throw0 (names := ["java/lang/RuntimeException", "java/lang/Exception"]) E.1 E.2.1 E.cx.2.1 E.own hcls (by decide) (E.g.word E.w hk rfl) (E.g.word E.w hi rfl) (fun w hw => ?_) (fun w hw => ?_) hU hN (S.vaS E) (by rw [E.2.2.1]; exact S.2.2.1.1) hd0 hd3 hd4 hd7 ?_ (by show 2 + 3 < iF M; omega) (by show _ + (13 * (2 + 1) + 42) ≤ iW M; omega) ?_ ?_ E.2.2.2.2.1 (fun t _ z1 z2 => ⟨rfl, S.1.newx z1 z2 (fun h9 => absurd rfl h9)⟩) S.2.1 ?_ ?_
  · obtain ⟨w1, w2, w3⟩ := hat w hw
    rcases w3 with w3 | w3
    · exact E.g.word E.w w1 w3
    · exact E.g.face E.w w1 w3 w2
  · rcases List.mem_cons.mp hw with rfl | hw
    · rfl
    · rcases List.mem_cons.mp hw with rfl | hw
      · rfl
      · unfold vx_ot
        rw [(hat w hw).2.1]
        rfl
  · intro x hx
    rw [E.2.2.2.2.2.2.2.1, hH] at hx
    cases hx
  · show _ ≤ mN (nw h 0 0 6) - mN h0
    rw [mN_nw]; omega
  · show _ ≤ mU (nw h 0 0 6) - mU h0
    rw [mU_nw]; omega
  · rw [mN_nw]; omega
  · rw [mU_nw]; omega
end Rules
end
section
section Rules
variable {s0 : State} {l : Launch} {M M' : MI} {h0 : Mem} {pc : Nat} {L : List (Option Value)} {st0 rest : List Value} {h : Mem} {Q Q' : Out → Mem → Prop} {av As : List Value}
theorem call_q1 {o' : Out} {h1 : Mem} (hC : C s0 l M' av h o' h1) (hrun : ∀ hE, (mN h1 ≤ mN hE ∧ mU h1 ≤ mU hE) → ∀ (p : Program) (e : Env) (s : State) (m : MethodId) (args : Array Value) (below : List Frame) (meth : Method) (c : Code), EN s0 l M h0 p s m meth c → ∀ (H : Heap) (locs : List Loc) (ls : Array Slot), ST s0 M h0 h L H locs ls →
      vx_Run p l e (rmOf M h0 hE) s m args below meth c H locs (mN h - mN h0) (mU h - mU h0) (mN h1 - mN h) (mU h1 - mU h) (F0 m pc ls st0) rest (QcOf s0 o' h1 av.toArray) (XcOf s0 o' h1) (frOf s0))
    (k1 : ∀ v, o' = .inl v → RQ s0 l M h0 (pc + 3) L (v.toList ++ rest) h1 Q) (k2 : ∀ E0, o' = .inr E0 → RQX s0 l M h0 pc L E0 h1 Q) : RQ s0 l M h0 pc L st0 h Q := by
  have hm := hC.1
  cases o' with
  | inl v =>
    obtain ⟨o, hE, k, b⟩ := k1 v rfl
    refine ⟨o, hE, ⟨⟨Nat.le_trans hm.1 k.1.1, Nat.le_trans hm.2 k.1.2⟩, fun p e s m args below meth c E H locs ls S => ?_⟩, b⟩
    have s3 := S.2.2.2.1
    have s4 := S.2.2.2.2
    intro T hT X
    rcases hrun _ k.1 p e s m args below meth c E H locs ls S T hT X with ⟨v', st₀, t, T', Lc, -, X', hL, e1, -, ⟨v'', hv, hv2, hRep⟩, stp⟩ | ⟨q9, st₀, t, T', Lc, E9, ce, -, -, -, -, -, ⟨hx, -⟩, -⟩
    · cases hv
      cases hv2
      rw [show mN h - mN h0 + (mN h1 - mN h) = mN h1 - mN h0 by omega, show mU h - mU h0 + (mU h1 - mU h) = mU h1 - mU h0 by omega] at X'
      obtain ⟨t2, a1, b1⟩ := k.2 p e s m args below meth c E T'.heap (locs ++ Lc) ls ⟨by rw [e1]; exact hRep, fun z hz => (List.mem_append.mp hz).elim (S.2.1 z) (hL z), S.2.2.1, by omega, by omega⟩ T' rfl X'
      exact ⟨t2, stp t2 a1, b1⟩
    · cases hx
  | inr E0 =>
    obtain ⟨o, hE, k, b⟩ := k2 E0 rfl
    refine ⟨o, hE, ⟨⟨Nat.le_trans hm.1 k.1.1, Nat.le_trans hm.2 k.1.2⟩, fun p e s m args below meth c E H locs ls S => ?_⟩, b⟩
    have s3 := S.2.2.2.1
    have s4 := S.2.2.2.2
    intro T hT X
    rcases hrun _ k.1 p e s m args below meth c E H locs ls S T hT X with ⟨v', st₀, t, T', Lc, -, X', hL, e1, -, ⟨v'', hv, hv2, hRep⟩, stp⟩ | ⟨q9, st₀, t, T', Lc, E9, ce, -, X', hL, e1, -, ⟨hx, hRep⟩, hce, hcv, hcl, stp⟩
    · cases hv
    · cases hx
      rw [show mN h - mN h0 + (mN h1 - mN h) = mN h1 - mN h0 by omega, show mU h - mU h0 + (mU h1 - mU h) = mU h1 - mU h0 by omega] at X'
      obtain ⟨t2, a1, b1⟩ := k.2 p e s m args below meth c E T'.heap (locs ++ Lc) ls rest q9 ce ⟨by rw [e1]; exact hRep, fun z hz => (List.mem_append.mp hz).elim (S.2.1 z) (hL z), S.2.2.1, by omega, by omega⟩ (by rw [e1]; exact hce) hcv hcl T' rfl X'
      exact ⟨t2, stp.trans a1, b1⟩
theorem call_q (hrun : ∀ o' h1 hE, C s0 l M' av h o' h1 → (mN h1 ≤ mN hE ∧ mU h1 ≤ mU hE) → ∀ (p : Program) (e : Env) (s : State) (m : MethodId) (args : Array Value) (below : List Frame) (meth : Method) (c : Code), EN s0 l M h0 p s m meth c → ∀ (H : Heap) (locs : List Loc) (ls : Array Slot), ST s0 M h0 h L H locs ls →
      vx_Run p l e (rmOf M h0 hE) s m args below meth c H locs (mN h - mN h0) (mU h - mU h0) (mN h1 - mN h) (mU h1 - mU h) (F0 m pc ls st0) rest (QcOf s0 o' h1 av.toArray) (XcOf s0 o' h1) (frOf s0))
    (hc : CQ s0 l M' av h Q') (k1 : ∀ v h1, Q' (.inl v) h1 → RQ s0 l M h0 (pc + 3) L (v.toList ++ rest) h1 Q) (k2 : ∀ E0 h1, Q' (.inr E0) h1 → RQX s0 l M h0 pc L E0 h1 Q) : RQ s0 l M h0 pc L st0 h Q := by
  obtain ⟨o', h1, hC, q⟩ := hc
  exact call_q1 hC (fun hE => hrun o' h1 hE hC) (fun v e => k1 v h1 (e ▸ q)) (fun E0 e => k2 E0 h1 (e ▸ q))
theorem cd_code (hH : iH M' = []) : cdw M' = .code (iY M') (iC M') (iL M') (iR M') := by unfold cdw; rw [if_pos hH]
theorem cd_with (hH : iH M' ≠ []) : cdw M' = .codeWith (iY M') (iC M') (iL M') (iR M') (iH M') := by unfold cdw; rw [if_neg hH]
theorem ws_at {s : State} (g : G0 s0) (hW : s0.WarmedH s.vm) (hw : cdw M' ∈ lw_tbl) : ∀ w ∈ [cdw M'], ∀ (a' : Array Value) (U : State), s.WarmedH U.vm → w.before a' U = true := fun w h9 a' U hU => by
  rw [List.mem_singleton.mp h9]
  exact g.word (wtr hW hU) hw (goodCd M')
theorem rm_le {a b c d : Nat} (h1 : a ≤ b) (h2 : b ≤ c) (h3 : c ≤ d) : b - a + (c - b) ≤ d - a := by omega
/-- a virtual call; the callee has no handlers -/
theorem q_callV {idx ci n b : Nat} (hd : decode (iC M) pc = .ok (.invokevirtual idx, 3)) (hl : Cond.methodLink (iY M).cls idx (iY M') ∈ lw_tbl) (mv : MV M' ci n) (hH : iH M' = []) (hk : mK h b = ci + 1) (hn : As.length = n) (hs : st0 = As.reverse ++ .ref b :: rest) (hw : (rest.map fun v => v.category).sum ≤ 8) (hr : iF M' + 1 ≤ iF M ∧ 8 + (iL M' + 11) + iW M' ≤ iW M)
    (hc : CQ s0 l M' (.ref b :: As) h Q') (k1 : ∀ v h1, Q' (.inl v) h1 → RQ s0 l M h0 (pc + 3) L (v.toList ++ rest) h1 Q) (k2 : ∀ E0 h1, Q' (.inr E0) h1 → RQX s0 l M h0 pc L E0 h1 Q) : RQ s0 l M h0 pc L st0 h Q := by
  refine call_q (fun o' h1 hE hC hm p e s m args below meth c E H locs ls S => ?_) hc k1 k2
  obtain ⟨⟨m0, m1⟩, m2, m3, m4, m5, m6, m7⟩ := mv
  obtain ⟨cell, c1, c2, c3, -⟩ := S.1.obj m0 hk
  have hcw : Cond.code (iY M') (iC M') (iL M') (iR M') ∈ [cdw M'] := by rw [cd_code hH]; exact List.mem_cons_self
  exact vx_runV (Ts := []) (bytes := iC M') (maxL := iL M') (ret := iR M') (own := (iY M).cls) ⟨E.1, E.2.1, E.2.2.1, E.own, fun w h9 => absurd h9 List.not_mem_nil⟩ hC.2
    ⟨⟨rfl, rfl, hr.1, hr.2, ws_at E.g E.w m5, hcw, by rw [← cd_code hH]; exact E.g.word E.w m5 (goodCd M'), E.g.word E.w m4 rfl, m6, plen m7, E.g.word E.w hl rfl⟩, E.g.word E.w m2 rfl, E.g.word E.w m3 rfl⟩
    ⟨PcOf.blind, ⟨cell, c1, by rw [c3]; rfl, by rw [c2, m1]; exact (kn E.g E.w m0).2.1⟩, fun U hU hW => ⟨rfl, wtr E.w hW, by rw [hU]; exact S.1, E.cx⟩⟩ rfl hn S.2.2.1.1 hs (by show 2 * 0 + _ ≤ 8; omega) hd ⟨rm_le S.2.2.2.1 hC.1.1 hm.1, rm_le S.2.2.2.2 hC.1.2 hm.2⟩
/-- a virtual call; the callee has handlers -/
theorem q_callVH {idx ci n b : Nat} (hd : decode (iC M) pc = .ok (.invokevirtual idx, 3)) (hl : Cond.methodLink (iY M).cls idx (iY M') ∈ lw_tbl) (mv : MV M' ci n) (hH : iH M' ≠ []) (hk : mK h b = ci + 1) (hn : As.length = n) (hs : st0 = As.reverse ++ .ref b :: rest) (hw : (rest.map fun v => v.category).sum ≤ 8) (hr : iF M' + 1 ≤ iF M ∧ 8 + (iL M' + 11) + iW M' ≤ iW M)
    (hc : CQ s0 l M' (.ref b :: As) h Q') (k1 : ∀ v h1, Q' (.inl v) h1 → RQ s0 l M h0 (pc + 3) L (v.toList ++ rest) h1 Q) (k2 : ∀ E0 h1, Q' (.inr E0) h1 → RQX s0 l M h0 pc L E0 h1 Q) : RQ s0 l M h0 pc L st0 h Q := by
  refine call_q (fun o' h1 hE hC hm p e s m args below meth c E H locs ls S => ?_) hc k1 k2
  obtain ⟨⟨m0, m1⟩, m2, m3, m4, m5, m6, m7⟩ := mv
  obtain ⟨cell, c1, c2, c3, -⟩ := S.1.obj m0 hk
  have hcw : Cond.codeWith (iY M') (iC M') (iL M') (iR M') (iH M') ∈ [cdw M'] := by rw [cd_with hH]; exact List.mem_cons_self
  exact vx_runVX (Ts := []) (hh := iH M') (bytes := iC M') (maxL := iL M') (ret := iR M') (own := (iY M).cls) ⟨E.1, E.2.1, E.2.2.1, E.own, fun w h9 => absurd h9 List.not_mem_nil⟩ hC.2
    ⟨⟨rfl, rfl, hr.1, hr.2, ws_at E.g E.w m5, hcw⟩, by rw [← cd_with hH]; exact E.g.word E.w m5 (goodCd M'), E.g.word E.w m4 rfl, m6, plen m7, E.g.word E.w hl rfl, E.g.word E.w m2 rfl, E.g.word E.w m3 rfl⟩
    ⟨PcOf.blind, ⟨cell, c1, by rw [c3]; rfl, by rw [c2, m1]; exact (kn E.g E.w m0).2.1⟩, fun U hU hW => ⟨rfl, wtr E.w hW, by rw [hU]; exact S.1, E.cx⟩⟩ rfl hn S.2.2.1.1 hs (by show 2 * 0 + _ ≤ 8; omega) hd ⟨rm_le S.2.2.2.1 hC.1.1 hm.1, rm_le S.2.2.2.2 hC.1.2 hm.2⟩
theorem q_callS {idx n : Nat} (hd : decode (iC M) pc = .ok (.invokestatic idx, 3)) (hl : Cond.methodLink (iY M).cls idx (iY M') ∈ lw_tbl) (mv : MS M' n) (hH : iH M' = []) (hn : As.length = n) (hs : st0 = As.reverse ++ rest) (hw : (rest.map fun v => v.category).sum ≤ 8) (hr : iF M' + 1 ≤ iF M ∧ 8 + (iL M' + 11) + iW M' ≤ iW M)
    (hc : CQ s0 l M' As h Q') (k1 : ∀ v h1, Q' (.inl v) h1 → RQ s0 l M h0 (pc + 3) L (v.toList ++ rest) h1 Q) (k2 : ∀ E0 h1, Q' (.inr E0) h1 → RQX s0 l M h0 pc L E0 h1 Q) : RQ s0 l M h0 pc L st0 h Q := by
  refine call_q (fun o' h1 hE hC hm p e s m args below meth c E H locs ls S => ?_) hc k1 k2
  obtain ⟨m2, m4, m5, m6, m7⟩ := mv
  have hcw : Cond.code (iY M') (iC M') (iL M') (iR M') ∈ [cdw M'] := by rw [cd_code hH]; exact List.mem_cons_self
  exact vx_runS (Ts := []) (bytes := iC M') (maxL := iL M') (ret := iR M') (own := (iY M).cls) ⟨E.1, E.2.1, E.2.2.1, E.own, fun w h9 => absurd h9 List.not_mem_nil⟩ hC.2
    ⟨⟨rfl, rfl, hr.1, hr.2, ws_at E.g E.w m5, hcw, by rw [← cd_code hH]; exact E.g.word E.w m5 (goodCd M'), E.g.word E.w m4 rfl, m6, plen m7, E.g.word E.w hl rfl⟩, E.g.word E.w m2 rfl⟩
    ⟨PcOf.blind, fun U hU hW => ⟨rfl, wtr E.w hW, by rw [hU]; exact S.1, E.cx⟩⟩ rfl hn S.2.2.1.1 hs (by show 2 * 0 + _ ≤ 8; omega) hd ⟨rm_le S.2.2.2.1 hC.1.1 hm.1, rm_le S.2.2.2.2 hC.1.2 hm.2⟩
theorem q_callSH {idx n : Nat} (hd : decode (iC M) pc = .ok (.invokestatic idx, 3)) (hl : Cond.methodLink (iY M).cls idx (iY M') ∈ lw_tbl) (mv : MS M' n) (hH : iH M' ≠ []) (hn : As.length = n) (hs : st0 = As.reverse ++ rest) (hw : (rest.map fun v => v.category).sum ≤ 8) (hr : iF M' + 1 ≤ iF M ∧ 8 + (iL M' + 11) + iW M' ≤ iW M)
    (hc : CQ s0 l M' As h Q') (k1 : ∀ v h1, Q' (.inl v) h1 → RQ s0 l M h0 (pc + 3) L (v.toList ++ rest) h1 Q) (k2 : ∀ E0 h1, Q' (.inr E0) h1 → RQX s0 l M h0 pc L E0 h1 Q) : RQ s0 l M h0 pc L st0 h Q := by
  refine call_q (fun o' h1 hE hC hm p e s m args below meth c E H locs ls S => ?_) hc k1 k2
  obtain ⟨m2, m4, m5, m6, m7⟩ := mv
  have hcw : Cond.codeWith (iY M') (iC M') (iL M') (iR M') (iH M') ∈ [cdw M'] := by rw [cd_with hH]; exact List.mem_cons_self
  exact vx_runSX (Ts := []) (hh := iH M') (bytes := iC M') (maxL := iL M') (ret := iR M') (own := (iY M).cls) ⟨E.1, E.2.1, E.2.2.1, E.own, fun w h9 => absurd h9 List.not_mem_nil⟩ hC.2
    ⟨⟨rfl, rfl, hr.1, hr.2, ws_at E.g E.w m5, hcw⟩, by rw [← cd_with hH]; exact E.g.word E.w m5 (goodCd M'), E.g.word E.w m4 rfl, m6, plen m7, E.g.word E.w hl rfl, E.g.word E.w m2 rfl⟩
    ⟨PcOf.blind, fun U hU hW => ⟨rfl, wtr E.w hW, by rw [hU]; exact S.1, E.cx⟩⟩ rfl hn S.2.2.1.1 hs (by show 2 * 0 + _ ≤ 8; omega) hd ⟨rm_le S.2.2.2.1 hC.1.1 hm.1, rm_le S.2.2.2.2 hC.1.2 hm.2⟩
/-- calls that only return: constructors, and private members of a nest mate -/
theorem run_vx {p : Program} {e : Env} {R9 : Room} {s : State} {m : MethodId} {args : Array Value} {below : List Frame} {meth : Method} {c : Code} {H : Heap} {locs : List Loc} {cells slots mc ms : Nat} {g : JFrame} {Qa : State → Outcome → State → Prop} {XC : String → State → State → Prop} {free : Addr → Prop} (hr : va_Run p l e R9 s m args below meth c H locs cells slots mc ms g rest Qa free) : vx_Run p l e R9 s m args below meth c H locs cells slots mc ms g rest Qa XC free := fun T hT X => Or.inl (hr T hT X)
theorem q_callI {idx n b : Nat} {Q1 : Mem → Prop} (hd : decode (iC M) pc = .ok (.invokespecial idx, 3)) (hl : Cond.methodLink (iY M).cls idx (iY M') ∈ lw_tbl) (mv : MC M' n) (hH : iH M' = []) (hR : iR M' = none) (hn : As.length = n) (hs : st0 = As.reverse ++ .ref b :: rest) (hw : (rest.map fun v => v.category).sum ≤ 8) (hr : iF M' + 1 ≤ iF M ∧ 8 + (iL M' + 11) + iW M' ≤ iW M)
    (hc : CQ s0 l M' (.ref b :: As) h (fun o h1 => o = .inl none ∧ Q1 h1)) (k1 : ∀ h1, Q1 h1 → RQ s0 l M h0 (pc + 3) L rest h1 Q) : RQ s0 l M h0 pc L st0 h Q := by
  obtain ⟨o9, h9, hC, rfl, q9⟩ := hc
  refine call_q1 hC (fun hE hm p e s m args below meth c E H locs ls S => ?_) (fun v e => by cases e; exact k1 _ q9) (fun E0 e => by cases e)
  obtain ⟨m1, m2, m4, m5, m6, m7⟩ := mv
  have hcd : cdw M' = .code (iY M') (iC M') (iL M') none := by rw [← hR]; exact cd_code hH
  have hcw : Cond.code (iY M') (iC M') (iL M') none ∈ [cdw M'] := by rw [hcd]; exact List.mem_cons_self
  exact run_vx (va_runI (Ts := []) (bytes := iC M') (maxL := iL M') (own := (iY M).cls) ⟨E.1, E.2.1, E.2.2.1, E.own, fun w h9 => absurd h9 List.not_mem_nil⟩ hC.met
    ⟨⟨rfl, rfl, hr.1, hr.2, ws_at E.g E.w m5, hcw, by rw [← hcd]; exact E.g.word E.w m5 (goodCd M'), E.g.word E.w m4 rfl, m6, plen m7, E.g.word E.w hl rfl⟩, m1, E.g.word E.w m2 rfl⟩
    ⟨PcOf.blind, fun U hU hW => ⟨rfl, wtr E.w hW, by rw [hU]; exact S.1, E.cx⟩⟩ rfl hn S.2.2.1.1 hs (by show 2 * 0 + _ ≤ 8; omega) hd ⟨rm_le S.2.2.2.1 hC.1.1 hm.1, rm_le S.2.2.2.2 hC.1.2 hm.2⟩)
theorem G0.nest {s : State} {a : String} {i : Nat} {x : MethodName} {hh : String} (g : G0 s0) (hW : s0.WarmedH s.vm) (hw : Cond.methodLinkNest a i x hh ∈ lw_tbl) : va_Nw (.methodLinkNest a i x hh) s := by
  obtain ⟨av, h⟩ := g
  exact va_Nw.warmM hW (va_Nw.of rfl (h _ hw))
theorem q_callIN {idx n b : Nat} {Q1 : Mem → Prop} (hd : decode (iC M) pc = .ok (.invokespecial idx, 3)) (hl : Cond.methodLinkNest (iY M).cls idx (iY M') "ReelReader" ∈ lw_tbl) (mv : MC M' n) (hH : iH M' = []) (hR : iR M' = none) (hn : As.length = n) (hs : st0 = As.reverse ++ .ref b :: rest) (hw : (rest.map fun v => v.category).sum ≤ 8) (hr : iF M' + 1 ≤ iF M ∧ 8 + (iL M' + 11) + iW M' ≤ iW M)
    (hc : CQ s0 l M' (.ref b :: As) h (fun o h1 => o = .inl none ∧ Q1 h1)) (k1 : ∀ h1, Q1 h1 → RQ s0 l M h0 (pc + 3) L rest h1 Q) : RQ s0 l M h0 pc L st0 h Q := by
  obtain ⟨o9, h9, hC, rfl, q9⟩ := hc
  refine call_q1 hC (fun hE hm p e s m args below meth c E H locs ls S => ?_) (fun v e => by cases e; exact k1 _ q9) (fun E0 e => by cases e)
  obtain ⟨m1, m2, m4, m5, m6, m7⟩ := mv
  have hcd : cdw M' = .code (iY M') (iC M') (iL M') none := by rw [← hR]; exact cd_code hH
  have hcw : Cond.code (iY M') (iC M') (iL M') none ∈ [cdw M'] := by rw [hcd]; exact List.mem_cons_self
  exact run_vx (va_runIN (Ts := []) (bytes := iC M') (maxL := iL M') (own := (iY M).cls) (host := "ReelReader") ⟨E.1, E.2.1, E.2.2.1, E.own, fun w h9 => absurd h9 List.not_mem_nil⟩ hC.met
    ⟨⟨⟨rfl, rfl, hr.1, hr.2, ws_at E.g E.w m5, hcw⟩, by rw [← hcd]; exact E.g.word E.w m5 (goodCd M'), E.g.word E.w m4 rfl, m6, plen m7, va_Nw.use rfl (E.g.nest E.w hl)⟩, m1, E.g.word E.w m2 rfl⟩
    ⟨PcOf.blind, fun U hU hW => ⟨rfl, wtr E.w hW, by rw [hU]; exact S.1, E.cx⟩⟩ rfl hn S.2.2.1.1 hs (by show 2 * 0 + _ ≤ 8; omega) hd ⟨rm_le S.2.2.2.1 hC.1.1 hm.1, rm_le S.2.2.2.2 hC.1.2 hm.2⟩)
theorem q_callSN {idx n : Nat} {Q1 : Option Value → Mem → Prop} (hd : decode (iC M) pc = .ok (.invokestatic idx, 3)) (hl : Cond.methodLinkNest (iY M).cls idx (iY M') "ReelReader" ∈ lw_tbl) (mv : MS M' n) (hH : iH M' = []) (hn : As.length = n) (hs : st0 = As.reverse ++ rest) (hw : (rest.map fun v => v.category).sum ≤ 8) (hr : iF M' + 1 ≤ iF M ∧ 8 + (iL M' + 11) + iW M' ≤ iW M)
    (hc : CQ s0 l M' As h (fun o h1 => ∃ v, o = .inl v ∧ Q1 v h1)) (k1 : ∀ v h1, Q1 v h1 → RQ s0 l M h0 (pc + 3) L (v.toList ++ rest) h1 Q) : RQ s0 l M h0 pc L st0 h Q := by
  obtain ⟨o9, h9, hC, v9, rfl, q9⟩ := hc
  refine call_q1 hC (fun hE hm p e s m args below meth c E H locs ls S => ?_) (fun v e => by cases e; exact k1 _ _ q9) (fun E0 e => by cases e)
  obtain ⟨m2, m4, m5, m6, m7⟩ := mv
  have hcw : Cond.code (iY M') (iC M') (iL M') (iR M') ∈ [cdw M'] := by rw [cd_code hH]; exact List.mem_cons_self
  exact run_vx (va_runSN (Ts := []) (bytes := iC M') (maxL := iL M') (ret := iR M') (own := (iY M).cls) (host := "ReelReader") ⟨E.1, E.2.1, E.2.2.1, E.own, fun w h9 => absurd h9 List.not_mem_nil⟩ hC.met
    ⟨⟨⟨rfl, rfl, hr.1, hr.2, ws_at E.g E.w m5, hcw⟩, by rw [← cd_code hH]; exact E.g.word E.w m5 (goodCd M'), E.g.word E.w m4 rfl, m6, plen m7, va_Nw.use rfl (E.g.nest E.w hl)⟩, E.g.word E.w m2 rfl, trivial⟩
    ⟨PcOf.blind, fun U hU hW => ⟨rfl, wtr E.w hW, by rw [hU]; exact S.1, E.cx⟩⟩ rfl hn S.2.2.1.1 hs (by show 2 * 0 + _ ≤ 8; omega) hd ⟨rm_le S.2.2.2.1 hC.1.1 hm.1, rm_le S.2.2.2.2 hC.1.2 hm.2⟩)
/-- System.arraycopy of ints -/
theorem q_copy {idx a b : Nat} {sp dp n : Int32} (hd : decode (iC M) pc = .ok (.invokestatic idx, 3)) (hl : Cond.methodLink (iY M).cls idx arraycopyName ∈ lw_tbl) (w1 : Cond.native arraycopyName ∈ lw_tbl) (w2 : Cond.static arraycopyName ∈ lw_tbl) (w3 : Cond.initialized "java/lang/System" ∈ lw_tbl) (hka : mK h a = 11) (hkb : mK h b = 11) (h1 : ¬ sp < 0) (h2 : ¬ dp < 0) (h3 : ¬ n < 0) (h4 : sp.toNatClampNeg + n.toNatClampNeg ≤ mL h a) (h5 : dp.toNatClampNeg + n.toNatClampNeg ≤ mL h b)
    (hw : (rest.map fun v => v.category).sum ≤ 8) (hr : 1 ≤ iF M ∧ 40 ≤ iW M) (kk : RQ s0 l M h0 (pc + 3) L rest (cpI h a sp.toNatClampNeg b dp.toNatClampNeg n.toNatClampNeg) Q) : RQ s0 l M h0 pc L (.int n :: .int dp :: .ref b :: .int sp :: .ref a :: rest) h Q := by
  refine lift1 (h' := cpI h a sp.toNatClampNeg b dp.toNatClampNeg n.toNatClampNeg) (fun _ _ k9 => ⟨k9.1, fun p e s m args below meth c E H locs ls S => ?_⟩) kk
  obtain ⟨ca, a1, a2⟩ := S.1.a11 (Or.inl hka)
  obtain ⟨cb, b1, b2⟩ := S.1.a11 (Or.inl hkb)
  have ho := S.1.own (a := b) (by omega) (by omega)
  have nn : ∀ z : Int32, ¬ z < 0 → z.toInt = (z.toNatClampNeg : Int) := by
    intro z hz
    have hz0 : (0 : Int) ≤ z.toInt := by
      have := Int32.not_lt.mp hz
      simpa using Int32.le_iff_toInt_le.mp this
    show z.toInt = ((z.toInt.toNat : Nat) : Int)
    omega
  obtain ⟨a3, ka, hka1, cma, hkka⟩ := State.isArrayOf_alike E.w.alike a2.1
  obtain ⟨b3, kb, hkb1, cmb, hkkb⟩ := State.isArrayOf_alike E.w.alike b2.1
  have hroom : 2 * 0 + (rest.map fun v => v.category).sum + (nativeFrameWords "java/lang/System" "arraycopy" 5 + 11) ≤ iW M := by
    have h9 : nativeFrameWords "java/lang/System" "arraycopy" 5 + 11 ≤ 32 := by decide
    have h8 := hr.2
    omega
  intro T hT X
  obtain ⟨vm', X', step⟩ := X.arraycopy E.1 E.own (E.g.word E.w hl rfl) (E.g.word E.w w1 rfl) (E.g.word E.w w2 rfl) (E.g.word E.w w3 rfl) (src := a) (dst := b) (cs := ca) (cd := cb) (srcPos := sp) (destPos := dp) (n := n) (by rw [hT]; exact a1) (by rw [hT]; exact b1)
    a3 b3 a2.2.1 b2.2.1 hka1 hkb1 hkka hkkb rfl h1 h2 h3
    (by rw [nn sp h1, nn n h3, a2.2.2.1]; omega)
    (by rw [nn dp h2, nn n h3, b2.2.2.1]; omega)
    (fun vm₁ _ i hi => by
      have e9 : ca.slots.getD (sp.toNatClampNeg + i) .null = .int (mI h a (sp.toNatClampNeg + i)) := by
        rw [Array.getD_eq_getD_getElem?, a2.2.2.2.2 _ (by omega)]
        rfl
      rw [e9]
      exact ⟨rfl, trivial⟩)
    (g := F0 m pc ls (.int n :: .int dp :: .ref b :: .int sp :: .ref a :: rest)) rfl (by rw [E.2.2.1]; exact S.2.2.1.1) (rest := rest) rfl (by rw [E.2.1]; exact hd) hr.1 hroom
  have hlb : b < H.size := (Array.getElem?_eq_some_iff.mp b1).1
  obtain ⟨f1, f2, f3⟩ := Cell.storeRun_facts cb dp.toNatClampNeg (ca.stretch sp.toNatClampNeg n.toNatClampNeg)
  have hlen : (ca.stretch sp.toNatClampNeg n.toNatClampNeg).length = n.toNatClampNeg := by simp [Cell.stretch]
  have hrep : Rep s0 (cpI h a sp.toNatClampNeg b dp.toNatClampNeg n.toNatClampNeg) (H.setIfInBounds b (copied ca cb sp dp n)) := by
    refine S.1.upd (a := b) (cell' := copied ca cb sp dp n) ho (by simp [Array.getElem?_setIfInBounds, hlb]) (by simp) (fun q hq => by simp [Array.getElem?_setIfInBounds, Ne.symm hq]) rfl (fun c9 hc9 => ⟨rfl, rfl, fun i => by simp [mI_cpI, hc9], fun i => rfl, fun i => rfl⟩) (fun _ => ?_)
    unfold cOK
    rw [if_pos (Or.inl (by rw [mK_cpI]; exact hkb))]
    refine ⟨?_, by rw [f2]; exact b2.2.1, by rw [f3.1]; exact b2.2.2.1, b2.2.2.2.1, fun j hj => ?_⟩
    · obtain ⟨q1, kk1, q2, q3⟩ := b2.1
      exact ⟨fun k9 => by rw [f2]; exact q1 k9, kk1, by rw [f1]; exact q2, q3⟩
    · rw [Cell.storeRun_get _ _ _ _ (by rw [hlen, b2.2.2.1]; exact h5), hlen]
      show _ = some (Value.int (mI (cpI h a sp.toNatClampNeg b dp.toNatClampNeg n.toNatClampNeg) b j))
      rw [mI_cpI]
      by_cases hj9 : dp.toNatClampNeg ≤ j ∧ j < dp.toNatClampNeg + n.toNatClampNeg
      · rw [if_pos hj9, if_pos ⟨rfl, hj9⟩]
        unfold Cell.stretch
        rw [List.getElem?_map, List.getElem?_range (by omega)]
        simp only [Option.map_some]
        rw [Array.getD_eq_getD_getElem?, a2.2.2.2.2 _ (by omega)]
        rfl
      · rw [if_neg hj9, if_neg (fun z => hj9 z.2)]
        exact b2.2.2.2.2 j hj
  have hloc : ∀ q ∈ locs ++ (ca.stretch sp.toNatClampNeg n.toNatClampNeg).zipIdx.map (fun q => (⟨b, dp.toNatClampNeg + q.2⟩ : Loc)), frOf s0 q.base := fun q hq => by
    rcases List.mem_append.mp hq with h9 | h9
    · exact S.2.1 q h9
    · obtain ⟨z, -, hz⟩ := List.mem_map.mp h9
      rw [← hz]
      exact ho
  obtain ⟨t, t1, t2⟩ := k9.2 p e s m args below meth c E (H.setIfInBounds b (copied ca cb sp dp n)) _ ls ⟨hrep, hloc, S.2.2⟩ ((T.setVm vm').setCell b (copied ca cb sp dp n)) (by rw [← hT]; rfl) X'
  exact ⟨t, step t t1, t2⟩
end Rules
end
