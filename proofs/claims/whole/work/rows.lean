section
-- ===== PART A: goes FIRST, ahead of the names: the tables' words, and 'selects' of the private methods out of them =====
/-- a private method of a class that the tables say can be made, by its rows of tables_1 -/
def lw_okq (q : MethodName × Nat) : Prop := (q.1.cls ≠ "java/lang/invoke/MethodHandle" ∧ q.1.cls ≠ "java/lang/invoke/VarHandle") ∧ Cond.instantiable q.1.cls q.2 ∈ tables_1 ∧ Cond.privateMethod q.1 ∈ tables_1 ∧ Cond.instanceMethod q.1 ∈ tables_1
theorem lw_p0 : lw_okq (⟨"HashPages$Disk", "place", "(ILHashPages$Page;)V"⟩, 8) := ⟨⟨by decide +kernel, by decide +kernel⟩, List.mem_of_getElem? (i := 25) (by decide +kernel), List.mem_of_getElem? (i := 114) (by decide +kernel), List.mem_of_getElem? (i := 115) (by decide +kernel)⟩
theorem lw_p1 : lw_okq (⟨"HashPages$Disk", "isPage", "(I)Z"⟩, 8) := ⟨⟨by decide +kernel, by decide +kernel⟩, List.mem_of_getElem? (i := 25) (by decide +kernel), List.mem_of_getElem? (i := 118) (by decide +kernel), List.mem_of_getElem? (i := 119) (by decide +kernel)⟩
theorem lw_p2 : lw_okq (⟨"HashPages$Disk", "lay", "(III)V"⟩, 8) := ⟨⟨by decide +kernel, by decide +kernel⟩, List.mem_of_getElem? (i := 25) (by decide +kernel), List.mem_of_getElem? (i := 129) (by decide +kernel), List.mem_of_getElem? (i := 130) (by decide +kernel)⟩
theorem lw_p3 : lw_okq (⟨"HashPages$Disk", "learnKinds", "()V"⟩, 8) := ⟨⟨by decide +kernel, by decide +kernel⟩, List.mem_of_getElem? (i := 25) (by decide +kernel), List.mem_of_getElem? (i := 175) (by decide +kernel), List.mem_of_getElem? (i := 176) (by decide +kernel)⟩
theorem lw_p4 : lw_okq (⟨"HashPages$Disk", "mark", "(II)V"⟩, 8) := ⟨⟨by decide +kernel, by decide +kernel⟩, List.mem_of_getElem? (i := 25) (by decide +kernel), List.mem_of_getElem? (i := 187) (by decide +kernel), List.mem_of_getElem? (i := 188) (by decide +kernel)⟩
theorem lw_p5 : lw_okq (⟨"java/lang/Throwable", "fillInStackTrace", "(I)Ljava/lang/Throwable;"⟩, 6) := ⟨⟨by decide +kernel, by decide +kernel⟩, List.mem_of_getElem? (i := 324) (by decide +kernel), List.mem_of_getElem? (i := 322) (by decide +kernel), List.mem_of_getElem? (i := 323) (by decide +kernel)⟩
theorem lw_p6 : lw_okq (⟨"HashPages", "makePlace", "(III)I"⟩, 7) := ⟨⟨by decide +kernel, by decide +kernel⟩, List.mem_of_getElem? (i := 17) (by decide +kernel), List.mem_of_getElem? (i := 415) (by decide +kernel), List.mem_of_getElem? (i := 416) (by decide +kernel)⟩
theorem lw_p7 : lw_okq (⟨"HashPages", "hasPlace", "(III)Z"⟩, 7) := ⟨⟨by decide +kernel, by decide +kernel⟩, List.mem_of_getElem? (i := 17) (by decide +kernel), List.mem_of_getElem? (i := 428) (by decide +kernel), List.mem_of_getElem? (i := 429) (by decide +kernel)⟩
theorem lw_p8 : lw_okq (⟨"HashPages$Disk", "hasKey", "(IILHashPages$Tape;I)Z"⟩, 8) := ⟨⟨by decide +kernel, by decide +kernel⟩, List.mem_of_getElem? (i := 25) (by decide +kernel), List.mem_of_getElem? (i := 436) (by decide +kernel), List.mem_of_getElem? (i := 437) (by decide +kernel)⟩
theorem lw_p9 : lw_okq (⟨"HashPages", "resizeDirectory", "(I)I"⟩, 7) := ⟨⟨by decide +kernel, by decide +kernel⟩, List.mem_of_getElem? (i := 17) (by decide +kernel), List.mem_of_getElem? (i := 454) (by decide +kernel), List.mem_of_getElem? (i := 455) (by decide +kernel)⟩
theorem lw_p10 : lw_okq (⟨"HashPages", "buildDirectoryPage", "(II)V"⟩, 7) := ⟨⟨by decide +kernel, by decide +kernel⟩, List.mem_of_getElem? (i := 17) (by decide +kernel), List.mem_of_getElem? (i := 474) (by decide +kernel), List.mem_of_getElem? (i := 475) (by decide +kernel)⟩
theorem lw_p11 : lw_okq (⟨"HashPages", "split", "(II)I"⟩, 7) := ⟨⟨by decide +kernel, by decide +kernel⟩, List.mem_of_getElem? (i := 17) (by decide +kernel), List.mem_of_getElem? (i := 504) (by decide +kernel), List.mem_of_getElem? (i := 505) (by decide +kernel)⟩
theorem lw_p12 : lw_okq (⟨"HashPages", "buildHalf", "(III)V"⟩, 7) := ⟨⟨by decide +kernel, by decide +kernel⟩, List.mem_of_getElem? (i := 17) (by decide +kernel), List.mem_of_getElem? (i := 512) (by decide +kernel), List.mem_of_getElem? (i := 513) (by decide +kernel)⟩
theorem lw_p13 : lw_okq (⟨"HashPages$Page", "countRecord", "(I)I"⟩, 1) := ⟨⟨by decide +kernel, by decide +kernel⟩, List.mem_of_getElem? (i := 64) (by decide +kernel), List.mem_of_getElem? (i := 528) (by decide +kernel), List.mem_of_getElem? (i := 529) (by decide +kernel)⟩
theorem lw_p14 : lw_okq (⟨"HashPages", "retell", "(III)Z"⟩, 7) := ⟨⟨by decide +kernel, by decide +kernel⟩, List.mem_of_getElem? (i := 17) (by decide +kernel), List.mem_of_getElem? (i := 534) (by decide +kernel), List.mem_of_getElem? (i := 535) (by decide +kernel)⟩
theorem lw_p15 : lw_okq (⟨"HashPages", "storeRecord", "(III)I"⟩, 7) := ⟨⟨by decide +kernel, by decide +kernel⟩, List.mem_of_getElem? (i := 17) (by decide +kernel), List.mem_of_getElem? (i := 539) (by decide +kernel), List.mem_of_getElem? (i := 540) (by decide +kernel)⟩
def lw_privs_1 : List (MethodName × Nat) := [(⟨"HashPages$Disk", "place", "(ILHashPages$Page;)V"⟩, 8), (⟨"HashPages$Disk", "isPage", "(I)Z"⟩, 8), (⟨"HashPages$Disk", "lay", "(III)V"⟩, 8), (⟨"HashPages$Disk", "learnKinds", "()V"⟩, 8), (⟨"HashPages$Disk", "mark", "(II)V"⟩, 8), (⟨"java/lang/Throwable", "fillInStackTrace", "(I)Ljava/lang/Throwable;"⟩, 6), (⟨"HashPages", "makePlace", "(III)I"⟩, 7), (⟨"HashPages", "hasPlace", "(III)Z"⟩, 7), (⟨"HashPages$Disk", "hasKey", "(IILHashPages$Tape;I)Z"⟩, 8), (⟨"HashPages", "resizeDirectory", "(I)I"⟩, 7), (⟨"HashPages", "buildDirectoryPage", "(II)V"⟩, 7), (⟨"HashPages", "split", "(II)I"⟩, 7), (⟨"HashPages", "buildHalf", "(III)V"⟩, 7), (⟨"HashPages$Page", "countRecord", "(I)I"⟩, 1), (⟨"HashPages", "retell", "(III)Z"⟩, 7), (⟨"HashPages", "storeRecord", "(III)I"⟩, 7)]
theorem lw_r1 : ∀ q ∈ lw_privs_1, lw_okq q := List.forall_mem_cons.mpr ⟨lw_p0, List.forall_mem_cons.mpr ⟨lw_p1, List.forall_mem_cons.mpr ⟨lw_p2, List.forall_mem_cons.mpr ⟨lw_p3, List.forall_mem_cons.mpr ⟨lw_p4, List.forall_mem_cons.mpr ⟨lw_p5, List.forall_mem_cons.mpr ⟨lw_p6, List.forall_mem_cons.mpr ⟨lw_p7, List.forall_mem_cons.mpr ⟨lw_p8, List.forall_mem_cons.mpr ⟨lw_p9, List.forall_mem_cons.mpr ⟨lw_p10, List.forall_mem_cons.mpr ⟨lw_p11, List.forall_mem_cons.mpr ⟨lw_p12, List.forall_mem_cons.mpr ⟨lw_p13, List.forall_mem_cons.mpr ⟨lw_p14, List.forall_mem_cons.mpr ⟨lw_p15, fun _ h => absurd h List.not_mem_nil⟩⟩⟩⟩⟩⟩⟩⟩⟩⟩⟩⟩⟩⟩⟩⟩
theorem lw_p16 : lw_okq (⟨"HashPages", "buildWithout", "(II)V"⟩, 7) := ⟨⟨by decide +kernel, by decide +kernel⟩, List.mem_of_getElem? (i := 17) (by decide +kernel), List.mem_of_getElem? (i := 543) (by decide +kernel), List.mem_of_getElem? (i := 544) (by decide +kernel)⟩
theorem lw_p17 : lw_okq (⟨"HashPages", "addRecordsBut", "(II)V"⟩, 7) := ⟨⟨by decide +kernel, by decide +kernel⟩, List.mem_of_getElem? (i := 17) (by decide +kernel), List.mem_of_getElem? (i := 547) (by decide +kernel), List.mem_of_getElem? (i := 548) (by decide +kernel)⟩
theorem lw_p18 : lw_okq (⟨"HashPages", "mergeAll", "(I)I"⟩, 7) := ⟨⟨by decide +kernel, by decide +kernel⟩, List.mem_of_getElem? (i := 17) (by decide +kernel), List.mem_of_getElem? (i := 565) (by decide +kernel), List.mem_of_getElem? (i := 566) (by decide +kernel)⟩
theorem lw_p19 : lw_okq (⟨"HashPages", "mergePartner", "(I)I"⟩, 7) := ⟨⟨by decide +kernel, by decide +kernel⟩, List.mem_of_getElem? (i := 17) (by decide +kernel), List.mem_of_getElem? (i := 569) (by decide +kernel), List.mem_of_getElem? (i := 570) (by decide +kernel)⟩
theorem lw_p20 : lw_okq (⟨"HashPages", "merge", "(II)I"⟩, 7) := ⟨⟨by decide +kernel, by decide +kernel⟩, List.mem_of_getElem? (i := 17) (by decide +kernel), List.mem_of_getElem? (i := 573) (by decide +kernel), List.mem_of_getElem? (i := 574) (by decide +kernel)⟩
theorem lw_p21 : lw_okq (⟨"HashPages", "halveAll", "()I"⟩, 7) := ⟨⟨by decide +kernel, by decide +kernel⟩, List.mem_of_getElem? (i := 17) (by decide +kernel), List.mem_of_getElem? (i := 577) (by decide +kernel), List.mem_of_getElem? (i := 578) (by decide +kernel)⟩
theorem lw_p22 : lw_okq (⟨"HashPagesModel", "anew", "(II)V"⟩, 26) := ⟨⟨by decide +kernel, by decide +kernel⟩, List.mem_of_getElem? (i := 613) (by decide +kernel), List.mem_of_getElem? (i := 622) (by decide +kernel), List.mem_of_getElem? (i := 623) (by decide +kernel)⟩
theorem lw_p23 : lw_okq (⟨"HashPagesModel", "decode", "()V"⟩, 26) := ⟨⟨by decide +kernel, by decide +kernel⟩, List.mem_of_getElem? (i := 613) (by decide +kernel), List.mem_of_getElem? (i := 626) (by decide +kernel), List.mem_of_getElem? (i := 627) (by decide +kernel)⟩
theorem lw_p24 : lw_okq (⟨"HashPagesModel", "at", "(II)I"⟩, 26) := ⟨⟨by decide +kernel, by decide +kernel⟩, List.mem_of_getElem? (i := 613) (by decide +kernel), List.mem_of_getElem? (i := 630) (by decide +kernel), List.mem_of_getElem? (i := 631) (by decide +kernel)⟩
theorem lw_p25 : lw_okq (⟨"HashPagesModel", "isDirectory", "(I)Z"⟩, 26) := ⟨⟨by decide +kernel, by decide +kernel⟩, List.mem_of_getElem? (i := 613) (by decide +kernel), List.mem_of_getElem? (i := 634) (by decide +kernel), List.mem_of_getElem? (i := 635) (by decide +kernel)⟩
theorem lw_p26 : lw_okq (⟨"HashPagesModel", "bucket", "(I)V"⟩, 26) := ⟨⟨by decide +kernel, by decide +kernel⟩, List.mem_of_getElem? (i := 613) (by decide +kernel), List.mem_of_getElem? (i := 638) (by decide +kernel), List.mem_of_getElem? (i := 639) (by decide +kernel)⟩
theorem lw_p27 : lw_okq (⟨"HashPagesModel", "throwing", "(I)I"⟩, 26) := ⟨⟨by decide +kernel, by decide +kernel⟩, List.mem_of_getElem? (i := 613) (by decide +kernel), List.mem_of_getElem? (i := 731) (by decide +kernel), List.mem_of_getElem? (i := 732) (by decide +kernel)⟩
theorem lw_p28 : lw_okq (⟨"HashPagesModel", "tapeHash", "(I)I"⟩, 26) := ⟨⟨by decide +kernel, by decide +kernel⟩, List.mem_of_getElem? (i := 613) (by decide +kernel), List.mem_of_getElem? (i := 735) (by decide +kernel), List.mem_of_getElem? (i := 736) (by decide +kernel)⟩
theorem lw_p29 : lw_okq (⟨"HashPagesModel", "bucketOf", "(I)I"⟩, 26) := ⟨⟨by decide +kernel, by decide +kernel⟩, List.mem_of_getElem? (i := 613) (by decide +kernel), List.mem_of_getElem? (i := 744) (by decide +kernel), List.mem_of_getElem? (i := 745) (by decide +kernel)⟩
theorem lw_p30 : lw_okq (⟨"HashPagesModel", "filled", "(III)I"⟩, 26) := ⟨⟨by decide +kernel, by decide +kernel⟩, List.mem_of_getElem? (i := 613) (by decide +kernel), List.mem_of_getElem? (i := 751) (by decide +kernel), List.mem_of_getElem? (i := 752) (by decide +kernel)⟩
theorem lw_p31 : lw_okq (⟨"HashPagesModel", "find", "(II)I"⟩, 26) := ⟨⟨by decide +kernel, by decide +kernel⟩, List.mem_of_getElem? (i := 613) (by decide +kernel), List.mem_of_getElem? (i := 755) (by decide +kernel), List.mem_of_getElem? (i := 756) (by decide +kernel)⟩
def lw_privs_2 : List (MethodName × Nat) := [(⟨"HashPages", "buildWithout", "(II)V"⟩, 7), (⟨"HashPages", "addRecordsBut", "(II)V"⟩, 7), (⟨"HashPages", "mergeAll", "(I)I"⟩, 7), (⟨"HashPages", "mergePartner", "(I)I"⟩, 7), (⟨"HashPages", "merge", "(II)I"⟩, 7), (⟨"HashPages", "halveAll", "()I"⟩, 7), (⟨"HashPagesModel", "anew", "(II)V"⟩, 26), (⟨"HashPagesModel", "decode", "()V"⟩, 26), (⟨"HashPagesModel", "at", "(II)I"⟩, 26), (⟨"HashPagesModel", "isDirectory", "(I)Z"⟩, 26), (⟨"HashPagesModel", "bucket", "(I)V"⟩, 26), (⟨"HashPagesModel", "throwing", "(I)I"⟩, 26), (⟨"HashPagesModel", "tapeHash", "(I)I"⟩, 26), (⟨"HashPagesModel", "bucketOf", "(I)I"⟩, 26), (⟨"HashPagesModel", "filled", "(III)I"⟩, 26), (⟨"HashPagesModel", "find", "(II)I"⟩, 26)]
theorem lw_r2 : ∀ q ∈ lw_privs_2, lw_okq q := List.forall_mem_cons.mpr ⟨lw_p16, List.forall_mem_cons.mpr ⟨lw_p17, List.forall_mem_cons.mpr ⟨lw_p18, List.forall_mem_cons.mpr ⟨lw_p19, List.forall_mem_cons.mpr ⟨lw_p20, List.forall_mem_cons.mpr ⟨lw_p21, List.forall_mem_cons.mpr ⟨lw_p22, List.forall_mem_cons.mpr ⟨lw_p23, List.forall_mem_cons.mpr ⟨lw_p24, List.forall_mem_cons.mpr ⟨lw_p25, List.forall_mem_cons.mpr ⟨lw_p26, List.forall_mem_cons.mpr ⟨lw_p27, List.forall_mem_cons.mpr ⟨lw_p28, List.forall_mem_cons.mpr ⟨lw_p29, List.forall_mem_cons.mpr ⟨lw_p30, List.forall_mem_cons.mpr ⟨lw_p31, fun _ h => absurd h List.not_mem_nil⟩⟩⟩⟩⟩⟩⟩⟩⟩⟩⟩⟩⟩⟩⟩⟩
theorem lw_p32 : lw_okq (⟨"HashPagesModel", "isKey", "(II)Z"⟩, 26) := ⟨⟨by decide +kernel, by decide +kernel⟩, List.mem_of_getElem? (i := 613) (by decide +kernel), List.mem_of_getElem? (i := 759) (by decide +kernel), List.mem_of_getElem? (i := 760) (by decide +kernel)⟩
theorem lw_p33 : lw_okq (⟨"HashPagesModel", "keyByte", "(II)I"⟩, 26) := ⟨⟨by decide +kernel, by decide +kernel⟩, List.mem_of_getElem? (i := 613) (by decide +kernel), List.mem_of_getElem? (i := 763) (by decide +kernel), List.mem_of_getElem? (i := 764) (by decide +kernel)⟩
theorem lw_p34 : lw_okq (⟨"HashPagesModel", "bytesOf", "(I)I"⟩, 26) := ⟨⟨by decide +kernel, by decide +kernel⟩, List.mem_of_getElem? (i := 613) (by decide +kernel), List.mem_of_getElem? (i := 767) (by decide +kernel), List.mem_of_getElem? (i := 768) (by decide +kernel)⟩
theorem lw_p35 : lw_okq (⟨"HashPagesModel", "isAlike", "(II)Z"⟩, 26) := ⟨⟨by decide +kernel, by decide +kernel⟩, List.mem_of_getElem? (i := 613) (by decide +kernel), List.mem_of_getElem? (i := 771) (by decide +kernel), List.mem_of_getElem? (i := 772) (by decide +kernel)⟩
theorem lw_p36 : lw_okq (⟨"HashPagesModel", "hashOf", "(I)I"⟩, 26) := ⟨⟨by decide +kernel, by decide +kernel⟩, List.mem_of_getElem? (i := 613) (by decide +kernel), List.mem_of_getElem? (i := 775) (by decide +kernel), List.mem_of_getElem? (i := 776) (by decide +kernel)⟩
theorem lw_p37 : lw_okq (⟨"HashPagesModel", "doubles", "()I"⟩, 26) := ⟨⟨by decide +kernel, by decide +kernel⟩, List.mem_of_getElem? (i := 613) (by decide +kernel), List.mem_of_getElem? (i := 779) (by decide +kernel), List.mem_of_getElem? (i := 780) (by decide +kernel)⟩
theorem lw_p38 : lw_okq (⟨"HashPagesModel", "free", "(I)I"⟩, 26) := ⟨⟨by decide +kernel, by decide +kernel⟩, List.mem_of_getElem? (i := 613) (by decide +kernel), List.mem_of_getElem? (i := 783) (by decide +kernel), List.mem_of_getElem? (i := 784) (by decide +kernel)⟩
theorem lw_p39 : lw_okq (⟨"HashPagesModel", "changed", "()I"⟩, 26) := ⟨⟨by decide +kernel, by decide +kernel⟩, List.mem_of_getElem? (i := 613) (by decide +kernel), List.mem_of_getElem? (i := 787) (by decide +kernel), List.mem_of_getElem? (i := 788) (by decide +kernel)⟩
theorem lw_p40 : lw_okq (⟨"HashPagesModel", "allWritten", "()Z"⟩, 26) := ⟨⟨by decide +kernel, by decide +kernel⟩, List.mem_of_getElem? (i := 613) (by decide +kernel), List.mem_of_getElem? (i := 791) (by decide +kernel), List.mem_of_getElem? (i := 792) (by decide +kernel)⟩
theorem lw_p41 : lw_okq (⟨"HashPagesModel", "render", "(I)V"⟩, 26) := ⟨⟨by decide +kernel, by decide +kernel⟩, List.mem_of_getElem? (i := 613) (by decide +kernel), List.mem_of_getElem? (i := 795) (by decide +kernel), List.mem_of_getElem? (i := 796) (by decide +kernel)⟩
theorem lw_p42 : lw_okq (⟨"HashPagesModel", "valueByte", "(II)I"⟩, 26) := ⟨⟨by decide +kernel, by decide +kernel⟩, List.mem_of_getElem? (i := 613) (by decide +kernel), List.mem_of_getElem? (i := 799) (by decide +kernel), List.mem_of_getElem? (i := 800) (by decide +kernel)⟩
theorem lw_p43 : lw_okq (⟨"HashPagesModel", "writes", "(I)Z"⟩, 26) := ⟨⟨by decide +kernel, by decide +kernel⟩, List.mem_of_getElem? (i := 613) (by decide +kernel), List.mem_of_getElem? (i := 803) (by decide +kernel), List.mem_of_getElem? (i := 804) (by decide +kernel)⟩
theorem lw_p44 : lw_okq (⟨"HashPagesModel", "journal", "(I)V"⟩, 26) := ⟨⟨by decide +kernel, by decide +kernel⟩, List.mem_of_getElem? (i := 613) (by decide +kernel), List.mem_of_getElem? (i := 807) (by decide +kernel), List.mem_of_getElem? (i := 808) (by decide +kernel)⟩
theorem lw_p45 : lw_okq (⟨"HashPagesModel", "splits", "(I)I"⟩, 26) := ⟨⟨by decide +kernel, by decide +kernel⟩, List.mem_of_getElem? (i := 613) (by decide +kernel), List.mem_of_getElem? (i := 811) (by decide +kernel), List.mem_of_getElem? (i := 812) (by decide +kernel)⟩
theorem lw_p46 : lw_okq (⟨"HashPagesModel", "unlike", "(I)I"⟩, 26) := ⟨⟨by decide +kernel, by decide +kernel⟩, List.mem_of_getElem? (i := 613) (by decide +kernel), List.mem_of_getElem? (i := 815) (by decide +kernel), List.mem_of_getElem? (i := 816) (by decide +kernel)⟩
theorem lw_p47 : lw_okq (⟨"HashPagesModel", "copyRecord", "(II)V"⟩, 26) := ⟨⟨by decide +kernel, by decide +kernel⟩, List.mem_of_getElem? (i := 613) (by decide +kernel), List.mem_of_getElem? (i := 819) (by decide +kernel), List.mem_of_getElem? (i := 820) (by decide +kernel)⟩
def lw_privs_3 : List (MethodName × Nat) := [(⟨"HashPagesModel", "isKey", "(II)Z"⟩, 26), (⟨"HashPagesModel", "keyByte", "(II)I"⟩, 26), (⟨"HashPagesModel", "bytesOf", "(I)I"⟩, 26), (⟨"HashPagesModel", "isAlike", "(II)Z"⟩, 26), (⟨"HashPagesModel", "hashOf", "(I)I"⟩, 26), (⟨"HashPagesModel", "doubles", "()I"⟩, 26), (⟨"HashPagesModel", "free", "(I)I"⟩, 26), (⟨"HashPagesModel", "changed", "()I"⟩, 26), (⟨"HashPagesModel", "allWritten", "()Z"⟩, 26), (⟨"HashPagesModel", "render", "(I)V"⟩, 26), (⟨"HashPagesModel", "valueByte", "(II)I"⟩, 26), (⟨"HashPagesModel", "writes", "(I)Z"⟩, 26), (⟨"HashPagesModel", "journal", "(I)V"⟩, 26), (⟨"HashPagesModel", "splits", "(I)I"⟩, 26), (⟨"HashPagesModel", "unlike", "(I)I"⟩, 26), (⟨"HashPagesModel", "copyRecord", "(II)V"⟩, 26)]
theorem lw_r3 : ∀ q ∈ lw_privs_3, lw_okq q := List.forall_mem_cons.mpr ⟨lw_p32, List.forall_mem_cons.mpr ⟨lw_p33, List.forall_mem_cons.mpr ⟨lw_p34, List.forall_mem_cons.mpr ⟨lw_p35, List.forall_mem_cons.mpr ⟨lw_p36, List.forall_mem_cons.mpr ⟨lw_p37, List.forall_mem_cons.mpr ⟨lw_p38, List.forall_mem_cons.mpr ⟨lw_p39, List.forall_mem_cons.mpr ⟨lw_p40, List.forall_mem_cons.mpr ⟨lw_p41, List.forall_mem_cons.mpr ⟨lw_p42, List.forall_mem_cons.mpr ⟨lw_p43, List.forall_mem_cons.mpr ⟨lw_p44, List.forall_mem_cons.mpr ⟨lw_p45, List.forall_mem_cons.mpr ⟨lw_p46, List.forall_mem_cons.mpr ⟨lw_p47, fun _ h => absurd h List.not_mem_nil⟩⟩⟩⟩⟩⟩⟩⟩⟩⟩⟩⟩⟩⟩⟩⟩
theorem lw_p48 : lw_okq (⟨"HashPagesModel", "drop", "(II)V"⟩, 26) := ⟨⟨by decide +kernel, by decide +kernel⟩, List.mem_of_getElem? (i := 613) (by decide +kernel), List.mem_of_getElem? (i := 823) (by decide +kernel), List.mem_of_getElem? (i := 824) (by decide +kernel)⟩
theorem lw_p49 : lw_okq (⟨"HashPagesModel", "wroteBucket", "(I)I"⟩, 26) := ⟨⟨by decide +kernel, by decide +kernel⟩, List.mem_of_getElem? (i := 613) (by decide +kernel), List.mem_of_getElem? (i := 828) (by decide +kernel), List.mem_of_getElem? (i := 829) (by decide +kernel)⟩
theorem lw_p50 : lw_okq (⟨"HashPagesModel", "merges", "(I)I"⟩, 26) := ⟨⟨by decide +kernel, by decide +kernel⟩, List.mem_of_getElem? (i := 613) (by decide +kernel), List.mem_of_getElem? (i := 836) (by decide +kernel), List.mem_of_getElem? (i := 837) (by decide +kernel)⟩
theorem lw_p51 : lw_okq (⟨"HashPagesModel", "buddy", "(I)I"⟩, 26) := ⟨⟨by decide +kernel, by decide +kernel⟩, List.mem_of_getElem? (i := 613) (by decide +kernel), List.mem_of_getElem? (i := 840) (by decide +kernel), List.mem_of_getElem? (i := 841) (by decide +kernel)⟩
theorem lw_p52 : lw_okq (⟨"HashPagesModel", "halves", "()I"⟩, 26) := ⟨⟨by decide +kernel, by decide +kernel⟩, List.mem_of_getElem? (i := 613) (by decide +kernel), List.mem_of_getElem? (i := 844) (by decide +kernel), List.mem_of_getElem? (i := 845) (by decide +kernel)⟩
theorem lw_p53 : lw_okq (⟨"HashPagesModel", "isPage", "(I)Z"⟩, 26) := ⟨⟨by decide +kernel, by decide +kernel⟩, List.mem_of_getElem? (i := 613) (by decide +kernel), List.mem_of_getElem? (i := 872) (by decide +kernel), List.mem_of_getElem? (i := 873) (by decide +kernel)⟩
theorem lw_p54 : lw_okq (⟨"HashPagesModel", "kindOf", "(I)I"⟩, 26) := ⟨⟨by decide +kernel, by decide +kernel⟩, List.mem_of_getElem? (i := 613) (by decide +kernel), List.mem_of_getElem? (i := 880) (by decide +kernel), List.mem_of_getElem? (i := 881) (by decide +kernel)⟩
theorem lw_p55 : lw_okq (⟨"HashPagesModel", "manyOf", "(I)I"⟩, 26) := ⟨⟨by decide +kernel, by decide +kernel⟩, List.mem_of_getElem? (i := 613) (by decide +kernel), List.mem_of_getElem? (i := 904) (by decide +kernel), List.mem_of_getElem? (i := 905) (by decide +kernel)⟩
def lw_privs_4 : List (MethodName × Nat) := [(⟨"HashPagesModel", "drop", "(II)V"⟩, 26), (⟨"HashPagesModel", "wroteBucket", "(I)I"⟩, 26), (⟨"HashPagesModel", "merges", "(I)I"⟩, 26), (⟨"HashPagesModel", "buddy", "(I)I"⟩, 26), (⟨"HashPagesModel", "halves", "()I"⟩, 26), (⟨"HashPagesModel", "isPage", "(I)Z"⟩, 26), (⟨"HashPagesModel", "kindOf", "(I)I"⟩, 26), (⟨"HashPagesModel", "manyOf", "(I)I"⟩, 26)]
theorem lw_r4 : ∀ q ∈ lw_privs_4, lw_okq q := List.forall_mem_cons.mpr ⟨lw_p48, List.forall_mem_cons.mpr ⟨lw_p49, List.forall_mem_cons.mpr ⟨lw_p50, List.forall_mem_cons.mpr ⟨lw_p51, List.forall_mem_cons.mpr ⟨lw_p52, List.forall_mem_cons.mpr ⟨lw_p53, List.forall_mem_cons.mpr ⟨lw_p54, List.forall_mem_cons.mpr ⟨lw_p55, fun _ h => absurd h List.not_mem_nil⟩⟩⟩⟩⟩⟩⟩⟩
def lw_privs : List (MethodName × Nat) := lw_privs_1 ++ (lw_privs_2 ++ (lw_privs_3 ++ (lw_privs_4)))
def lw_tbl : List Cond := k2_sels lw_privs ++ tables_1
theorem lw_privs_ok : ∀ q ∈ lw_privs, lw_okq q := by
  show ∀ q ∈ lw_privs_1 ++ (lw_privs_2 ++ (lw_privs_3 ++ (lw_privs_4))), lw_okq q
  exact List.forall_mem_append.mpr ⟨lw_r1, List.forall_mem_append.mpr ⟨lw_r2, List.forall_mem_append.mpr ⟨lw_r3, lw_r4⟩⟩⟩
end
section
def RX0 : String := "HashPages$Change"
def TX0 : u_T := fun k => match k with
  | 0 => ("HashPages$Change", "disk", "LHashPages$Disk;", true)
  | 1 => ("HashPages$Change", "journal", "LHashPages$Page;", true)
  | _ => ("HashPages$Change", "image", "LHashPages$Page;", true)
def tyX0 : Nat → FieldType := fun k => match k with
  | 0 => .object "HashPages$Disk"
  | 1 => .object "HashPages$Page"
  | _ => .object "HashPages$Page"
abbrev wsX00 : List Cond := u_ws RX0 TX0 3
theorem nmX0 : ∀ a, a < 3 → ∀ b, b < 3 → a ≠ b → (TX0 a).2.1 ≠ (TX0 b).2.1 := by decide +kernel
theorem tyX0_ok : ∀ k, k < 3 → parseFieldDescriptor (TX0 k).2.2.1 = some (tyX0 k) := by decide +kernel
abbrev cX0_init : ByteArray := prog_2_method_1_code
def yX0_init : MethodName := ⟨RX0, "<init>", "(LHashPages$Disk;)V"⟩
abbrev cX0_begin : ByteArray := prog_2_method_2_code
def yX0_begin : MethodName := ⟨RX0, "begin", "()V"⟩
abbrev cX0_add : ByteArray := prog_2_method_3_code
def yX0_add : MethodName := ⟨RX0, "add", "(LHashPages$Page;I)Z"⟩
abbrev cX0_finish : ByteArray := prog_2_method_4_code
def yX0_finish : MethodName := ⟨RX0, "finish", "()Z"⟩
abbrev cX0_settle : ByteArray := prog_2_method_5_code
def yX0_settle : MethodName := ⟨RX0, "settle", "()Z"⟩
def RX1 : String := "HashPages$Disk"
def TX1 : u_T := fun k => match k with
  | 0 => ("HashPages$Disk", "cells", "[I", true)
  | 1 => ("HashPages$Disk", "kinds", "[I", true)
  | 2 => ("HashPages$Disk", "kindsAreOld", "Z", false)
  | 3 => ("HashPages$Disk", "pages", "I", false)
  | 4 => ("HashPages$Disk", "log", "I", false)
  | 5 => ("HashPages$Disk", "writes", "I", false)
  | 6 => ("HashPages$Disk", "allowed", "I", false)
  | _ => ("HashPages$Disk", "down", "Z", false)
def tyX1 : Nat → FieldType := fun k => match k with
  | 0 => .array .int
  | 1 => .array .int
  | 2 => .boolean
  | 3 => .int
  | 4 => .int
  | 5 => .int
  | 6 => .int
  | _ => .boolean
abbrev wsX10 : List Cond := u_ws RX1 TX1 8
theorem nmX1 : ∀ a, a < 8 → ∀ b, b < 8 → a ≠ b → (TX1 a).2.1 ≠ (TX1 b).2.1 := by decide +kernel
theorem tyX1_ok : ∀ k, k < 8 → parseFieldDescriptor (TX1 k).2.2.1 = some (tyX1 k) := by decide +kernel
abbrev cX1_init : ByteArray := prog_3_method_1_code
def yX1_init : MethodName := ⟨RX1, "<init>", "()V"⟩
abbrev cX1_wipe : ByteArray := prog_3_method_2_code
def yX1_wipe : MethodName := ⟨RX1, "wipe", "(IILHashPages$Page;)V"⟩
abbrev cX1_place : ByteArray := prog_3_method_3_code
def yX1_place : MethodName := ⟨RX1, "place", "(ILHashPages$Page;)V"⟩
abbrev cX1_lay : ByteArray := prog_3_method_4_code
def yX1_lay : MethodName := ⟨RX1, "lay", "(III)V"⟩
abbrev cX1_isPage : ByteArray := prog_3_method_5_code
def yX1_isPage : MethodName := ⟨RX1, "isPage", "(I)Z"⟩
abbrev cX1_pages : ByteArray := prog_3_method_6_code
def yX1_pages : MethodName := ⟨RX1, "pages", "()I"⟩
abbrev cX1_log : ByteArray := prog_3_method_7_code
def yX1_log : MethodName := ⟨RX1, "log", "()I"⟩
abbrev cX1_writes : ByteArray := prog_3_method_8_code
def yX1_writes : MethodName := ⟨RX1, "writes", "()I"⟩
abbrev cX1_allowed : ByteArray := prog_3_method_9_code
def yX1_allowed : MethodName := ⟨RX1, "allowed", "()I"⟩
abbrev cX1_isDown : ByteArray := prog_3_method_10_code
def yX1_isDown : MethodName := ⟨RX1, "isDown", "()Z"⟩
abbrev cX1_allow : ByteArray := prog_3_method_11_code
def yX1_allow : MethodName := ⟨RX1, "allow", "(I)V"⟩
abbrev cX1_write : ByteArray := prog_3_method_12_code
def yX1_write : MethodName := ⟨RX1, "write", "(ILHashPages$Page;)Z"⟩
abbrev cX1_read : ByteArray := prog_3_method_13_code
def yX1_read : MethodName := ⟨RX1, "read", "(ILHashPages$Page;)V"⟩
abbrev cX1_at : ByteArray := prog_3_method_14_code
def yX1_at : MethodName := ⟨RX1, "at", "(II)I"⟩
abbrev cX1_depth : ByteArray := prog_3_method_15_code
def yX1_depth : MethodName := ⟨RX1, "depth", "()I"⟩
abbrev cX1_directoryPage : ByteArray := prog_3_method_16_code
def yX1_directoryPage : MethodName := ⟨RX1, "directoryPage", "(I)I"⟩
abbrev cX1_entryAt : ByteArray := prog_3_method_17_code
def yX1_entryAt : MethodName := ⟨RX1, "entryAt", "(I)I"⟩
abbrev cX1_indexOf : ByteArray := prog_3_method_18_code
def yX1_indexOf : MethodName := ⟨RX1, "indexOf", "(I)I"⟩
abbrev cX1_bucketOf : ByteArray := prog_3_method_19_code
def yX1_bucketOf : MethodName := ⟨RX1, "bucketOf", "(I)I"⟩
abbrev cX1_kindOf : ByteArray := prog_3_method_20_code
def yX1_kindOf : MethodName := ⟨RX1, "kindOf", "(I)I"⟩
abbrev cX1_learnKinds : ByteArray := prog_3_method_21_code
def yX1_learnKinds : MethodName := ⟨RX1, "learnKinds", "()V"⟩
abbrev cX1_mark : ByteArray := prog_3_method_22_code
def yX1_mark : MethodName := ⟨RX1, "mark", "(II)V"⟩
abbrev cX1_countKind : ByteArray := prog_3_method_23_code
def yX1_countKind : MethodName := ⟨RX1, "countKind", "(I)I"⟩
abbrev cX1_freeBehind : ByteArray := prog_3_method_24_code
def yX1_freeBehind : MethodName := ⟨RX1, "freeBehind", "(I)I"⟩
abbrev cX1_countRecords : ByteArray := prog_3_method_25_code
def yX1_countRecords : MethodName := ⟨RX1, "countRecords", "()I"⟩
abbrev cX1_hasBucketOfDepth : ByteArray := prog_3_method_26_code
def yX1_hasBucketOfDepth : MethodName := ⟨RX1, "hasBucketOfDepth", "(I)Z"⟩
abbrev cX1_recordBytes : ByteArray := prog_3_method_27_code
def yX1_recordBytes : MethodName := ⟨RX1, "recordBytes", "(I)I"⟩
abbrev cX1_recordSize : ByteArray := prog_3_method_28_code
def yX1_recordSize : MethodName := ⟨RX1, "recordSize", "(II)I"⟩
abbrev cX1_recordStart : ByteArray := prog_3_method_29_code
def yX1_recordStart : MethodName := ⟨RX1, "recordStart", "(II)I"⟩
abbrev cX1_recordHash : ByteArray := prog_3_method_30_code
def yX1_recordHash : MethodName := ⟨RX1, "recordHash", "(II)I"⟩
abbrev cX1_allHashesAre : ByteArray := prog_3_method_31_code
def yX1_allHashesAre : MethodName := ⟨RX1, "allHashesAre", "(II)Z"⟩
abbrev cX1_find : ByteArray := prog_3_method_32_code
def yX1_find : MethodName := ⟨RX1, "find", "(ILHashPages$Tape;I)I"⟩
abbrev cX1_hasKey : ByteArray := prog_3_method_33_code
def yX1_hasKey : MethodName := ⟨RX1, "hasKey", "(IILHashPages$Tape;I)Z"⟩
def RX2 : String := "HashPages$Page"
def TX2 : u_T := fun k => match k with
  | _ => ("HashPages$Page", "bytes", "[I", true)
def tyX2 : Nat → FieldType := fun k => match k with
  | _ => .array .int
abbrev wsX20 : List Cond := u_ws RX2 TX2 1
theorem nmX2 : ∀ a, a < 1 → ∀ b, b < 1 → a ≠ b → (TX2 a).2.1 ≠ (TX2 b).2.1 := by decide +kernel
theorem tyX2_ok : ∀ k, k < 1 → parseFieldDescriptor (TX2 k).2.2.1 = some (tyX2 k) := by decide +kernel
abbrev cX2_init : ByteArray := prog_4_method_1_code
def yX2_init : MethodName := ⟨RX2, "<init>", "()V"⟩
abbrev cX2_bytes : ByteArray := prog_4_method_2_code
def yX2_bytes : MethodName := ⟨RX2, "bytes", "()[I"⟩
abbrev cX2_byteAt : ByteArray := prog_4_method_3_code
def yX2_byteAt : MethodName := ⟨RX2, "byteAt", "(I)I"⟩
abbrev cX2_set : ByteArray := prog_4_method_4_code
def yX2_set : MethodName := ⟨RX2, "set", "(II)V"⟩
abbrev cX2_clear : ByteArray := prog_4_method_5_code
def yX2_clear : MethodName := ⟨RX2, "clear", "()V"⟩
abbrev cX2_startBucket : ByteArray := prog_4_method_6_code
def yX2_startBucket : MethodName := ⟨RX2, "startBucket", "(I)V"⟩
abbrev cX2_copyRecord : ByteArray := prog_4_method_7_code
def yX2_copyRecord : MethodName := ⟨RX2, "copyRecord", "(LHashPages$Disk;II)V"⟩
abbrev cX2_addRecord : ByteArray := prog_4_method_8_code
def yX2_addRecord : MethodName := ⟨RX2, "addRecord", "(LHashPages$Tape;II)V"⟩
abbrev cX2_countRecord : ByteArray := prog_4_method_9_code
def yX2_countRecord : MethodName := ⟨RX2, "countRecord", "(I)I"⟩
def RX3 : String := "HashPages$Tape"
def TX3 : u_T := fun k => match k with
  | 0 => ("HashPages$Tape", "bytes", "[I", true)
  | _ => ("HashPages$Tape", "size", "I", false)
def tyX3 : Nat → FieldType := fun k => match k with
  | 0 => .array .int
  | _ => .int
abbrev wsX30 : List Cond := u_ws RX3 TX3 2
theorem nmX3 : ∀ a, a < 2 → ∀ b, b < 2 → a ≠ b → (TX3 a).2.1 ≠ (TX3 b).2.1 := by decide +kernel
theorem tyX3_ok : ∀ k, k < 2 → parseFieldDescriptor (TX3 k).2.2.1 = some (tyX3 k) := by decide +kernel
abbrev cX3_init : ByteArray := prog_5_method_1_code
def yX3_init : MethodName := ⟨RX3, "<init>", "()V"⟩
abbrev cX3_size : ByteArray := prog_5_method_2_code
def yX3_size : MethodName := ⟨RX3, "size", "()I"⟩
abbrev cX3_byteAt : ByteArray := prog_5_method_3_code
def yX3_byteAt : MethodName := ⟨RX3, "byteAt", "(I)I"⟩
abbrev cX3_append : ByteArray := prog_5_method_4_code
def yX3_append : MethodName := ⟨RX3, "append", "(I)V"⟩
abbrev cX3_take : ByteArray := prog_5_method_5_code
def yX3_take : MethodName := ⟨RX3, "take", "()I"⟩
abbrev cX3_keyHash : ByteArray := prog_5_method_6_code
def yX3_keyHash : MethodName := ⟨RX3, "keyHash", "(I)I"⟩
def RX4 : String := "HashPages"
def TX4 : u_T := fun k => match k with
  | 0 => ("HashPages", "disk", "LHashPages$Disk;", true)
  | 1 => ("HashPages", "change", "LHashPages$Change;", true)
  | 2 => ("HashPages", "built", "LHashPages$Page;", true)
  | 3 => ("HashPages", "head", "LHashPages$Page;", true)
  | 4 => ("HashPages", "tape", "LHashPages$Tape;", true)
  | 5 => ("HashPages", "answerBytes", "[I", true)
  | _ => ("HashPages", "answerSize", "I", false)
def tyX4 : Nat → FieldType := fun k => match k with
  | 0 => .object "HashPages$Disk"
  | 1 => .object "HashPages$Change"
  | 2 => .object "HashPages$Page"
  | 3 => .object "HashPages$Page"
  | 4 => .object "HashPages$Tape"
  | 5 => .array .int
  | _ => .int
abbrev wsX40 : List Cond := u_ws RX4 TX4 7
theorem nmX4 : ∀ a, a < 7 → ∀ b, b < 7 → a ≠ b → (TX4 a).2.1 ≠ (TX4 b).2.1 := by decide +kernel
theorem tyX4_ok : ∀ k, k < 7 → parseFieldDescriptor (TX4 k).2.2.1 = some (tyX4 k) := by decide +kernel
abbrev cX4_init : ByteArray := prog_1_method_1_code
def yX4_init : MethodName := ⟨RX4, "<init>", "()V"⟩
abbrev cX4_format : ByteArray := prog_1_method_2_code
def yX4_format : MethodName := ⟨RX4, "format", "(II)V"⟩
abbrev cX4_feed : ByteArray := prog_1_method_3_code
def yX4_feed : MethodName := ⟨RX4, "feed", "(IJJ)I"⟩
abbrev cX4_put : ByteArray := prog_1_method_4_code
def yX4_put : MethodName := ⟨RX4, "put", "(I)I"⟩
abbrev cX4_remove : ByteArray := prog_1_method_5_code
def yX4_remove : MethodName := ⟨RX4, "remove", "()I"⟩
abbrev cX4_get : ByteArray := prog_1_method_6_code
def yX4_get : MethodName := ⟨RX4, "get", "()I"⟩
abbrev cX4_answer : ByteArray := prog_1_method_7_code
def yX4_answer : MethodName := ⟨RX4, "answer", "(I)I"⟩
abbrev cX4_power : ByteArray := prog_1_method_8_code
def yX4_power : MethodName := ⟨RX4, "power", "(I)V"⟩
abbrev cX4_recover : ByteArray := prog_1_method_9_code
def yX4_recover : MethodName := ⟨RX4, "recover", "(I)I"⟩
abbrev cX4_byteOf : ByteArray := prog_1_method_10_code
def yX4_byteOf : MethodName := ⟨RX4, "byteOf", "(II)I"⟩
abbrev cX4_kind : ByteArray := prog_1_method_11_code
def yX4_kind : MethodName := ⟨RX4, "kind", "(I)I"⟩
abbrev cX4_hash : ByteArray := prog_1_method_12_code
def yX4_hash : MethodName := ⟨RX4, "hash", "()I"⟩
abbrev cX4_entry : ByteArray := prog_1_method_13_code
def yX4_entry : MethodName := ⟨RX4, "entry", "(I)I"⟩
abbrev cX4_bucket : ByteArray := prog_1_method_14_code
def yX4_bucket : MethodName := ⟨RX4, "bucket", "(II)I"⟩
abbrev cX4_record : ByteArray := prog_1_method_15_code
def yX4_record : MethodName := ⟨RX4, "record", "(IIII)I"⟩
abbrev cX4_look : ByteArray := prog_1_method_16_code
def yX4_look : MethodName := ⟨RX4, "look", "(I)I"⟩
abbrev cX4_makePlace : ByteArray := prog_1_method_17_code
def yX4_makePlace : MethodName := ⟨RX4, "makePlace", "(III)I"⟩
abbrev cX4_hasPlace : ByteArray := prog_1_method_18_code
def yX4_hasPlace : MethodName := ⟨RX4, "hasPlace", "(III)Z"⟩
abbrev cX4_storeRecord : ByteArray := prog_1_method_19_code
def yX4_storeRecord : MethodName := ⟨RX4, "storeRecord", "(III)I"⟩
abbrev cX4_buildWithout : ByteArray := prog_1_method_20_code
def yX4_buildWithout : MethodName := ⟨RX4, "buildWithout", "(II)V"⟩
abbrev cX4_addRecordsBut : ByteArray := prog_1_method_21_code
def yX4_addRecordsBut : MethodName := ⟨RX4, "addRecordsBut", "(II)V"⟩
abbrev cX4_resizeDirectory : ByteArray := prog_1_method_22_code
def yX4_resizeDirectory : MethodName := ⟨RX4, "resizeDirectory", "(I)I"⟩
abbrev cX4_buildDirectoryPage : ByteArray := prog_1_method_23_code
def yX4_buildDirectoryPage : MethodName := ⟨RX4, "buildDirectoryPage", "(II)V"⟩
abbrev cX4_split : ByteArray := prog_1_method_24_code
def yX4_split : MethodName := ⟨RX4, "split", "(II)I"⟩
abbrev cX4_buildHalf : ByteArray := prog_1_method_25_code
def yX4_buildHalf : MethodName := ⟨RX4, "buildHalf", "(III)V"⟩
abbrev cX4_directoryPagesOf : ByteArray := prog_1_method_26_code
def yX4_directoryPagesOf : MethodName := ⟨RX4, "directoryPagesOf", "(II)I"⟩
abbrev cX4_retell : ByteArray := prog_1_method_27_code
def yX4_retell : MethodName := ⟨RX4, "retell", "(III)Z"⟩
abbrev cX4_mergeAll : ByteArray := prog_1_method_28_code
def yX4_mergeAll : MethodName := ⟨RX4, "mergeAll", "(I)I"⟩
abbrev cX4_mergePartner : ByteArray := prog_1_method_29_code
def yX4_mergePartner : MethodName := ⟨RX4, "mergePartner", "(I)I"⟩
abbrev cX4_merge : ByteArray := prog_1_method_30_code
def yX4_merge : MethodName := ⟨RX4, "merge", "(II)I"⟩
abbrev cX4_halveAll : ByteArray := prog_1_method_31_code
def yX4_halveAll : MethodName := ⟨RX4, "halveAll", "()I"⟩
abbrev cX4_pagesFor : ByteArray := prog_1_method_32_code
def yX4_pagesFor : MethodName := ⟨RX4, "pagesFor", "(I)I"⟩
abbrev cX4_hashOf : ByteArray := prog_1_method_33_code
def yX4_hashOf : MethodName := ⟨RX4, "hashOf", "([III)I"⟩
def RX5 : String := "HashPagesModel"
def TX5 : u_T := fun k => match k with
  | 0 => ("HashPagesModel", "thrown", "I", false)
  | 1 => ("HashPagesModel", "disk", "[B", true)
  | 2 => ("HashPagesModel", "pages", "I", false)
  | 3 => ("HashPagesModel", "log", "I", false)
  | 4 => ("HashPagesModel", "written", "I", false)
  | 5 => ("HashPagesModel", "power", "I", false)
  | 6 => ("HashPagesModel", "down", "Z", false)
  | 7 => ("HashPagesModel", "depth", "I", false)
  | 8 => ("HashPagesModel", "dirMany", "I", false)
  | 9 => ("HashPagesModel", "dir", "[I", true)
  | 10 => ("HashPagesModel", "entries", "[I", true)
  | 11 => ("HashPagesModel", "other", "[I", true)
  | 12 => ("HashPagesModel", "isBucket", "[Z", true)
  | 13 => ("HashPagesModel", "bucketDepth", "[I", true)
  | 14 => ("HashPagesModel", "many", "[I", true)
  | 15 => ("HashPagesModel", "keySize", "[I", true)
  | 16 => ("HashPagesModel", "valueSize", "[I", true)
  | 17 => ("HashPagesModel", "keys", "[J", true)
  | 18 => ("HashPagesModel", "values", "[J", true)
  | 19 => ("HashPagesModel", "tape", "[B", true)
  | 20 => ("HashPagesModel", "taped", "I", false)
  | 21 => ("HashPagesModel", "answer", "[B", true)
  | 22 => ("HashPagesModel", "answered", "I", false)
  | 23 => ("HashPagesModel", "out", "[I", true)
  | 24 => ("HashPagesModel", "change", "[I", true)
  | _ => ("HashPagesModel", "changes", "I", false)
def tyX5 : Nat → FieldType := fun k => match k with
  | 0 => .int
  | 1 => .array .byte
  | 2 => .int
  | 3 => .int
  | 4 => .int
  | 5 => .int
  | 6 => .boolean
  | 7 => .int
  | 8 => .int
  | 9 => .array .int
  | 10 => .array .int
  | 11 => .array .int
  | 12 => .array .boolean
  | 13 => .array .int
  | 14 => .array .int
  | 15 => .array .int
  | 16 => .array .int
  | 17 => .array .long
  | 18 => .array .long
  | 19 => .array .byte
  | 20 => .int
  | 21 => .array .byte
  | 22 => .int
  | 23 => .array .int
  | 24 => .array .int
  | _ => .int
abbrev wsX50 : List Cond := u_ws RX5 TX5 26
theorem nmX5 : ∀ a, a < 26 → ∀ b, b < 26 → a ≠ b → (TX5 a).2.1 ≠ (TX5 b).2.1 := by decide +kernel
theorem tyX5_ok : ∀ k, k < 26 → parseFieldDescriptor (TX5 k).2.2.1 = some (tyX5 k) := by decide +kernel
abbrev cX5_thrown : ByteArray := prog_7_method_1_code
def yX5_thrown : MethodName := ⟨RX5, "thrown", "()I"⟩
abbrev cX5_throwing : ByteArray := prog_7_method_2_code
def yX5_throwing : MethodName := ⟨RX5, "throwing", "(I)I"⟩
abbrev cX5_init : ByteArray := prog_7_method_3_code
def yX5_init : MethodName := ⟨RX5, "<init>", "()V"⟩
abbrev cX5_anew : ByteArray := prog_7_method_4_code
def yX5_anew : MethodName := ⟨RX5, "anew", "(II)V"⟩
abbrev cX5_format : ByteArray := prog_7_method_5_code
def yX5_format : MethodName := ⟨RX5, "format", "(II)V"⟩
abbrev cX5_at : ByteArray := prog_7_method_6_code
def yX5_at : MethodName := ⟨RX5, "at", "(II)I"⟩
abbrev cX5_decode : ByteArray := prog_7_method_7_code
def yX5_decode : MethodName := ⟨RX5, "decode", "()V"⟩
abbrev cX5_isDirectory : ByteArray := prog_7_method_8_code
def yX5_isDirectory : MethodName := ⟨RX5, "isDirectory", "(I)Z"⟩
abbrev cX5_bucket : ByteArray := prog_7_method_9_code
def yX5_bucket : MethodName := ⟨RX5, "bucket", "(I)V"⟩
abbrev cX5_keyByte : ByteArray := prog_7_method_10_code
def yX5_keyByte : MethodName := ⟨RX5, "keyByte", "(II)I"⟩
abbrev cX5_valueByte : ByteArray := prog_7_method_11_code
def yX5_valueByte : MethodName := ⟨RX5, "valueByte", "(II)I"⟩
abbrev cX5_bytesOf : ByteArray := prog_7_method_12_code
def yX5_bytesOf : MethodName := ⟨RX5, "bytesOf", "(I)I"⟩
abbrev cX5_step : ByteArray := prog_7_method_13_code
def yX5_step : MethodName := ⟨RX5, "step", "(II)I"⟩
abbrev cX5_hashOf : ByteArray := prog_7_method_14_code
def yX5_hashOf : MethodName := ⟨RX5, "hashOf", "(I)I"⟩
abbrev cX5_tapeHash : ByteArray := prog_7_method_15_code
def yX5_tapeHash : MethodName := ⟨RX5, "tapeHash", "(I)I"⟩
abbrev cX5_first : ByteArray := prog_7_method_16_code
def yX5_first : MethodName := ⟨RX5, "first", "(II)I"⟩
abbrev cX5_render : ByteArray := prog_7_method_17_code
def yX5_render : MethodName := ⟨RX5, "render", "(I)V"⟩
abbrev cX5_writes : ByteArray := prog_7_method_18_code
def yX5_writes : MethodName := ⟨RX5, "writes", "(I)Z"⟩
abbrev cX5_journal : ByteArray := prog_7_method_19_code
def yX5_journal : MethodName := ⟨RX5, "journal", "(I)V"⟩
abbrev cX5_allWritten : ByteArray := prog_7_method_20_code
def yX5_allWritten : MethodName := ⟨RX5, "allWritten", "()Z"⟩
abbrev cX5_changed : ByteArray := prog_7_method_21_code
def yX5_changed : MethodName := ⟨RX5, "changed", "()I"⟩
abbrev cX5_wroteBucket : ByteArray := prog_7_method_22_code
def yX5_wroteBucket : MethodName := ⟨RX5, "wroteBucket", "(I)I"⟩
abbrev cX5_isKey : ByteArray := prog_7_method_23_code
def yX5_isKey : MethodName := ⟨RX5, "isKey", "(II)Z"⟩
abbrev cX5_bucketOf : ByteArray := prog_7_method_24_code
def yX5_bucketOf : MethodName := ⟨RX5, "bucketOf", "(I)I"⟩
abbrev cX5_find : ByteArray := prog_7_method_25_code
def yX5_find : MethodName := ⟨RX5, "find", "(II)I"⟩
abbrev cX5_free : ByteArray := prog_7_method_26_code
def yX5_free : MethodName := ⟨RX5, "free", "(I)I"⟩
abbrev cX5_copyRecord : ByteArray := prog_7_method_27_code
def yX5_copyRecord : MethodName := ⟨RX5, "copyRecord", "(II)V"⟩
abbrev cX5_drop : ByteArray := prog_7_method_28_code
def yX5_drop : MethodName := ⟨RX5, "drop", "(II)V"⟩
abbrev cX5_doubles : ByteArray := prog_7_method_29_code
def yX5_doubles : MethodName := ⟨RX5, "doubles", "()I"⟩
abbrev cX5_unlike : ByteArray := prog_7_method_30_code
def yX5_unlike : MethodName := ⟨RX5, "unlike", "(I)I"⟩
abbrev cX5_splits : ByteArray := prog_7_method_31_code
def yX5_splits : MethodName := ⟨RX5, "splits", "(I)I"⟩
abbrev cX5_isAlike : ByteArray := prog_7_method_32_code
def yX5_isAlike : MethodName := ⟨RX5, "isAlike", "(II)Z"⟩
abbrev cX5_filled : ByteArray := prog_7_method_33_code
def yX5_filled : MethodName := ⟨RX5, "filled", "(III)I"⟩
abbrev cX5_put : ByteArray := prog_7_method_34_code
def yX5_put : MethodName := ⟨RX5, "put", "(I)I"⟩
abbrev cX5_buddy : ByteArray := prog_7_method_35_code
def yX5_buddy : MethodName := ⟨RX5, "buddy", "(I)I"⟩
abbrev cX5_merges : ByteArray := prog_7_method_36_code
def yX5_merges : MethodName := ⟨RX5, "merges", "(I)I"⟩
abbrev cX5_halves : ByteArray := prog_7_method_37_code
def yX5_halves : MethodName := ⟨RX5, "halves", "()I"⟩
abbrev cX5_remove : ByteArray := prog_7_method_38_code
def yX5_remove : MethodName := ⟨RX5, "remove", "()I"⟩
abbrev cX5_feed : ByteArray := prog_7_method_39_code
def yX5_feed : MethodName := ⟨RX5, "feed", "(IJJ)I"⟩
abbrev cX5_get : ByteArray := prog_7_method_40_code
def yX5_get : MethodName := ⟨RX5, "get", "()I"⟩
abbrev cX5_answer : ByteArray := prog_7_method_41_code
def yX5_answer : MethodName := ⟨RX5, "answer", "(I)I"⟩
abbrev cX5_power : ByteArray := prog_7_method_42_code
def yX5_power : MethodName := ⟨RX5, "power", "(I)V"⟩
abbrev cX5_recover : ByteArray := prog_7_method_43_code
def yX5_recover : MethodName := ⟨RX5, "recover", "(I)I"⟩
abbrev cX5_isPage : ByteArray := prog_7_method_44_code
def yX5_isPage : MethodName := ⟨RX5, "isPage", "(I)Z"⟩
abbrev cX5_byteOf : ByteArray := prog_7_method_45_code
def yX5_byteOf : MethodName := ⟨RX5, "byteOf", "(II)I"⟩
abbrev cX5_kindOf : ByteArray := prog_7_method_46_code
def yX5_kindOf : MethodName := ⟨RX5, "kindOf", "(I)I"⟩
abbrev cX5_kind : ByteArray := prog_7_method_47_code
def yX5_kind : MethodName := ⟨RX5, "kind", "(I)I"⟩
abbrev cX5_hash : ByteArray := prog_7_method_48_code
def yX5_hash : MethodName := ⟨RX5, "hash", "()I"⟩
abbrev cX5_entry : ByteArray := prog_7_method_49_code
def yX5_entry : MethodName := ⟨RX5, "entry", "(I)I"⟩
abbrev cX5_bucket_ : ByteArray := prog_7_method_50_code
def yX5_bucket_ : MethodName := ⟨RX5, "bucket", "(II)I"⟩
abbrev cX5_record : ByteArray := prog_7_method_51_code
def yX5_record : MethodName := ⟨RX5, "record", "(IIII)I"⟩
abbrev cX5_manyOf : ByteArray := prog_7_method_52_code
def yX5_manyOf : MethodName := ⟨RX5, "manyOf", "(I)I"⟩
abbrev cX5_look : ByteArray := prog_7_method_53_code
def yX5_look : MethodName := ⟨RX5, "look", "(I)I"⟩
def RJ9 : String := "java/lang/Math"
def TJ9 : u_T := fun k => match k with
  | _ => ("", "", "", false)
def tyJ9 : Nat → FieldType := fun k => match k with
  | _ => .int
abbrev wsJ90 : List Cond := u_ws RJ9 TJ9 0
theorem nmJ9 : ∀ a, a < 0 → ∀ b, b < 0 → a ≠ b → (TJ9 a).2.1 ≠ (TJ9 b).2.1 := by decide +kernel
theorem tyJ9_ok : ∀ k, k < 0 → parseFieldDescriptor (TJ9 k).2.2.1 = some (tyJ9 k) := by decide +kernel
abbrev cJ9_min_7cf53 : ByteArray := prog_11_method_69_code
def yJ9_min_7cf53 : MethodName := ⟨RJ9, "min", "(II)I"⟩
def RJ0 : String := "java/lang/String"
def TJ0 : u_T := fun k => match k with
  | _ => ("", "", "", false)
def tyJ0 : Nat → FieldType := fun k => match k with
  | _ => .int
abbrev wsJ00 : List Cond := u_ws RJ0 TJ0 0
theorem nmJ0 : ∀ a, a < 0 → ∀ b, b < 0 → a ≠ b → (TJ0 a).2.1 ≠ (TJ0 b).2.1 := by decide +kernel
theorem tyJ0_ok : ∀ k, k < 0 → parseFieldDescriptor (TJ0 k).2.2.1 = some (tyJ0 k) := by decide +kernel
def RJ10 : String := "java/lang/System"
def TJ10 : u_T := fun k => match k with
  | _ => ("", "", "", false)
def tyJ10 : Nat → FieldType := fun k => match k with
  | _ => .int
abbrev wsJ100 : List Cond := u_ws RJ10 TJ10 0
theorem nmJ10 : ∀ a, a < 0 → ∀ b, b < 0 → a ≠ b → (TJ10 a).2.1 ≠ (TJ10 b).2.1 := by decide +kernel
theorem tyJ10_ok : ∀ k, k < 0 → parseFieldDescriptor (TJ10 k).2.2.1 = some (tyJ10 k) := by decide +kernel
def RJ7 : String := "java/util/Arrays"
def TJ7 : u_T := fun k => match k with
  | _ => ("", "", "", false)
def tyJ7 : Nat → FieldType := fun k => match k with
  | _ => .int
abbrev wsJ70 : List Cond := u_ws RJ7 TJ7 0
theorem nmJ7 : ∀ a, a < 0 → ∀ b, b < 0 → a ≠ b → (TJ7 a).2.1 ≠ (TJ7 b).2.1 := by decide +kernel
theorem tyJ7_ok : ∀ k, k < 0 → parseFieldDescriptor (TJ7 k).2.2.1 = some (tyJ7 k) := by decide +kernel
abbrev cJ7_fill_53178 : ByteArray := prog_17_method_103_code
def yJ7_fill_53178 : MethodName := ⟨RJ7, "fill", "([II)V"⟩
def RL : String := "HashPagesLaw"
abbrev cL_format : ByteArray := method_3_code
def yL_format : MethodName := ⟨RL, "format", "(LHashPages;II)I"⟩
abbrev cL_feed : ByteArray := method_4_code
def yL_feed : MethodName := ⟨RL, "feed", "(LHashPages;IJJ[J)I"⟩
abbrev cL_put : ByteArray := method_5_code
def yL_put : MethodName := ⟨RL, "put", "(LHashPages;I[J)I"⟩
abbrev cL_remove : ByteArray := method_6_code
def yL_remove : MethodName := ⟨RL, "remove", "(LHashPages;[J)I"⟩
abbrev cL_get : ByteArray := method_7_code
def yL_get : MethodName := ⟨RL, "get", "(LHashPages;[J)I"⟩
abbrev cL_power : ByteArray := method_8_code
def yL_power : MethodName := ⟨RL, "power", "(LHashPages;I)I"⟩
abbrev cL_recover : ByteArray := method_9_code
def yL_recover : MethodName := ⟨RL, "recover", "(LHashPages;I[J)I"⟩
abbrev cL_law : ByteArray := code
def yL_law : MethodName := ⟨RL, "law", "([I)Z"⟩
abbrev vwCl : List vw_C := [(RX0, TX0, 3), (RX1, TX1, 8), (RX2, TX2, 1), (RX3, TX3, 2), (RX4, TX4, 7), (RX5, TX5, 26)]
def TB : List Cond := lw_tbl.filter goodWord
theorem TB_mem {w : Cond} (i : Nat) (h : lw_tbl[i]? = some w) (g : goodWord w = true) : w ∈ TB := List.mem_filter.mpr ⟨List.mem_of_getElem? h, g⟩
def nestW : List Cond := [Cond.methodLinkNest RX1 97 yX4_pagesFor RX4, Cond.methodLinkNest RX3 19 yX4_hashOf RX4, Cond.methodLinkNest RX1 115 yX4_hashOf RX4]
end
section
theorem in_L : Cond.initialized RL ∈ TB := TB_mem 56 rfl rfl
theorem in_X4 : Cond.initialized RX4 ∈ TB := TB_mem 57 rfl rfl
theorem in_X1 : Cond.initialized RX1 ∈ TB := TB_mem 58 rfl rfl
theorem in_X0 : Cond.initialized RX0 ∈ TB := TB_mem 59 rfl rfl
theorem in_X2 : Cond.initialized RX2 ∈ TB := TB_mem 60 rfl rfl
theorem in_X3 : Cond.initialized RX3 ∈ TB := TB_mem 61 rfl rfl
theorem in_J7 : Cond.initialized RJ7 ∈ TB := TB_mem 62 rfl rfl
theorem in_J10 : Cond.initialized RJ10 ∈ TB := TB_mem 63 rfl rfl
theorem in_X5 : Cond.initialized RX5 ∈ TB := TB_mem 64 rfl rfl
theorem in_java_lang_Throwable : Cond.initialized "java/lang/Throwable" ∈ TB := TB_mem 65 rfl rfl
theorem in_java_lang_Exception : Cond.initialized "java/lang/Exception" ∈ TB := TB_mem 66 rfl rfl
theorem in_java_lang_RuntimeException : Cond.initialized "java/lang/RuntimeException" ∈ TB := TB_mem 67 rfl rfl
theorem in_java_lang_IllegalArgumentException : Cond.initialized "java/lang/IllegalArgumentException" ∈ TB := TB_mem 68 rfl rfl
theorem in_java_lang_UnsupportedOperationException : Cond.initialized "java/lang/UnsupportedOperationException" ∈ TB := TB_mem 69 rfl rfl
theorem in_java_lang_IllegalStateException : Cond.initialized "java/lang/IllegalStateException" ∈ TB := TB_mem 70 rfl rfl
theorem in_J9 : Cond.initialized RJ9 ∈ TB := TB_mem 71 rfl rfl
theorem cl_L_8 : Cond.classLink RL 8 RX4 ∈ TB := TB_mem 72 rfl rfl
theorem ia_X4 : Cond.instantiable RX4 7 ∈ TB := TB_mem 73 rfl rfl
theorem ml_L_41 : Cond.methodLink RL 41 yX4_init ∈ TB := TB_mem 74 rfl rfl
theorem im_yX4_init : Cond.instanceMethod yX4_init ∈ TB := TB_mem 75 rfl rfl
theorem cd_yX4_init : Cond.code yX4_init cX4_init 1 none ∈ TB := TB_mem 76 rfl rfl
theorem ml_X4_1 : Cond.methodLink RX4 1 objectInit ∈ TB := TB_mem 77 rfl rfl
theorem im_objectInit : Cond.instanceMethod objectInit ∈ TB := TB_mem 78 rfl rfl
theorem cl_X4_7 : Cond.classLink RX4 7 RX1 ∈ TB := TB_mem 80 rfl rfl
theorem ia_X1 : Cond.instantiable RX1 8 ∈ TB := TB_mem 81 rfl rfl
theorem ml_X4_9 : Cond.methodLink RX4 9 yX1_init ∈ TB := TB_mem 82 rfl rfl
theorem im_yX1_init : Cond.instanceMethod yX1_init ∈ TB := TB_mem 83 rfl rfl
theorem cd_yX1_init : Cond.code yX1_init cX1_init 1 none ∈ TB := TB_mem 84 rfl rfl
theorem ml_X1_3 : Cond.methodLink RX1 3 objectInit ∈ TB := TB_mem 85 rfl rfl
theorem co_X1_9 : Cond.constant RX1 9 65280 ∈ TB := TB_mem 86 rfl rfl
theorem fl_X1_10 : Cond.fieldLink RX1 10 "HashPages$Disk" "cells" "[I" ∈ TB := TB_mem 87 rfl rfl
theorem fl_X1_16 : Cond.fieldLink RX1 16 "HashPages$Disk" "kinds" "[I" ∈ TB := TB_mem 88 rfl rfl
theorem fl_X1_33 : Cond.fieldLink RX1 33 "HashPages$Disk" "kindsAreOld" "Z" ∈ TB := TB_mem 89 rfl rfl
theorem fl_X1_19 : Cond.fieldLink RX1 19 "HashPages$Disk" "pages" "I" ∈ TB := TB_mem 90 rfl rfl
theorem fl_X1_23 : Cond.fieldLink RX1 23 "HashPages$Disk" "log" "I" ∈ TB := TB_mem 91 rfl rfl
theorem fl_X1_26 : Cond.fieldLink RX1 26 "HashPages$Disk" "writes" "I" ∈ TB := TB_mem 92 rfl rfl
theorem fl_X1_64 : Cond.fieldLink RX1 64 "HashPages$Disk" "allowed" "I" ∈ TB := TB_mem 93 rfl rfl
theorem fl_X1_67 : Cond.fieldLink RX1 67 "HashPages$Disk" "down" "Z" ∈ TB := TB_mem 94 rfl rfl
theorem ac_int : Cond.arrayClass .int ∈ TB := TB_mem 112 rfl rfl
theorem cl_X4_16 : Cond.classLink RX4 16 RX0 ∈ TB := TB_mem 113 rfl rfl
theorem ia_X0 : Cond.instantiable RX0 3 ∈ TB := TB_mem 114 rfl rfl
theorem ml_X4_18 : Cond.methodLink RX4 18 yX0_init ∈ TB := TB_mem 115 rfl rfl
theorem im_yX0_init : Cond.instanceMethod yX0_init ∈ TB := TB_mem 116 rfl rfl
theorem cd_yX0_init : Cond.code yX0_init cX0_init 2 none ∈ TB := TB_mem 117 rfl rfl
theorem ml_X0_3 : Cond.methodLink RX0 3 objectInit ∈ TB := TB_mem 118 rfl rfl
theorem cl_X0_15 : Cond.classLink RX0 15 RX2 ∈ TB := TB_mem 119 rfl rfl
theorem ia_X2 : Cond.instantiable RX2 1 ∈ TB := TB_mem 120 rfl rfl
theorem ml_X0_17 : Cond.methodLink RX0 17 yX2_init ∈ TB := TB_mem 121 rfl rfl
theorem im_yX2_init : Cond.instanceMethod yX2_init ∈ TB := TB_mem 122 rfl rfl
theorem cd_yX2_init : Cond.code yX2_init cX2_init 1 none ∈ TB := TB_mem 123 rfl rfl
theorem ml_X2_3 : Cond.methodLink RX2 3 objectInit ∈ TB := TB_mem 124 rfl rfl
theorem fl_X2_9 : Cond.fieldLink RX2 9 "HashPages$Page" "bytes" "[I" ∈ TB := TB_mem 125 rfl rfl
theorem fl_X0_9 : Cond.fieldLink RX0 9 "HashPages$Change" "disk" "LHashPages$Disk;" ∈ TB := TB_mem 129 rfl rfl
theorem fl_X0_18 : Cond.fieldLink RX0 18 "HashPages$Change" "journal" "LHashPages$Page;" ∈ TB := TB_mem 130 rfl rfl
theorem fl_X0_22 : Cond.fieldLink RX0 22 "HashPages$Change" "image" "LHashPages$Page;" ∈ TB := TB_mem 131 rfl rfl
theorem cl_X4_25 : Cond.classLink RX4 25 RX2 ∈ TB := TB_mem 139 rfl rfl
theorem ml_X4_27 : Cond.methodLink RX4 27 yX2_init ∈ TB := TB_mem 140 rfl rfl
theorem cl_X4_35 : Cond.classLink RX4 35 RX3 ∈ TB := TB_mem 141 rfl rfl
theorem ia_X3 : Cond.instantiable RX3 2 ∈ TB := TB_mem 142 rfl rfl
theorem ml_X4_37 : Cond.methodLink RX4 37 yX3_init ∈ TB := TB_mem 143 rfl rfl
theorem im_yX3_init : Cond.instanceMethod yX3_init ∈ TB := TB_mem 144 rfl rfl
theorem cd_yX3_init : Cond.code yX3_init cX3_init 1 none ∈ TB := TB_mem 145 rfl rfl
theorem ml_X3_3 : Cond.methodLink RX3 3 objectInit ∈ TB := TB_mem 146 rfl rfl
theorem fl_X3_9 : Cond.fieldLink RX3 9 "HashPages$Tape" "bytes" "[I" ∈ TB := TB_mem 147 rfl rfl
theorem fl_X3_15 : Cond.fieldLink RX3 15 "HashPages$Tape" "size" "I" ∈ TB := TB_mem 148 rfl rfl
theorem ml_X4_50 : Cond.methodLink RX4 50 yX1_wipe ∈ TB := TB_mem 154 rfl rfl
theorem im_yX1_wipe : Cond.instanceMethod yX1_wipe ∈ TB := TB_mem 155 rfl rfl
theorem se_yX1_wipe : Cond.selects RX1 yX1_wipe yX1_wipe ∈ TB := TB_mem 156 rfl rfl
theorem cd_yX1_wipe : Cond.code yX1_wipe cX1_wipe 5 none ∈ TB := TB_mem 157 rfl rfl
theorem ml_X1_29 : Cond.methodLink RX1 29 yX1_allow ∈ TB := TB_mem 158 rfl rfl
theorem im_yX1_allow : Cond.instanceMethod yX1_allow ∈ TB := TB_mem 159 rfl rfl
theorem se_yX1_allow : Cond.selects RX1 yX1_allow yX1_allow ∈ TB := TB_mem 160 rfl rfl
theorem cd_yX1_allow : Cond.code yX1_allow cX1_allow 2 none ∈ TB := TB_mem 161 rfl rfl
theorem ml_X1_37 : Cond.methodLink RX1 37 yX2_clear ∈ TB := TB_mem 162 rfl rfl
theorem im_yX2_clear : Cond.instanceMethod yX2_clear ∈ TB := TB_mem 163 rfl rfl
theorem se_yX2_clear : Cond.selects RX2 yX2_clear yX2_clear ∈ TB := TB_mem 164 rfl rfl
theorem cd_yX2_clear : Cond.code yX2_clear cX2_clear 1 none ∈ TB := TB_mem 165 rfl rfl
theorem ml_X2_15 : Cond.methodLink RX2 15 yJ7_fill_53178 ∈ TB := TB_mem 166 rfl rfl
theorem sm_yJ7_fill_53178 : Cond.static yJ7_fill_53178 ∈ TB := TB_mem 167 rfl rfl
theorem cd_yJ7_fill_53178 : Cond.code yJ7_fill_53178 cJ7_fill_53178 4 none ∈ TB := TB_mem 168 rfl rfl
theorem ml_X1_42 : Cond.methodLink RX1 42 yX1_place ∈ TB := TB_mem 169 rfl rfl
theorem im_yX1_place : Cond.instanceMethod yX1_place ∈ TB := TB_mem 171 rfl rfl
theorem cd_yX1_place : Cond.code yX1_place cX1_place 3 none ∈ TB := TB_mem 172 rfl rfl
theorem ml_X1_50 : Cond.methodLink RX1 50 yX1_isPage ∈ TB := TB_mem 173 rfl rfl
theorem im_yX1_isPage : Cond.instanceMethod yX1_isPage ∈ TB := TB_mem 175 rfl rfl
theorem cd_yX1_isPage : Cond.code yX1_isPage cX1_isPage 2 (some .boolean) ∈ TB := TB_mem 176 rfl rfl
theorem ml_X1_54 : Cond.methodLink RX1 54 yX2_bytes ∈ TB := TB_mem 177 rfl rfl
theorem im_yX2_bytes : Cond.instanceMethod yX2_bytes ∈ TB := TB_mem 178 rfl rfl
theorem se_yX2_bytes : Cond.selects RX2 yX2_bytes yX2_bytes ∈ TB := TB_mem 179 rfl rfl
theorem cd_yX2_bytes : Cond.code yX2_bytes cX2_bytes 1 (some (.array .int)) ∈ TB := TB_mem 180 rfl rfl
theorem ml_X1_58 : Cond.methodLink RX1 58 arraycopyName ∈ TB := TB_mem 181 rfl rfl
theorem sm_arraycopyName : Cond.static arraycopyName ∈ TB := TB_mem 182 rfl rfl
theorem nm_arraycopyName : Cond.native arraycopyName ∈ TB := TB_mem 183 rfl rfl
theorem ml_X1_46 : Cond.methodLink RX1 46 yX1_lay ∈ TB := TB_mem 184 rfl rfl
theorem im_yX1_lay : Cond.instanceMethod yX1_lay ∈ TB := TB_mem 186 rfl rfl
theorem cd_yX1_lay : Cond.code yX1_lay cX1_lay 4 none ∈ TB := TB_mem 187 rfl rfl
theorem fl_X4_10 : Cond.fieldLink RX4 10 "HashPages" "disk" "LHashPages$Disk;" ∈ TB := TB_mem 188 rfl rfl
theorem fl_X4_21 : Cond.fieldLink RX4 21 "HashPages" "change" "LHashPages$Change;" ∈ TB := TB_mem 189 rfl rfl
theorem fl_X4_28 : Cond.fieldLink RX4 28 "HashPages" "built" "LHashPages$Page;" ∈ TB := TB_mem 190 rfl rfl
theorem fl_X4_32 : Cond.fieldLink RX4 32 "HashPages" "head" "LHashPages$Page;" ∈ TB := TB_mem 191 rfl rfl
theorem fl_X4_38 : Cond.fieldLink RX4 38 "HashPages" "tape" "LHashPages$Tape;" ∈ TB := TB_mem 192 rfl rfl
theorem fl_X4_42 : Cond.fieldLink RX4 42 "HashPages" "answerBytes" "[I" ∈ TB := TB_mem 193 rfl rfl
theorem fl_X4_46 : Cond.fieldLink RX4 46 "HashPages" "answerSize" "I" ∈ TB := TB_mem 194 rfl rfl
theorem ml_L_71 : Cond.methodLink RL 71 yX4_answer ∈ TB := TB_mem 210 rfl rfl
theorem im_yX4_answer : Cond.instanceMethod yX4_answer ∈ TB := TB_mem 211 rfl rfl
theorem se_yX4_answer : Cond.selects RX4 yX4_answer yX4_answer ∈ TB := TB_mem 212 rfl rfl
theorem cd_yX4_answer : Cond.code yX4_answer cX4_answer 2 (some .int) ∈ TB := TB_mem 213 rfl rfl
theorem ml_L_82 : Cond.methodLink RL 82 yX4_byteOf ∈ TB := TB_mem 214 rfl rfl
theorem im_yX4_byteOf : Cond.instanceMethod yX4_byteOf ∈ TB := TB_mem 215 rfl rfl
theorem se_yX4_byteOf : Cond.selects RX4 yX4_byteOf yX4_byteOf ∈ TB := TB_mem 216 rfl rfl
theorem cd_yX4_byteOf : Cond.code yX4_byteOf cX4_byteOf 3 (some .int) ∈ TB := TB_mem 217 rfl rfl
theorem ml_X4_130 : Cond.methodLink RX4 130 yX1_at ∈ TB := TB_mem 218 rfl rfl
theorem im_yX1_at : Cond.instanceMethod yX1_at ∈ TB := TB_mem 219 rfl rfl
theorem se_yX1_at : Cond.selects RX1 yX1_at yX1_at ∈ TB := TB_mem 220 rfl rfl
theorem cd_yX1_at : Cond.code yX1_at cX1_at 3 (some .int) ∈ TB := TB_mem 221 rfl rfl
theorem ml_L_87 : Cond.methodLink RL 87 yX4_kind ∈ TB := TB_mem 222 rfl rfl
theorem im_yX4_kind : Cond.instanceMethod yX4_kind ∈ TB := TB_mem 223 rfl rfl
theorem se_yX4_kind : Cond.selects RX4 yX4_kind yX4_kind ∈ TB := TB_mem 224 rfl rfl
theorem cd_yX4_kind : Cond.code yX4_kind cX4_kind 2 (some .int) ∈ TB := TB_mem 225 rfl rfl
theorem ml_X4_142 : Cond.methodLink RX4 142 yX1_kindOf ∈ TB := TB_mem 226 rfl rfl
theorem im_yX1_kindOf : Cond.instanceMethod yX1_kindOf ∈ TB := TB_mem 227 rfl rfl
theorem se_yX1_kindOf : Cond.selects RX1 yX1_kindOf yX1_kindOf ∈ TB := TB_mem 228 rfl rfl
theorem cd_yX1_kindOf : Cond.code yX1_kindOf cX1_kindOf 2 (some .int) ∈ TB := TB_mem 229 rfl rfl
theorem ml_X1_88 : Cond.methodLink RX1 88 yX1_learnKinds ∈ TB := TB_mem 230 rfl rfl
theorem im_yX1_learnKinds : Cond.instanceMethod yX1_learnKinds ∈ TB := TB_mem 232 rfl rfl
theorem cd_yX1_learnKinds : Cond.code yX1_learnKinds cX1_learnKinds 7 none ∈ TB := TB_mem 233 rfl rfl
theorem ml_X1_91 : Cond.methodLink RX1 91 yJ7_fill_53178 ∈ TB := TB_mem 234 rfl rfl
theorem ml_X1_70 : Cond.methodLink RX1 70 yX1_at ∈ TB := TB_mem 235 rfl rfl
theorem sm_yX4_pagesFor : Cond.static yX4_pagesFor ∈ TB := TB_mem 237 rfl rfl
theorem cd_yX4_pagesFor : Cond.code yX4_pagesFor cX4_pagesFor 1 (some .int) ∈ TB := TB_mem 238 rfl rfl
theorem ml_X1_100 : Cond.methodLink RX1 100 yJ9_min_7cf53 ∈ TB := TB_mem 239 rfl rfl
theorem sm_yJ9_min_7cf53 : Cond.static yJ9_min_7cf53 ∈ TB := TB_mem 240 rfl rfl
theorem cd_yJ9_min_7cf53 : Cond.code yJ9_min_7cf53 cJ9_min_7cf53 2 (some .int) ∈ TB := TB_mem 241 rfl rfl
theorem ml_X1_105 : Cond.methodLink RX1 105 yX1_mark ∈ TB := TB_mem 242 rfl rfl
theorem im_yX1_mark : Cond.instanceMethod yX1_mark ∈ TB := TB_mem 244 rfl rfl
theorem cd_yX1_mark : Cond.code yX1_mark cX1_mark 3 none ∈ TB := TB_mem 245 rfl rfl
theorem ml_L_91 : Cond.methodLink RL 91 yX4_hash ∈ TB := TB_mem 246 rfl rfl
theorem im_yX4_hash : Cond.instanceMethod yX4_hash ∈ TB := TB_mem 247 rfl rfl
theorem se_yX4_hash : Cond.selects RX4 yX4_hash yX4_hash ∈ TB := TB_mem 248 rfl rfl
theorem cd_yX4_hash : Cond.code yX4_hash cX4_hash 2 (some .int) ∈ TB := TB_mem 249 rfl rfl
theorem ml_X4_67 : Cond.methodLink RX4 67 yX3_size ∈ TB := TB_mem 250 rfl rfl
set_option maxRecDepth 100000 in
theorem im_yX3_size : Cond.instanceMethod yX3_size ∈ TB := TB_mem 251 rfl rfl
set_option maxRecDepth 100000 in
theorem se_yX3_size : Cond.selects RX3 yX3_size yX3_size ∈ TB := TB_mem 252 rfl rfl
set_option maxRecDepth 100000 in
theorem cd_yX3_size : Cond.code yX3_size cX3_size 1 (some .int) ∈ TB := TB_mem 253 rfl rfl
set_option maxRecDepth 100000 in
theorem ml_X4_96 : Cond.methodLink RX4 96 yX3_keyHash ∈ TB := TB_mem 254 rfl rfl
set_option maxRecDepth 100000 in
theorem im_yX3_keyHash : Cond.instanceMethod yX3_keyHash ∈ TB := TB_mem 255 rfl rfl
set_option maxRecDepth 100000 in
theorem se_yX3_keyHash : Cond.selects RX3 yX3_keyHash yX3_keyHash ∈ TB := TB_mem 256 rfl rfl
set_option maxRecDepth 100000 in
theorem cd_yX3_keyHash : Cond.code yX3_keyHash cX3_keyHash 2 (some .int) ∈ TB := TB_mem 257 rfl rfl
set_option maxRecDepth 100000 in
theorem sm_yX4_hashOf : Cond.static yX4_hashOf ∈ TB := TB_mem 259 rfl rfl
set_option maxRecDepth 100000 in
theorem cd_yX4_hashOf : Cond.code yX4_hashOf cX4_hashOf 5 (some .int) ∈ TB := TB_mem 260 rfl rfl
set_option maxRecDepth 100000 in
theorem co_X4_264 : Cond.constant RX4 264 40503 ∈ TB := TB_mem 261 rfl rfl
set_option maxRecDepth 100000 in
theorem co_X4_265 : Cond.constant RX4 265 65535 ∈ TB := TB_mem 262 rfl rfl
set_option maxRecDepth 100000 in
theorem ml_L_95 : Cond.methodLink RL 95 yX4_entry ∈ TB := TB_mem 263 rfl rfl
set_option maxRecDepth 100000 in
theorem im_yX4_entry : Cond.instanceMethod yX4_entry ∈ TB := TB_mem 264 rfl rfl
set_option maxRecDepth 100000 in
theorem se_yX4_entry : Cond.selects RX4 yX4_entry yX4_entry ∈ TB := TB_mem 265 rfl rfl
set_option maxRecDepth 100000 in
theorem cd_yX4_entry : Cond.code yX4_entry cX4_entry 2 (some .int) ∈ TB := TB_mem 266 rfl rfl
set_option maxRecDepth 100000 in
theorem ml_X4_145 : Cond.methodLink RX4 145 yX1_entryAt ∈ TB := TB_mem 267 rfl rfl
set_option maxRecDepth 100000 in
theorem im_yX1_entryAt : Cond.instanceMethod yX1_entryAt ∈ TB := TB_mem 268 rfl rfl
set_option maxRecDepth 100000 in
theorem se_yX1_entryAt : Cond.selects RX1 yX1_entryAt yX1_entryAt ∈ TB := TB_mem 269 rfl rfl
set_option maxRecDepth 100000 in
theorem cd_yX1_entryAt : Cond.code yX1_entryAt cX1_entryAt 2 (some .int) ∈ TB := TB_mem 270 rfl rfl
set_option maxRecDepth 100000 in
theorem ml_X1_74 : Cond.methodLink RX1 74 yX1_depth ∈ TB := TB_mem 271 rfl rfl
set_option maxRecDepth 100000 in
theorem im_yX1_depth : Cond.instanceMethod yX1_depth ∈ TB := TB_mem 272 rfl rfl
set_option maxRecDepth 100000 in
theorem se_yX1_depth : Cond.selects RX1 yX1_depth yX1_depth ∈ TB := TB_mem 273 rfl rfl
set_option maxRecDepth 100000 in
theorem cd_yX1_depth : Cond.code yX1_depth cX1_depth 1 (some .int) ∈ TB := TB_mem 274 rfl rfl
set_option maxRecDepth 100000 in
theorem ml_X1_78 : Cond.methodLink RX1 78 yX1_directoryPage ∈ TB := TB_mem 275 rfl rfl
set_option maxRecDepth 100000 in
theorem im_yX1_directoryPage : Cond.instanceMethod yX1_directoryPage ∈ TB := TB_mem 276 rfl rfl
set_option maxRecDepth 100000 in
theorem se_yX1_directoryPage : Cond.selects RX1 yX1_directoryPage yX1_directoryPage ∈ TB := TB_mem 277 rfl rfl
set_option maxRecDepth 100000 in
theorem cd_yX1_directoryPage : Cond.code yX1_directoryPage cX1_directoryPage 2 (some .int) ∈ TB := TB_mem 278 rfl rfl
set_option maxRecDepth 100000 in
theorem ml_L_99 : Cond.methodLink RL 99 yX4_bucket ∈ TB := TB_mem 279 rfl rfl
set_option maxRecDepth 100000 in
theorem im_yX4_bucket : Cond.instanceMethod yX4_bucket ∈ TB := TB_mem 280 rfl rfl
set_option maxRecDepth 100000 in
theorem se_yX4_bucket : Cond.selects RX4 yX4_bucket yX4_bucket ∈ TB := TB_mem 281 rfl rfl
set_option maxRecDepth 100000 in
theorem cd_yX4_bucket : Cond.code yX4_bucket cX4_bucket 3 (some .int) ∈ TB := TB_mem 282 rfl rfl
set_option maxRecDepth 100000 in
theorem ml_X4_148 : Cond.methodLink RX4 148 yX1_recordBytes ∈ TB := TB_mem 283 rfl rfl
set_option maxRecDepth 100000 in
theorem im_yX1_recordBytes : Cond.instanceMethod yX1_recordBytes ∈ TB := TB_mem 284 rfl rfl
set_option maxRecDepth 100000 in
theorem se_yX1_recordBytes : Cond.selects RX1 yX1_recordBytes yX1_recordBytes ∈ TB := TB_mem 285 rfl rfl
set_option maxRecDepth 100000 in
theorem cd_yX1_recordBytes : Cond.code yX1_recordBytes cX1_recordBytes 2 (some .int) ∈ TB := TB_mem 286 rfl rfl
set_option maxRecDepth 100000 in
theorem ml_L_103 : Cond.methodLink RL 103 yX4_record ∈ TB := TB_mem 287 rfl rfl
set_option maxRecDepth 100000 in
theorem im_yX4_record : Cond.instanceMethod yX4_record ∈ TB := TB_mem 288 rfl rfl
set_option maxRecDepth 100000 in
theorem se_yX4_record : Cond.selects RX4 yX4_record yX4_record ∈ TB := TB_mem 289 rfl rfl
set_option maxRecDepth 100000 in
theorem cd_yX4_record : Cond.code yX4_record cX4_record 7 (some .int) ∈ TB := TB_mem 290 rfl rfl
set_option maxRecDepth 100000 in
theorem ml_X4_151 : Cond.methodLink RX4 151 yX1_recordStart ∈ TB := TB_mem 291 rfl rfl
set_option maxRecDepth 100000 in
theorem im_yX1_recordStart : Cond.instanceMethod yX1_recordStart ∈ TB := TB_mem 292 rfl rfl
set_option maxRecDepth 100000 in
theorem se_yX1_recordStart : Cond.selects RX1 yX1_recordStart yX1_recordStart ∈ TB := TB_mem 293 rfl rfl
set_option maxRecDepth 100000 in
theorem cd_yX1_recordStart : Cond.code yX1_recordStart cX1_recordStart 5 (some .int) ∈ TB := TB_mem 294 rfl rfl
set_option maxRecDepth 100000 in
theorem ml_X1_112 : Cond.methodLink RX1 112 yX1_recordSize ∈ TB := TB_mem 295 rfl rfl
set_option maxRecDepth 100000 in
theorem im_yX1_recordSize : Cond.instanceMethod yX1_recordSize ∈ TB := TB_mem 296 rfl rfl
set_option maxRecDepth 100000 in
theorem se_yX1_recordSize : Cond.selects RX1 yX1_recordSize yX1_recordSize ∈ TB := TB_mem 297 rfl rfl
set_option maxRecDepth 100000 in
theorem cd_yX1_recordSize : Cond.code yX1_recordSize cX1_recordSize 3 (some .int) ∈ TB := TB_mem 298 rfl rfl
set_option maxRecDepth 100000 in
theorem ml_L_108 : Cond.methodLink RL 108 yX4_look ∈ TB := TB_mem 299 rfl rfl
set_option maxRecDepth 100000 in
theorem im_yX4_look : Cond.instanceMethod yX4_look ∈ TB := TB_mem 300 rfl rfl
set_option maxRecDepth 100000 in
theorem se_yX4_look : Cond.selects RX4 yX4_look yX4_look ∈ TB := TB_mem 301 rfl rfl
set_option maxRecDepth 100000 in
theorem cd_yX4_look : Cond.code yX4_look cX4_look 2 (some .int) ∈ TB := TB_mem 302 rfl rfl
set_option maxRecDepth 100000 in
theorem ml_X4_154 : Cond.methodLink RX4 154 yX1_pages ∈ TB := TB_mem 303 rfl rfl
set_option maxRecDepth 100000 in
theorem im_yX1_pages : Cond.instanceMethod yX1_pages ∈ TB := TB_mem 304 rfl rfl
set_option maxRecDepth 100000 in
theorem se_yX1_pages : Cond.selects RX1 yX1_pages yX1_pages ∈ TB := TB_mem 305 rfl rfl
set_option maxRecDepth 100000 in
theorem cd_yX1_pages : Cond.code yX1_pages cX1_pages 1 (some .int) ∈ TB := TB_mem 306 rfl rfl
set_option maxRecDepth 100000 in
theorem ml_X4_157 : Cond.methodLink RX4 157 yX1_log ∈ TB := TB_mem 307 rfl rfl
set_option maxRecDepth 100000 in
theorem im_yX1_log : Cond.instanceMethod yX1_log ∈ TB := TB_mem 308 rfl rfl
set_option maxRecDepth 100000 in
theorem se_yX1_log : Cond.selects RX1 yX1_log yX1_log ∈ TB := TB_mem 309 rfl rfl
set_option maxRecDepth 100000 in
theorem cd_yX1_log : Cond.code yX1_log cX1_log 1 (some .int) ∈ TB := TB_mem 310 rfl rfl
set_option maxRecDepth 100000 in
theorem ml_X4_160 : Cond.methodLink RX4 160 yX1_depth ∈ TB := TB_mem 311 rfl rfl
set_option maxRecDepth 100000 in
theorem ml_X4_163 : Cond.methodLink RX4 163 yX1_countKind ∈ TB := TB_mem 312 rfl rfl
set_option maxRecDepth 100000 in
theorem im_yX1_countKind : Cond.instanceMethod yX1_countKind ∈ TB := TB_mem 313 rfl rfl
set_option maxRecDepth 100000 in
theorem se_yX1_countKind : Cond.selects RX1 yX1_countKind yX1_countKind ∈ TB := TB_mem 314 rfl rfl
set_option maxRecDepth 100000 in
theorem cd_yX1_countKind : Cond.code yX1_countKind cX1_countKind 4 (some .int) ∈ TB := TB_mem 315 rfl rfl
set_option maxRecDepth 100000 in
theorem ml_X1_109 : Cond.methodLink RX1 109 yX1_kindOf ∈ TB := TB_mem 316 rfl rfl
set_option maxRecDepth 100000 in
theorem ml_X4_166 : Cond.methodLink RX4 166 yX1_countRecords ∈ TB := TB_mem 317 rfl rfl
set_option maxRecDepth 100000 in
theorem im_yX1_countRecords : Cond.instanceMethod yX1_countRecords ∈ TB := TB_mem 318 rfl rfl
set_option maxRecDepth 100000 in
theorem se_yX1_countRecords : Cond.selects RX1 yX1_countRecords yX1_countRecords ∈ TB := TB_mem 319 rfl rfl
set_option maxRecDepth 100000 in
theorem cd_yX1_countRecords : Cond.code yX1_countRecords cX1_countRecords 3 (some .int) ∈ TB := TB_mem 320 rfl rfl
set_option maxRecDepth 100000 in
theorem ml_X4_169 : Cond.methodLink RX4 169 yX1_writes ∈ TB := TB_mem 321 rfl rfl
set_option maxRecDepth 100000 in
theorem im_yX1_writes : Cond.instanceMethod yX1_writes ∈ TB := TB_mem 322 rfl rfl
set_option maxRecDepth 100000 in
theorem se_yX1_writes : Cond.selects RX1 yX1_writes yX1_writes ∈ TB := TB_mem 323 rfl rfl
set_option maxRecDepth 100000 in
theorem cd_yX1_writes : Cond.code yX1_writes cX1_writes 1 (some .int) ∈ TB := TB_mem 324 rfl rfl
set_option maxRecDepth 100000 in
theorem ml_X4_83 : Cond.methodLink RX4 83 yX1_isDown ∈ TB := TB_mem 325 rfl rfl
set_option maxRecDepth 100000 in
theorem im_yX1_isDown : Cond.instanceMethod yX1_isDown ∈ TB := TB_mem 326 rfl rfl
set_option maxRecDepth 100000 in
theorem se_yX1_isDown : Cond.selects RX1 yX1_isDown yX1_isDown ∈ TB := TB_mem 327 rfl rfl
set_option maxRecDepth 100000 in
theorem cd_yX1_isDown : Cond.code yX1_isDown cX1_isDown 1 (some .boolean) ∈ TB := TB_mem 328 rfl rfl
set_option maxRecDepth 100000 in
theorem ml_X4_172 : Cond.methodLink RX4 172 yX1_allowed ∈ TB := TB_mem 329 rfl rfl
set_option maxRecDepth 100000 in
theorem im_yX1_allowed : Cond.instanceMethod yX1_allowed ∈ TB := TB_mem 330 rfl rfl
set_option maxRecDepth 100000 in
theorem se_yX1_allowed : Cond.selects RX1 yX1_allowed yX1_allowed ∈ TB := TB_mem 331 rfl rfl
set_option maxRecDepth 100000 in
theorem cd_yX1_allowed : Cond.code yX1_allowed cX1_allowed 1 (some .int) ∈ TB := TB_mem 332 rfl rfl
set_option maxRecDepth 100000 in
theorem ml_L_45 : Cond.methodLink RL 45 yL_format ∈ TB := TB_mem 333 rfl rfl
set_option maxRecDepth 100000 in
theorem sm_yL_format : Cond.static yL_format ∈ TB := TB_mem 334 rfl rfl
set_option maxRecDepth 100000 in
theorem cl_L_13 : Cond.classLink RL 13 "java/lang/IllegalArgumentException" ∈ TB := TB_mem 336 rfl rfl
set_option maxRecDepth 100000 in
theorem ml_L_7 : Cond.methodLink RL 7 yX4_format ∈ TB := TB_mem 337 rfl rfl
set_option maxRecDepth 100000 in
theorem im_yX4_format : Cond.instanceMethod yX4_format ∈ TB := TB_mem 338 rfl rfl
set_option maxRecDepth 100000 in
theorem se_yX4_format : Cond.selects RX4 yX4_format yX4_format ∈ TB := TB_mem 339 rfl rfl
set_option maxRecDepth 100000 in
theorem cd_yX4_format : Cond.code yX4_format cX4_format 3 none ∈ TB := TB_mem 340 rfl rfl
set_option maxRecDepth 100000 in
theorem cl_X4_54 : Cond.classLink RX4 54 "java/lang/IllegalArgumentException" ∈ TB := TB_mem 341 rfl rfl
set_option maxRecDepth 100000 in
theorem ia_java_lang_IllegalArgumentException : Cond.instantiable "java/lang/IllegalArgumentException" 6 ∈ TB := TB_mem 342 rfl rfl
set_option maxRecDepth 100000 in
theorem fl_java_lang_Throwable_198 : Cond.fieldLink "java/lang/Throwable" 198 "java/lang/Throwable" "backtrace" "Ljava/lang/Object;" ∈ TB := TB_mem 362 rfl rfl
set_option maxRecDepth 100000 in
theorem im___java_lang_Throwable_____init_______V__ : Cond.instanceMethod ⟨"java/lang/Throwable", "<init>", "()V"⟩ ∈ TB := TB_mem 364 rfl rfl
set_option maxRecDepth 100000 in
theorem cd___java_lang_Throwable_____init_______V__ : Cond.code ⟨"java/lang/Throwable", "<init>", "()V"⟩ prog_15_method_1_code 1 none ∈ TB := TB_mem 365 rfl rfl
set_option maxRecDepth 100000 in
theorem ml_java_lang_Throwable_1 : Cond.methodLink "java/lang/Throwable" 1 objectInit ∈ TB := TB_mem 366 rfl rfl
set_option maxRecDepth 100000 in
theorem fl_java_lang_Throwable_13 : Cond.fieldLink "java/lang/Throwable" 13 "java/lang/Throwable" "UNASSIGNED_STACK" "[Ljava/lang/StackTraceElement;" ∈ TB := TB_mem 367 rfl rfl
set_option maxRecDepth 100000 in
theorem fl_java_lang_Throwable_20 : Cond.fieldLink "java/lang/Throwable" 20 "java/lang/Throwable" "SUPPRESSED_SENTINEL" "Ljava/util/List;" ∈ TB := TB_mem 369 rfl rfl
set_option maxRecDepth 100000 in
theorem ml_java_lang_Throwable_27 : Cond.methodLink "java/lang/Throwable" 27 ⟨"java/lang/Throwable", "fillInStackTrace", "()Ljava/lang/Throwable;"⟩ ∈ TB := TB_mem 371 rfl rfl
set_option maxRecDepth 100000 in
theorem im___java_lang_Throwable____fillInStackTrace______Ljava_lang_Throwable___ : Cond.instanceMethod ⟨"java/lang/Throwable", "fillInStackTrace", "()Ljava/lang/Throwable;"⟩ ∈ TB := TB_mem 372 rfl rfl
set_option maxRecDepth 100000 in
theorem ml_java_lang_Throwable_202 : Cond.methodLink "java/lang/Throwable" 202 ⟨"java/lang/Throwable", "fillInStackTrace", "(I)Ljava/lang/Throwable;"⟩ ∈ TB := TB_mem 377 rfl rfl
set_option maxRecDepth 100000 in
theorem im___java_lang_Throwable____fillInStackTrace_____I_Ljava_lang_Throwable___ : Cond.instanceMethod ⟨"java/lang/Throwable", "fillInStackTrace", "(I)Ljava/lang/Throwable;"⟩ ∈ TB := TB_mem 379 rfl rfl
set_option maxRecDepth 100000 in
theorem ia_java_lang_Throwable : Cond.instantiable "java/lang/Throwable" 6 ∈ TB := TB_mem 380 rfl rfl
set_option maxRecDepth 100000 in
theorem nm___java_lang_Throwable____fillInStackTrace_____I_Ljava_lang_Throwable___ : Cond.native ⟨"java/lang/Throwable", "fillInStackTrace", "(I)Ljava/lang/Throwable;"⟩ ∈ TB := TB_mem 381 rfl rfl
set_option maxRecDepth 100000 in
theorem ml_X4_58 : Cond.methodLink RX4 58 ⟨"java/lang/IllegalArgumentException", "<init>", "(Ljava/lang/String;)V"⟩ ∈ TB := TB_mem 383 rfl rfl
set_option maxRecDepth 100000 in
theorem im___java_lang_IllegalArgumentException_____init______Ljava_lang_String__V__ : Cond.instanceMethod ⟨"java/lang/IllegalArgumentException", "<init>", "(Ljava/lang/String;)V"⟩ ∈ TB := TB_mem 384 rfl rfl
set_option maxRecDepth 100000 in
theorem cd___java_lang_IllegalArgumentException_____init______Ljava_lang_String__V__ : Cond.code ⟨"java/lang/IllegalArgumentException", "<init>", "(Ljava/lang/String;)V"⟩ prog_9_method_2_code 2 none ∈ TB := TB_mem 385 rfl rfl
set_option maxRecDepth 100000 in
theorem ml_java_lang_IllegalArgumentException_7 : Cond.methodLink "java/lang/IllegalArgumentException" 7 ⟨"java/lang/RuntimeException", "<init>", "(Ljava/lang/String;)V"⟩ ∈ TB := TB_mem 386 rfl rfl
set_option maxRecDepth 100000 in
theorem im___java_lang_RuntimeException_____init______Ljava_lang_String__V__ : Cond.instanceMethod ⟨"java/lang/RuntimeException", "<init>", "(Ljava/lang/String;)V"⟩ ∈ TB := TB_mem 387 rfl rfl
set_option maxRecDepth 100000 in
theorem cd___java_lang_RuntimeException_____init______Ljava_lang_String__V__ : Cond.code ⟨"java/lang/RuntimeException", "<init>", "(Ljava/lang/String;)V"⟩ prog_12_method_2_code 2 none ∈ TB := TB_mem 388 rfl rfl
set_option maxRecDepth 100000 in
theorem ml_java_lang_RuntimeException_7 : Cond.methodLink "java/lang/RuntimeException" 7 ⟨"java/lang/Exception", "<init>", "(Ljava/lang/String;)V"⟩ ∈ TB := TB_mem 389 rfl rfl
set_option maxRecDepth 100000 in
theorem im___java_lang_Exception_____init______Ljava_lang_String__V__ : Cond.instanceMethod ⟨"java/lang/Exception", "<init>", "(Ljava/lang/String;)V"⟩ ∈ TB := TB_mem 390 rfl rfl
set_option maxRecDepth 100000 in
theorem cd___java_lang_Exception_____init______Ljava_lang_String__V__ : Cond.code ⟨"java/lang/Exception", "<init>", "(Ljava/lang/String;)V"⟩ prog_8_method_2_code 2 none ∈ TB := TB_mem 391 rfl rfl
set_option maxRecDepth 100000 in
theorem ml_java_lang_Exception_7 : Cond.methodLink "java/lang/Exception" 7 ⟨"java/lang/Throwable", "<init>", "(Ljava/lang/String;)V"⟩ ∈ TB := TB_mem 392 rfl rfl
set_option maxRecDepth 100000 in
theorem im___java_lang_Throwable_____init______Ljava_lang_String__V__ : Cond.instanceMethod ⟨"java/lang/Throwable", "<init>", "(Ljava/lang/String;)V"⟩ ∈ TB := TB_mem 393 rfl rfl
set_option maxRecDepth 100000 in
theorem cd___java_lang_Throwable_____init______Ljava_lang_String__V__ : Cond.code ⟨"java/lang/Throwable", "<init>", "(Ljava/lang/String;)V"⟩ prog_15_method_2_code 2 none ∈ TB := TB_mem 394 rfl rfl
set_option maxRecDepth 100000 in
theorem fl_java_lang_Throwable_31 : Cond.fieldLink "java/lang/Throwable" 31 "java/lang/Throwable" "detailMessage" "Ljava/lang/String;" ∈ TB := TB_mem 396 rfl rfl
set_option maxRecDepth 100000 in
theorem fl_java_lang_Throwable_7 : Cond.fieldLink "java/lang/Throwable" 7 "java/lang/Throwable" "cause" "Ljava/lang/Throwable;" ∈ TB := TB_mem 397 rfl rfl
set_option maxRecDepth 100000 in
theorem fl_java_lang_Throwable_17 : Cond.fieldLink "java/lang/Throwable" 17 "java/lang/Throwable" "stackTrace" "[Ljava/lang/StackTraceElement;" ∈ TB := TB_mem 398 rfl rfl
set_option maxRecDepth 100000 in
theorem fl_java_lang_Throwable_24 : Cond.fieldLink "java/lang/Throwable" 24 "java/lang/Throwable" "suppressedExceptions" "Ljava/util/List;" ∈ TB := TB_mem 399 rfl rfl
set_option maxRecDepth 100000 in
theorem ac_byte : Cond.arrayClass .byte ∈ TB := TB_mem 408 rfl rfl
set_option maxRecDepth 100000 in
theorem ml_L_56 : Cond.methodLink RL 56 yL_feed ∈ TB := TB_mem 411 rfl rfl
set_option maxRecDepth 100000 in
theorem sm_yL_feed : Cond.static yL_feed ∈ TB := TB_mem 412 rfl rfl
set_option maxRecDepth 100000 in
theorem cl_L_19 : Cond.classLink RL 19 "java/lang/UnsupportedOperationException" ∈ TB := TB_mem 414 rfl rfl
set_option maxRecDepth 100000 in
theorem ml_L_15 : Cond.methodLink RL 15 yX4_feed ∈ TB := TB_mem 415 rfl rfl
set_option maxRecDepth 100000 in
theorem im_yX4_feed : Cond.instanceMethod yX4_feed ∈ TB := TB_mem 416 rfl rfl
set_option maxRecDepth 100000 in
theorem se_yX4_feed : Cond.selects RX4 yX4_feed yX4_feed ∈ TB := TB_mem 417 rfl rfl
set_option maxRecDepth 100000 in
theorem cd_yX4_feed : Cond.code yX4_feed cX4_feed 9 (some .int) ∈ TB := TB_mem 418 rfl rfl
set_option maxRecDepth 100000 in
theorem cl_X4_71 : Cond.classLink RX4 71 "java/lang/UnsupportedOperationException" ∈ TB := TB_mem 420 rfl rfl
set_option maxRecDepth 100000 in
theorem ia_java_lang_UnsupportedOperationException : Cond.instantiable "java/lang/UnsupportedOperationException" 6 ∈ TB := TB_mem 421 rfl rfl
set_option maxRecDepth 100000 in
theorem ml_X4_75 : Cond.methodLink RX4 75 ⟨"java/lang/UnsupportedOperationException", "<init>", "(Ljava/lang/String;)V"⟩ ∈ TB := TB_mem 430 rfl rfl
set_option maxRecDepth 100000 in
theorem im___java_lang_UnsupportedOperationException_____init______Ljava_lang_String__V__ : Cond.instanceMethod ⟨"java/lang/UnsupportedOperationException", "<init>", "(Ljava/lang/String;)V"⟩ ∈ TB := TB_mem 431 rfl rfl
set_option maxRecDepth 100000 in
theorem cd___java_lang_UnsupportedOperationException_____init______Ljava_lang_String__V__ : Cond.code ⟨"java/lang/UnsupportedOperationException", "<init>", "(Ljava/lang/String;)V"⟩ prog_16_method_2_code 2 none ∈ TB := TB_mem 432 rfl rfl
set_option maxRecDepth 100000 in
theorem ml_java_lang_UnsupportedOperationException_7 : Cond.methodLink "java/lang/UnsupportedOperationException" 7 ⟨"java/lang/RuntimeException", "<init>", "(Ljava/lang/String;)V"⟩ ∈ TB := TB_mem 433 rfl rfl
set_option maxRecDepth 100000 in
theorem ml_X4_76 : Cond.methodLink RX4 76 yX3_append ∈ TB := TB_mem 436 rfl rfl
set_option maxRecDepth 100000 in
theorem im_yX3_append : Cond.instanceMethod yX3_append ∈ TB := TB_mem 437 rfl rfl
set_option maxRecDepth 100000 in
theorem se_yX3_append : Cond.selects RX3 yX3_append yX3_append ∈ TB := TB_mem 438 rfl rfl
set_option maxRecDepth 100000 in
theorem cd_yX3_append : Cond.code yX3_append cX3_append 2 none ∈ TB := TB_mem 439 rfl rfl
set_option maxRecDepth 100000 in
theorem ml_L_60 : Cond.methodLink RL 60 yL_put ∈ TB := TB_mem 440 rfl rfl
set_option maxRecDepth 100000 in
theorem sm_yL_put : Cond.static yL_put ∈ TB := TB_mem 441 rfl rfl
set_option maxRecDepth 100000 in
theorem cl_L_25 : Cond.classLink RL 25 "java/lang/IllegalStateException" ∈ TB := TB_mem 443 rfl rfl
set_option maxRecDepth 100000 in
theorem ml_L_21 : Cond.methodLink RL 21 yX4_put ∈ TB := TB_mem 444 rfl rfl
set_option maxRecDepth 100000 in
theorem im_yX4_put : Cond.instanceMethod yX4_put ∈ TB := TB_mem 445 rfl rfl
set_option maxRecDepth 100000 in
theorem se_yX4_put : Cond.selects RX4 yX4_put yX4_put ∈ TB := TB_mem 446 rfl rfl
set_option maxRecDepth 100000 in
theorem cd_yX4_put : Cond.code yX4_put cX4_put 5 (some .int) ∈ TB := TB_mem 447 rfl rfl
set_option maxRecDepth 100000 in
theorem ml_X4_80 : Cond.methodLink RX4 80 yX3_take ∈ TB := TB_mem 448 rfl rfl
set_option maxRecDepth 100000 in
theorem im_yX3_take : Cond.instanceMethod yX3_take ∈ TB := TB_mem 449 rfl rfl
set_option maxRecDepth 100000 in
theorem se_yX3_take : Cond.selects RX3 yX3_take yX3_take ∈ TB := TB_mem 450 rfl rfl
set_option maxRecDepth 100000 in
theorem cd_yX3_take : Cond.code yX3_take cX3_take 2 (some .int) ∈ TB := TB_mem 451 rfl rfl
set_option maxRecDepth 100000 in
theorem cl_X4_87 : Cond.classLink RX4 87 "java/lang/IllegalStateException" ∈ TB := TB_mem 452 rfl rfl
set_option maxRecDepth 100000 in
theorem ia_java_lang_IllegalStateException : Cond.instantiable "java/lang/IllegalStateException" 6 ∈ TB := TB_mem 453 rfl rfl
set_option maxRecDepth 100000 in
theorem ml_X4_91 : Cond.methodLink RX4 91 ⟨"java/lang/IllegalStateException", "<init>", "(Ljava/lang/String;)V"⟩ ∈ TB := TB_mem 462 rfl rfl
set_option maxRecDepth 100000 in
theorem im___java_lang_IllegalStateException_____init______Ljava_lang_String__V__ : Cond.instanceMethod ⟨"java/lang/IllegalStateException", "<init>", "(Ljava/lang/String;)V"⟩ ∈ TB := TB_mem 463 rfl rfl
set_option maxRecDepth 100000 in
theorem cd___java_lang_IllegalStateException_____init______Ljava_lang_String__V__ : Cond.code ⟨"java/lang/IllegalStateException", "<init>", "(Ljava/lang/String;)V"⟩ prog_10_method_2_code 2 none ∈ TB := TB_mem 464 rfl rfl
set_option maxRecDepth 100000 in
theorem ml_java_lang_IllegalStateException_7 : Cond.methodLink "java/lang/IllegalStateException" 7 ⟨"java/lang/RuntimeException", "<init>", "(Ljava/lang/String;)V"⟩ ∈ TB := TB_mem 465 rfl rfl
set_option maxRecDepth 100000 in
theorem ml_X4_100 : Cond.methodLink RX4 100 yX4_makePlace ∈ TB := TB_mem 470 rfl rfl
set_option maxRecDepth 100000 in
theorem im_yX4_makePlace : Cond.instanceMethod yX4_makePlace ∈ TB := TB_mem 472 rfl rfl
set_option maxRecDepth 100000 in
theorem cd_yX4_makePlace : Cond.code yX4_makePlace cX4_makePlace 8 (some .int) ∈ TB := TB_mem 473 rfl rfl
set_option maxRecDepth 100000 in
theorem ml_X4_104 : Cond.methodLink RX4 104 yX1_bucketOf ∈ TB := TB_mem 474 rfl rfl
set_option maxRecDepth 100000 in
theorem im_yX1_bucketOf : Cond.instanceMethod yX1_bucketOf ∈ TB := TB_mem 475 rfl rfl
set_option maxRecDepth 100000 in
theorem se_yX1_bucketOf : Cond.selects RX1 yX1_bucketOf yX1_bucketOf ∈ TB := TB_mem 476 rfl rfl
set_option maxRecDepth 100000 in
theorem cd_yX1_bucketOf : Cond.code yX1_bucketOf cX1_bucketOf 2 (some .int) ∈ TB := TB_mem 477 rfl rfl
set_option maxRecDepth 100000 in
theorem ml_X1_82 : Cond.methodLink RX1 82 yX1_indexOf ∈ TB := TB_mem 478 rfl rfl
set_option maxRecDepth 100000 in
theorem im_yX1_indexOf : Cond.instanceMethod yX1_indexOf ∈ TB := TB_mem 479 rfl rfl
set_option maxRecDepth 100000 in
theorem se_yX1_indexOf : Cond.selects RX1 yX1_indexOf yX1_indexOf ∈ TB := TB_mem 480 rfl rfl
set_option maxRecDepth 100000 in
theorem cd_yX1_indexOf : Cond.code yX1_indexOf cX1_indexOf 2 (some .int) ∈ TB := TB_mem 481 rfl rfl
set_option maxRecDepth 100000 in
theorem ml_X1_85 : Cond.methodLink RX1 85 yX1_entryAt ∈ TB := TB_mem 482 rfl rfl
set_option maxRecDepth 100000 in
theorem ml_X4_175 : Cond.methodLink RX4 175 yX4_hasPlace ∈ TB := TB_mem 483 rfl rfl
set_option maxRecDepth 100000 in
theorem im_yX4_hasPlace : Cond.instanceMethod yX4_hasPlace ∈ TB := TB_mem 485 rfl rfl
set_option maxRecDepth 100000 in
theorem cd_yX4_hasPlace : Cond.code yX4_hasPlace cX4_hasPlace 6 (some .boolean) ∈ TB := TB_mem 486 rfl rfl
set_option maxRecDepth 100000 in
theorem ml_X4_112 : Cond.methodLink RX4 112 yX1_find ∈ TB := TB_mem 487 rfl rfl
set_option maxRecDepth 100000 in
theorem im_yX1_find : Cond.instanceMethod yX1_find ∈ TB := TB_mem 488 rfl rfl
set_option maxRecDepth 100000 in
theorem se_yX1_find : Cond.selects RX1 yX1_find yX1_find ∈ TB := TB_mem 489 rfl rfl
set_option maxRecDepth 100000 in
theorem cd_yX1_find : Cond.code yX1_find cX1_find 7 (some .int) ∈ TB := TB_mem 490 rfl rfl
set_option maxRecDepth 100000 in
theorem ml_X1_122 : Cond.methodLink RX1 122 yX1_hasKey ∈ TB := TB_mem 491 rfl rfl
set_option maxRecDepth 100000 in
theorem im_yX1_hasKey : Cond.instanceMethod yX1_hasKey ∈ TB := TB_mem 493 rfl rfl
set_option maxRecDepth 100000 in
theorem cd_yX1_hasKey : Cond.code yX1_hasKey cX1_hasKey 6 (some .boolean) ∈ TB := TB_mem 494 rfl rfl
set_option maxRecDepth 100000 in
theorem ml_X1_126 : Cond.methodLink RX1 126 yX3_byteAt ∈ TB := TB_mem 495 rfl rfl
set_option maxRecDepth 100000 in
theorem im_yX3_byteAt : Cond.instanceMethod yX3_byteAt ∈ TB := TB_mem 496 rfl rfl
set_option maxRecDepth 100000 in
theorem se_yX3_byteAt : Cond.selects RX3 yX3_byteAt yX3_byteAt ∈ TB := TB_mem 497 rfl rfl
set_option maxRecDepth 100000 in
theorem cd_yX3_byteAt : Cond.code yX3_byteAt cX3_byteAt 2 (some .int) ∈ TB := TB_mem 498 rfl rfl
set_option maxRecDepth 100000 in
theorem ml_X4_189 : Cond.methodLink RX4 189 yX1_recordSize ∈ TB := TB_mem 499 rfl rfl
set_option maxRecDepth 100000 in
theorem ml_X4_179 : Cond.methodLink RX4 179 yX1_allHashesAre ∈ TB := TB_mem 500 rfl rfl
set_option maxRecDepth 100000 in
theorem im_yX1_allHashesAre : Cond.instanceMethod yX1_allHashesAre ∈ TB := TB_mem 501 rfl rfl
set_option maxRecDepth 100000 in
theorem se_yX1_allHashesAre : Cond.selects RX1 yX1_allHashesAre yX1_allHashesAre ∈ TB := TB_mem 502 rfl rfl
set_option maxRecDepth 100000 in
theorem cd_yX1_allHashesAre : Cond.code yX1_allHashesAre cX1_allHashesAre 6 (some .boolean) ∈ TB := TB_mem 503 rfl rfl
set_option maxRecDepth 100000 in
theorem ml_X1_119 : Cond.methodLink RX1 119 yX1_recordHash ∈ TB := TB_mem 504 rfl rfl
set_option maxRecDepth 100000 in
theorem im_yX1_recordHash : Cond.instanceMethod yX1_recordHash ∈ TB := TB_mem 505 rfl rfl
set_option maxRecDepth 100000 in
theorem se_yX1_recordHash : Cond.selects RX1 yX1_recordHash yX1_recordHash ∈ TB := TB_mem 506 rfl rfl
set_option maxRecDepth 100000 in
theorem cd_yX1_recordHash : Cond.code yX1_recordHash cX1_recordHash 3 (some .int) ∈ TB := TB_mem 507 rfl rfl
set_option maxRecDepth 100000 in
theorem ml_X4_183 : Cond.methodLink RX4 183 yX4_resizeDirectory ∈ TB := TB_mem 509 rfl rfl
set_option maxRecDepth 100000 in
theorem im_yX4_resizeDirectory : Cond.instanceMethod yX4_resizeDirectory ∈ TB := TB_mem 511 rfl rfl
set_option maxRecDepth 100000 in
theorem cd_yX4_resizeDirectory : Cond.code yX4_resizeDirectory cX4_resizeDirectory 7 (some .int) ∈ TB := TB_mem 512 rfl rfl
set_option maxRecDepth 100000 in
theorem ml_X4_206 : Cond.methodLink RX4 206 yX4_pagesFor ∈ TB := TB_mem 513 rfl rfl
set_option maxRecDepth 100000 in
theorem ml_X4_209 : Cond.methodLink RX4 209 yX0_begin ∈ TB := TB_mem 514 rfl rfl
set_option maxRecDepth 100000 in
theorem im_yX0_begin : Cond.instanceMethod yX0_begin ∈ TB := TB_mem 515 rfl rfl
set_option maxRecDepth 100000 in
theorem se_yX0_begin : Cond.selects RX0 yX0_begin yX0_begin ∈ TB := TB_mem 516 rfl rfl
set_option maxRecDepth 100000 in
theorem cd_yX0_begin : Cond.code yX0_begin cX0_begin 1 none ∈ TB := TB_mem 517 rfl rfl
set_option maxRecDepth 100000 in
theorem ml_X0_25 : Cond.methodLink RX0 25 yX2_clear ∈ TB := TB_mem 518 rfl rfl
set_option maxRecDepth 100000 in
theorem ml_X4_212 : Cond.methodLink RX4 212 yX2_clear ∈ TB := TB_mem 519 rfl rfl
set_option maxRecDepth 100000 in
theorem ml_X4_215 : Cond.methodLink RX4 215 yX2_set ∈ TB := TB_mem 520 rfl rfl
set_option maxRecDepth 100000 in
theorem im_yX2_set : Cond.instanceMethod yX2_set ∈ TB := TB_mem 521 rfl rfl
set_option maxRecDepth 100000 in
theorem se_yX2_set : Cond.selects RX2 yX2_set yX2_set ∈ TB := TB_mem 522 rfl rfl
set_option maxRecDepth 100000 in
theorem cd_yX2_set : Cond.code yX2_set cX2_set 3 none ∈ TB := TB_mem 523 rfl rfl
set_option maxRecDepth 100000 in
theorem ml_X4_218 : Cond.methodLink RX4 218 yX1_directoryPage ∈ TB := TB_mem 524 rfl rfl
set_option maxRecDepth 100000 in
theorem ml_X4_221 : Cond.methodLink RX4 221 yX1_freeBehind ∈ TB := TB_mem 525 rfl rfl
set_option maxRecDepth 100000 in
theorem im_yX1_freeBehind : Cond.instanceMethod yX1_freeBehind ∈ TB := TB_mem 526 rfl rfl
set_option maxRecDepth 100000 in
theorem se_yX1_freeBehind : Cond.selects RX1 yX1_freeBehind yX1_freeBehind ∈ TB := TB_mem 527 rfl rfl
set_option maxRecDepth 100000 in
theorem cd_yX1_freeBehind : Cond.code yX1_freeBehind cX1_freeBehind 3 (some .int) ∈ TB := TB_mem 528 rfl rfl
set_option maxRecDepth 100000 in
theorem ml_X4_224 : Cond.methodLink RX4 224 yX4_buildDirectoryPage ∈ TB := TB_mem 529 rfl rfl
set_option maxRecDepth 100000 in
theorem im_yX4_buildDirectoryPage : Cond.instanceMethod yX4_buildDirectoryPage ∈ TB := TB_mem 531 rfl rfl
set_option maxRecDepth 100000 in
theorem cd_yX4_buildDirectoryPage : Cond.code yX4_buildDirectoryPage cX4_buildDirectoryPage 8 none ∈ TB := TB_mem 532 rfl rfl
set_option maxRecDepth 100000 in
theorem ml_X4_227 : Cond.methodLink RX4 227 yX0_add ∈ TB := TB_mem 533 rfl rfl
set_option maxRecDepth 100000 in
theorem im_yX0_add : Cond.instanceMethod yX0_add ∈ TB := TB_mem 534 rfl rfl
set_option maxRecDepth 100000 in
theorem se_yX0_add : Cond.selects RX0 yX0_add yX0_add ∈ TB := TB_mem 535 rfl rfl
set_option maxRecDepth 100000 in
theorem cd_yX0_add : Cond.code yX0_add cX0_add 4 (some .boolean) ∈ TB := TB_mem 536 rfl rfl
set_option maxRecDepth 100000 in
theorem ml_X0_28 : Cond.methodLink RX0 28 yX2_byteAt ∈ TB := TB_mem 537 rfl rfl
set_option maxRecDepth 100000 in
theorem im_yX2_byteAt : Cond.instanceMethod yX2_byteAt ∈ TB := TB_mem 538 rfl rfl
set_option maxRecDepth 100000 in
theorem se_yX2_byteAt : Cond.selects RX2 yX2_byteAt yX2_byteAt ∈ TB := TB_mem 539 rfl rfl
set_option maxRecDepth 100000 in
theorem cd_yX2_byteAt : Cond.code yX2_byteAt cX2_byteAt 2 (some .int) ∈ TB := TB_mem 540 rfl rfl
set_option maxRecDepth 100000 in
theorem ml_X0_32 : Cond.methodLink RX0 32 yX2_set ∈ TB := TB_mem 541 rfl rfl
set_option maxRecDepth 100000 in
theorem ml_X0_36 : Cond.methodLink RX0 36 yX1_write ∈ TB := TB_mem 542 rfl rfl
set_option maxRecDepth 100000 in
theorem im_yX1_write : Cond.instanceMethod yX1_write ∈ TB := TB_mem 543 rfl rfl
set_option maxRecDepth 100000 in
theorem se_yX1_write : Cond.selects RX1 yX1_write yX1_write ∈ TB := TB_mem 544 rfl rfl
set_option maxRecDepth 100000 in
theorem cd_yX1_write : Cond.code yX1_write cX1_write 3 (some .boolean) ∈ TB := TB_mem 545 rfl rfl
set_option maxRecDepth 100000 in
theorem ml_X4_231 : Cond.methodLink RX4 231 yX0_finish ∈ TB := TB_mem 546 rfl rfl
set_option maxRecDepth 100000 in
theorem im_yX0_finish : Cond.instanceMethod yX0_finish ∈ TB := TB_mem 547 rfl rfl
set_option maxRecDepth 100000 in
theorem se_yX0_finish : Cond.selects RX0 yX0_finish yX0_finish ∈ TB := TB_mem 548 rfl rfl
set_option maxRecDepth 100000 in
theorem cd_yX0_finish : Cond.code yX0_finish cX0_finish 1 (some .boolean) ∈ TB := TB_mem 549 rfl rfl
set_option maxRecDepth 100000 in
theorem ml_X0_42 : Cond.methodLink RX0 42 yX0_settle ∈ TB := TB_mem 550 rfl rfl
set_option maxRecDepth 100000 in
theorem im_yX0_settle : Cond.instanceMethod yX0_settle ∈ TB := TB_mem 551 rfl rfl
set_option maxRecDepth 100000 in
theorem se_yX0_settle : Cond.selects RX0 yX0_settle yX0_settle ∈ TB := TB_mem 552 rfl rfl
set_option maxRecDepth 100000 in
theorem cd_yX0_settle : Cond.code yX0_settle cX0_settle 3 (some .boolean) ∈ TB := TB_mem 553 rfl rfl
set_option maxRecDepth 100000 in
theorem ml_X0_46 : Cond.methodLink RX0 46 yX1_at ∈ TB := TB_mem 554 rfl rfl
set_option maxRecDepth 100000 in
theorem ml_X0_50 : Cond.methodLink RX0 50 yX1_read ∈ TB := TB_mem 555 rfl rfl
set_option maxRecDepth 100000 in
theorem im_yX1_read : Cond.instanceMethod yX1_read ∈ TB := TB_mem 556 rfl rfl
set_option maxRecDepth 100000 in
theorem se_yX1_read : Cond.selects RX1 yX1_read yX1_read ∈ TB := TB_mem 557 rfl rfl
set_option maxRecDepth 100000 in
theorem cd_yX1_read : Cond.code yX1_read cX1_read 3 none ∈ TB := TB_mem 558 rfl rfl
set_option maxRecDepth 100000 in
theorem ml_X4_186 : Cond.methodLink RX4 186 yX4_split ∈ TB := TB_mem 559 rfl rfl
set_option maxRecDepth 100000 in
theorem im_yX4_split : Cond.instanceMethod yX4_split ∈ TB := TB_mem 561 rfl rfl
set_option maxRecDepth 100000 in
theorem cd_yX4_split : Cond.code yX4_split cX4_split 9 (some .int) ∈ TB := TB_mem 562 rfl rfl
set_option maxRecDepth 100000 in
theorem ml_X4_234 : Cond.methodLink RX4 234 yX1_indexOf ∈ TB := TB_mem 563 rfl rfl
set_option maxRecDepth 100000 in
theorem ml_X4_237 : Cond.methodLink RX4 237 yX4_directoryPagesOf ∈ TB := TB_mem 564 rfl rfl
set_option maxRecDepth 100000 in
theorem sm_yX4_directoryPagesOf : Cond.static yX4_directoryPagesOf ∈ TB := TB_mem 565 rfl rfl
set_option maxRecDepth 100000 in
theorem cd_yX4_directoryPagesOf : Cond.code yX4_directoryPagesOf cX4_directoryPagesOf 2 (some .int) ∈ TB := TB_mem 566 rfl rfl
set_option maxRecDepth 100000 in
theorem ml_X4_240 : Cond.methodLink RX4 240 yX4_buildHalf ∈ TB := TB_mem 567 rfl rfl
set_option maxRecDepth 100000 in
theorem im_yX4_buildHalf : Cond.instanceMethod yX4_buildHalf ∈ TB := TB_mem 569 rfl rfl
set_option maxRecDepth 100000 in
theorem cd_yX4_buildHalf : Cond.code yX4_buildHalf cX4_buildHalf 8 none ∈ TB := TB_mem 570 rfl rfl
set_option maxRecDepth 100000 in
theorem ml_X4_196 : Cond.methodLink RX4 196 yX2_startBucket ∈ TB := TB_mem 571 rfl rfl
set_option maxRecDepth 100000 in
theorem im_yX2_startBucket : Cond.instanceMethod yX2_startBucket ∈ TB := TB_mem 572 rfl rfl
set_option maxRecDepth 100000 in
theorem se_yX2_startBucket : Cond.selects RX2 yX2_startBucket yX2_startBucket ∈ TB := TB_mem 573 rfl rfl
set_option maxRecDepth 100000 in
theorem cd_yX2_startBucket : Cond.code yX2_startBucket cX2_startBucket 2 none ∈ TB := TB_mem 574 rfl rfl
set_option maxRecDepth 100000 in
theorem ml_X2_21 : Cond.methodLink RX2 21 yX2_clear ∈ TB := TB_mem 575 rfl rfl
set_option maxRecDepth 100000 in
theorem ml_X2_24 : Cond.methodLink RX2 24 yX2_set ∈ TB := TB_mem 576 rfl rfl
set_option maxRecDepth 100000 in
theorem ml_X4_247 : Cond.methodLink RX4 247 yX1_recordHash ∈ TB := TB_mem 577 rfl rfl
set_option maxRecDepth 100000 in
theorem ml_X4_202 : Cond.methodLink RX4 202 yX2_copyRecord ∈ TB := TB_mem 578 rfl rfl
set_option maxRecDepth 100000 in
theorem im_yX2_copyRecord : Cond.instanceMethod yX2_copyRecord ∈ TB := TB_mem 579 rfl rfl
set_option maxRecDepth 100000 in
theorem se_yX2_copyRecord : Cond.selects RX2 yX2_copyRecord yX2_copyRecord ∈ TB := TB_mem 580 rfl rfl
set_option maxRecDepth 100000 in
theorem cd_yX2_copyRecord : Cond.code yX2_copyRecord cX2_copyRecord 7 none ∈ TB := TB_mem 581 rfl rfl
set_option maxRecDepth 100000 in
theorem ml_X2_28 : Cond.methodLink RX2 28 yX1_recordSize ∈ TB := TB_mem 582 rfl rfl
set_option maxRecDepth 100000 in
theorem ml_X2_34 : Cond.methodLink RX2 34 yX2_countRecord ∈ TB := TB_mem 583 rfl rfl
set_option maxRecDepth 100000 in
theorem im_yX2_countRecord : Cond.instanceMethod yX2_countRecord ∈ TB := TB_mem 585 rfl rfl
set_option maxRecDepth 100000 in
theorem cd_yX2_countRecord : Cond.code yX2_countRecord cX2_countRecord 3 (some .int) ∈ TB := TB_mem 586 rfl rfl
set_option maxRecDepth 100000 in
theorem ml_X2_46 : Cond.methodLink RX2 46 yX2_byteAt ∈ TB := TB_mem 587 rfl rfl
set_option maxRecDepth 100000 in
theorem ml_X2_38 : Cond.methodLink RX2 38 yX1_at ∈ TB := TB_mem 588 rfl rfl
set_option maxRecDepth 100000 in
theorem ml_X4_244 : Cond.methodLink RX4 244 yX4_retell ∈ TB := TB_mem 589 rfl rfl
set_option maxRecDepth 100000 in
theorem im_yX4_retell : Cond.instanceMethod yX4_retell ∈ TB := TB_mem 591 rfl rfl
set_option maxRecDepth 100000 in
theorem cd_yX4_retell : Cond.code yX4_retell cX4_retell 9 (some .boolean) ∈ TB := TB_mem 592 rfl rfl
set_option maxRecDepth 100000 in
theorem ml_X4_250 : Cond.methodLink RX4 250 yX1_read ∈ TB := TB_mem 593 rfl rfl
set_option maxRecDepth 100000 in
theorem ml_X4_107 : Cond.methodLink RX4 107 yX4_storeRecord ∈ TB := TB_mem 594 rfl rfl
set_option maxRecDepth 100000 in
theorem im_yX4_storeRecord : Cond.instanceMethod yX4_storeRecord ∈ TB := TB_mem 596 rfl rfl
set_option maxRecDepth 100000 in
theorem cd_yX4_storeRecord : Cond.code yX4_storeRecord cX4_storeRecord 4 (some .int) ∈ TB := TB_mem 597 rfl rfl
set_option maxRecDepth 100000 in
theorem ml_X4_116 : Cond.methodLink RX4 116 yX4_buildWithout ∈ TB := TB_mem 598 rfl rfl
set_option maxRecDepth 100000 in
theorem im_yX4_buildWithout : Cond.instanceMethod yX4_buildWithout ∈ TB := TB_mem 600 rfl rfl
set_option maxRecDepth 100000 in
theorem cd_yX4_buildWithout : Cond.code yX4_buildWithout cX4_buildWithout 3 none ∈ TB := TB_mem 601 rfl rfl
set_option maxRecDepth 100000 in
theorem ml_X4_199 : Cond.methodLink RX4 199 yX4_addRecordsBut ∈ TB := TB_mem 602 rfl rfl
set_option maxRecDepth 100000 in
theorem im_yX4_addRecordsBut : Cond.instanceMethod yX4_addRecordsBut ∈ TB := TB_mem 604 rfl rfl
set_option maxRecDepth 100000 in
theorem cd_yX4_addRecordsBut : Cond.code yX4_addRecordsBut cX4_addRecordsBut 6 none ∈ TB := TB_mem 605 rfl rfl
set_option maxRecDepth 100000 in
theorem ml_X4_192 : Cond.methodLink RX4 192 yX2_addRecord ∈ TB := TB_mem 606 rfl rfl
set_option maxRecDepth 100000 in
theorem im_yX2_addRecord : Cond.instanceMethod yX2_addRecord ∈ TB := TB_mem 607 rfl rfl
set_option maxRecDepth 100000 in
theorem se_yX2_addRecord : Cond.selects RX2 yX2_addRecord yX2_addRecord ∈ TB := TB_mem 608 rfl rfl
set_option maxRecDepth 100000 in
theorem cd_yX2_addRecord : Cond.code yX2_addRecord cX2_addRecord 6 none ∈ TB := TB_mem 609 rfl rfl
set_option maxRecDepth 100000 in
theorem ml_X2_41 : Cond.methodLink RX2 41 yX3_byteAt ∈ TB := TB_mem 610 rfl rfl
set_option maxRecDepth 100000 in
theorem ml_X4_120 : Cond.methodLink RX4 120 yX1_write ∈ TB := TB_mem 611 rfl rfl
set_option maxRecDepth 100000 in
theorem ml_L_64 : Cond.methodLink RL 64 yL_remove ∈ TB := TB_mem 612 rfl rfl
set_option maxRecDepth 100000 in
theorem sm_yL_remove : Cond.static yL_remove ∈ TB := TB_mem 613 rfl rfl
set_option maxRecDepth 100000 in
theorem ml_L_27 : Cond.methodLink RL 27 yX4_remove ∈ TB := TB_mem 615 rfl rfl
set_option maxRecDepth 100000 in
theorem im_yX4_remove : Cond.instanceMethod yX4_remove ∈ TB := TB_mem 616 rfl rfl
set_option maxRecDepth 100000 in
theorem se_yX4_remove : Cond.selects RX4 yX4_remove yX4_remove ∈ TB := TB_mem 617 rfl rfl
set_option maxRecDepth 100000 in
theorem cd_yX4_remove : Cond.code yX4_remove cX4_remove 6 (some .int) ∈ TB := TB_mem 618 rfl rfl
set_option maxRecDepth 100000 in
theorem ml_X4_124 : Cond.methodLink RX4 124 yX4_mergeAll ∈ TB := TB_mem 620 rfl rfl
set_option maxRecDepth 100000 in
theorem im_yX4_mergeAll : Cond.instanceMethod yX4_mergeAll ∈ TB := TB_mem 622 rfl rfl
set_option maxRecDepth 100000 in
theorem cd_yX4_mergeAll : Cond.code yX4_mergeAll cX4_mergeAll 5 (some .int) ∈ TB := TB_mem 623 rfl rfl
set_option maxRecDepth 100000 in
theorem ml_X4_254 : Cond.methodLink RX4 254 yX4_mergePartner ∈ TB := TB_mem 624 rfl rfl
set_option maxRecDepth 100000 in
theorem im_yX4_mergePartner : Cond.instanceMethod yX4_mergePartner ∈ TB := TB_mem 626 rfl rfl
set_option maxRecDepth 100000 in
theorem cd_yX4_mergePartner : Cond.code yX4_mergePartner cX4_mergePartner 5 (some .int) ∈ TB := TB_mem 627 rfl rfl
set_option maxRecDepth 100000 in
theorem ml_X4_257 : Cond.methodLink RX4 257 yX4_merge ∈ TB := TB_mem 628 rfl rfl
set_option maxRecDepth 100000 in
theorem im_yX4_merge : Cond.instanceMethod yX4_merge ∈ TB := TB_mem 630 rfl rfl
set_option maxRecDepth 100000 in
theorem cd_yX4_merge : Cond.code yX4_merge cX4_merge 11 (some .int) ∈ TB := TB_mem 631 rfl rfl
set_option maxRecDepth 100000 in
theorem ml_X4_127 : Cond.methodLink RX4 127 yX4_halveAll ∈ TB := TB_mem 632 rfl rfl
set_option maxRecDepth 100000 in
theorem im_yX4_halveAll : Cond.instanceMethod yX4_halveAll ∈ TB := TB_mem 634 rfl rfl
set_option maxRecDepth 100000 in
theorem cd_yX4_halveAll : Cond.code yX4_halveAll cX4_halveAll 4 (some .int) ∈ TB := TB_mem 635 rfl rfl
set_option maxRecDepth 100000 in
theorem ml_X4_260 : Cond.methodLink RX4 260 yX1_hasBucketOfDepth ∈ TB := TB_mem 636 rfl rfl
set_option maxRecDepth 100000 in
theorem im_yX1_hasBucketOfDepth : Cond.instanceMethod yX1_hasBucketOfDepth ∈ TB := TB_mem 637 rfl rfl
set_option maxRecDepth 100000 in
theorem se_yX1_hasBucketOfDepth : Cond.selects RX1 yX1_hasBucketOfDepth yX1_hasBucketOfDepth ∈ TB := TB_mem 638 rfl rfl
set_option maxRecDepth 100000 in
theorem cd_yX1_hasBucketOfDepth : Cond.code yX1_hasBucketOfDepth cX1_hasBucketOfDepth 3 (some .boolean) ∈ TB := TB_mem 639 rfl rfl
set_option maxRecDepth 100000 in
theorem ml_L_68 : Cond.methodLink RL 68 yL_get ∈ TB := TB_mem 640 rfl rfl
set_option maxRecDepth 100000 in
theorem sm_yL_get : Cond.static yL_get ∈ TB := TB_mem 641 rfl rfl
set_option maxRecDepth 100000 in
theorem ml_L_31 : Cond.methodLink RL 31 yX4_get ∈ TB := TB_mem 643 rfl rfl
set_option maxRecDepth 100000 in
theorem im_yX4_get : Cond.instanceMethod yX4_get ∈ TB := TB_mem 644 rfl rfl
set_option maxRecDepth 100000 in
theorem se_yX4_get : Cond.selects RX4 yX4_get yX4_get ∈ TB := TB_mem 645 rfl rfl
set_option maxRecDepth 100000 in
theorem cd_yX4_get : Cond.code yX4_get cX4_get 6 (some .int) ∈ TB := TB_mem 646 rfl rfl
set_option maxRecDepth 100000 in
theorem ml_L_75 : Cond.methodLink RL 75 yL_power ∈ TB := TB_mem 647 rfl rfl
set_option maxRecDepth 100000 in
theorem sm_yL_power : Cond.static yL_power ∈ TB := TB_mem 648 rfl rfl
set_option maxRecDepth 100000 in
theorem ml_L_34 : Cond.methodLink RL 34 yX4_power ∈ TB := TB_mem 650 rfl rfl
set_option maxRecDepth 100000 in
theorem im_yX4_power : Cond.instanceMethod yX4_power ∈ TB := TB_mem 651 rfl rfl
set_option maxRecDepth 100000 in
theorem se_yX4_power : Cond.selects RX4 yX4_power yX4_power ∈ TB := TB_mem 652 rfl rfl
set_option maxRecDepth 100000 in
theorem cd_yX4_power : Cond.code yX4_power cX4_power 2 none ∈ TB := TB_mem 653 rfl rfl
set_option maxRecDepth 100000 in
theorem ml_X4_136 : Cond.methodLink RX4 136 yX1_allow ∈ TB := TB_mem 655 rfl rfl
set_option maxRecDepth 100000 in
theorem ml_L_79 : Cond.methodLink RL 79 yL_recover ∈ TB := TB_mem 656 rfl rfl
set_option maxRecDepth 100000 in
theorem sm_yL_recover : Cond.static yL_recover ∈ TB := TB_mem 657 rfl rfl
set_option maxRecDepth 100000 in
theorem ml_L_38 : Cond.methodLink RL 38 yX4_recover ∈ TB := TB_mem 659 rfl rfl
set_option maxRecDepth 100000 in
theorem im_yX4_recover : Cond.instanceMethod yX4_recover ∈ TB := TB_mem 660 rfl rfl
set_option maxRecDepth 100000 in
theorem se_yX4_recover : Cond.selects RX4 yX4_recover yX4_recover ∈ TB := TB_mem 661 rfl rfl
set_option maxRecDepth 100000 in
theorem cd_yX4_recover : Cond.code yX4_recover cX4_recover 2 (some .int) ∈ TB := TB_mem 662 rfl rfl
set_option maxRecDepth 100000 in
theorem ml_X4_139 : Cond.methodLink RX4 139 yX0_settle ∈ TB := TB_mem 663 rfl rfl
set_option maxRecDepth 100000 in
theorem ml_L_51 : Cond.methodLink RL 51 yX5_thrown ∈ TB := TB_mem 664 rfl rfl
set_option maxRecDepth 100000 in
theorem im_yX5_thrown : Cond.instanceMethod yX5_thrown ∈ TB := TB_mem 665 rfl rfl
set_option maxRecDepth 100000 in
theorem se_yX5_thrown : Cond.selects RX5 yX5_thrown yX5_thrown ∈ TB := TB_mem 666 rfl rfl
set_option maxRecDepth 100000 in
theorem cd_yX5_thrown : Cond.code yX5_thrown cX5_thrown 1 (some .int) ∈ TB := TB_mem 667 rfl rfl
set_option maxRecDepth 100000 in
theorem cl_L_42 : Cond.classLink RL 42 RX5 ∈ TB := TB_mem 668 rfl rfl
set_option maxRecDepth 100000 in
theorem ia_X5 : Cond.instantiable RX5 26 ∈ TB := TB_mem 669 rfl rfl
set_option maxRecDepth 100000 in
theorem ml_L_44 : Cond.methodLink RL 44 yX5_init ∈ TB := TB_mem 670 rfl rfl
set_option maxRecDepth 100000 in
theorem im_yX5_init : Cond.instanceMethod yX5_init ∈ TB := TB_mem 671 rfl rfl
set_option maxRecDepth 100000 in
theorem cd_yX5_init : Cond.code yX5_init cX5_init 1 none ∈ TB := TB_mem 672 rfl rfl
set_option maxRecDepth 100000 in
theorem ml_X5_7 : Cond.methodLink RX5 7 objectInit ∈ TB := TB_mem 673 rfl rfl
set_option maxRecDepth 100000 in
theorem co_X5_13 : Cond.constant RX5 13 65536 ∈ TB := TB_mem 674 rfl rfl
set_option maxRecDepth 100000 in
theorem co_X5_44 : Cond.constant RX5 44 46080 ∈ TB := TB_mem 675 rfl rfl
set_option maxRecDepth 100000 in
theorem co_X5_49 : Cond.constant RX5 49 92160 ∈ TB := TB_mem 676 rfl rfl
set_option maxRecDepth 100000 in
theorem ml_X5_65 : Cond.methodLink RX5 65 yX5_anew ∈ TB := TB_mem 677 rfl rfl
set_option maxRecDepth 100000 in
theorem im_yX5_anew : Cond.instanceMethod yX5_anew ∈ TB := TB_mem 679 rfl rfl
set_option maxRecDepth 100000 in
theorem cd_yX5_anew : Cond.code yX5_anew cX5_anew 4 none ∈ TB := TB_mem 680 rfl rfl
set_option maxRecDepth 100000 in
theorem ml_X5_88 : Cond.methodLink RX5 88 yX5_decode ∈ TB := TB_mem 681 rfl rfl
set_option maxRecDepth 100000 in
theorem im_yX5_decode : Cond.instanceMethod yX5_decode ∈ TB := TB_mem 683 rfl rfl
set_option maxRecDepth 100000 in
theorem cd_yX5_decode : Cond.code yX5_decode cX5_decode 4 none ∈ TB := TB_mem 684 rfl rfl
set_option maxRecDepth 100000 in
theorem ml_X5_91 : Cond.methodLink RX5 91 yX5_at ∈ TB := TB_mem 685 rfl rfl
set_option maxRecDepth 100000 in
theorem im_yX5_at : Cond.instanceMethod yX5_at ∈ TB := TB_mem 687 rfl rfl
set_option maxRecDepth 100000 in
theorem cd_yX5_at : Cond.code yX5_at cX5_at 3 (some .int) ∈ TB := TB_mem 688 rfl rfl
set_option maxRecDepth 100000 in
theorem ml_X5_101 : Cond.methodLink RX5 101 yX5_isDirectory ∈ TB := TB_mem 689 rfl rfl
set_option maxRecDepth 100000 in
theorem im_yX5_isDirectory : Cond.instanceMethod yX5_isDirectory ∈ TB := TB_mem 691 rfl rfl
set_option maxRecDepth 100000 in
theorem cd_yX5_isDirectory : Cond.code yX5_isDirectory cX5_isDirectory 3 (some .boolean) ∈ TB := TB_mem 692 rfl rfl
set_option maxRecDepth 100000 in
theorem ml_X5_105 : Cond.methodLink RX5 105 yX5_bucket ∈ TB := TB_mem 693 rfl rfl
set_option maxRecDepth 100000 in
theorem im_yX5_bucket : Cond.instanceMethod yX5_bucket ∈ TB := TB_mem 695 rfl rfl
set_option maxRecDepth 100000 in
theorem cd_yX5_bucket : Cond.code yX5_bucket cX5_bucket 6 none ∈ TB := TB_mem 696 rfl rfl
set_option maxRecDepth 100000 in
theorem fl_X5_1 : Cond.fieldLink RX5 1 "HashPagesModel" "thrown" "I" ∈ TB := TB_mem 697 rfl rfl
set_option maxRecDepth 100000 in
theorem fl_X5_14 : Cond.fieldLink RX5 14 "HashPagesModel" "disk" "[B" ∈ TB := TB_mem 698 rfl rfl
set_option maxRecDepth 100000 in
theorem fl_X5_69 : Cond.fieldLink RX5 69 "HashPagesModel" "pages" "I" ∈ TB := TB_mem 699 rfl rfl
set_option maxRecDepth 100000 in
theorem fl_X5_72 : Cond.fieldLink RX5 72 "HashPagesModel" "log" "I" ∈ TB := TB_mem 700 rfl rfl
set_option maxRecDepth 100000 in
theorem fl_X5_75 : Cond.fieldLink RX5 75 "HashPagesModel" "written" "I" ∈ TB := TB_mem 701 rfl rfl
set_option maxRecDepth 100000 in
theorem fl_X5_78 : Cond.fieldLink RX5 78 "HashPagesModel" "power" "I" ∈ TB := TB_mem 702 rfl rfl
set_option maxRecDepth 100000 in
theorem fl_X5_81 : Cond.fieldLink RX5 81 "HashPagesModel" "down" "Z" ∈ TB := TB_mem 703 rfl rfl
set_option maxRecDepth 100000 in
theorem fl_X5_95 : Cond.fieldLink RX5 95 "HashPagesModel" "depth" "I" ∈ TB := TB_mem 704 rfl rfl
set_option maxRecDepth 100000 in
theorem fl_X5_98 : Cond.fieldLink RX5 98 "HashPagesModel" "dirMany" "I" ∈ TB := TB_mem 705 rfl rfl
set_option maxRecDepth 100000 in
theorem fl_X5_18 : Cond.fieldLink RX5 18 "HashPagesModel" "dir" "[I" ∈ TB := TB_mem 706 rfl rfl
set_option maxRecDepth 100000 in
theorem fl_X5_22 : Cond.fieldLink RX5 22 "HashPagesModel" "entries" "[I" ∈ TB := TB_mem 707 rfl rfl
set_option maxRecDepth 100000 in
theorem fl_X5_25 : Cond.fieldLink RX5 25 "HashPagesModel" "other" "[I" ∈ TB := TB_mem 708 rfl rfl
set_option maxRecDepth 100000 in
theorem fl_X5_28 : Cond.fieldLink RX5 28 "HashPagesModel" "isBucket" "[Z" ∈ TB := TB_mem 709 rfl rfl
set_option maxRecDepth 100000 in
theorem fl_X5_32 : Cond.fieldLink RX5 32 "HashPagesModel" "bucketDepth" "[I" ∈ TB := TB_mem 710 rfl rfl
set_option maxRecDepth 100000 in
theorem fl_X5_35 : Cond.fieldLink RX5 35 "HashPagesModel" "many" "[I" ∈ TB := TB_mem 711 rfl rfl
set_option maxRecDepth 100000 in
theorem fl_X5_38 : Cond.fieldLink RX5 38 "HashPagesModel" "keySize" "[I" ∈ TB := TB_mem 712 rfl rfl
set_option maxRecDepth 100000 in
theorem fl_X5_41 : Cond.fieldLink RX5 41 "HashPagesModel" "valueSize" "[I" ∈ TB := TB_mem 713 rfl rfl
set_option maxRecDepth 100000 in
theorem fl_X5_45 : Cond.fieldLink RX5 45 "HashPagesModel" "keys" "[J" ∈ TB := TB_mem 714 rfl rfl
set_option maxRecDepth 100000 in
theorem fl_X5_50 : Cond.fieldLink RX5 50 "HashPagesModel" "values" "[J" ∈ TB := TB_mem 715 rfl rfl
set_option maxRecDepth 100000 in
theorem fl_X5_53 : Cond.fieldLink RX5 53 "HashPagesModel" "tape" "[B" ∈ TB := TB_mem 716 rfl rfl
set_option maxRecDepth 100000 in
theorem fl_X5_172 : Cond.fieldLink RX5 172 "HashPagesModel" "taped" "I" ∈ TB := TB_mem 717 rfl rfl
set_option maxRecDepth 100000 in
theorem fl_X5_56 : Cond.fieldLink RX5 56 "HashPagesModel" "answer" "[B" ∈ TB := TB_mem 718 rfl rfl
set_option maxRecDepth 100000 in
theorem fl_X5_85 : Cond.fieldLink RX5 85 "HashPagesModel" "answered" "I" ∈ TB := TB_mem 719 rfl rfl
set_option maxRecDepth 100000 in
theorem fl_X5_59 : Cond.fieldLink RX5 59 "HashPagesModel" "out" "[I" ∈ TB := TB_mem 720 rfl rfl
set_option maxRecDepth 100000 in
theorem fl_X5_62 : Cond.fieldLink RX5 62 "HashPagesModel" "change" "[I" ∈ TB := TB_mem 721 rfl rfl
set_option maxRecDepth 100000 in
theorem fl_X5_124 : Cond.fieldLink RX5 124 "HashPagesModel" "changes" "I" ∈ TB := TB_mem 722 rfl rfl
set_option maxRecDepth 100000 in
theorem ac_boolean : Cond.arrayClass .boolean ∈ TB := TB_mem 776 rfl rfl
set_option maxRecDepth 100000 in
theorem ac_long : Cond.arrayClass .long ∈ TB := TB_mem 777 rfl rfl
set_option maxRecDepth 100000 in
theorem ml_L_50 : Cond.methodLink RL 50 yX5_format ∈ TB := TB_mem 778 rfl rfl
set_option maxRecDepth 100000 in
theorem im_yX5_format : Cond.instanceMethod yX5_format ∈ TB := TB_mem 779 rfl rfl
set_option maxRecDepth 100000 in
theorem se_yX5_format : Cond.selects RX5 yX5_format yX5_format ∈ TB := TB_mem 780 rfl rfl
set_option maxRecDepth 100000 in
theorem cd_yX5_format : Cond.code yX5_format cX5_format 3 none ∈ TB := TB_mem 781 rfl rfl
set_option maxRecDepth 100000 in
theorem ml_L_63 : Cond.methodLink RL 63 yX5_put ∈ TB := TB_mem 782 rfl rfl
set_option maxRecDepth 100000 in
theorem im_yX5_put : Cond.instanceMethod yX5_put ∈ TB := TB_mem 783 rfl rfl
set_option maxRecDepth 100000 in
theorem se_yX5_put : Cond.selects RX5 yX5_put yX5_put ∈ TB := TB_mem 784 rfl rfl
set_option maxRecDepth 100000 in
theorem cd_yX5_put : Cond.code yX5_put cX5_put 8 (some .int) ∈ TB := TB_mem 785 rfl rfl
set_option maxRecDepth 100000 in
theorem ml_X5_175 : Cond.methodLink RX5 175 yX5_throwing ∈ TB := TB_mem 786 rfl rfl
set_option maxRecDepth 100000 in
theorem im_yX5_throwing : Cond.instanceMethod yX5_throwing ∈ TB := TB_mem 788 rfl rfl
set_option maxRecDepth 100000 in
theorem cd_yX5_throwing : Cond.code yX5_throwing cX5_throwing 2 (some .int) ∈ TB := TB_mem 789 rfl rfl
set_option maxRecDepth 100000 in
theorem ml_X5_140 : Cond.methodLink RX5 140 yX5_tapeHash ∈ TB := TB_mem 790 rfl rfl
set_option maxRecDepth 100000 in
theorem im_yX5_tapeHash : Cond.instanceMethod yX5_tapeHash ∈ TB := TB_mem 792 rfl rfl
set_option maxRecDepth 100000 in
theorem cd_yX5_tapeHash : Cond.code yX5_tapeHash cX5_tapeHash 4 (some .int) ∈ TB := TB_mem 793 rfl rfl
set_option maxRecDepth 100000 in
theorem co_X5_109 : Cond.constant RX5 109 40503 ∈ TB := TB_mem 794 rfl rfl
set_option maxRecDepth 100000 in
theorem ml_X5_114 : Cond.methodLink RX5 114 yX5_step ∈ TB := TB_mem 795 rfl rfl
set_option maxRecDepth 100000 in
theorem sm_yX5_step : Cond.static yX5_step ∈ TB := TB_mem 796 rfl rfl
set_option maxRecDepth 100000 in
theorem cd_yX5_step : Cond.code yX5_step cX5_step 3 (some .int) ∈ TB := TB_mem 797 rfl rfl
set_option maxRecDepth 100000 in
theorem co_X5_110 : Cond.constant RX5 110 65535 ∈ TB := TB_mem 798 rfl rfl
set_option maxRecDepth 100000 in
theorem ml_X5_178 : Cond.methodLink RX5 178 yX5_bucketOf ∈ TB := TB_mem 799 rfl rfl
set_option maxRecDepth 100000 in
theorem im_yX5_bucketOf : Cond.instanceMethod yX5_bucketOf ∈ TB := TB_mem 801 rfl rfl
set_option maxRecDepth 100000 in
theorem cd_yX5_bucketOf : Cond.code yX5_bucketOf cX5_bucketOf 2 (some .int) ∈ TB := TB_mem 802 rfl rfl
set_option maxRecDepth 100000 in
theorem ml_X5_143 : Cond.methodLink RX5 143 yX5_first ∈ TB := TB_mem 803 rfl rfl
set_option maxRecDepth 100000 in
theorem sm_yX5_first : Cond.static yX5_first ∈ TB := TB_mem 804 rfl rfl
set_option maxRecDepth 100000 in
theorem cd_yX5_first : Cond.code yX5_first cX5_first 2 (some .int) ∈ TB := TB_mem 805 rfl rfl
set_option maxRecDepth 100000 in
theorem ml_X5_181 : Cond.methodLink RX5 181 yX5_filled ∈ TB := TB_mem 806 rfl rfl
set_option maxRecDepth 100000 in
theorem im_yX5_filled : Cond.instanceMethod yX5_filled ∈ TB := TB_mem 808 rfl rfl
set_option maxRecDepth 100000 in
theorem cd_yX5_filled : Cond.code yX5_filled cX5_filled 6 (some .int) ∈ TB := TB_mem 809 rfl rfl
set_option maxRecDepth 100000 in
theorem ml_X5_169 : Cond.methodLink RX5 169 yX5_find ∈ TB := TB_mem 810 rfl rfl
set_option maxRecDepth 100000 in
theorem im_yX5_find : Cond.instanceMethod yX5_find ∈ TB := TB_mem 812 rfl rfl
set_option maxRecDepth 100000 in
theorem cd_yX5_find : Cond.code yX5_find cX5_find 4 (some .int) ∈ TB := TB_mem 813 rfl rfl
set_option maxRecDepth 100000 in
theorem ml_X5_146 : Cond.methodLink RX5 146 yX5_isKey ∈ TB := TB_mem 814 rfl rfl
set_option maxRecDepth 100000 in
theorem im_yX5_isKey : Cond.instanceMethod yX5_isKey ∈ TB := TB_mem 816 rfl rfl
set_option maxRecDepth 100000 in
theorem cd_yX5_isKey : Cond.code yX5_isKey cX5_isKey 5 (some .boolean) ∈ TB := TB_mem 817 rfl rfl
set_option maxRecDepth 100000 in
theorem ml_X5_111 : Cond.methodLink RX5 111 yX5_keyByte ∈ TB := TB_mem 818 rfl rfl
set_option maxRecDepth 100000 in
theorem im_yX5_keyByte : Cond.instanceMethod yX5_keyByte ∈ TB := TB_mem 820 rfl rfl
set_option maxRecDepth 100000 in
theorem cd_yX5_keyByte : Cond.code yX5_keyByte cX5_keyByte 3 (some .int) ∈ TB := TB_mem 821 rfl rfl
set_option maxRecDepth 100000 in
theorem ml_X5_117 : Cond.methodLink RX5 117 yX5_bytesOf ∈ TB := TB_mem 822 rfl rfl
set_option maxRecDepth 100000 in
theorem im_yX5_bytesOf : Cond.instanceMethod yX5_bytesOf ∈ TB := TB_mem 824 rfl rfl
set_option maxRecDepth 100000 in
theorem cd_yX5_bytesOf : Cond.code yX5_bytesOf cX5_bytesOf 4 (some .int) ∈ TB := TB_mem 825 rfl rfl
set_option maxRecDepth 100000 in
theorem ml_X5_185 : Cond.methodLink RX5 185 yX5_isAlike ∈ TB := TB_mem 826 rfl rfl
set_option maxRecDepth 100000 in
theorem im_yX5_isAlike : Cond.instanceMethod yX5_isAlike ∈ TB := TB_mem 828 rfl rfl
set_option maxRecDepth 100000 in
theorem cd_yX5_isAlike : Cond.code yX5_isAlike cX5_isAlike 5 (some .boolean) ∈ TB := TB_mem 829 rfl rfl
set_option maxRecDepth 100000 in
theorem ml_X5_163 : Cond.methodLink RX5 163 yX5_hashOf ∈ TB := TB_mem 830 rfl rfl
set_option maxRecDepth 100000 in
theorem im_yX5_hashOf : Cond.instanceMethod yX5_hashOf ∈ TB := TB_mem 832 rfl rfl
set_option maxRecDepth 100000 in
theorem cd_yX5_hashOf : Cond.code yX5_hashOf cX5_hashOf 4 (some .int) ∈ TB := TB_mem 833 rfl rfl
set_option maxRecDepth 100000 in
theorem ml_X5_188 : Cond.methodLink RX5 188 yX5_doubles ∈ TB := TB_mem 834 rfl rfl
set_option maxRecDepth 100000 in
theorem im_yX5_doubles : Cond.instanceMethod yX5_doubles ∈ TB := TB_mem 836 rfl rfl
set_option maxRecDepth 100000 in
theorem cd_yX5_doubles : Cond.code yX5_doubles cX5_doubles 5 (some .int) ∈ TB := TB_mem 837 rfl rfl
set_option maxRecDepth 100000 in
theorem ml_X5_153 : Cond.methodLink RX5 153 yX5_free ∈ TB := TB_mem 838 rfl rfl
set_option maxRecDepth 100000 in
theorem im_yX5_free : Cond.instanceMethod yX5_free ∈ TB := TB_mem 840 rfl rfl
set_option maxRecDepth 100000 in
theorem cd_yX5_free : Cond.code yX5_free cX5_free 3 (some .int) ∈ TB := TB_mem 841 rfl rfl
set_option maxRecDepth 100000 in
theorem ml_X5_156 : Cond.methodLink RX5 156 yX5_changed ∈ TB := TB_mem 842 rfl rfl
set_option maxRecDepth 100000 in
theorem im_yX5_changed : Cond.instanceMethod yX5_changed ∈ TB := TB_mem 844 rfl rfl
set_option maxRecDepth 100000 in
theorem cd_yX5_changed : Cond.code yX5_changed cX5_changed 1 (some .int) ∈ TB := TB_mem 845 rfl rfl
set_option maxRecDepth 100000 in
theorem ml_X5_136 : Cond.methodLink RX5 136 yX5_allWritten ∈ TB := TB_mem 846 rfl rfl
set_option maxRecDepth 100000 in
theorem im_yX5_allWritten : Cond.instanceMethod yX5_allWritten ∈ TB := TB_mem 848 rfl rfl
set_option maxRecDepth 100000 in
theorem cd_yX5_allWritten : Cond.code yX5_allWritten cX5_allWritten 2 (some .boolean) ∈ TB := TB_mem 849 rfl rfl
set_option maxRecDepth 100000 in
theorem ml_X5_127 : Cond.methodLink RX5 127 yX5_render ∈ TB := TB_mem 850 rfl rfl
set_option maxRecDepth 100000 in
theorem im_yX5_render : Cond.instanceMethod yX5_render ∈ TB := TB_mem 852 rfl rfl
set_option maxRecDepth 100000 in
theorem cd_yX5_render : Cond.code yX5_render cX5_render 7 none ∈ TB := TB_mem 853 rfl rfl
set_option maxRecDepth 100000 in
theorem ml_X5_121 : Cond.methodLink RX5 121 yX5_valueByte ∈ TB := TB_mem 854 rfl rfl
set_option maxRecDepth 100000 in
theorem im_yX5_valueByte : Cond.instanceMethod yX5_valueByte ∈ TB := TB_mem 856 rfl rfl
set_option maxRecDepth 100000 in
theorem cd_yX5_valueByte : Cond.code yX5_valueByte cX5_valueByte 3 (some .int) ∈ TB := TB_mem 857 rfl rfl
set_option maxRecDepth 100000 in
theorem ml_X5_130 : Cond.methodLink RX5 130 yX5_writes ∈ TB := TB_mem 858 rfl rfl
set_option maxRecDepth 100000 in
theorem im_yX5_writes : Cond.instanceMethod yX5_writes ∈ TB := TB_mem 860 rfl rfl
set_option maxRecDepth 100000 in
theorem cd_yX5_writes : Cond.code yX5_writes cX5_writes 3 (some .boolean) ∈ TB := TB_mem 861 rfl rfl
set_option maxRecDepth 100000 in
theorem ml_X5_133 : Cond.methodLink RX5 133 yX5_journal ∈ TB := TB_mem 862 rfl rfl
set_option maxRecDepth 100000 in
theorem im_yX5_journal : Cond.instanceMethod yX5_journal ∈ TB := TB_mem 864 rfl rfl
set_option maxRecDepth 100000 in
theorem cd_yX5_journal : Cond.code yX5_journal cX5_journal 3 none ∈ TB := TB_mem 865 rfl rfl
set_option maxRecDepth 100000 in
theorem ml_X5_191 : Cond.methodLink RX5 191 yX5_splits ∈ TB := TB_mem 866 rfl rfl
set_option maxRecDepth 100000 in
theorem im_yX5_splits : Cond.instanceMethod yX5_splits ∈ TB := TB_mem 868 rfl rfl
set_option maxRecDepth 100000 in
theorem cd_yX5_splits : Cond.code yX5_splits cX5_splits 6 (some .int) ∈ TB := TB_mem 869 rfl rfl
set_option maxRecDepth 100000 in
theorem ml_X5_160 : Cond.methodLink RX5 160 yX5_unlike ∈ TB := TB_mem 870 rfl rfl
set_option maxRecDepth 100000 in
theorem im_yX5_unlike : Cond.instanceMethod yX5_unlike ∈ TB := TB_mem 872 rfl rfl
set_option maxRecDepth 100000 in
theorem cd_yX5_unlike : Cond.code yX5_unlike cX5_unlike 6 (some .int) ∈ TB := TB_mem 873 rfl rfl
set_option maxRecDepth 100000 in
theorem ml_X5_150 : Cond.methodLink RX5 150 yX5_copyRecord ∈ TB := TB_mem 874 rfl rfl
set_option maxRecDepth 100000 in
theorem im_yX5_copyRecord : Cond.instanceMethod yX5_copyRecord ∈ TB := TB_mem 876 rfl rfl
set_option maxRecDepth 100000 in
theorem cd_yX5_copyRecord : Cond.code yX5_copyRecord cX5_copyRecord 4 none ∈ TB := TB_mem 877 rfl rfl
set_option maxRecDepth 100000 in
theorem ml_X5_166 : Cond.methodLink RX5 166 yX5_drop ∈ TB := TB_mem 878 rfl rfl
set_option maxRecDepth 100000 in
theorem im_yX5_drop : Cond.instanceMethod yX5_drop ∈ TB := TB_mem 880 rfl rfl
set_option maxRecDepth 100000 in
theorem cd_yX5_drop : Cond.code yX5_drop cX5_drop 4 none ∈ TB := TB_mem 881 rfl rfl
set_option maxRecDepth 100000 in
theorem ml_X5_196 : Cond.methodLink RX5 196 yX5_wroteBucket ∈ TB := TB_mem 883 rfl rfl
set_option maxRecDepth 100000 in
theorem im_yX5_wroteBucket : Cond.instanceMethod yX5_wroteBucket ∈ TB := TB_mem 885 rfl rfl
set_option maxRecDepth 100000 in
theorem cd_yX5_wroteBucket : Cond.code yX5_wroteBucket cX5_wroteBucket 2 (some .int) ∈ TB := TB_mem 886 rfl rfl
set_option maxRecDepth 100000 in
theorem ml_L_67 : Cond.methodLink RL 67 yX5_remove ∈ TB := TB_mem 887 rfl rfl
set_option maxRecDepth 100000 in
theorem im_yX5_remove : Cond.instanceMethod yX5_remove ∈ TB := TB_mem 888 rfl rfl
set_option maxRecDepth 100000 in
theorem se_yX5_remove : Cond.selects RX5 yX5_remove yX5_remove ∈ TB := TB_mem 889 rfl rfl
set_option maxRecDepth 100000 in
theorem cd_yX5_remove : Cond.code yX5_remove cX5_remove 6 (some .int) ∈ TB := TB_mem 890 rfl rfl
set_option maxRecDepth 100000 in
theorem ml_X5_202 : Cond.methodLink RX5 202 yX5_merges ∈ TB := TB_mem 891 rfl rfl
set_option maxRecDepth 100000 in
theorem im_yX5_merges : Cond.instanceMethod yX5_merges ∈ TB := TB_mem 893 rfl rfl
set_option maxRecDepth 100000 in
theorem cd_yX5_merges : Cond.code yX5_merges cX5_merges 9 (some .int) ∈ TB := TB_mem 894 rfl rfl
set_option maxRecDepth 100000 in
theorem ml_X5_199 : Cond.methodLink RX5 199 yX5_buddy ∈ TB := TB_mem 895 rfl rfl
set_option maxRecDepth 100000 in
theorem im_yX5_buddy : Cond.instanceMethod yX5_buddy ∈ TB := TB_mem 897 rfl rfl
set_option maxRecDepth 100000 in
theorem cd_yX5_buddy : Cond.code yX5_buddy cX5_buddy 5 (some .int) ∈ TB := TB_mem 898 rfl rfl
set_option maxRecDepth 100000 in
theorem ml_X5_205 : Cond.methodLink RX5 205 yX5_halves ∈ TB := TB_mem 899 rfl rfl
set_option maxRecDepth 100000 in
theorem im_yX5_halves : Cond.instanceMethod yX5_halves ∈ TB := TB_mem 901 rfl rfl
set_option maxRecDepth 100000 in
theorem cd_yX5_halves : Cond.code yX5_halves cX5_halves 3 (some .int) ∈ TB := TB_mem 902 rfl rfl
set_option maxRecDepth 100000 in
theorem ml_L_59 : Cond.methodLink RL 59 yX5_feed ∈ TB := TB_mem 903 rfl rfl
set_option maxRecDepth 100000 in
theorem im_yX5_feed : Cond.instanceMethod yX5_feed ∈ TB := TB_mem 904 rfl rfl
set_option maxRecDepth 100000 in
theorem se_yX5_feed : Cond.selects RX5 yX5_feed yX5_feed ∈ TB := TB_mem 905 rfl rfl
set_option maxRecDepth 100000 in
theorem cd_yX5_feed : Cond.code yX5_feed cX5_feed 7 (some .int) ∈ TB := TB_mem 906 rfl rfl
set_option maxRecDepth 100000 in
theorem ml_L_70 : Cond.methodLink RL 70 yX5_get ∈ TB := TB_mem 907 rfl rfl
set_option maxRecDepth 100000 in
theorem im_yX5_get : Cond.instanceMethod yX5_get ∈ TB := TB_mem 908 rfl rfl
set_option maxRecDepth 100000 in
theorem se_yX5_get : Cond.selects RX5 yX5_get yX5_get ∈ TB := TB_mem 909 rfl rfl
set_option maxRecDepth 100000 in
theorem cd_yX5_get : Cond.code yX5_get cX5_get 6 (some .int) ∈ TB := TB_mem 910 rfl rfl
set_option maxRecDepth 100000 in
theorem ml_L_74 : Cond.methodLink RL 74 yX5_answer ∈ TB := TB_mem 911 rfl rfl
set_option maxRecDepth 100000 in
theorem im_yX5_answer : Cond.instanceMethod yX5_answer ∈ TB := TB_mem 912 rfl rfl
set_option maxRecDepth 100000 in
theorem se_yX5_answer : Cond.selects RX5 yX5_answer yX5_answer ∈ TB := TB_mem 913 rfl rfl
set_option maxRecDepth 100000 in
theorem cd_yX5_answer : Cond.code yX5_answer cX5_answer 2 (some .int) ∈ TB := TB_mem 914 rfl rfl
set_option maxRecDepth 100000 in
theorem ml_L_78 : Cond.methodLink RL 78 yX5_power ∈ TB := TB_mem 915 rfl rfl
set_option maxRecDepth 100000 in
theorem im_yX5_power : Cond.instanceMethod yX5_power ∈ TB := TB_mem 916 rfl rfl
set_option maxRecDepth 100000 in
theorem se_yX5_power : Cond.selects RX5 yX5_power yX5_power ∈ TB := TB_mem 917 rfl rfl
set_option maxRecDepth 100000 in
theorem cd_yX5_power : Cond.code yX5_power cX5_power 2 none ∈ TB := TB_mem 918 rfl rfl
set_option maxRecDepth 100000 in
theorem ml_L_81 : Cond.methodLink RL 81 yX5_recover ∈ TB := TB_mem 919 rfl rfl
set_option maxRecDepth 100000 in
theorem im_yX5_recover : Cond.instanceMethod yX5_recover ∈ TB := TB_mem 920 rfl rfl
set_option maxRecDepth 100000 in
theorem se_yX5_recover : Cond.selects RX5 yX5_recover yX5_recover ∈ TB := TB_mem 921 rfl rfl
set_option maxRecDepth 100000 in
theorem cd_yX5_recover : Cond.code yX5_recover cX5_recover 5 (some .int) ∈ TB := TB_mem 922 rfl rfl
set_option maxRecDepth 100000 in
theorem ml_L_86 : Cond.methodLink RL 86 yX5_byteOf ∈ TB := TB_mem 923 rfl rfl
set_option maxRecDepth 100000 in
theorem im_yX5_byteOf : Cond.instanceMethod yX5_byteOf ∈ TB := TB_mem 924 rfl rfl
set_option maxRecDepth 100000 in
theorem se_yX5_byteOf : Cond.selects RX5 yX5_byteOf yX5_byteOf ∈ TB := TB_mem 925 rfl rfl
set_option maxRecDepth 100000 in
theorem cd_yX5_byteOf : Cond.code yX5_byteOf cX5_byteOf 3 (some .int) ∈ TB := TB_mem 926 rfl rfl
set_option maxRecDepth 100000 in
theorem ml_X5_208 : Cond.methodLink RX5 208 yX5_isPage ∈ TB := TB_mem 927 rfl rfl
set_option maxRecDepth 100000 in
theorem im_yX5_isPage : Cond.instanceMethod yX5_isPage ∈ TB := TB_mem 929 rfl rfl
set_option maxRecDepth 100000 in
theorem cd_yX5_isPage : Cond.code yX5_isPage cX5_isPage 2 (some .boolean) ∈ TB := TB_mem 930 rfl rfl
set_option maxRecDepth 100000 in
theorem ml_L_90 : Cond.methodLink RL 90 yX5_kind ∈ TB := TB_mem 931 rfl rfl
set_option maxRecDepth 100000 in
theorem im_yX5_kind : Cond.instanceMethod yX5_kind ∈ TB := TB_mem 932 rfl rfl
set_option maxRecDepth 100000 in
theorem se_yX5_kind : Cond.selects RX5 yX5_kind yX5_kind ∈ TB := TB_mem 933 rfl rfl
set_option maxRecDepth 100000 in
theorem cd_yX5_kind : Cond.code yX5_kind cX5_kind 2 (some .int) ∈ TB := TB_mem 934 rfl rfl
set_option maxRecDepth 100000 in
theorem ml_X5_211 : Cond.methodLink RX5 211 yX5_kindOf ∈ TB := TB_mem 935 rfl rfl
set_option maxRecDepth 100000 in
theorem im_yX5_kindOf : Cond.instanceMethod yX5_kindOf ∈ TB := TB_mem 937 rfl rfl
set_option maxRecDepth 100000 in
theorem cd_yX5_kindOf : Cond.code yX5_kindOf cX5_kindOf 2 (some .int) ∈ TB := TB_mem 938 rfl rfl
set_option maxRecDepth 100000 in
theorem ml_L_94 : Cond.methodLink RL 94 yX5_hash ∈ TB := TB_mem 939 rfl rfl
set_option maxRecDepth 100000 in
theorem im_yX5_hash : Cond.instanceMethod yX5_hash ∈ TB := TB_mem 940 rfl rfl
set_option maxRecDepth 100000 in
theorem se_yX5_hash : Cond.selects RX5 yX5_hash yX5_hash ∈ TB := TB_mem 941 rfl rfl
set_option maxRecDepth 100000 in
theorem cd_yX5_hash : Cond.code yX5_hash cX5_hash 1 (some .int) ∈ TB := TB_mem 942 rfl rfl
set_option maxRecDepth 100000 in
theorem ml_L_98 : Cond.methodLink RL 98 yX5_entry ∈ TB := TB_mem 943 rfl rfl
set_option maxRecDepth 100000 in
theorem im_yX5_entry : Cond.instanceMethod yX5_entry ∈ TB := TB_mem 944 rfl rfl
set_option maxRecDepth 100000 in
theorem se_yX5_entry : Cond.selects RX5 yX5_entry yX5_entry ∈ TB := TB_mem 945 rfl rfl
set_option maxRecDepth 100000 in
theorem cd_yX5_entry : Cond.code yX5_entry cX5_entry 2 (some .int) ∈ TB := TB_mem 946 rfl rfl
set_option maxRecDepth 100000 in
theorem ml_L_102 : Cond.methodLink RL 102 yX5_bucket_ ∈ TB := TB_mem 947 rfl rfl
set_option maxRecDepth 100000 in
theorem im_yX5_bucket_ : Cond.instanceMethod yX5_bucket_ ∈ TB := TB_mem 948 rfl rfl
set_option maxRecDepth 100000 in
theorem se_yX5_bucket_ : Cond.selects RX5 yX5_bucket_ yX5_bucket_ ∈ TB := TB_mem 949 rfl rfl
set_option maxRecDepth 100000 in
theorem cd_yX5_bucket_ : Cond.code yX5_bucket_ cX5_bucket_ 3 (some .int) ∈ TB := TB_mem 950 rfl rfl
set_option maxRecDepth 100000 in
theorem ml_L_107 : Cond.methodLink RL 107 yX5_record ∈ TB := TB_mem 951 rfl rfl
set_option maxRecDepth 100000 in
theorem im_yX5_record : Cond.instanceMethod yX5_record ∈ TB := TB_mem 952 rfl rfl
set_option maxRecDepth 100000 in
theorem se_yX5_record : Cond.selects RX5 yX5_record yX5_record ∈ TB := TB_mem 953 rfl rfl
set_option maxRecDepth 100000 in
theorem cd_yX5_record : Cond.code yX5_record cX5_record 6 (some .int) ∈ TB := TB_mem 954 rfl rfl
set_option maxRecDepth 100000 in
theorem ml_L_111 : Cond.methodLink RL 111 yX5_look ∈ TB := TB_mem 955 rfl rfl
set_option maxRecDepth 100000 in
theorem im_yX5_look : Cond.instanceMethod yX5_look ∈ TB := TB_mem 956 rfl rfl
set_option maxRecDepth 100000 in
theorem se_yX5_look : Cond.selects RX5 yX5_look yX5_look ∈ TB := TB_mem 957 rfl rfl
set_option maxRecDepth 100000 in
theorem cd_yX5_look : Cond.code yX5_look cX5_look 4 (some .int) ∈ TB := TB_mem 958 rfl rfl
set_option maxRecDepth 100000 in
theorem ml_X5_214 : Cond.methodLink RX5 214 yX5_manyOf ∈ TB := TB_mem 959 rfl rfl
set_option maxRecDepth 100000 in
theorem im_yX5_manyOf : Cond.instanceMethod yX5_manyOf ∈ TB := TB_mem 961 rfl rfl
set_option maxRecDepth 100000 in
theorem cd_yX5_manyOf : Cond.code yX5_manyOf cX5_manyOf 4 (some .int) ∈ TB := TB_mem 962 rfl rfl
theorem se_yX1_place : Cond.selects RX1 yX1_place yX1_place ∈ TB := TB_mem 0 rfl rfl
theorem se_yX1_isPage : Cond.selects RX1 yX1_isPage yX1_isPage ∈ TB := TB_mem 1 rfl rfl
theorem se_yX1_lay : Cond.selects RX1 yX1_lay yX1_lay ∈ TB := TB_mem 2 rfl rfl
theorem se_yX1_learnKinds : Cond.selects RX1 yX1_learnKinds yX1_learnKinds ∈ TB := TB_mem 3 rfl rfl
theorem se_yX1_mark : Cond.selects RX1 yX1_mark yX1_mark ∈ TB := TB_mem 4 rfl rfl
theorem se_yX4_makePlace : Cond.selects RX4 yX4_makePlace yX4_makePlace ∈ TB := TB_mem 6 rfl rfl
theorem se_yX4_hasPlace : Cond.selects RX4 yX4_hasPlace yX4_hasPlace ∈ TB := TB_mem 7 rfl rfl
theorem se_yX1_hasKey : Cond.selects RX1 yX1_hasKey yX1_hasKey ∈ TB := TB_mem 8 rfl rfl
theorem se_yX4_resizeDirectory : Cond.selects RX4 yX4_resizeDirectory yX4_resizeDirectory ∈ TB := TB_mem 9 rfl rfl
theorem se_yX4_buildDirectoryPage : Cond.selects RX4 yX4_buildDirectoryPage yX4_buildDirectoryPage ∈ TB := TB_mem 10 rfl rfl
theorem se_yX4_split : Cond.selects RX4 yX4_split yX4_split ∈ TB := TB_mem 11 rfl rfl
theorem se_yX4_buildHalf : Cond.selects RX4 yX4_buildHalf yX4_buildHalf ∈ TB := TB_mem 12 rfl rfl
theorem se_yX2_countRecord : Cond.selects RX2 yX2_countRecord yX2_countRecord ∈ TB := TB_mem 13 rfl rfl
theorem se_yX4_retell : Cond.selects RX4 yX4_retell yX4_retell ∈ TB := TB_mem 14 rfl rfl
theorem se_yX4_storeRecord : Cond.selects RX4 yX4_storeRecord yX4_storeRecord ∈ TB := TB_mem 15 rfl rfl
theorem se_yX4_buildWithout : Cond.selects RX4 yX4_buildWithout yX4_buildWithout ∈ TB := TB_mem 16 rfl rfl
theorem se_yX4_addRecordsBut : Cond.selects RX4 yX4_addRecordsBut yX4_addRecordsBut ∈ TB := TB_mem 17 rfl rfl
theorem se_yX4_mergeAll : Cond.selects RX4 yX4_mergeAll yX4_mergeAll ∈ TB := TB_mem 18 rfl rfl
theorem se_yX4_mergePartner : Cond.selects RX4 yX4_mergePartner yX4_mergePartner ∈ TB := TB_mem 19 rfl rfl
theorem se_yX4_merge : Cond.selects RX4 yX4_merge yX4_merge ∈ TB := TB_mem 20 rfl rfl
theorem se_yX4_halveAll : Cond.selects RX4 yX4_halveAll yX4_halveAll ∈ TB := TB_mem 21 rfl rfl
theorem se_yX5_anew : Cond.selects RX5 yX5_anew yX5_anew ∈ TB := TB_mem 22 rfl rfl
theorem se_yX5_decode : Cond.selects RX5 yX5_decode yX5_decode ∈ TB := TB_mem 23 rfl rfl
theorem se_yX5_at : Cond.selects RX5 yX5_at yX5_at ∈ TB := TB_mem 24 rfl rfl
theorem se_yX5_isDirectory : Cond.selects RX5 yX5_isDirectory yX5_isDirectory ∈ TB := TB_mem 25 rfl rfl
theorem se_yX5_bucket : Cond.selects RX5 yX5_bucket yX5_bucket ∈ TB := TB_mem 26 rfl rfl
theorem se_yX5_throwing : Cond.selects RX5 yX5_throwing yX5_throwing ∈ TB := TB_mem 27 rfl rfl
theorem se_yX5_tapeHash : Cond.selects RX5 yX5_tapeHash yX5_tapeHash ∈ TB := TB_mem 28 rfl rfl
theorem se_yX5_bucketOf : Cond.selects RX5 yX5_bucketOf yX5_bucketOf ∈ TB := TB_mem 29 rfl rfl
theorem se_yX5_filled : Cond.selects RX5 yX5_filled yX5_filled ∈ TB := TB_mem 30 rfl rfl
theorem se_yX5_find : Cond.selects RX5 yX5_find yX5_find ∈ TB := TB_mem 31 rfl rfl
theorem se_yX5_isKey : Cond.selects RX5 yX5_isKey yX5_isKey ∈ TB := TB_mem 32 rfl rfl
theorem se_yX5_keyByte : Cond.selects RX5 yX5_keyByte yX5_keyByte ∈ TB := TB_mem 33 rfl rfl
theorem se_yX5_bytesOf : Cond.selects RX5 yX5_bytesOf yX5_bytesOf ∈ TB := TB_mem 34 rfl rfl
theorem se_yX5_isAlike : Cond.selects RX5 yX5_isAlike yX5_isAlike ∈ TB := TB_mem 35 rfl rfl
theorem se_yX5_hashOf : Cond.selects RX5 yX5_hashOf yX5_hashOf ∈ TB := TB_mem 36 rfl rfl
theorem se_yX5_doubles : Cond.selects RX5 yX5_doubles yX5_doubles ∈ TB := TB_mem 37 rfl rfl
theorem se_yX5_free : Cond.selects RX5 yX5_free yX5_free ∈ TB := TB_mem 38 rfl rfl
theorem se_yX5_changed : Cond.selects RX5 yX5_changed yX5_changed ∈ TB := TB_mem 39 rfl rfl
theorem se_yX5_allWritten : Cond.selects RX5 yX5_allWritten yX5_allWritten ∈ TB := TB_mem 40 rfl rfl
theorem se_yX5_render : Cond.selects RX5 yX5_render yX5_render ∈ TB := TB_mem 41 rfl rfl
theorem se_yX5_valueByte : Cond.selects RX5 yX5_valueByte yX5_valueByte ∈ TB := TB_mem 42 rfl rfl
theorem se_yX5_writes : Cond.selects RX5 yX5_writes yX5_writes ∈ TB := TB_mem 43 rfl rfl
theorem se_yX5_journal : Cond.selects RX5 yX5_journal yX5_journal ∈ TB := TB_mem 44 rfl rfl
theorem se_yX5_splits : Cond.selects RX5 yX5_splits yX5_splits ∈ TB := TB_mem 45 rfl rfl
theorem se_yX5_unlike : Cond.selects RX5 yX5_unlike yX5_unlike ∈ TB := TB_mem 46 rfl rfl
theorem se_yX5_copyRecord : Cond.selects RX5 yX5_copyRecord yX5_copyRecord ∈ TB := TB_mem 47 rfl rfl
theorem se_yX5_drop : Cond.selects RX5 yX5_drop yX5_drop ∈ TB := TB_mem 48 rfl rfl
theorem se_yX5_wroteBucket : Cond.selects RX5 yX5_wroteBucket yX5_wroteBucket ∈ TB := TB_mem 49 rfl rfl
theorem se_yX5_merges : Cond.selects RX5 yX5_merges yX5_merges ∈ TB := TB_mem 50 rfl rfl
theorem se_yX5_buddy : Cond.selects RX5 yX5_buddy yX5_buddy ∈ TB := TB_mem 51 rfl rfl
theorem se_yX5_halves : Cond.selects RX5 yX5_halves yX5_halves ∈ TB := TB_mem 52 rfl rfl
theorem se_yX5_isPage : Cond.selects RX5 yX5_isPage yX5_isPage ∈ TB := TB_mem 53 rfl rfl
theorem se_yX5_kindOf : Cond.selects RX5 yX5_kindOf yX5_kindOf ∈ TB := TB_mem 54 rfl rfl
theorem se_yX5_manyOf : Cond.selects RX5 yX5_manyOf yX5_manyOf ∈ TB := TB_mem 55 rfl rfl
theorem uTB0 : ∀ w ∈ u_ws RX0 TX0 3, w ∈ TB := by decide +kernel
theorem uTB1 : ∀ w ∈ u_ws RX1 TX1 8, w ∈ TB := by decide +kernel
theorem uTB2 : ∀ w ∈ u_ws RX2 TX2 1, w ∈ TB := by decide +kernel
theorem uTB3 : ∀ w ∈ u_ws RX3 TX3 2, w ∈ TB := by decide +kernel
theorem uTB4 : ∀ w ∈ u_ws RX4 TX4 7, w ∈ TB := by decide +kernel
theorem uTB5 : ∀ w ∈ u_ws RX5 TX5 26, w ∈ TB := by decide +kernel
end
section
/-! my own layer: Vw hides heap, frame and locals; ints are iI of an Int -/
def iI (a : Int) : Int32 := Int32.ofInt a
def in32 (a : Int) : Prop := -2147483648 ≤ a ∧ a ≤ 2147483647
theorem iI_toInt {a : Int} (h : in32 a) : (iI a).toInt = a := by
  obtain ⟨h1, h2⟩ := h
  exact Int32.toInt_ofInt_of_le (by omega) (by omega)
theorem iI_of (x : Int32) : ∃ a : Int, in32 a ∧ x = iI a := by
  refine ⟨x.toInt, ⟨?_, ?_⟩, ?_⟩
  · have := Int32.le_toInt x; omega
  · have := Int32.toInt_lt x; omega
  · exact (Int32.ofInt_toInt x).symm
theorem iI_add (a b : Int) : iI a + iI b = iI (a + b) := (Int32.ofInt_add a b).symm
theorem iI_mul (a b : Int) : iI a * iI b = iI (a * b) := (Int32.ofInt_mul a b).symm
theorem iI_sub (a b : Int) : iI a - iI b = iI (a - b) := (Int32.ofInt_sub a b).symm
theorem iI_neg (a : Int) : -iI a = iI (-a) := (Int32.ofInt_neg a).symm
theorem iI_lt {a b : Int} (ha : in32 a) (hb : in32 b) : iI a < iI b ↔ a < b := by
  rw [Int32.lt_iff_toInt_lt, iI_toInt ha, iI_toInt hb]
theorem iI_le {a b : Int} (ha : in32 a) (hb : in32 b) : iI a ≤ iI b ↔ a ≤ b := by
  rw [Int32.le_iff_toInt_le, iI_toInt ha, iI_toInt hb]
theorem iI_eq {a b : Int} (ha : in32 a) (hb : in32 b) : iI a = iI b ↔ a = b := by
  constructor
  · intro h
    have := congrArg Int32.toInt h
    rwa [iI_toInt ha, iI_toInt hb] at this
  · intro h; rw [h]
theorem iI_nI (n : Nat) : nI n = iI n := rfl
theorem iI_clamp {a : Int} (h : in32 a) : (iI a).toNatClampNeg = a.toNat := by
  show (iI a).toInt.toNat = a.toNat
  rw [iI_toInt h]
theorem iI_in {a : Int} {n : Nat} (h : 0 ≤ a ∧ a < n) (hn : n < 2147483648) : vp_in (iI a) n := by
  have hi : in32 a := ⟨by omega, by omega⟩
  rw [vp_in_iff, iI_toInt hi]
  exact h
theorem iI_0 : iI 0 = 0 := rfl
theorem iI_ne0 {a : Int} (h : in32 a) (h0 : a ≠ 0) : ¬ iI a = 0 := by
  rw [← iI_0, iI_eq h ⟨by omega, by omega⟩]
  exact h0
def upI (g : Nat → Int) (k : Nat) (v : Int) : Nat → Int := fun j => if j = k then v else g j
theorem upI_eq (g : Nat → Int) (k : Nat) (v : Int) : upd (fun j => iI (g j)) k (iI v) = fun j => iI (upI g k v j) := by
  funext j
  simp only [upd, upI]
  split <;> rfl
def lvput (i : Nat) (v : Value) : List (Nat × Value) → List (Nat × Value)
  | [] => [(i, v)]
  | q :: l => match Nat.beq q.1 i with
    | true => (i, v) :: l
    | false => q :: lvput i v l
def lvget (i : Nat) : List (Nat × Value) → Option Value
  | [] => none
  | q :: l => match Nat.beq q.1 i with
    | true => some q.2
    | false => lvget i l
/-- the names are apart, and none is a second half: kept by every store -/
def lvok : List (Nat × Value) → Bool
  | [] => true
  | q :: l => l.all (fun r => !(Nat.beq r.1 q.1)) && lvok l
def wput : va_W → List Nat → va_W → va_W
  | ws, i :: is, c :: cs => wput (ws.set i c) is cs
  | ws, _, _ => ws
theorem lvget_mem {i : Nat} {v : Value} : ∀ {l : List (Nat × Value)}, lvget i l = some v → (i, v) ∈ l := by
  intro l
  induction l with
  | nil => intro h; cases h
  | cons q l ih =>
    intro h
    simp only [lvget] at h
    split at h
    · rename_i e
      cases h
      have : q.1 = i := Nat.eq_of_beq_eq_true e
      rw [← this]
      exact List.mem_cons_self
    · exact List.mem_cons_of_mem _ (ih h)
theorem lvput_sub {i : Nat} {v : Value} : ∀ {l : List (Nat × Value)}, lvok l = true → ∀ q ∈ lvput i v l, q = (i, v) ∨ (q ∈ l ∧ q.1 ≠ i) := by
  intro l
  induction l with
  | nil => intro _ q h; simp [lvput] at h; exact Or.inl h
  | cons r l ih =>
    intro hok q h
    simp only [lvok, Bool.and_eq_true, List.all_eq_true] at hok
    simp only [lvput] at h
    split at h
    · rename_i e
      have e1 : r.1 = i := Nat.eq_of_beq_eq_true e
      rcases List.mem_cons.mp h with h | h
      · exact Or.inl h
      · refine Or.inr ⟨List.mem_cons_of_mem _ h, fun e2 => ?_⟩
        have := hok.1 q h
        rw [e2, e1] at this
        simp at this
    · rename_i e
      rcases List.mem_cons.mp h with h | h
      · refine Or.inr ⟨by rw [h]; exact List.mem_cons_self, fun e2 => ?_⟩
        rw [h] at e2
        rw [e2] at e
        simp at e
      · rcases ih hok.2 q h with h | ⟨h, h2⟩
        · exact Or.inl h
        · exact Or.inr ⟨List.mem_cons_of_mem _ h, h2⟩
/-- a store's locals, by lvput -/
theorem lvput_has {ls : Array Slot} {nL i : Nat} {v : Value} {l : List (Nat × Value)} (hok : lvok l = true) (h2 : l.all (fun q => !(q.1 + 1 == i && q.2.category == 2)) = true)
    (h : lv_has ls nL ((i, v) :: l.filter (fun q => !(q.1 == i) && !(q.1 + 1 == i && q.2.category == 2)))) : lv_has ls nL (lvput i v l) := by
  refine ⟨h.1, h.2.1, fun q hq => h.2.2 q ?_⟩
  rcases lvput_sub hok q hq with e | ⟨hm, hne⟩
  · rw [e]; exact List.mem_cons_self
  · refine List.mem_cons_of_mem _ (List.mem_filter.mpr ⟨hm, ?_⟩)
    have h3 := List.all_eq_true.mp h2 q hm
    have h4 : (q.1 == i) = false := beq_false_of_ne hne
    rw [h4]
    exact h3
abbrev Kx : Type := Program × Launch × Env × Room × State × MethodId × Array Value × List Frame × Method × Code × (State → Prop)
/-- the frame so far -/
def Sx (wr : Bool) (A : Nat → Prop) (H0 H : Heap) (locs : List Loc) : Prop := va_S A H0 H locs ∧ (wr = false → H = H0 ∧ locs = [])
/-- (wr false: nothing was written yet, nor will be) -/
def Vw (x : Kx) (nL : Nat) (A : Nat → Prop) (D : va_G) (wr : Bool) (cells slots : Nat) (ws : va_W) (pc : Nat) (lv : List (Nat × Value)) (st : List Value) : Prop :=
  ∀ (H : Heap) (locs : List Loc) (ls : Array Slot), va_P D vwCl ws H → va_D A ws → Sx wr A x.2.2.2.2.1.heap H locs → lv_has ls nL lv →
    W x.1 x.2.1 x.2.2.1 x.2.2.2.1 x.2.2.2.2.1 x.2.2.2.2.2.1 x.2.2.2.2.2.2.1 x.2.2.2.2.2.2.2.1 x.2.2.2.2.2.2.2.2.1 x.2.2.2.2.2.2.2.2.2.1 H locs cells slots x.2.2.2.2.2.2.2.2.2.2 (F0 x.2.2.2.2.2.1 pc ls st)
/-- what is known for good of a state: the classes, the array classes, the words of nest mates -/
def Kn (D : va_G) (tys : List (ClassId × FieldType)) (U : State) : Prop := va_K D vwCl tys U ∧ ∀ w ∈ nestW, va_Nw w U
/-- what is known of the method that is walked -/
def Kf (x : Kx) (cc : ByteArray) (nL : Nat) (own : String) (ret : Option FieldType) (D : va_G) (tys : List (ClassId × FieldType)) (rm : Room) : Prop :=
  x.1.tables.exec = Jvm.exec ∧ x.2.2.2.2.2.2.2.2.2.1.code = cc ∧ x.2.2.2.2.2.2.2.2.2.1.maxLocals = nL ∧ x.2.2.2.2.1.vm.findClass own = some x.2.2.2.2.2.1.cls ∧ (∀ w ∈ TB, w.before x.2.2.2.2.2.2.1 x.2.2.2.2.1 = true) ∧
  x.2.2.2.2.2.2.2.2.1.sig.returnType = ret ∧ x.2.2.2.2.2.2.2.2.1.locks = false ∧ Kn D tys x.2.2.2.2.1 ∧ x.2.2.2.1 = rm
/-- what is known of a class of the worlds -/
def CI (ci : Nat) (C : String) (T : u_T) (ty : Nat → FieldType) (N : Nat) : Prop := vwCl[ci]? = some (C, T, N) ∧ (∀ w ∈ u_ws C T N, w ∈ TB) ∧ (∀ k, k < N → parseFieldDescriptor (T k).2.2.1 = some (ty k)) ∧ (∀ a, a < N → ∀ b, b < N → a ≠ b → (T a).2.1 ≠ (T b).2.1)
section VR
variable {x : Kx} {cc : ByteArray} {nL : Nat} {own : String} {ret : Option FieldType} {D : va_G} {tys : List (ClassId × FieldType)} {rm : Room} {A : Nat → Prop} {wr : Bool} {cells slots : Nat} {ws : va_W} {pc n : Nat} {lv lv' : List (Nat × Value)} {st : List Value}
theorem v_iconst (k : Kf x cc nL own ret D tys rm) {v : Int} (hd : decode cc pc = .ok (.iconst v, 1)) (hn : pc + 1 = n) (h : Vw x nL A D wr cells slots ws n lv (.int (iI v) :: st)) : Vw x nL A D wr cells slots ws pc lv (st) := by
  subst hn
  exact fun H locs ls a b c d => lv_iconst k.1 k.2.1 hd rfl (h H locs ls a b c d)
theorem v_bipush (k : Kf x cc nL own ret D tys rm) {v : Int} (hd : decode cc pc = .ok (.bipush v, 2)) (hv : (Int8.ofInt v).toInt32 = iI v) (hn : pc + 2 = n) (h : Vw x nL A D wr cells slots ws n lv (.int (iI v) :: st)) : Vw x nL A D wr cells slots ws pc lv (st) := by
  subst hn
  exact fun H locs ls a b c d => lv_bipush k.1 k.2.1 hd hv (h H locs ls a b c d)
theorem v_sipush (k : Kf x cc nL own ret D tys rm) {v : Int} (hd : decode cc pc = .ok (.sipush v, 3)) (hv : (Int16.ofInt v).toInt32 = iI v) (hn : pc + 3 = n) (h : Vw x nL A D wr cells slots ws n lv (.int (iI v) :: st)) : Vw x nL A D wr cells slots ws pc lv (st) := by
  subst hn
  exact fun H locs ls a b c d => lv_sipush k.1 k.2.1 hd hv (h H locs ls a b c d)
theorem v_ldc (k : Kf x cc nL own ret D tys rm) {i : Nat} {v : Int} (hc : Cond.constant own i (iI v) ∈ TB) (hd : decode cc pc = .ok (.ldc i, 2)) (hn : pc + 2 = n) (h : Vw x nL A D wr cells slots ws n lv (.int (iI v) :: st)) : Vw x nL A D wr cells slots ws pc lv (st) := by
  subst hn
  exact fun H locs ls a b c d => lv_ldc k.1 k.2.1 k.2.2.2.1 (k.2.2.2.2.1 _ hc) hd (h H locs ls a b c d)
theorem v_iload_n (k : Kf x cc nL own ret D tys rm) {i : Fin 4} {v : Int32} (hd : decode cc pc = .ok (.iload_n i, 1)) (hn : pc + 1 = n) (hl : lvget i.val lv = some (.int v)) (h : Vw x nL A D wr cells slots ws n lv (.int v :: st)) : Vw x nL A D wr cells slots ws pc lv (st) := by
  subst hn
  exact fun H locs ls a b c d => lv_iload_n k.1 k.2.1 hd rfl (d.2.2 _ (lvget_mem hl)) (h H locs ls a b c d)
theorem v_iload (k : Kf x cc nL own ret D tys rm) {i : Nat} {v : Int32} (hd : decode cc pc = .ok (.iload i, 2)) (hn : pc + 2 = n) (hl : lvget i lv = some (.int v)) (h : Vw x nL A D wr cells slots ws n lv (.int v :: st)) : Vw x nL A D wr cells slots ws pc lv (st) := by
  subst hn
  exact fun H locs ls a b c d => lv_iload k.1 k.2.1 hd (d.2.2 _ (lvget_mem hl)) (h H locs ls a b c d)
theorem v_aload_n (k : Kf x cc nL own ret D tys rm) {i : Fin 4} {v : Nat} (hd : decode cc pc = .ok (.aload_n i, 1)) (hn : pc + 1 = n) (hl : lvget i.val lv = some (.ref v)) (h : Vw x nL A D wr cells slots ws n lv (.ref v :: st)) : Vw x nL A D wr cells slots ws pc lv (st) := by
  subst hn
  exact fun H locs ls a b c d => lv_aload_n k.1 k.2.1 hd rfl (d.2.2 _ (lvget_mem hl)) (h H locs ls a b c d)
theorem v_aload (k : Kf x cc nL own ret D tys rm) {i : Nat} {v : Nat} (hd : decode cc pc = .ok (.aload i, 2)) (hn : pc + 2 = n) (hl : lvget i lv = some (.ref v)) (h : Vw x nL A D wr cells slots ws n lv (.ref v :: st)) : Vw x nL A D wr cells slots ws pc lv (st) := by
  subst hn
  exact fun H locs ls a b c d => lv_aload k.1 k.2.1 hd (d.2.2 _ (lvget_mem hl)) (h H locs ls a b c d)
theorem v_lload_n (k : Kf x cc nL own ret D tys rm) {i : Fin 4} {v : Int64} (hd : decode cc pc = .ok (.lload_n i, 1)) (hn : pc + 1 = n) (hl : lvget i.val lv = some (.long v)) (h : Vw x nL A D wr cells slots ws n lv (.long v :: st)) : Vw x nL A D wr cells slots ws pc lv (st) := by
  subst hn
  exact fun H locs ls a b c d => lv_lload_n k.1 k.2.1 hd rfl (d.2.2 _ (lvget_mem hl)) (h H locs ls a b c d)
theorem v_lload (k : Kf x cc nL own ret D tys rm) {i : Nat} {v : Int64} (hd : decode cc pc = .ok (.lload i, 2)) (hn : pc + 2 = n) (hl : lvget i lv = some (.long v)) (h : Vw x nL A D wr cells slots ws n lv (.long v :: st)) : Vw x nL A D wr cells slots ws pc lv (st) := by
  subst hn
  exact fun H locs ls a b c d => lv_lload k.1 k.2.1 hd (d.2.2 _ (lvget_mem hl)) (h H locs ls a b c d)
theorem v_istore_n (k : Kf x cc nL own ret D tys rm) {i : Fin 4} {v : Int32} (hd : decode cc pc = .ok (.istore_n i, 1)) (hn : pc + 1 = n) (hi : i.val < nL) (hok : lvok lv = true) (h2 : lv.all (fun q => !(q.1 + 1 == i.val && q.2.category == 2)) = true) (h : Vw x nL A D wr cells slots ws n (lvput i.val (.int v) lv) (st)) : Vw x nL A D wr cells slots ws pc lv (.int v :: st) := by
  subst hn
  exact fun H locs ls a b c d => lv_istore_n k.1 k.2.1 hd rfl d hi rfl (fun ls' d' => h H locs ls' a b c (lvput_has hok h2 d'))
theorem v_istore (k : Kf x cc nL own ret D tys rm) {i : Nat} {v : Int32} (hd : decode cc pc = .ok (.istore i, 2)) (hn : pc + 2 = n) (hi : i < nL) (hok : lvok lv = true) (h2 : lv.all (fun q => !(q.1 + 1 == i && q.2.category == 2)) = true) (h : Vw x nL A D wr cells slots ws n (lvput i (.int v) lv) (st)) : Vw x nL A D wr cells slots ws pc lv (.int v :: st) := by
  subst hn
  exact fun H locs ls a b c d => lv_istore k.1 k.2.1 hd d hi rfl (fun ls' d' => h H locs ls' a b c (lvput_has hok h2 d'))
theorem v_astore_n (k : Kf x cc nL own ret D tys rm) {i : Fin 4} {v : Nat} (hd : decode cc pc = .ok (.astore_n i, 1)) (hn : pc + 1 = n) (hi : i.val < nL) (hok : lvok lv = true) (h2 : lv.all (fun q => !(q.1 + 1 == i.val && q.2.category == 2)) = true) (h : Vw x nL A D wr cells slots ws n (lvput i.val (.ref v) lv) (st)) : Vw x nL A D wr cells slots ws pc lv (.ref v :: st) := by
  subst hn
  exact fun H locs ls a b c d => lv_astore_n k.1 k.2.1 hd rfl d hi rfl (fun ls' d' => h H locs ls' a b c (lvput_has hok h2 d'))
theorem v_astore (k : Kf x cc nL own ret D tys rm) {i : Nat} {v : Nat} (hd : decode cc pc = .ok (.astore i, 2)) (hn : pc + 2 = n) (hi : i < nL) (hok : lvok lv = true) (h2 : lv.all (fun q => !(q.1 + 1 == i && q.2.category == 2)) = true) (h : Vw x nL A D wr cells slots ws n (lvput i (.ref v) lv) (st)) : Vw x nL A D wr cells slots ws pc lv (.ref v :: st) := by
  subst hn
  exact fun H locs ls a b c d => lv_astore k.1 k.2.1 hd d hi rfl (fun ls' d' => h H locs ls' a b c (lvput_has hok h2 d'))
theorem v_iinc (k : Kf x cc nL own ret D tys rm) {i : Nat} {a0 b0 : Int} (hd : decode cc pc = .ok (.iinc i b0, 3)) (hn : pc + 3 = n) (hi : i < nL) (hk : lvget i lv = some (.int (iI a0))) (hok : lvok lv = true) (h2 : lv.all (fun q => !(q.1 + 1 == i && q.2.category == 2)) = true) (h : Vw x nL A D wr cells slots ws n (lvput i (.int (iI (a0 + b0))) lv) (st)) : Vw x nL A D wr cells slots ws pc lv (st) := by
  subst hn
  intro H locs ls a b c d
  obtain ⟨j, hj⟩ := List.getElem?_of_mem (lvget_mem hk)
  exact lv_iinc k.1 k.2.1 hd d hj (iI_add a0 b0) hi rfl (fun ls' d' => h H locs ls' a b c (lvput_has hok h2 d'))
theorem v_iadd (k : Kf x cc nL own ret D tys rm) {a b : Int} (hd : decode cc pc = .ok (.iadd, 1)) (hn : pc + 1 = n) (h : Vw x nL A D wr cells slots ws n lv (.int (iI (a + b)) :: st)) : Vw x nL A D wr cells slots ws pc lv (.int (iI b) :: .int (iI a) :: st) := by
  subst hn
  exact fun H locs ls a' b' c d => lv_iadd k.1 k.2.1 hd (by rw [iI_add]; exact h H locs ls a' b' c d)
theorem v_isub (k : Kf x cc nL own ret D tys rm) {a b : Int} (hd : decode cc pc = .ok (.isub, 1)) (hn : pc + 1 = n) (h : Vw x nL A D wr cells slots ws n lv (.int (iI (a - b)) :: st)) : Vw x nL A D wr cells slots ws pc lv (.int (iI b) :: .int (iI a) :: st) := by
  subst hn
  exact fun H locs ls a' b' c d => lv_isub k.1 k.2.1 hd (by rw [iI_sub]; exact h H locs ls a' b' c d)
theorem v_imul (k : Kf x cc nL own ret D tys rm) {a b : Int} (hd : decode cc pc = .ok (.imul, 1)) (hn : pc + 1 = n) (h : Vw x nL A D wr cells slots ws n lv (.int (iI (a * b)) :: st)) : Vw x nL A D wr cells slots ws pc lv (.int (iI b) :: .int (iI a) :: st) := by
  subst hn
  exact fun H locs ls a' b' c d => lv_imul k.1 k.2.1 hd (by rw [iI_mul]; exact h H locs ls a' b' c d)
theorem v_ineg (k : Kf x cc nL own ret D tys rm) {a : Int} (hd : decode cc pc = .ok (.ineg, 1)) (hn : pc + 1 = n) (h : Vw x nL A D wr cells slots ws n lv (.int (iI (-a)) :: st)) : Vw x nL A D wr cells slots ws pc lv (.int (iI a) :: st) := by
  subst hn
  exact fun H locs ls a' b' c d => lv_ineg k.1 k.2.1 hd (by rw [iI_neg]; exact h H locs ls a' b' c d)
theorem v_iand (k : Kf x cc nL own ret D tys rm) {a b : Int} (r : Int) (he : iI a &&& iI b = iI r) (hd : decode cc pc = .ok (.iand, 1)) (hn : pc + 1 = n) (h : Vw x nL A D wr cells slots ws n lv (.int (iI r) :: st)) : Vw x nL A D wr cells slots ws pc lv (.int (iI b) :: .int (iI a) :: st) := by
  subst hn
  exact fun H locs ls a' b' c d => lv_iand k.1 k.2.1 hd (by rw [he]; exact h H locs ls a' b' c d)
theorem v_ior (k : Kf x cc nL own ret D tys rm) {a b : Int} (r : Int) (he : iI a ||| iI b = iI r) (hd : decode cc pc = .ok (.ior, 1)) (hn : pc + 1 = n) (h : Vw x nL A D wr cells slots ws n lv (.int (iI r) :: st)) : Vw x nL A D wr cells slots ws pc lv (.int (iI b) :: .int (iI a) :: st) := by
  subst hn
  exact fun H locs ls a' b' c d => lv_ior k.1 k.2.1 hd (by rw [he]; exact h H locs ls a' b' c d)
theorem v_ixor (k : Kf x cc nL own ret D tys rm) {a b : Int} (r : Int) (he : iI a ^^^ iI b = iI r) (hd : decode cc pc = .ok (.ixor, 1)) (hn : pc + 1 = n) (h : Vw x nL A D wr cells slots ws n lv (.int (iI r) :: st)) : Vw x nL A D wr cells slots ws pc lv (.int (iI b) :: .int (iI a) :: st) := by
  subst hn
  exact fun H locs ls a' b' c d => lv_ixor k.1 k.2.1 hd (by rw [he]; exact h H locs ls a' b' c d)
theorem v_ishl (k : Kf x cc nL own ret D tys rm) {a b : Int} (r : Int) (he : iI a <<< (iI b &&& 31) = iI r) (hd : decode cc pc = .ok (.ishl, 1)) (hn : pc + 1 = n) (h : Vw x nL A D wr cells slots ws n lv (.int (iI r) :: st)) : Vw x nL A D wr cells slots ws pc lv (.int (iI b) :: .int (iI a) :: st) := by
  subst hn
  exact fun H locs ls a' b' c d => lv_ishl k.1 k.2.1 hd (by rw [he]; exact h H locs ls a' b' c d)
theorem v_ishr (k : Kf x cc nL own ret D tys rm) {a b : Int} (r : Int) (he : iI a >>> (iI b &&& 31) = iI r) (hd : decode cc pc = .ok (.ishr, 1)) (hn : pc + 1 = n) (h : Vw x nL A D wr cells slots ws n lv (.int (iI r) :: st)) : Vw x nL A D wr cells slots ws pc lv (.int (iI b) :: .int (iI a) :: st) := by
  subst hn
  exact fun H locs ls a' b' c d => lv_ishr k.1 k.2.1 hd (by rw [he]; exact h H locs ls a' b' c d)
theorem v_idiv (k : Kf x cc nL own ret D tys rm) {a b : Int} (r : Int) (hb : ¬ iI b = 0) (he : iI a / iI b = iI r) (hd : decode cc pc = .ok (.idiv, 1)) (hn : pc + 1 = n) (h : Vw x nL A D wr cells slots ws n lv (.int (iI r) :: st)) : Vw x nL A D wr cells slots ws pc lv (.int (iI b) :: .int (iI a) :: st) := by
  subst hn
  exact fun H locs ls a' b' c d => lv_idiv k.1 k.2.1 hd hb (by rw [he]; exact h H locs ls a' b' c d)
theorem v_irem (k : Kf x cc nL own ret D tys rm) {a b : Int} (r : Int) (hb : ¬ iI b = 0) (he : iI a - iI a / iI b * iI b = iI r) (hd : decode cc pc = .ok (.irem, 1)) (hn : pc + 1 = n) (h : Vw x nL A D wr cells slots ws n lv (.int (iI r) :: st)) : Vw x nL A D wr cells slots ws pc lv (.int (iI b) :: .int (iI a) :: st) := by
  subst hn
  exact fun H locs ls a' b' c d => lv_irem k.1 k.2.1 hd hb (by rw [he]; exact h H locs ls a' b' c d)
theorem v_i2b (k : Kf x cc nL own ret D tys rm) {a : Int} (r : Int) (he : (iI a).toInt8.toInt32 = iI r) (hd : decode cc pc = .ok (.i2b, 1)) (hn : pc + 1 = n) (h : Vw x nL A D wr cells slots ws n lv (.int (iI r) :: st)) : Vw x nL A D wr cells slots ws pc lv (.int (iI a) :: st) := by
  subst hn
  exact fun H locs ls a' b' c d => lv_i2b k.1 k.2.1 hd he (h H locs ls a' b' c d)
theorem v_icmp_lt (k : Kf x cc nL own ret D tys rm) {a b : Int} {off : Int} {t : Nat} (ha : in32 a) (hb : in32 b) (hd : decode cc pc = .ok (.if_icmp .lt off, 3)) (ht : (pc : Int) + off = (t : Int)) (hn : pc + 3 = n) (h1 : a < b → Vw x nL A D wr cells slots ws t lv (st)) (h2 : ¬ a < b → Vw x nL A D wr cells slots ws n lv (st)) : Vw x nL A D wr cells slots ws pc lv (.int (iI b) :: .int (iI a) :: st) := by
  subst hn
  exact fun H locs ls a' b' c d => lv_icmp_lt k.1 k.2.1 hd ht (fun e => h1 ((iI_lt ha hb).mp e) H locs ls a' b' c d) (fun e => h2 (fun e2 => e ((iI_lt ha hb).mpr e2)) H locs ls a' b' c d)
theorem v_icmp_ge (k : Kf x cc nL own ret D tys rm) {a b : Int} {off : Int} {t : Nat} (ha : in32 a) (hb : in32 b) (hd : decode cc pc = .ok (.if_icmp .ge off, 3)) (ht : (pc : Int) + off = (t : Int)) (hn : pc + 3 = n) (h1 : b ≤ a → Vw x nL A D wr cells slots ws t lv (st)) (h2 : ¬ b ≤ a → Vw x nL A D wr cells slots ws n lv (st)) : Vw x nL A D wr cells slots ws pc lv (.int (iI b) :: .int (iI a) :: st) := by
  subst hn
  exact fun H locs ls a' b' c d => lv_icmp_ge k.1 k.2.1 hd ht (fun e => h1 ((iI_le hb ha).mp e) H locs ls a' b' c d) (fun e => h2 (fun e2 => e ((iI_le hb ha).mpr e2)) H locs ls a' b' c d)
theorem v_icmp_gt (k : Kf x cc nL own ret D tys rm) {a b : Int} {off : Int} {t : Nat} (ha : in32 a) (hb : in32 b) (hd : decode cc pc = .ok (.if_icmp .gt off, 3)) (ht : (pc : Int) + off = (t : Int)) (hn : pc + 3 = n) (h1 : b < a → Vw x nL A D wr cells slots ws t lv (st)) (h2 : ¬ b < a → Vw x nL A D wr cells slots ws n lv (st)) : Vw x nL A D wr cells slots ws pc lv (.int (iI b) :: .int (iI a) :: st) := by
  subst hn
  exact fun H locs ls a' b' c d => lv_icmp_gt k.1 k.2.1 hd ht (fun e => h1 ((iI_lt hb ha).mp e) H locs ls a' b' c d) (fun e => h2 (fun e2 => e ((iI_lt hb ha).mpr e2)) H locs ls a' b' c d)
theorem v_icmp_le (k : Kf x cc nL own ret D tys rm) {a b : Int} {off : Int} {t : Nat} (ha : in32 a) (hb : in32 b) (hd : decode cc pc = .ok (.if_icmp .le off, 3)) (ht : (pc : Int) + off = (t : Int)) (hn : pc + 3 = n) (h1 : a ≤ b → Vw x nL A D wr cells slots ws t lv (st)) (h2 : ¬ a ≤ b → Vw x nL A D wr cells slots ws n lv (st)) : Vw x nL A D wr cells slots ws pc lv (.int (iI b) :: .int (iI a) :: st) := by
  subst hn
  exact fun H locs ls a' b' c d => lv_icmp_le k.1 k.2.1 hd ht (fun e => h1 ((iI_le ha hb).mp e) H locs ls a' b' c d) (fun e => h2 (fun e2 => e ((iI_le ha hb).mpr e2)) H locs ls a' b' c d)
theorem v_icmp_eq (k : Kf x cc nL own ret D tys rm) {a b : Int} {off : Int} {t : Nat} (ha : in32 a) (hb : in32 b) (hd : decode cc pc = .ok (.if_icmp .eq off, 3)) (ht : (pc : Int) + off = (t : Int)) (hn : pc + 3 = n) (h1 : a = b → Vw x nL A D wr cells slots ws t lv (st)) (h2 : ¬ a = b → Vw x nL A D wr cells slots ws n lv (st)) : Vw x nL A D wr cells slots ws pc lv (.int (iI b) :: .int (iI a) :: st) := by
  subst hn
  exact fun H locs ls a' b' c d => lv_icmp_eq k.1 k.2.1 hd ht (fun e => h1 ((iI_eq ha hb).mp e) H locs ls a' b' c d) (fun e => h2 (fun e2 => e ((iI_eq ha hb).mpr e2)) H locs ls a' b' c d)
theorem v_icmp_ne (k : Kf x cc nL own ret D tys rm) {a b : Int} {off : Int} {t : Nat} (ha : in32 a) (hb : in32 b) (hd : decode cc pc = .ok (.if_icmp .ne off, 3)) (ht : (pc : Int) + off = (t : Int)) (hn : pc + 3 = n) (h1 : ¬ a = b → Vw x nL A D wr cells slots ws t lv (st)) (h2 : a = b → Vw x nL A D wr cells slots ws n lv (st)) : Vw x nL A D wr cells slots ws pc lv (.int (iI b) :: .int (iI a) :: st) := by
  subst hn
  exact fun H locs ls a' b' c d => lv_icmp_ne k.1 k.2.1 hd ht (fun e => h1 (fun e2 => e ((iI_eq ha hb).mpr e2)) H locs ls a' b' c d) (fun e => h2 ((iI_eq ha hb).mp e) H locs ls a' b' c d)
theorem v_if_lt (k : Kf x cc nL own ret D tys rm) {a : Int} {off : Int} {t : Nat} (ha : in32 a) (hd : decode cc pc = .ok (.ifCond .lt off, 3)) (ht : (pc : Int) + off = (t : Int)) (hn : pc + 3 = n) (h1 : a < 0 → Vw x nL A D wr cells slots ws t lv (st)) (h2 : ¬ a < 0 → Vw x nL A D wr cells slots ws n lv (st)) : Vw x nL A D wr cells slots ws pc lv (.int (iI a) :: st) := by
  subst hn
  have z : in32 0 := ⟨by omega, by omega⟩
  exact fun H locs ls a' b' c d => lv_if_lt k.1 k.2.1 hd ht (fun e => h1 ((iI_lt ha z).mp e) H locs ls a' b' c d) (fun e => h2 (fun e2 => e ((iI_lt ha z).mpr e2)) H locs ls a' b' c d)
theorem v_if_ge (k : Kf x cc nL own ret D tys rm) {a : Int} {off : Int} {t : Nat} (ha : in32 a) (hd : decode cc pc = .ok (.ifCond .ge off, 3)) (ht : (pc : Int) + off = (t : Int)) (hn : pc + 3 = n) (h1 : 0 ≤ a → Vw x nL A D wr cells slots ws t lv (st)) (h2 : ¬ 0 ≤ a → Vw x nL A D wr cells slots ws n lv (st)) : Vw x nL A D wr cells slots ws pc lv (.int (iI a) :: st) := by
  subst hn
  have z : in32 0 := ⟨by omega, by omega⟩
  exact fun H locs ls a' b' c d => lv_if_ge k.1 k.2.1 hd ht (fun e => h1 ((iI_le z ha).mp e) H locs ls a' b' c d) (fun e => h2 (fun e2 => e ((iI_le z ha).mpr e2)) H locs ls a' b' c d)
theorem v_if_gt (k : Kf x cc nL own ret D tys rm) {a : Int} {off : Int} {t : Nat} (ha : in32 a) (hd : decode cc pc = .ok (.ifCond .gt off, 3)) (ht : (pc : Int) + off = (t : Int)) (hn : pc + 3 = n) (h1 : 0 < a → Vw x nL A D wr cells slots ws t lv (st)) (h2 : ¬ 0 < a → Vw x nL A D wr cells slots ws n lv (st)) : Vw x nL A D wr cells slots ws pc lv (.int (iI a) :: st) := by
  subst hn
  have z : in32 0 := ⟨by omega, by omega⟩
  exact fun H locs ls a' b' c d => lv_if_gt k.1 k.2.1 hd ht (fun e => h1 ((iI_lt z ha).mp e) H locs ls a' b' c d) (fun e => h2 (fun e2 => e ((iI_lt z ha).mpr e2)) H locs ls a' b' c d)
theorem v_if_le (k : Kf x cc nL own ret D tys rm) {a : Int} {off : Int} {t : Nat} (ha : in32 a) (hd : decode cc pc = .ok (.ifCond .le off, 3)) (ht : (pc : Int) + off = (t : Int)) (hn : pc + 3 = n) (h1 : a ≤ 0 → Vw x nL A D wr cells slots ws t lv (st)) (h2 : ¬ a ≤ 0 → Vw x nL A D wr cells slots ws n lv (st)) : Vw x nL A D wr cells slots ws pc lv (.int (iI a) :: st) := by
  subst hn
  have z : in32 0 := ⟨by omega, by omega⟩
  exact fun H locs ls a' b' c d => lv_if_le k.1 k.2.1 hd ht (fun e => h1 ((iI_le ha z).mp e) H locs ls a' b' c d) (fun e => h2 (fun e2 => e ((iI_le ha z).mpr e2)) H locs ls a' b' c d)
theorem v_if_eq (k : Kf x cc nL own ret D tys rm) {a : Int} {off : Int} {t : Nat} (ha : in32 a) (hd : decode cc pc = .ok (.ifCond .eq off, 3)) (ht : (pc : Int) + off = (t : Int)) (hn : pc + 3 = n) (h1 : a = 0 → Vw x nL A D wr cells slots ws t lv (st)) (h2 : ¬ a = 0 → Vw x nL A D wr cells slots ws n lv (st)) : Vw x nL A D wr cells slots ws pc lv (.int (iI a) :: st) := by
  subst hn
  have z : in32 0 := ⟨by omega, by omega⟩
  exact fun H locs ls a' b' c d => lv_if_eq k.1 k.2.1 hd ht (fun e => h1 ((iI_eq ha z).mp e) H locs ls a' b' c d) (fun e => h2 (fun e2 => e ((iI_eq ha z).mpr e2)) H locs ls a' b' c d)
theorem v_if_ne (k : Kf x cc nL own ret D tys rm) {a : Int} {off : Int} {t : Nat} (ha : in32 a) (hd : decode cc pc = .ok (.ifCond .ne off, 3)) (ht : (pc : Int) + off = (t : Int)) (hn : pc + 3 = n) (h1 : ¬ a = 0 → Vw x nL A D wr cells slots ws t lv (st)) (h2 : a = 0 → Vw x nL A D wr cells slots ws n lv (st)) : Vw x nL A D wr cells slots ws pc lv (.int (iI a) :: st) := by
  subst hn
  have z : in32 0 := ⟨by omega, by omega⟩
  exact fun H locs ls a' b' c d => lv_if_ne k.1 k.2.1 hd ht (fun e => h1 (fun e2 => e ((iI_eq ha z).mpr e2)) H locs ls a' b' c d) (fun e => h2 ((iI_eq ha z).mp e) H locs ls a' b' c d)
theorem v_goto (k : Kf x cc nL own ret D tys rm) {off : Int} {t : Nat} (hd : decode cc pc = .ok (.goto off, 3)) (ht : (pc : Int) + off = (t : Int)) (h : Vw x nL A D wr cells slots ws t lv (st)) : Vw x nL A D wr cells slots ws pc lv (st) := by
  exact fun H locs ls a' b' c d => lv_goto k.1 k.2.1 hd ht (h H locs ls a' b' c d)
theorem v_dup (k : Kf x cc nL own ret D tys rm) {v : Value} (hv : v.category = 1) (hd : decode cc pc = .ok (.dup, 1)) (hn : pc + 1 = n) (h : Vw x nL A D wr cells slots ws n lv (v :: v :: st)) : Vw x nL A D wr cells slots ws pc lv (v :: st) := by
  subst hn
  exact fun H locs ls a' b' c d => lv_dup k.1 k.2.1 hd hv (h H locs ls a' b' c d)
theorem v_pop (k : Kf x cc nL own ret D tys rm) {v : Value} (hv : v.category = 1) (hd : decode cc pc = .ok (.pop, 1)) (hn : pc + 1 = n) (h : Vw x nL A D wr cells slots ws n lv (st)) : Vw x nL A D wr cells slots ws pc lv (v :: st) := by
  subst hn
  exact fun H locs ls a' b' c d => lv_pop k.1 k.2.1 hd hv (h H locs ls a' b' c d)
theorem v_dup2 (k : Kf x cc nL own ret D tys rm) {v u : Value} (hv : v.category = 1) (hu : u.category = 1) (hd : decode cc pc = .ok (.dup2, 1)) (hn : pc + 1 = n) (h : Vw x nL A D wr cells slots ws n lv (v :: u :: v :: u :: st)) : Vw x nL A D wr cells slots ws pc lv (v :: u :: st) := by
  subst hn
  exact fun H locs ls a' b' c d => lv_dup2_11 k.1 k.2.1 hd hv hu (h H locs ls a' b' c d)
theorem v_get (k : Kf x cc nL own ret D tys rm) {C : String} {T : u_T} {ty : Nat → FieldType} {N ci i a : Nat} {fs : List Value} {v : Value} (hc : CI ci C T ty N) (q0 f : Nat) (hf : f < N) (hl : Cond.fieldLink own i (T f).1 (T f).2.1 (T f).2.2.1 ∈ TB) (he : ws[q0]? = some (a, .inr (ci, fs))) (hv : fs[f]? = some v) (hd : decode cc pc = .ok (.getfield i, 3)) (hn : pc + 3 = n) (h : Vw x nL A D wr cells slots ws n lv (v :: st)) : Vw x nL A D wr cells slots ws pc lv (.ref a :: st) := by
  subst hn
  exact fun H locs ls a' b' c d => va_get k.1 k.2.1 k.2.2.2.2.1 hc.2.1 k.2.2.2.1 k.2.2.2.2.2.2.2.1.1 a' q0 he hc.1 f hf (k.2.2.2.2.1 _ hl) (fun _ h9 => h9) hv hd (h H locs ls a' b' c d)
theorem v_put (k : Kf x cc nL own ret D tys rm) {C : String} {T : u_T} {ty : Nat → FieldType} {N ci i a : Nat} {fs : List Value} {v : Value} (hc : CI ci C T ty N) (q0 f : Nat) (hf : f < N) (hl : Cond.fieldLink own i (T f).1 (T f).2.1 (T f).2.2.1 ∈ TB) (he : ws[q0]? = some (a, .inr (ci, fs))) (hfin : (T f).2.2.2 = false) (hnr : narrow (ty f) v = v) (hft : fits (ty f) v = true) (hlen : f < fs.length) (hd : decode cc pc = .ok (.putfield i, 3)) (hn : pc + 3 = n) (h : Vw x nL A D true cells slots (ws.set q0 (a, .inr (ci, fs.set f v))) n lv (st)) : Vw x nL A D true cells slots ws pc lv (v :: .ref a :: st) := by
  subst hn
  exact fun H locs ls a' b' c d => va_put k.1 k.2.1 k.2.2.2.2.1 hc.2.1 ty hc.2.2.1 hc.2.2.2 k.2.2.2.1 k.2.2.2.2.2.2.2.1.1 a' b' c.1 q0 he hc.1 f hf (k.2.2.2.2.1 _ hl) (fun _ h9 => h9) hfin (hc.2.2.1 f hf) hnr hft hlen hd (fun H1 l1 p1 d1 s1 => h H1 l1 ls p1 d1 ⟨s1, fun h9 => by cases h9⟩ d)
theorem v_iald (k : Kf x cc nL own ret D tys rm) (q0 t0 : Nat) {cA : ClassId} {N a : Nat} {g : Nat → Int} {i : Int} (ht : tys[t0]? = some (cA, .int)) (he : ws[q0]? = some (a, .inl (cA, N, .inl (fun j => iI (g j))))) (hin : 0 ≤ i ∧ i < N) (hN : N < 2147483648) (hd : decode cc pc = .ok (.iaload, 1)) (hn : pc + 1 = n) (h : Vw x nL A D wr cells slots ws n lv (.int (iI (g i.toNat)) :: st)) : Vw x nL A D wr cells slots ws pc lv (.int (iI i) :: .ref a :: st) := by
  subst hn
  have hc : (iI i).toNatClampNeg = i.toNat := iI_clamp ⟨by omega, by omega⟩
  exact fun H locs ls a' b' c d => va_iald k.1 k.2.1 k.2.2.2.2.2.2.2.1.1 a' q0 t0 he ht (iI_in hin hN) hd (by rw [hc]; exact h H locs ls a' b' c d)
theorem v_bald (k : Kf x cc nL own ret D tys rm) (q0 t0 : Nat) {cA : ClassId} {N a : Nat} {g : Nat → Int} {i : Int} (ht : tys[t0]? = some (cA, .byte)) (he : ws[q0]? = some (a, .inl (cA, N, .inl (fun j => iI (g j))))) (hin : 0 ≤ i ∧ i < N) (hN : N < 2147483648) (hd : decode cc pc = .ok (.baload, 1)) (hn : pc + 1 = n) (h : Vw x nL A D wr cells slots ws n lv (.int (iI (g i.toNat)) :: st)) : Vw x nL A D wr cells slots ws pc lv (.int (iI i) :: .ref a :: st) := by
  subst hn
  have hc : (iI i).toNatClampNeg = i.toNat := iI_clamp ⟨by omega, by omega⟩
  exact fun H locs ls a' b' c d => va_bald k.1 k.2.1 k.2.2.2.2.2.2.2.1.1 a' q0 t0 he ht (iI_in hin hN) hd (by rw [hc]; exact h H locs ls a' b' c d)
theorem v_zald (k : Kf x cc nL own ret D tys rm) (q0 t0 : Nat) {cA : ClassId} {N a : Nat} {g : Nat → Int} {i : Int} (ht : tys[t0]? = some (cA, .boolean)) (he : ws[q0]? = some (a, .inl (cA, N, .inl (fun j => iI (g j))))) (hin : 0 ≤ i ∧ i < N) (hN : N < 2147483648) (hd : decode cc pc = .ok (.baload, 1)) (hn : pc + 1 = n) (h : Vw x nL A D wr cells slots ws n lv (.int (iI (g i.toNat)) :: st)) : Vw x nL A D wr cells slots ws pc lv (.int (iI i) :: .ref a :: st) := by
  subst hn
  have hc : (iI i).toNatClampNeg = i.toNat := iI_clamp ⟨by omega, by omega⟩
  exact fun H locs ls a' b' c d => va_zald k.1 k.2.1 k.2.2.2.2.2.2.2.1.1 a' q0 t0 he ht (iI_in hin hN) hd (by rw [hc]; exact h H locs ls a' b' c d)
theorem v_iast (k : Kf x cc nL own ret D tys rm) (q0 t0 : Nat) {cA : ClassId} {N a : Nat} {g : Nat → Int} {i : Int} (ht : tys[t0]? = some (cA, .int)) (he : ws[q0]? = some (a, .inl (cA, N, .inl (fun j => iI (g j))))) (hin : 0 ≤ i ∧ i < N) (hN : N < 2147483648) {v : Int} (hd : decode cc pc = .ok (.iastore, 1)) (hn : pc + 1 = n) (h : Vw x nL A D true cells slots (ws.set q0 (a, .inl (cA, N, .inl (fun j => iI (upI g i.toNat v j))))) n lv (st)) : Vw x nL A D true cells slots ws pc lv (.int (iI v) :: .int (iI i) :: .ref a :: st) := by
  subst hn
  have hc : (iI i).toNatClampNeg = i.toNat := iI_clamp ⟨by omega, by omega⟩
  refine fun H locs ls a' b' c d => va_iast k.1 k.2.1 k.2.2.2.2.2.2.2.1.1 a' b' c.1 q0 t0 he ht (iI_in hin hN) hd (fun H1 l1 p1 d1 s1 => ?_)
  rw [hc, upI_eq] at p1 d1
  exact h H1 l1 ls p1 d1 ⟨s1, fun h9 => by cases h9⟩ d
theorem v_bast (k : Kf x cc nL own ret D tys rm) (q0 t0 : Nat) {cA : ClassId} {N a : Nat} {g : Nat → Int} {i : Int} (ht : tys[t0]? = some (cA, .byte)) (he : ws[q0]? = some (a, .inl (cA, N, .inl (fun j => iI (g j))))) (hin : 0 ≤ i ∧ i < N) (hN : N < 2147483648) {v : Int} (r : Int) (hr : vp_nar .byte (iI v) = iI r) (hd : decode cc pc = .ok (.bastore, 1)) (hn : pc + 1 = n) (h : Vw x nL A D true cells slots (ws.set q0 (a, .inl (cA, N, .inl (fun j => iI (upI g i.toNat r j))))) n lv (st)) : Vw x nL A D true cells slots ws pc lv (.int (iI v) :: .int (iI i) :: .ref a :: st) := by
  subst hn
  have hc : (iI i).toNatClampNeg = i.toNat := iI_clamp ⟨by omega, by omega⟩
  refine fun H locs ls a' b' c d => va_bast k.1 k.2.1 k.2.2.2.2.2.2.2.1.1 a' b' c.1 q0 t0 he ht (iI_in hin hN) hd (fun H1 l1 p1 d1 s1 => ?_)
  rw [hc, hr, upI_eq] at p1 d1
  exact h H1 l1 ls p1 d1 ⟨s1, fun h9 => by cases h9⟩ d
theorem v_zast (k : Kf x cc nL own ret D tys rm) (q0 t0 : Nat) {cA : ClassId} {N a : Nat} {g : Nat → Int} {i : Int} (ht : tys[t0]? = some (cA, .boolean)) (he : ws[q0]? = some (a, .inl (cA, N, .inl (fun j => iI (g j))))) (hin : 0 ≤ i ∧ i < N) (hN : N < 2147483648) {v : Int} (r : Int) (hr : vp_nar .boolean (iI v) = iI r) (hd : decode cc pc = .ok (.bastore, 1)) (hn : pc + 1 = n) (h : Vw x nL A D true cells slots (ws.set q0 (a, .inl (cA, N, .inl (fun j => iI (upI g i.toNat r j))))) n lv (st)) : Vw x nL A D true cells slots ws pc lv (.int (iI v) :: .int (iI i) :: .ref a :: st) := by
  subst hn
  have hc : (iI i).toNatClampNeg = i.toNat := iI_clamp ⟨by omega, by omega⟩
  refine fun H locs ls a' b' c d => va_zast k.1 k.2.1 k.2.2.2.2.2.2.2.1.1 a' b' c.1 q0 t0 he ht (iI_in hin hN) hd (fun H1 l1 p1 d1 s1 => ?_)
  rw [hc, hr, upI_eq] at p1 d1
  exact h H1 l1 ls p1 d1 ⟨s1, fun h9 => by cases h9⟩ d
theorem v_alen (k : Kf x cc nL own ret D tys rm) (q0 t0 : Nat) {cA : ClassId} {X : vp_A} {a : Nat} {ty : FieldType} (ht : tys[t0]? = some (cA, ty)) (he : ws[q0]? = some (a, .inl (cA, X))) (hd : decode cc pc = .ok (.arraylength, 1)) (hn : pc + 1 = n) (h : Vw x nL A D wr cells slots ws n lv (.int (iI (X.1 : Int)) :: st)) : Vw x nL A D wr cells slots ws pc lv (.ref a :: st) := by
  subst hn
  exact fun H locs ls a' b' c d => va_alen k.1 k.2.1 k.2.2.2.2.2.2.2.1.1 a' q0 t0 he ht rfl hd (h H locs ls a' b' c d)
theorem v_lvs (h0 : ∀ q ∈ lv', lvget q.1 lv = some q.2) (h : Vw x nL A D wr cells slots ws pc lv' (st)) : Vw x nL A D wr cells slots ws pc lv (st) := fun H locs ls a b c d => h H locs ls a b c ⟨d.1, d.2.1, fun q hq => d.2.2 _ (lvget_mem (h0 q hq))⟩
theorem v_ws {ws' : va_W} (h0 : ws = ws') (h : Vw x nL A D wr cells slots ws' pc lv (st)) : Vw x nL A D wr cells slots ws pc lv (st) := by rw [h0]; exact h
end VR
end
section
/-! contracts: Rd (reads alone), Up (writes its cells in place); how they are entered, left and called -/
theorem Kn.warm {D : va_G} {tys : List (ClassId × FieldType)} {s U : State} (hW : s.WarmedH U.vm) (h : Kn D tys s) : Kn D tys U := by
  refine ⟨va_K.moved hW.alike h.1, fun w hw => ?_⟩
  have h1 := h.2 w hw
  simp only [nestW, List.mem_cons, List.not_mem_nil, or_false] at hw
  rcases hw with rfl | rfl | rfl
  · exact va_Nw.warmM hW h1
  · exact va_Nw.warmM hW h1
  · exact va_Nw.warmM hW h1
theorem Kn.same {D : va_G} {tys : List (ClassId × FieldType)} {s U : State} (hv : s.vm = U.vm) (h : Kn D tys s) : Kn D tys U := by
  refine ⟨va_K.moved (by rw [hv]; exact Vm.Alike.refl _) h.1, fun w hw => ?_⟩
  have h1 := h.2 w hw
  simp only [nestW, List.mem_cons, List.not_mem_nil, or_false] at hw
  rcases hw with rfl | rfl | rfl
  · exact va_Nw.same rfl hv h1
  · exact va_Nw.same rfl hv h1
  · exact va_Nw.same rfl hv h1
def QR (post : Option Value → Prop) : Array Value → State → Outcome → State → Prop := fun _ st oc t => (∃ v, oc = .returned v ∧ post v) ∧ t.heap = st.heap
def QU (D : va_G) (ad : List Nat) (post : Option Value → va_W → Prop) : Array Value → State → Outcome → State → Prop := fun _ st oc t => (∃ v w1, oc = .returned v ∧ post v w1 ∧ w1.map Prod.fst = ad ∧ va_P D vwCl w1 t.heap) ∧ va_F (fun q => q ∈ ad) st t
/-- a method that reads the cells wc and changes nothing -/
def Rd (l : Launch) (y : MethodName) (b : ByteArray) (ml : Nat) (rt : Option FieldType) (rm : Room) (D : va_G) (tys : List (ClassId × FieldType)) (args : List Value) (wc : va_W) (post : Option Value → Prop) : Prop :=
  Met l y (Cond.code y b ml rt :: TB) rm (va_Pc args (fun U => va_P D vwCl wc U.heap ∧ Kn D tys U ∧ va_D (fun _ => True) wc)) (QR post) 0 0 (fun _ => False)
/-- a method that changes nothing but the cells wc, and makes none -/
def Up (l : Launch) (y : MethodName) (b : ByteArray) (ml : Nat) (rt : Option FieldType) (rm : Room) (D : va_G) (tys : List (ClassId × FieldType)) (args : List Value) (wc : va_W) (post : Option Value → va_W → Prop) : Prop :=
  Met l y (Cond.code y b ml rt :: TB) rm (va_Pc args (fun U => va_P D vwCl wc U.heap ∧ Kn D tys U ∧ va_D (fun _ => True) wc)) (QU D (wc.map Prod.fst) post) 0 0 (fun q => q ∈ wc.map Prod.fst)
def isR (x : Kx) (post : Option Value → Prop) : Prop := x.2.2.2.2.2.2.2.2.2.2 = MQ x.2.2.2.2.2.2.2.1 (QR post) x.2.2.2.2.2.2.1 x.2.2.2.2.1 0 0 (fun _ => False)
def isU (x : Kx) (D : va_G) (ad : List Nat) (post : Option Value → va_W → Prop) : Prop := x.2.2.2.2.2.2.2.2.2.2 = MQ x.2.2.2.2.2.2.2.1 (QU D ad post) x.2.2.2.2.2.2.1 x.2.2.2.2.1 0 0 (fun q => q ∈ ad)
def MI (y : MethodName) (b : ByteArray) (ml : Nat) (rt : Option FieldType) (np : Nat) : Prop := Cond.code y b ml rt ∈ TB ∧ Cond.initialized y.cls ∈ TB ∧ y.cls ≠ "java/lang/invoke/MethodHandle" ∧ y.cls ≠ "java/lang/invoke/VarHandle" ∧ (parseMethodDescriptor y.desc).map (fun d => d.parameters.length) = some np
def MIv (y : MethodName) (b : ByteArray) (ml : Nat) (rt : Option FieldType) (np : Nat) : Prop := MI y b ml rt np ∧ Cond.instanceMethod y ∈ TB ∧ Cond.selects y.cls y y ∈ TB
def MIs (y : MethodName) (b : ByteArray) (ml : Nat) (rt : Option FieldType) (np : Nat) : Prop := MI y b ml rt np ∧ Cond.static y ∈ TB
theorem TB_good {w : Cond} (h : w ∈ TB) : goodWord w = true := (List.mem_filter.mp h).2
theorem TB_in {y : MethodName} {b : ByteArray} {ml : Nat} {rt : Option FieldType} (h : Cond.code y b ml rt ∈ TB) : GoodIn TB (Cond.code y b ml rt :: TB) := by
  intro w hw
  rcases List.mem_cons.mp hw with rfl | hw
  · exact ⟨h, good_of_word (TB_good h)⟩
  · exact ⟨hw, good_of_word (TB_good hw)⟩
section VE
variable {l : Launch} {y : MethodName} {b : ByteArray} {ml : Nat} {rt : Option FieldType} {rm : Room} {D : va_G} {tys : List (ClassId × FieldType)} {args : List Value} {wc : va_W}
theorem Rd_of {post : Option Value → Prop}
    (hy : plainName y.cls = true) (hl : (lg_sl args).length ≤ ml) (h : ∀ x : Kx, Kf x b ml y.cls rt D tys rm → isR x post → Vw x ml (fun _ => True) D false 0 0 wc 0 (lv_args 0 args) []) : Rd l y b ml rt rm D tys args wc post := by
  refine Met.ofW (cc := b) (maxL := ml) (ret := rt) hy rfl ?_
  intro p e s m args' below meth c s₁ B hml hv
  obtain ⟨rfl, hP, hK, hD⟩ := hv
  have hts := atoms_spec (ws := Cond.code y b ml rt :: TB) B.pre
  have hown : s.vm.findClass y.cls = some m.cls := findClass_of_methodNamed B.named
  have hk : Kf (p, l, e, rm, s, m, args.toArray, below, meth, c, MQ below (QR post) args.toArray s 0 0 (fun _ => False)) b ml y.cls rt D tys rm :=
    ⟨B.exec, B.bytes, hml, hown, fun w hw => hts w (List.mem_cons_of_mem _ hw), B.returns, B.notSynchronized, hK, rfl⟩
  have hl := lv_entry args (n := ml) hl
  rw [lg_entry_eq]
  exact h _ hk rfl s.heap [] _ hP hD ⟨va_S.rf, fun _ => ⟨rfl, rfl⟩⟩ hl
theorem Up_of {post : Option Value → va_W → Prop}
    (hy : plainName y.cls = true) (hl : (lg_sl args).length ≤ ml) (h : ∀ x : Kx, Kf x b ml y.cls rt D tys rm → isU x D (wc.map Prod.fst) post → Vw x ml (fun q => q ∈ wc.map Prod.fst) D true 0 0 wc 0 (lv_args 0 args) []) : Up l y b ml rt rm D tys args wc post := by
  refine Met.ofW (cc := b) (maxL := ml) (ret := rt) hy rfl ?_
  intro p e s m args' below meth c s₁ B hml hv
  obtain ⟨rfl, hP, hK, hD⟩ := hv
  have hts := atoms_spec (ws := Cond.code y b ml rt :: TB) B.pre
  have hown : s.vm.findClass y.cls = some m.cls := findClass_of_methodNamed B.named
  have hk : Kf (p, l, e, rm, s, m, args.toArray, below, meth, c, MQ below (QU D (wc.map Prod.fst) post) args.toArray s 0 0 (fun q => q ∈ wc.map Prod.fst)) b ml y.cls rt D tys rm :=
    ⟨B.exec, B.bytes, hml, hown, fun w hw => hts w (List.mem_cons_of_mem _ hw), B.returns, B.notSynchronized, hK, rfl⟩
  have hl := lv_entry args (n := ml) hl
  have hD2 : va_D (fun q => q ∈ wc.map Prod.fst) wc := ⟨hD.1, fun k q hq => List.mem_map.mpr ⟨q, List.mem_of_getElem? hq, rfl⟩⟩
  rw [lg_entry_eq]
  exact h _ hk rfl s.heap [] _ hP hD2 ⟨va_S.rf, fun h9 => by cases h9⟩ hl
end VE
section VL
variable {x : Kx} {cc : ByteArray} {nL : Nat} {own : String} {ret : Option FieldType} {D : va_G} {tys : List (ClassId × FieldType)} {rm : Room} {A : Nat → Prop} {wr : Bool} {cells slots : Nat} {ws : va_W} {pc n : Nat} {lv lv' : List (Nat × Value)} {st : List Value}
theorem v_iretR (k : Kf x cc nL own (some .int) D tys rm) {post : Option Value → Prop} {v : Int32} (hq : isR x post) (hp : post (some (.int v))) (hd : decode cc pc = .ok (.ireturn, 1)) : Vw x nL A D false 0 0 ws pc lv [.int v] := by
  intro H locs ls a b c d
  obtain ⟨e1, e2⟩ := c.2 rfl
  rw [hq]
  exact W.iret k.1 k.2.1 k.2.2.2.2.2.1 (fun t ht hW => ⟨⟨_, rfl, hp⟩, by rw [ht, e1]⟩) (by rw [e2]; intro q h; cases h) hd k.2.2.2.2.2.2.1
theorem v_iretU (k : Kf x cc nL own (some .int) D tys rm) {ad : List Nat} {post : Option Value → va_W → Prop} {v : Int32} (hq : isU x D ad post) (hp : post (some (.int v)) ws) (had : ws.map Prod.fst = ad) (hd : decode cc pc = .ok (.ireturn, 1)) : Vw x nL (fun q => q ∈ ad) D wr 0 0 ws pc lv [.int v] := by
  intro H locs ls a b c d
  rw [hq]
  exact W.iret k.1 k.2.1 k.2.2.2.2.2.1 (fun t ht hW => ⟨⟨_, ws, rfl, hp, had, by rw [ht]; exact a⟩, c.1.F ht⟩) c.1.2.2 hd k.2.2.2.2.2.2.1
theorem v_zretR (k : Kf x cc nL own (some .boolean) D tys rm) {post : Option Value → Prop} {v : Int32} (hz : narrow .boolean (.int v) = .int v) (hq : isR x post) (hp : post (some (.int v))) (hd : decode cc pc = .ok (.ireturn, 1)) : Vw x nL A D false 0 0 ws pc lv [.int v] := by
  intro H locs ls a b c d
  obtain ⟨e1, e2⟩ := c.2 rfl
  rw [hq]
  exact W.zret k.1 k.2.1 k.2.2.2.2.2.1 hz (fun t ht hW => ⟨⟨_, rfl, hp⟩, by rw [ht, e1]⟩) (by rw [e2]; intro q h; cases h) hd k.2.2.2.2.2.2.1
theorem v_zretU (k : Kf x cc nL own (some .boolean) D tys rm) {ad : List Nat} {post : Option Value → va_W → Prop} {v : Int32} (hz : narrow .boolean (.int v) = .int v) (hq : isU x D ad post) (hp : post (some (.int v)) ws) (had : ws.map Prod.fst = ad) (hd : decode cc pc = .ok (.ireturn, 1)) : Vw x nL (fun q => q ∈ ad) D wr 0 0 ws pc lv [.int v] := by
  intro H locs ls a b c d
  rw [hq]
  exact W.zret k.1 k.2.1 k.2.2.2.2.2.1 hz (fun t ht hW => ⟨⟨_, ws, rfl, hp, had, by rw [ht]; exact a⟩, c.1.F ht⟩) c.1.2.2 hd k.2.2.2.2.2.2.1
theorem v_vretR (k : Kf x cc nL own (none) D tys rm) {post : Option Value → Prop}  (hq : isR x post) (hp : post none) (hd : decode cc pc = .ok (.return_, 1)) : Vw x nL A D false 0 0 ws pc lv [] := by
  intro H locs ls a b c d
  obtain ⟨e1, e2⟩ := c.2 rfl
  rw [hq]
  exact W.vret k.1 k.2.1 k.2.2.2.2.2.1 (fun t ht hW => ⟨⟨_, rfl, hp⟩, by rw [ht, e1]⟩) (by rw [e2]; intro q h; cases h) hd k.2.2.2.2.2.2.1
theorem v_vretU (k : Kf x cc nL own (none) D tys rm) {ad : List Nat} {post : Option Value → va_W → Prop}  (hq : isU x D ad post) (hp : post none ws) (had : ws.map Prod.fst = ad) (hd : decode cc pc = .ok (.return_, 1)) : Vw x nL (fun q => q ∈ ad) D wr 0 0 ws pc lv [] := by
  intro H locs ls a b c d
  rw [hq]
  exact W.vret k.1 k.2.1 k.2.2.2.2.2.1 (fun t ht hW => ⟨⟨_, ws, rfl, hp, had, by rw [ht]; exact a⟩, c.1.F ht⟩) c.1.2.2 hd k.2.2.2.2.2.2.1
theorem v_aretR (k : Kf x cc nL own (some (.array .int)) D tys rm) {post : Option Value → Prop} {v : Nat} (hq : isR x post) (hp : post (some (.ref v))) (hd : decode cc pc = .ok (.areturn, 1)) : Vw x nL A D false 0 0 ws pc lv [.ref v] := by
  intro H locs ls a b c d
  obtain ⟨e1, e2⟩ := c.2 rfl
  rw [hq]
  exact W.aret k.1 k.2.1 k.2.2.2.2.2.1 (Or.inr ⟨_, rfl⟩) (Or.inr ⟨_, rfl⟩) (fun t ht hW => ⟨⟨_, rfl, hp⟩, by rw [ht, e1]⟩) (by rw [e2]; intro q h; cases h) hd k.2.2.2.2.2.2.1
theorem v_aretU (k : Kf x cc nL own (some (.array .int)) D tys rm) {ad : List Nat} {post : Option Value → va_W → Prop} {v : Nat} (hq : isU x D ad post) (hp : post (some (.ref v)) ws) (had : ws.map Prod.fst = ad) (hd : decode cc pc = .ok (.areturn, 1)) : Vw x nL (fun q => q ∈ ad) D wr 0 0 ws pc lv [.ref v] := by
  intro H locs ls a b c d
  rw [hq]
  exact W.aret k.1 k.2.1 k.2.2.2.2.2.1 (Or.inr ⟨_, rfl⟩) (Or.inr ⟨_, rfl⟩) (fun t ht hW => ⟨⟨_, ws, rfl, hp, had, by rw [ht]; exact a⟩, c.1.F ht⟩) c.1.2.2 hd k.2.2.2.2.2.2.1
theorem wput_get : ∀ (is : List Nat) (ws w1 : va_W) (k : Nat) (q : Nat × va_E), (wput ws is w1)[k]? = some q → (∃ j : Nat, is[j]? = some k ∧ w1[j]? = some q) ∨ (k ∉ is.take w1.length ∧ ws[k]? = some q) := by
  intro is
  induction is with
  | nil => intro ws w1 k q h; exact Or.inr ⟨by simp, by simpa [wput] using h⟩
  | cons i is ih =>
    intro ws w1 k q h
    cases w1 with
    | nil => exact Or.inr ⟨by simp, by simpa [wput] using h⟩
    | cons c cs =>
      rcases ih (ws.set i c) cs k q h with ⟨j, h1, h2⟩ | ⟨h1, h2⟩
      · exact Or.inl ⟨j + 1, h1, h2⟩
      · by_cases e : k = i
        · subst e
          rw [List.getElem?_set] at h2
          simp only [if_true] at h2
          split at h2
          · exact Or.inl ⟨0, rfl, h2⟩
          · cases h2
        · refine Or.inr ⟨?_, ?_⟩
          · simp only [List.length_cons, List.take_succ_cons, List.mem_cons, not_or]
            exact ⟨e, h1⟩
          · rw [List.getElem?_set, if_neg (fun e2 => e e2.symm)] at h2
            exact h2
theorem at_places {ws wc : va_W} {is : List Nat} (his : is.map (fun i => ws[i]?) = wc.map some) {j k : Nat} (hj : is[j]? = some k) : ∃ q, wc[j]? = some q ∧ ws[k]? = some q := by
  have h1 : (is.map (fun i => ws[i]?))[j]? = some ws[k]? := by rw [List.getElem?_map, hj]; rfl
  rw [his, List.getElem?_map] at h1
  cases hq : wc[j]? with
  | none => rw [hq] at h1; cases h1
  | some q => rw [hq] at h1; exact ⟨q, rfl, by simpa using h1.symm⟩
theorem at_places' {ws wc : va_W} {is : List Nat} (his : is.map (fun i => ws[i]?) = wc.map some) {j : Nat} {q : Nat × va_E} (hj : wc[j]? = some q) : ∃ k, is[j]? = some k ∧ ws[k]? = some q := by
  have h1 : (wc.map some)[j]? = some (some q) := by rw [List.getElem?_map, hj]; rfl
  rw [← his, List.getElem?_map] at h1
  cases hk : is[j]? with
  | none => rw [hk] at h1; cases h1
  | some k => rw [hk] at h1; exact ⟨k, rfl, by simpa using h1⟩
/-- a world after an update of some of its cells in place -/
theorem world_up {ws wc w1 : va_W} {is : List Nat} {H H1 : Heap} (his : is.map (fun i => ws[i]?) = wc.map some) (hP : va_P D vwCl ws H) (hD : va_D A ws) (had : w1.map Prod.fst = wc.map Prod.fst) (hP1 : va_P D vwCl w1 H1)
    (hk : ∀ q, q < H.size → q ∉ wc.map Prod.fst → H1[q]? = H[q]?) : va_P D vwCl (wput ws is w1) H1 ∧ va_D A (wput ws is w1) := by
  have hlen : is.length = w1.length := by
    have e1 := congrArg List.length his
    have e2 := congrArg List.length had
    simp only [List.length_map] at e1 e2
    omega
  have adr : ∀ (k : Nat) (q : Nat × va_E), (wput ws is w1)[k]? = some q → ∃ q', ws[k]? = some q' ∧ q'.1 = q.1 := by
    intro k q h
    rcases wput_get is ws w1 k q h with ⟨j, h1, h2⟩ | ⟨-, h2⟩
    · obtain ⟨q', h3, h4⟩ := at_places his h1
      refine ⟨q', h4, ?_⟩
      have e1 : (w1.map Prod.fst)[j]? = some q.1 := by rw [List.getElem?_map, h2]; rfl
      rw [had, List.getElem?_map, h3] at e1
      simpa using e1
    · exact ⟨q, h2, rfl⟩
  refine ⟨fun k q h => ?_, fun i j p q h1 h2 e => ?_, fun k q h => ?_⟩
  · rcases wput_get is ws w1 k q h with ⟨j, h1, h2⟩ | ⟨h1, h2⟩
    · exact hP1 j q h2
    · refine (hP k q h2).kept (hk _ (hP k q h2).lt fun hm => h1 ?_)
      obtain ⟨c, hc, e⟩ := List.mem_map.mp hm
      obtain ⟨j, hj⟩ := List.getElem?_of_mem hc
      obtain ⟨k', h3, h4⟩ := at_places' his hj
      have : k' = k := hD.1 k' k c q h4 h2 e
      subst this
      rw [← hlen, List.take_length]
      exact List.mem_of_getElem? h3
  · obtain ⟨p', a1, a2⟩ := adr i p h1
    obtain ⟨q', b1, b2⟩ := adr j q h2
    exact hD.1 i j p' q' a1 b1 (by rw [a2, b2, e])
  · obtain ⟨q', a1, a2⟩ := adr k q h
    rw [← a2]
    exact hD.2 k q' a1
theorem sub_places {ws wc : va_W} {is : List Nat} {H : Heap} (his : is.map (fun i => ws[i]?) = wc.map some) (hP : va_P D vwCl ws H) : va_P D vwCl wc H := by
  intro k q hq
  obtain ⟨i, -, h⟩ := at_places' his hq
  exact hP i q h
theorem after_rd {y : MethodName} {stk : List Value} {As : Array Value} {post : Option Value → Prop} {H : Heap} {locs : List Loc} {ls : Array Slot}
    (hr : va_Run x.1 x.2.1 x.2.2.1 x.2.2.2.1 x.2.2.2.2.1 x.2.2.2.2.2.1 x.2.2.2.2.2.2.1 x.2.2.2.2.2.2.2.1 x.2.2.2.2.2.2.2.2.1 x.2.2.2.2.2.2.2.2.2.1 H locs cells slots 0 0 (F0 x.2.2.2.2.2.1 pc ls stk) st (QR post As) (fun _ => False))
    (a : va_P D vwCl ws H) (b : va_D A ws) (c : Sx wr A x.2.2.2.2.1.heap H locs) (d : lv_has ls nL lv) (h : ∀ v, post v → Vw x nL A D wr cells slots ws (pc + 3) lv (v.toList ++ st)) :
    W x.1 x.2.1 x.2.2.1 x.2.2.2.1 x.2.2.2.2.1 x.2.2.2.2.2.1 x.2.2.2.2.2.2.1 x.2.2.2.2.2.2.2.1 x.2.2.2.2.2.2.2.2.1 x.2.2.2.2.2.2.2.2.2.1 H locs cells slots x.2.2.2.2.2.2.2.2.2.2 (F0 x.2.2.2.2.2.1 pc ls stk) := by
  intro T hT X
  obtain ⟨v, st₀, t, T', L, h0, X', hL, e1, e2, ⟨⟨v', hv, hp⟩, hz⟩, go⟩ := hr T hT X
  cases hv
  have hL0 : L = [] := List.eq_nil_iff_forall_not_mem.mpr fun q hq => hL q hq
  subst hL0
  rw [List.append_nil] at X'
  obtain ⟨t2, a1, b1⟩ := h v hp H locs ls a b c d T' (by rw [e1, hz, h0]) X'
  exact ⟨t2, go t2 a1, b1⟩
theorem after_up {stk : List Value} {As : Array Value} {wc : va_W} {is : List Nat} {post : Option Value → va_W → Prop} {H : Heap} {locs : List Loc} {ls : Array Slot} (his : is.map (fun i => ws[i]?) = wc.map some)
    (hr : va_Run x.1 x.2.1 x.2.2.1 x.2.2.2.1 x.2.2.2.2.1 x.2.2.2.2.2.1 x.2.2.2.2.2.2.1 x.2.2.2.2.2.2.2.1 x.2.2.2.2.2.2.2.2.1 x.2.2.2.2.2.2.2.2.2.1 H locs cells slots 0 0 (F0 x.2.2.2.2.2.1 pc ls stk) st (QU D (wc.map Prod.fst) post As) (fun q => q ∈ wc.map Prod.fst))
    (a : va_P D vwCl ws H) (b : va_D A ws) (c : Sx true A x.2.2.2.2.1.heap H locs) (d : lv_has ls nL lv) (h : ∀ v w1, post v w1 → Vw x nL A D true cells slots (wput ws is w1) (pc + 3) lv (v.toList ++ st)) :
    W x.1 x.2.1 x.2.2.1 x.2.2.2.1 x.2.2.2.2.1 x.2.2.2.2.2.1 x.2.2.2.2.2.2.1 x.2.2.2.2.2.2.2.1 x.2.2.2.2.2.2.2.2.1 x.2.2.2.2.2.2.2.2.2.1 H locs cells slots x.2.2.2.2.2.2.2.2.2.2 (F0 x.2.2.2.2.2.1 pc ls stk) := by
  intro T hT X
  obtain ⟨v, st₀, t, T', L, h0, X', hL, e1, e2, ⟨⟨v', w1, hv, hp, had, hP1⟩, hz, hk⟩, go⟩ := hr T hT X
  cases hv
  have hA : ∀ q, q ∈ wc.map Prod.fst → A q := by
    intro q hq
    obtain ⟨c9, hc, e⟩ := List.mem_map.mp hq
    obtain ⟨j, hj⟩ := List.getElem?_of_mem hc
    obtain ⟨k', -, h4⟩ := at_places' his hj
    rw [← e]
    exact b.2 k' c9 h4
  rw [h0] at hz hk
  obtain ⟨a', b'⟩ := world_up (H := H) (H1 := t.heap) his a b had hP1 (fun q h1 h2 => hk q h1 h2)
  obtain ⟨t2, a1, b1⟩ := h v w1 hp t.heap (locs ++ L) ls a' b' ⟨⟨Nat.le_trans c.1.1 hz, fun q h1 h2 => by
      rw [hk q (Nat.lt_of_lt_of_le h1 c.1.1) (fun z => h2 (hA q z))]
      exact c.1.2.1 q h1 h2, fun q hq => by
      rcases List.mem_append.mp hq with h | h
      · exact c.1.2.2 q h
      · exact hA _ (hL q h)⟩, fun h9 => by cases h9⟩ d T' e1 X'
  exact ⟨t2, go t2 a1, b1⟩
/-- what a call asks of the words and of the room -/
theorem call_b (k : Kf x cc nL own ret D tys rm) {y : MethodName} {b : ByteArray} {ml np i : Nat} {rt : Option FieldType} {rmc : Room} (hi : MI y b ml rt np) (hl : Cond.methodLink own i y ∈ TB) (hR : rmc.frames + 1 ≤ rm.frames ∧ 8 + (ml + 11) + rmc.locals ≤ rm.locals) (hz : rmc.cells = 0 ∧ rmc.slots = 0) :
    CallB x.2.2.2.1 x.2.2.2.2.1 x.2.2.2.2.2.2.1 own i y b ml rt (Cond.code y b ml rt :: TB) rmc 0 0 np := by
  have hR' := hR
  rw [← k.2.2.2.2.2.2.2.2] at hR'
  exact callB_of np k.2.2.2.2.1 (TB_in hi.1) rfl hz.1 hz.2 (k.2.2.2.2.1 _ hi.2.1) (k.2.2.2.2.1 _ hl) hi.2.2 hR'
theorem pre_b {wc : va_W} {av : List Value} : FrameBlind (va_Pc av (fun U => va_P D vwCl wc U.heap ∧ Kn D tys U ∧ va_D (fun _ => True) wc)) := by
  intro a U g mk h
  obtain ⟨h1, h2, h3, h4⟩ := h
  exact ⟨h1, h2, Kn.same (s := U) (U := U.calling g mk a) rfl h3, h4⟩
theorem hD9 {wc : va_W} {is : List Nat} (b : va_D A ws) (hnd : va_nd is = true) (his : is.map (fun i => ws[i]?) = wc.map some) : va_D (fun _ => True) wc := (b.sub is hnd his).weaken (fun _ _ _ _ => trivial)
theorem pre_u (k : Kf x cc nL own ret D tys rm) {wc : va_W} {is : List Nat} {av : List Value} {H : Heap} (his : is.map (fun i => ws[i]?) = wc.map some) (hnd : va_nd is = true) (a : va_P D vwCl ws H) (b : va_D A ws) : ∀ U : State, U.heap = H → x.2.2.2.2.1.WarmedH U.vm → va_Pc av (fun U => va_P D vwCl wc U.heap ∧ Kn D tys U ∧ va_D (fun _ => True) wc) av.toArray U := by
  intro U hU hW
  exact ⟨rfl, by rw [hU]; exact sub_places his a, Kn.warm hW k.2.2.2.2.2.2.2.1, (hD9 b hnd his)⟩

theorem v_rdV (k : Kf x cc nL own ret D tys rm) {y : MethodName} {b : ByteArray} {ml np i a : Nat} {rt : Option FieldType} {rmc : Room} {As stk : List Value} {wc : va_W} {post : Option Value → Prop} {T : u_T} {N ci : Nat} {fs : List Value} (is : List Nat) (q0 : Nat) (hM : ∀ l, Rd l y b ml rt rmc D tys (.ref a :: As) wc post) (hi : MIv y b ml rt np) (hl : Cond.methodLink own i y ∈ TB) (hR : rmc.frames + 1 ≤ rm.frames ∧ 8 + (ml + 11) + rmc.locals ≤ rm.locals) (hz : rmc.cells = 0 ∧ rmc.slots = 0)
    (his : is.map (fun i => ws[i]?) = wc.map some) (hnd : va_nd is = true) (he : ws[q0]? = some (a, .inr (ci, fs))) (hc : vwCl[ci]? = some (y.cls, T, N)) (hnp : As.length = np) (hst : stk = As.reverse ++ .ref a :: st) (hW : (st.map fun v => v.category).sum ≤ 8) (hcs : cells + 0 ≤ x.2.2.2.1.cells ∧ slots + 0 ≤ x.2.2.2.1.slots) (hd : decode cc pc = .ok (.invokevirtual i, 3)) (hn : pc + 3 = n)
    (h : ∀ v, post v → Vw x nL A D wr cells slots ws n lv (v.toList ++ st)) : Vw x nL A D wr cells slots ws pc lv stk := by
  subst hn
  intro H locs ls a' b' c d
  have hK := k.2.2.2.2.2.2.2.1.1
  refine after_rd (y := y) (va_runV (b := a) (C := y.cls) (As := As) (rest := st) (Ts := TB) (own := own) ⟨k.1, k.2.1, k.2.2.1, k.2.2.2.1, k.2.2.2.2.1⟩ (hM x.2.1) ⟨call_b k hi.1 hl hR hz, k.2.2.2.2.1 _ hi.2.1, k.2.2.2.2.1 _ hi.2.2⟩ ⟨pre_b, va_recv hK a' hc he, pre_u k his hnd a' b'⟩ rfl hnp d.1 hst (lv_room hW) hd ⟨?_, ?_⟩) a' b' c d h
  · exact hcs.1
  · exact hcs.2
theorem v_rdS (k : Kf x cc nL own ret D tys rm) {y : MethodName} {b : ByteArray} {ml np i : Nat} {rt : Option FieldType} {rmc : Room} {As stk : List Value} {wc : va_W} {post : Option Value → Prop} (is : List Nat) (hM : ∀ l, Rd l y b ml rt rmc D tys As wc post) (hi : MIs y b ml rt np) (hl : Cond.methodLink own i y ∈ TB) (hR : rmc.frames + 1 ≤ rm.frames ∧ 8 + (ml + 11) + rmc.locals ≤ rm.locals) (hz : rmc.cells = 0 ∧ rmc.slots = 0)
    (his : is.map (fun i => ws[i]?) = wc.map some) (hnd : va_nd is = true) (hnp : As.length = np) (hst : stk = As.reverse ++ st) (hW : (st.map fun v => v.category).sum ≤ 8) (hcs : cells + 0 ≤ x.2.2.2.1.cells ∧ slots + 0 ≤ x.2.2.2.1.slots) (hd : decode cc pc = .ok (.invokestatic i, 3)) (hn : pc + 3 = n)
    (h : ∀ v, post v → Vw x nL A D wr cells slots ws n lv (v.toList ++ st)) : Vw x nL A D wr cells slots ws pc lv stk := by
  subst hn
  intro H locs ls a' b' c d
  refine after_rd (y := y) (va_runS (As := As) (rest := st) (Ts := TB) (own := own) ⟨k.1, k.2.1, k.2.2.1, k.2.2.2.1, k.2.2.2.2.1⟩ (hM x.2.1) ⟨call_b k hi.1 hl hR hz, k.2.2.2.2.1 _ hi.2⟩ ⟨pre_b, pre_u k his hnd a' b'⟩ rfl hnp d.1 hst (lv_room hW) hd ⟨?_, ?_⟩) a' b' c d h
  · exact hcs.1
  · exact hcs.2
theorem v_rdSN (k : Kf x cc nL own ret D tys rm) {y : MethodName} {b : ByteArray} {ml np i : Nat} {rt : Option FieldType} {rmc : Room} {As stk : List Value} {wc : va_W} {post : Option Value → Prop} {host : String} (is : List Nat) (hM : ∀ l, Rd l y b ml rt rmc D tys As wc post) (hi : MIs y b ml rt np) (hl : Cond.methodLinkNest own i y host ∈ nestW) (hR : rmc.frames + 1 ≤ rm.frames ∧ 8 + (ml + 11) + rmc.locals ≤ rm.locals) (hz : rmc.cells = 0 ∧ rmc.slots = 0)
    (his : is.map (fun i => ws[i]?) = wc.map some) (hnd : va_nd is = true) (hnp : As.length = np) (hst : stk = As.reverse ++ st) (hW : (st.map fun v => v.category).sum ≤ 8) (hcs : cells + 0 ≤ x.2.2.2.1.cells ∧ slots + 0 ≤ x.2.2.2.1.slots) (hd : decode cc pc = .ok (.invokestatic i, 3)) (hn : pc + 3 = n)
    (h : ∀ v, post v → Vw x nL A D wr cells slots ws n lv (v.toList ++ st)) : Vw x nL A D wr cells slots ws pc lv stk := by
  subst hn
  intro H locs ls a' b' c d
  have hR' := hR
  rw [← k.2.2.2.2.2.2.2.2] at hR'
  refine after_rd (y := y) (va_runSN (As := As) (rest := st) (Ts := TB) (own := own) (host := host) ⟨k.1, k.2.1, k.2.2.1, k.2.2.2.1, k.2.2.2.2.1⟩ (hM x.2.1) ⟨va_cnB np k.2.2.2.2.1 (TB_in hi.1.1) rfl hz.1 hz.2 (k.2.2.2.2.2.2.2.1.2 _ hl) (k.2.2.2.2.1 _ hi.1.2.1) hi.1.2.2 hR', k.2.2.2.2.1 _ hi.2, trivial⟩ ⟨pre_b, pre_u k his hnd a' b'⟩ rfl hnp d.1 hst (lv_room hW) hd ⟨?_, ?_⟩) a' b' c d h
  · exact hcs.1
  · exact hcs.2
theorem v_upV (k : Kf x cc nL own ret D tys rm) {y : MethodName} {b : ByteArray} {ml np i a : Nat} {rt : Option FieldType} {rmc : Room} {As stk : List Value} {wc : va_W} {post : Option Value → va_W → Prop} {T : u_T} {N ci : Nat} {fs : List Value} (is : List Nat) (q0 : Nat) (hM : ∀ l, Up l y b ml rt rmc D tys (.ref a :: As) wc post) (hi : MIv y b ml rt np) (hl : Cond.methodLink own i y ∈ TB) (hR : rmc.frames + 1 ≤ rm.frames ∧ 8 + (ml + 11) + rmc.locals ≤ rm.locals) (hz : rmc.cells = 0 ∧ rmc.slots = 0)
    (his : is.map (fun i => ws[i]?) = wc.map some) (hnd : va_nd is = true) (he : ws[q0]? = some (a, .inr (ci, fs))) (hc : vwCl[ci]? = some (y.cls, T, N)) (hnp : As.length = np) (hst : stk = As.reverse ++ .ref a :: st) (hW : (st.map fun v => v.category).sum ≤ 8) (hcs : cells + 0 ≤ x.2.2.2.1.cells ∧ slots + 0 ≤ x.2.2.2.1.slots) (hd : decode cc pc = .ok (.invokevirtual i, 3)) (hn : pc + 3 = n)
    (h : ∀ v w1, post v w1 → Vw x nL A D true cells slots (wput ws is w1) n lv (v.toList ++ st)) : Vw x nL A D true cells slots ws pc lv stk := by
  subst hn
  intro H locs ls a' b' c d
  have hK := k.2.2.2.2.2.2.2.1.1
  refine after_up his (va_runV (b := a) (C := y.cls) (As := As) (rest := st) (Ts := TB) (own := own) ⟨k.1, k.2.1, k.2.2.1, k.2.2.2.1, k.2.2.2.2.1⟩ (hM x.2.1) ⟨call_b k hi.1 hl hR hz, k.2.2.2.2.1 _ hi.2.1, k.2.2.2.2.1 _ hi.2.2⟩ ⟨pre_b, va_recv hK a' hc he, pre_u k his hnd a' b'⟩ rfl hnp d.1 hst (lv_room hW) hd ⟨?_, ?_⟩) a' b' c d h
  · exact hcs.1
  · exact hcs.2
theorem v_upS (k : Kf x cc nL own ret D tys rm) {y : MethodName} {b : ByteArray} {ml np i : Nat} {rt : Option FieldType} {rmc : Room} {As stk : List Value} {wc : va_W} {post : Option Value → va_W → Prop} (is : List Nat) (hM : ∀ l, Up l y b ml rt rmc D tys As wc post) (hi : MIs y b ml rt np) (hl : Cond.methodLink own i y ∈ TB) (hR : rmc.frames + 1 ≤ rm.frames ∧ 8 + (ml + 11) + rmc.locals ≤ rm.locals) (hz : rmc.cells = 0 ∧ rmc.slots = 0)
    (his : is.map (fun i => ws[i]?) = wc.map some) (hnd : va_nd is = true) (hnp : As.length = np) (hst : stk = As.reverse ++ st) (hW : (st.map fun v => v.category).sum ≤ 8) (hcs : cells + 0 ≤ x.2.2.2.1.cells ∧ slots + 0 ≤ x.2.2.2.1.slots) (hd : decode cc pc = .ok (.invokestatic i, 3)) (hn : pc + 3 = n)
    (h : ∀ v w1, post v w1 → Vw x nL A D true cells slots (wput ws is w1) n lv (v.toList ++ st)) : Vw x nL A D true cells slots ws pc lv stk := by
  subst hn
  intro H locs ls a' b' c d
  refine after_up his (va_runS (As := As) (rest := st) (Ts := TB) (own := own) ⟨k.1, k.2.1, k.2.2.1, k.2.2.2.1, k.2.2.2.2.1⟩ (hM x.2.1) ⟨call_b k hi.1 hl hR hz, k.2.2.2.2.1 _ hi.2⟩ ⟨pre_b, pre_u k his hnd a' b'⟩ rfl hnp d.1 hst (lv_room hW) hd ⟨?_, ?_⟩) a' b' c d h
  · exact hcs.1
  · exact hcs.2
theorem v_upSN (k : Kf x cc nL own ret D tys rm) {y : MethodName} {b : ByteArray} {ml np i : Nat} {rt : Option FieldType} {rmc : Room} {As stk : List Value} {wc : va_W} {post : Option Value → va_W → Prop} {host : String} (is : List Nat) (hM : ∀ l, Up l y b ml rt rmc D tys As wc post) (hi : MIs y b ml rt np) (hl : Cond.methodLinkNest own i y host ∈ nestW) (hR : rmc.frames + 1 ≤ rm.frames ∧ 8 + (ml + 11) + rmc.locals ≤ rm.locals) (hz : rmc.cells = 0 ∧ rmc.slots = 0)
    (his : is.map (fun i => ws[i]?) = wc.map some) (hnd : va_nd is = true) (hnp : As.length = np) (hst : stk = As.reverse ++ st) (hW : (st.map fun v => v.category).sum ≤ 8) (hcs : cells + 0 ≤ x.2.2.2.1.cells ∧ slots + 0 ≤ x.2.2.2.1.slots) (hd : decode cc pc = .ok (.invokestatic i, 3)) (hn : pc + 3 = n)
    (h : ∀ v w1, post v w1 → Vw x nL A D true cells slots (wput ws is w1) n lv (v.toList ++ st)) : Vw x nL A D true cells slots ws pc lv stk := by
  subst hn
  intro H locs ls a' b' c d
  have hR' := hR
  rw [← k.2.2.2.2.2.2.2.2] at hR'
  refine after_up his (va_runSN (As := As) (rest := st) (Ts := TB) (own := own) (host := host) ⟨k.1, k.2.1, k.2.2.1, k.2.2.2.1, k.2.2.2.2.1⟩ (hM x.2.1) ⟨va_cnB np k.2.2.2.2.1 (TB_in hi.1.1) rfl hz.1 hz.2 (k.2.2.2.2.2.2.2.1.2 _ hl) (k.2.2.2.2.1 _ hi.1.2.1) hi.1.2.2 hR', k.2.2.2.2.1 _ hi.2, trivial⟩ ⟨pre_b, pre_u k his hnd a' b'⟩ rfl hnp d.1 hst (lv_room hW) hd ⟨?_, ?_⟩) a' b' c d h
  · exact hcs.1
  · exact hcs.2
end VL
end
