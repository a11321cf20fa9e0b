section
-- ===== PART A: goes FIRST, ahead of the names: the tables' words, and 'selects' of the private methods out of them =====
/-- a private method of a class that the tables say can be made, by its rows of tables_1 -/
def lw_okq (q : MethodName × Nat) : Prop := (q.1.cls ≠ "java/lang/invoke/MethodHandle" ∧ q.1.cls ≠ "java/lang/invoke/VarHandle") ∧ Cond.instantiable q.1.cls q.2 ∈ tables_1 ∧ Cond.privateMethod q.1 ∈ tables_1 ∧ Cond.instanceMethod q.1 ∈ tables_1
theorem lw_p0 : lw_okq (⟨"HashPages$Disk", "place", "(ILHashPages$Page;)V"⟩, 8) := ⟨⟨by decide +kernel, by decide +kernel⟩, List.mem_of_getElem? (i := 25) (by decide +kernel), List.mem_of_getElem? (i := 114) (by decide +kernel), List.mem_of_getElem? (i := 115) (by decide +kernel)⟩
theorem lw_p1 : lw_okq (⟨"HashPages$Disk", "isPage", "(I)Z"⟩, 8) := ⟨⟨by decide +kernel, by decide +kernel⟩, List.mem_of_getElem? (i := 25) (by decide +kernel), List.mem_of_getElem? (i := 118) (by decide +kernel), List.mem_of_getElem? (i := 119) (by decide +kernel)⟩
theorem lw_p2 : lw_okq (⟨"HashPages$Disk", "lay", "(III)V"⟩, 8) := ⟨⟨by decide +kernel, by decide +kernel⟩, List.mem_of_getElem? (i := 25) (by decide +kernel), List.mem_of_getElem? (i := 129) (by decide +kernel), List.mem_of_getElem? (i := 130) (by decide +kernel)⟩
theorem lw_p3 : lw_okq (⟨"HashPages$Disk", "learnKinds", "()V"⟩, 8) := ⟨⟨by decide +kernel, by decide +kernel⟩, List.mem_of_getElem? (i := 25) (by decide +kernel), List.mem_of_getElem? (i := 175) (by decide +kernel), List.mem_of_getElem? (i := 176) (by decide +kernel)⟩
theorem lw_p4 : lw_okq (⟨"HashPages$Disk", "mark", "(II)V"⟩, 8) := ⟨⟨by decide +kernel, by decide +kernel⟩, List.mem_of_getElem? (i := 25) (by decide +kernel), List.mem_of_getElem? (i := 187) (by decide +kernel), List.mem_of_getElem? (i := 188) (by decide +kernel)⟩
theorem lw_p5 : lw_okq (⟨"java/lang/Throwable", "fillInStackTrace", "(I)Ljava/lang/Throwable;"⟩, 6) := ⟨⟨by decide +kernel, by decide +kernel⟩, List.mem_of_getElem? (i := 324) (by decide +kernel), List.mem_of_getElem? (i := 322) (by decide +kernel), List.mem_of_getElem? (i := 323) (by decide +kernel)⟩
theorem lw_p6 : lw_okq (⟨"HashPages", "makePlace", "(III)I"⟩, 7) := ⟨⟨by decide +kernel, by decide +kernel⟩, List.mem_of_getElem? (i := 17) (by decide +kernel), List.mem_of_getElem? (i := 415) (by decide +kernel), List.mem_of_getElem? (i := 416) (by decide +kernel)⟩
theorem lw_p7 : lw_okq (⟨"HashPages", "hasPlace", "(III)Z"⟩, 7) := ⟨⟨by decide +kernel, by decide +kernel⟩, List.mem_of_getElem? (i := 17) (by decide +kernel), List.mem_of_getElem? (i := 428) (by decide +kernel), List.mem_of_getElem? (i := 429) (by decide +kernel)⟩
theorem lw_p8 : lw_okq (⟨"HashPages$Disk", "hasKey", "(IILHashPages$Tape;I)Z"⟩, 8) := ⟨⟨by decide +kernel, by decide +kernel⟩, List.mem_of_getElem? (i := 25) (by decide +kernel), List.mem_of_getElem? (i := 436) (by decide +kernel), List.mem_of_getElem? (i := 437) (by decide +kernel)⟩
theorem lw_p9 : lw_okq (⟨"HashPages", "resizeDirectory", "(I)I"⟩, 7) := ⟨⟨by decide +kernel, by decide +kernel⟩, List.mem_of_getElem? (i := 17) (by decide +kernel), List.mem_of_getElem? (i := 454) (by decide +kernel), List.mem_of_getElem? (i := 455) (by decide +kernel)⟩
theorem lw_p10 : lw_okq (⟨"HashPages", "buildDirectoryPage", "(II)V"⟩, 7) := ⟨⟨by decide +kernel, by decide +kernel⟩, List.mem_of_getElem? (i := 17) (by decide +kernel), List.mem_of_getElem? (i := 474) (by decide +kernel), List.mem_of_getElem? (i := 475) (by decide +kernel)⟩
theorem lw_p11 : lw_okq (⟨"HashPages", "split", "(II)I"⟩, 7) := ⟨⟨by decide +kernel, by decide +kernel⟩, List.mem_of_getElem? (i := 17) (by decide +kernel), List.mem_of_getElem? (i := 504) (by decide +kernel), List.mem_of_getElem? (i := 505) (by decide +kernel)⟩
theorem lw_p12 : lw_okq (⟨"HashPages", "buildHalf", "(III)V"⟩, 7) := ⟨⟨by decide +kernel, by decide +kernel⟩, List.mem_of_getElem? (i := 17) (by decide +kernel), List.mem_of_getElem? (i := 512) (by decide +kernel), List.mem_of_getElem? (i := 513) (by decide +kernel)⟩
theorem lw_p13 : lw_okq (⟨"HashPages$Page", "countRecord", "(I)I"⟩, 1) := ⟨⟨by decide +kernel, by decide +kernel⟩, List.mem_of_getElem? (i := 64) (by decide +kernel), List.mem_of_getElem? (i := 528) (by decide +kernel), List.mem_of_getElem? (i := 529) (by decide +kernel)⟩
theorem lw_p14 : lw_okq (⟨"HashPages", "retell", "(III)Z"⟩, 7) := ⟨⟨by decide +kernel, by decide +kernel⟩, List.mem_of_getElem? (i := 17) (by decide +kernel), List.mem_of_getElem? (i := 534) (by decide +kernel), List.mem_of_getElem? (i := 535) (by decide +kernel)⟩
theorem lw_p15 : lw_okq (⟨"HashPages", "storeRecord", "(III)I"⟩, 7) := ⟨⟨by decide +kernel, by decide +kernel⟩, List.mem_of_getElem? (i := 17) (by decide +kernel), List.mem_of_getElem? (i := 539) (by decide +kernel), List.mem_of_getElem? (i := 540) (by decide +kernel)⟩
def lw_privs_1 : List (MethodName × Nat) := [(⟨"HashPages$Disk", "place", "(ILHashPages$Page;)V"⟩, 8), (⟨"HashPages$Disk", "isPage", "(I)Z"⟩, 8), (⟨"HashPages$Disk", "lay", "(III)V"⟩, 8), (⟨"HashPages$Disk", "learnKinds", "()V"⟩, 8), (⟨"HashPages$Disk", "mark", "(II)V"⟩, 8), (⟨"java/lang/Throwable", "fillInStackTrace", "(I)Ljava/lang/Throwable;"⟩, 6), (⟨"HashPages", "makePlace", "(III)I"⟩, 7), (⟨"HashPages", "hasPlace", "(III)Z"⟩, 7), (⟨"HashPages$Disk", "hasKey", "(IILHashPages$Tape;I)Z"⟩, 8), (⟨"HashPages", "resizeDirectory", "(I)I"⟩, 7), (⟨"HashPages", "buildDirectoryPage", "(II)V"⟩, 7), (⟨"HashPages", "split", "(II)I"⟩, 7), (⟨"HashPages", "buildHalf", "(III)V"⟩, 7), (⟨"HashPages$Page", "countRecord", "(I)I"⟩, 1), (⟨"HashPages", "retell", "(III)Z"⟩, 7), (⟨"HashPages", "storeRecord", "(III)I"⟩, 7)]
theorem lw_r1 : ∀ q ∈ lw_privs_1, lw_okq q := List.forall_mem_cons.mpr ⟨lw_p0, List.forall_mem_cons.mpr ⟨lw_p1, List.forall_mem_cons.mpr ⟨lw_p2, List.forall_mem_cons.mpr ⟨lw_p3, List.forall_mem_cons.mpr ⟨lw_p4, List.forall_mem_cons.mpr ⟨lw_p5, List.forall_mem_cons.mpr ⟨lw_p6, List.forall_mem_cons.mpr ⟨lw_p7, List.forall_mem_cons.mpr ⟨lw_p8, List.forall_mem_cons.mpr ⟨lw_p9, List.forall_mem_cons.mpr ⟨lw_p10, List.forall_mem_cons.mpr ⟨lw_p11, List.forall_mem_cons.mpr ⟨lw_p12, List.forall_mem_cons.mpr ⟨lw_p13, List.forall_mem_cons.mpr ⟨lw_p14, List.forall_mem_cons.mpr ⟨lw_p15, fun _ h => absurd h List.not_mem_nil⟩⟩⟩⟩⟩⟩⟩⟩⟩⟩⟩⟩⟩⟩⟩⟩
theorem lw_p16 : lw_okq (⟨"HashPages", "buildWithout", "(II)V"⟩, 7) := ⟨⟨by decide +kernel, by decide +kernel⟩, List.mem_of_getElem? (i := 17) (by decide +kernel), List.mem_of_getElem? (i := 543) (by decide +kernel), List.mem_of_getElem? (i := 544) (by decide +kernel)⟩
theorem lw_p17 : lw_okq (⟨"HashPages", "addRecordsBut", "(II)V"⟩, 7) := ⟨⟨by decide +kernel, by decide +kernel⟩, List.mem_of_getElem? (i := 17) (by decide +kernel), List.mem_of_getElem? (i := 547) (by decide +kernel), List.mem_of_getElem? (i := 548) (by decide +kernel)⟩
theorem lw_p18 : lw_okq (⟨"HashPages", "mergeAll", "(I)I"⟩, 7) := ⟨⟨by decide +kernel, by decide +kernel⟩, List.mem_of_getElem? (i := 17) (by decide +kernel), List.mem_of_getElem? (i := 565) (by decide +kernel), List.mem_of_getElem? (i := 566) (by decide +kernel)⟩
theorem lw_p19 : lw_okq (⟨"HashPages", "mergePartner", "(I)I"⟩, 7) := ⟨⟨by decide +kernel, by decide +kernel⟩, List.mem_of_getElem? (i := 17) (by decide +kernel), List.mem_of_getElem? (i := 569) (by decide +kernel), List.mem_of_getElem? (i := 570) (by decide +kernel)⟩
theorem lw_p20 : lw_okq (⟨"HashPages", "merge", "(II)I"⟩, 7) := ⟨⟨by decide +kernel, by decide +kernel⟩, List.mem_of_getElem? (i := 17) (by decide +kernel), List.mem_of_getElem? (i := 573) (by decide +kernel), List.mem_of_getElem? (i := 574) (by decide +kernel)⟩
theorem lw_p21 : lw_okq (⟨"HashPages", "halveAll", "()I"⟩, 7) := ⟨⟨by decide +kernel, by decide +kernel⟩, List.mem_of_getElem? (i := 17) (by decide +kernel), List.mem_of_getElem? (i := 577) (by decide +kernel), List.mem_of_getElem? (i := 578) (by decide +kernel)⟩
theorem lw_p22 : lw_okq (⟨"HashPagesModel", "anew", "(II)V"⟩, 26) := ⟨⟨by decide +kernel, by decide +kernel⟩, List.mem_of_getElem? (i := 613) (by decide +kernel), List.mem_of_getElem? (i := 622) (by decide +kernel), List.mem_of_getElem? (i := 623) (by decide +kernel)⟩
theorem lw_p23 : lw_okq (⟨"HashPagesModel", "decode", "()V"⟩, 26) := ⟨⟨by decide +kernel, by decide +kernel⟩, List.mem_of_getElem? (i := 613) (by decide +kernel), List.mem_of_getElem? (i := 626) (by decide +kernel), List.mem_of_getElem? (i := 627) (by decide +kernel)⟩
theorem lw_p24 : lw_okq (⟨"HashPagesModel", "at", "(II)I"⟩, 26) := ⟨⟨by decide +kernel, by decide +kernel⟩, List.mem_of_getElem? (i := 613) (by decide +kernel), List.mem_of_getElem? (i := 630) (by decide +kernel), List.mem_of_getElem? (i := 631) (by decide +kernel)⟩
theorem lw_p25 : lw_okq (⟨"HashPagesModel", "isDirectory", "(I)Z"⟩, 26) := ⟨⟨by decide +kernel, by decide +kernel⟩, List.mem_of_getElem? (i := 613) (by decide +kernel), List.mem_of_getElem? (i := 634) (by decide +kernel), List.mem_of_getElem? (i := 635) (by decide +kernel)⟩
theorem lw_p26 : lw_okq (⟨"HashPagesModel", "bucket", "(I)V"⟩, 26) := ⟨⟨by decide +kernel, by decide +kernel⟩, List.mem_of_getElem? (i := 613) (by decide +kernel), List.mem_of_getElem? (i := 638) (by decide +kernel), List.mem_of_getElem? (i := 639) (by decide +kernel)⟩
theorem lw_p27 : lw_okq (⟨"HashPagesModel", "throwing", "(I)I"⟩, 26) := ⟨⟨by decide +kernel, by decide +kernel⟩, List.mem_of_getElem? (i := 613) (by decide +kernel), List.mem_of_getElem? (i := 731) (by decide +kernel), List.mem_of_getElem? (i := 732) (by decide +kernel)⟩
theorem lw_p28 : lw_okq (⟨"HashPagesModel", "tapeHash", "(I)I"⟩, 26) := ⟨⟨by decide +kernel, by decide +kernel⟩, List.mem_of_getElem? (i := 613) (by decide +kernel), List.mem_of_getElem? (i := 735) (by decide +kernel), List.mem_of_getElem? (i := 736) (by decide +kernel)⟩
theorem lw_p29 : lw_okq (⟨"HashPagesModel", "bucketOf", "(I)I"⟩, 26) := ⟨⟨by decide +kernel, by decide +kernel⟩, List.mem_of_getElem? (i := 613) (by decide +kernel), List.mem_of_getElem? (i := 744) (by decide +kernel), List.mem_of_getElem? (i := 745) (by decide +kernel)⟩
theorem lw_p30 : lw_okq (⟨"HashPagesModel", "filled", "(III)I"⟩, 26) := ⟨⟨by decide +kernel, by decide +kernel⟩, List.mem_of_getElem? (i := 613) (by decide +kernel), List.mem_of_getElem? (i := 751) (by decide +kernel), List.mem_of_getElem? (i := 752) (by decide +kernel)⟩
theorem lw_p31 : lw_okq (⟨"HashPagesModel", "find", "(II)I"⟩, 26) := ⟨⟨by decide +kernel, by decide +kernel⟩, List.mem_of_getElem? (i := 613) (by decide +kernel), List.mem_of_getElem? (i := 755) (by decide +kernel), List.mem_of_getElem? (i := 756) (by decide +kernel)⟩
def lw_privs_2 : List (MethodName × Nat) := [(⟨"HashPages", "buildWithout", "(II)V"⟩, 7), (⟨"HashPages", "addRecordsBut", "(II)V"⟩, 7), (⟨"HashPages", "mergeAll", "(I)I"⟩, 7), (⟨"HashPages", "mergePartner", "(I)I"⟩, 7), (⟨"HashPages", "merge", "(II)I"⟩, 7), (⟨"HashPages", "halveAll", "()I"⟩, 7), (⟨"HashPagesModel", "anew", "(II)V"⟩, 26), (⟨"HashPagesModel", "decode", "()V"⟩, 26), (⟨"HashPagesModel", "at", "(II)I"⟩, 26), (⟨"HashPagesModel", "isDirectory", "(I)Z"⟩, 26), (⟨"HashPagesModel", "bucket", "(I)V"⟩, 26), (⟨"HashPagesModel", "throwing", "(I)I"⟩, 26), (⟨"HashPagesModel", "tapeHash", "(I)I"⟩, 26), (⟨"HashPagesModel", "bucketOf", "(I)I"⟩, 26), (⟨"HashPagesModel", "filled", "(III)I"⟩, 26), (⟨"HashPagesModel", "find", "(II)I"⟩, 26)]
theorem lw_r2 : ∀ q ∈ lw_privs_2, lw_okq q := List.forall_mem_cons.mpr ⟨lw_p16, List.forall_mem_cons.mpr ⟨lw_p17, List.forall_mem_cons.mpr ⟨lw_p18, List.forall_mem_cons.mpr ⟨lw_p19, List.forall_mem_cons.mpr ⟨lw_p20, List.forall_mem_cons.mpr ⟨lw_p21, List.forall_mem_cons.mpr ⟨lw_p22, List.forall_mem_cons.mpr ⟨lw_p23, List.forall_mem_cons.mpr ⟨lw_p24, List.forall_mem_cons.mpr ⟨lw_p25, List.forall_mem_cons.mpr ⟨lw_p26, List.forall_mem_cons.mpr ⟨lw_p27, List.forall_mem_cons.mpr ⟨lw_p28, List.forall_mem_cons.mpr ⟨lw_p29, List.forall_mem_cons.mpr ⟨lw_p30, List.forall_mem_cons.mpr ⟨lw_p31, fun _ h => absurd h List.not_mem_nil⟩⟩⟩⟩⟩⟩⟩⟩⟩⟩⟩⟩⟩⟩⟩⟩
theorem lw_p32 : lw_okq (⟨"HashPagesModel", "isKey", "(II)Z"⟩, 26) := ⟨⟨by decide +kernel, by decide +kernel⟩, List.mem_of_getElem? (i := 613) (by decide +kernel), List.mem_of_getElem? (i := 759) (by decide +kernel), List.mem_of_getElem? (i := 760) (by decide +kernel)⟩
theorem lw_p33 : lw_okq (⟨"HashPagesModel", "keyByte", "(II)I"⟩, 26) := ⟨⟨by decide +kernel, by decide +kernel⟩, List.mem_of_getElem? (i := 613) (by decide +kernel), List.mem_of_getElem? (i := 763) (by decide +kernel), List.mem_of_getElem? (i := 764) (by decide +kernel)⟩
theorem lw_p34 : lw_okq (⟨"HashPagesModel", "bytesOf", "(I)I"⟩, 26) := ⟨⟨by decide +kernel, by decide +kernel⟩, List.mem_of_getElem? (i := 613) (by decide +kernel), List.mem_of_getElem? (i := 767) (by decide +kernel), List.mem_of_getElem? (i := 768) (by decide +kernel)⟩
theorem lw_p35 : lw_okq (⟨"HashPagesModel", "isAlike", "(II)Z"⟩, 26) := ⟨⟨by decide +kernel, by decide +kernel⟩, List.mem_of_getElem? (i := 613) (by decide +kernel), List.mem_of_getElem? (i := 771) (by decide +kernel), List.mem_of_getElem? (i := 772) (by decide +kernel)⟩
theorem lw_p36 : lw_okq (⟨"HashPagesModel", "hashOf", "(I)I"⟩, 26) := ⟨⟨by decide +kernel, by decide +kernel⟩, List.mem_of_getElem? (i := 613) (by decide +kernel), List.mem_of_getElem? (i := 775) (by decide +kernel), List.mem_of_getElem? (i := 776) (by decide +kernel)⟩
theorem lw_p37 : lw_okq (⟨"HashPagesModel", "doubles", "()I"⟩, 26) := ⟨⟨by decide +kernel, by decide +kernel⟩, List.mem_of_getElem? (i := 613) (by decide +kernel), List.mem_of_getElem? (i := 779) (by decide +kernel), List.mem_of_getElem? (i := 780) (by decide +kernel)⟩
theorem lw_p38 : lw_okq (⟨"HashPagesModel", "free", "(I)I"⟩, 26) := ⟨⟨by decide +kernel, by decide +kernel⟩, List.mem_of_getElem? (i := 613) (by decide +kernel), List.mem_of_getElem? (i := 783) (by decide +kernel), List.mem_of_getElem? (i := 784) (by decide +kernel)⟩
theorem lw_p39 : lw_okq (⟨"HashPagesModel", "changed", "()I"⟩, 26) := ⟨⟨by decide +kernel, by decide +kernel⟩, List.mem_of_getElem? (i := 613) (by decide +kernel), List.mem_of_getElem? (i := 787) (by decide +kernel), List.mem_of_getElem? (i := 788) (by decide +kernel)⟩
theorem lw_p40 : lw_okq (⟨"HashPagesModel", "allWritten", "()Z"⟩, 26) := ⟨⟨by decide +kernel, by decide +kernel⟩, List.mem_of_getElem? (i := 613) (by decide +kernel), List.mem_of_getElem? (i := 791) (by decide +kernel), List.mem_of_getElem? (i := 792) (by decide +kernel)⟩
theorem lw_p41 : lw_okq (⟨"HashPagesModel", "render", "(I)V"⟩, 26) := ⟨⟨by decide +kernel, by decide +kernel⟩, List.mem_of_getElem? (i := 613) (by decide +kernel), List.mem_of_getElem? (i := 795) (by decide +kernel), List.mem_of_getElem? (i := 796) (by decide +kernel)⟩
theorem lw_p42 : lw_okq (⟨"HashPagesModel", "valueByte", "(II)I"⟩, 26) := ⟨⟨by decide +kernel, by decide +kernel⟩, List.mem_of_getElem? (i := 613) (by decide +kernel), List.mem_of_getElem? (i := 799) (by decide +kernel), List.mem_of_getElem? (i := 800) (by decide +kernel)⟩
theorem lw_p43 : lw_okq (⟨"HashPagesModel", "writes", "(I)Z"⟩, 26) := ⟨⟨by decide +kernel, by decide +kernel⟩, List.mem_of_getElem? (i := 613) (by decide +kernel), List.mem_of_getElem? (i := 803) (by decide +kernel), List.mem_of_getElem? (i := 804) (by decide +kernel)⟩
theorem lw_p44 : lw_okq (⟨"HashPagesModel", "journal", "(I)V"⟩, 26) := ⟨⟨by decide +kernel, by decide +kernel⟩, List.mem_of_getElem? (i := 613) (by decide +kernel), List.mem_of_getElem? (i := 807) (by decide +kernel), List.mem_of_getElem? (i := 808) (by decide +kernel)⟩
theorem lw_p45 : lw_okq (⟨"HashPagesModel", "splits", "(I)I"⟩, 26) := ⟨⟨by decide +kernel, by decide +kernel⟩, List.mem_of_getElem? (i := 613) (by decide +kernel), List.mem_of_getElem? (i := 811) (by decide +kernel), List.mem_of_getElem? (i := 812) (by decide +kernel)⟩
theorem lw_p46 : lw_okq (⟨"HashPagesModel", "unlike", "(I)I"⟩, 26) := ⟨⟨by decide +kernel, by decide +kernel⟩, List.mem_of_getElem? (i := 613) (by decide +kernel), List.mem_of_getElem? (i := 815) (by decide +kernel), List.mem_of_getElem? (i := 816) (by decide +kernel)⟩
theorem lw_p47 : lw_okq (⟨"HashPagesModel", "copyRecord", "(II)V"⟩, 26) := ⟨⟨by decide +kernel, by decide +kernel⟩, List.mem_of_getElem? (i := 613) (by decide +kernel), List.mem_of_getElem? (i := 819) (by decide +kernel), List.mem_of_getElem? (i := 820) (by decide +kernel)⟩
def lw_privs_3 : List (MethodName × Nat) := [(⟨"HashPagesModel", "isKey", "(II)Z"⟩, 26), (⟨"HashPagesModel", "keyByte", "(II)I"⟩, 26), (⟨"HashPagesModel", "bytesOf", "(I)I"⟩, 26), (⟨"HashPagesModel", "isAlike", "(II)Z"⟩, 26), (⟨"HashPagesModel", "hashOf", "(I)I"⟩, 26), (⟨"HashPagesModel", "doubles", "()I"⟩, 26), (⟨"HashPagesModel", "free", "(I)I"⟩, 26), (⟨"HashPagesModel", "changed", "()I"⟩, 26), (⟨"HashPagesModel", "allWritten", "()Z"⟩, 26), (⟨"HashPagesModel", "render", "(I)V"⟩, 26), (⟨"HashPagesModel", "valueByte", "(II)I"⟩, 26), (⟨"HashPagesModel", "writes", "(I)Z"⟩, 26), (⟨"HashPagesModel", "journal", "(I)V"⟩, 26), (⟨"HashPagesModel", "splits", "(I)I"⟩, 26), (⟨"HashPagesModel", "unlike", "(I)I"⟩, 26), (⟨"HashPagesModel", "copyRecord", "(II)V"⟩, 26)]
theorem lw_r3 : ∀ q ∈ lw_privs_3, lw_okq q := List.forall_mem_cons.mpr ⟨lw_p32, List.forall_mem_cons.mpr ⟨lw_p33, List.forall_mem_cons.mpr ⟨lw_p34, List.forall_mem_cons.mpr ⟨lw_p35, List.forall_mem_cons.mpr ⟨lw_p36, List.forall_mem_cons.mpr ⟨lw_p37, List.forall_mem_cons.mpr ⟨lw_p38, List.forall_mem_cons.mpr ⟨lw_p39, List.forall_mem_cons.mpr ⟨lw_p40, List.forall_mem_cons.mpr ⟨lw_p41, List.forall_mem_cons.mpr ⟨lw_p42, List.forall_mem_cons.mpr ⟨lw_p43, List.forall_mem_cons.mpr ⟨lw_p44, List.forall_mem_cons.mpr ⟨lw_p45, List.forall_mem_cons.mpr ⟨lw_p46, List.forall_mem_cons.mpr ⟨lw_p47, fun _ h => absurd h List.not_mem_nil⟩⟩⟩⟩⟩⟩⟩⟩⟩⟩⟩⟩⟩⟩⟩⟩
theorem lw_p48 : lw_okq (⟨"HashPagesModel", "drop", "(II)V"⟩, 26) := ⟨⟨by decide +kernel, by decide +kernel⟩, List.mem_of_getElem? (i := 613) (by decide +kernel), List.mem_of_getElem? (i := 823) (by decide +kernel), List.mem_of_getElem? (i := 824) (by decide +kernel)⟩
theorem lw_p49 : lw_okq (⟨"HashPagesModel", "wroteBucket", "(I)I"⟩, 26) := ⟨⟨by decide +kernel, by decide +kernel⟩, List.mem_of_getElem? (i := 613) (by decide +kernel), List.mem_of_getElem? (i := 828) (by decide +kernel), List.mem_of_getElem? (i := 829) (by decide +kernel)⟩
theorem lw_p50 : lw_okq (⟨"HashPagesModel", "merges", "(I)I"⟩, 26) := ⟨⟨by decide +kernel, by decide +kernel⟩, List.mem_of_getElem? (i := 613) (by decide +kernel), List.mem_of_getElem? (i := 836) (by decide +kernel), List.mem_of_getElem? (i := 837) (by decide +kernel)⟩
theorem lw_p51 : lw_okq (⟨"HashPagesModel", "buddy", "(I)I"⟩, 26) := ⟨⟨by decide +kernel, by decide +kernel⟩, List.mem_of_getElem? (i := 613) (by decide +kernel), List.mem_of_getElem? (i := 840) (by decide +kernel), List.mem_of_getElem? (i := 841) (by decide +kernel)⟩
theorem lw_p52 : lw_okq (⟨"HashPagesModel", "halves", "()I"⟩, 26) := ⟨⟨by decide +kernel, by decide +kernel⟩, List.mem_of_getElem? (i := 613) (by decide +kernel), List.mem_of_getElem? (i := 844) (by decide +kernel), List.mem_of_getElem? (i := 845) (by decide +kernel)⟩
theorem lw_p53 : lw_okq (⟨"HashPagesModel", "isPage", "(I)Z"⟩, 26) := ⟨⟨by decide +kernel, by decide +kernel⟩, List.mem_of_getElem? (i := 613) (by decide +kernel), List.mem_of_getElem? (i := 872) (by decide +kernel), List.mem_of_getElem? (i := 873) (by decide +kernel)⟩
theorem lw_p54 : lw_okq (⟨"HashPagesModel", "kindOf", "(I)I"⟩, 26) := ⟨⟨by decide +kernel, by decide +kernel⟩, List.mem_of_getElem? (i := 613) (by decide +kernel), List.mem_of_getElem? (i := 880) (by decide +kernel), List.mem_of_getElem? (i := 881) (by decide +kernel)⟩
theorem lw_p55 : lw_okq (⟨"HashPagesModel", "manyOf", "(I)I"⟩, 26) := ⟨⟨by decide +kernel, by decide +kernel⟩, List.mem_of_getElem? (i := 613) (by decide +kernel), List.mem_of_getElem? (i := 904) (by decide +kernel), List.mem_of_getElem? (i := 905) (by decide +kernel)⟩
def lw_privs_4 : List (MethodName × Nat) := [(⟨"HashPagesModel", "drop", "(II)V"⟩, 26), (⟨"HashPagesModel", "wroteBucket", "(I)I"⟩, 26), (⟨"HashPagesModel", "merges", "(I)I"⟩, 26), (⟨"HashPagesModel", "buddy", "(I)I"⟩, 26), (⟨"HashPagesModel", "halves", "()I"⟩, 26), (⟨"HashPagesModel", "isPage", "(I)Z"⟩, 26), (⟨"HashPagesModel", "kindOf", "(I)I"⟩, 26), (⟨"HashPagesModel", "manyOf", "(I)I"⟩, 26)]
theorem lw_r4 : ∀ q ∈ lw_privs_4, lw_okq q := List.forall_mem_cons.mpr ⟨lw_p48, List.forall_mem_cons.mpr ⟨lw_p49, List.forall_mem_cons.mpr ⟨lw_p50, List.forall_mem_cons.mpr ⟨lw_p51, List.forall_mem_cons.mpr ⟨lw_p52, List.forall_mem_cons.mpr ⟨lw_p53, List.forall_mem_cons.mpr ⟨lw_p54, List.forall_mem_cons.mpr ⟨lw_p55, fun _ h => absurd h List.not_mem_nil⟩⟩⟩⟩⟩⟩⟩⟩
def lw_privs : List (MethodName × Nat) := lw_privs_1 ++ (lw_privs_2 ++ (lw_privs_3 ++ (lw_privs_4)))
def lw_tbl : List Cond := k2_sels lw_privs ++ tables_1
theorem lw_privs_ok : ∀ q ∈ lw_privs, lw_okq q := by
  show ∀ q ∈ lw_privs_1 ++ (lw_privs_2 ++ (lw_privs_3 ++ (lw_privs_4))), lw_okq q
  exact List.forall_mem_append.mpr ⟨lw_r1, List.forall_mem_append.mpr ⟨lw_r2, List.forall_mem_append.mpr ⟨lw_r3, lw_r4⟩⟩⟩
end
section
def RX0 : String := "HashPages$Change"
def TX0 : u_T := fun k => match k with
  | 0 => ("HashPages$Change", "disk", "LHashPages$Disk;", true)
  | 1 => ("HashPages$Change", "journal", "LHashPages$Page;", true)
  | _ => ("HashPages$Change", "image", "LHashPages$Page;", true)
def tyX0 : Nat → FieldType := fun k => match k with
  | 0 => .object "HashPages$Disk"
  | 1 => .object "HashPages$Page"
  | _ => .object "HashPages$Page"
abbrev wsX00 : List Cond := u_ws RX0 TX0 3
theorem nmX0 : ∀ a, a < 3 → ∀ b, b < 3 → a ≠ b → (TX0 a).2.1 ≠ (TX0 b).2.1 := by decide +kernel
theorem tyX0_ok : ∀ k, k < 3 → parseFieldDescriptor (TX0 k).2.2.1 = some (tyX0 k) := by decide +kernel
abbrev cX0_init : ByteArray := prog_2_method_1_code
def yX0_init : MethodName := ⟨RX0, "<init>", "(LHashPages$Disk;)V"⟩
abbrev cX0_begin : ByteArray := prog_2_method_2_code
def yX0_begin : MethodName := ⟨RX0, "begin", "()V"⟩
abbrev cX0_add : ByteArray := prog_2_method_3_code
def yX0_add : MethodName := ⟨RX0, "add", "(LHashPages$Page;I)Z"⟩
abbrev cX0_finish : ByteArray := prog_2_method_4_code
def yX0_finish : MethodName := ⟨RX0, "finish", "()Z"⟩
abbrev cX0_settle : ByteArray := prog_2_method_5_code
def yX0_settle : MethodName := ⟨RX0, "settle", "()Z"⟩
def RX1 : String := "HashPages$Disk"
def TX1 : u_T := fun k => match k with
  | 0 => ("HashPages$Disk", "cells", "[I", true)
  | 1 => ("HashPages$Disk", "kinds", "[I", true)
  | 2 => ("HashPages$Disk", "kindsAreOld", "Z", false)
  | 3 => ("HashPages$Disk", "pages", "I", false)
  | 4 => ("HashPages$Disk", "log", "I", false)
  | 5 => ("HashPages$Disk", "writes", "I", false)
  | 6 => ("HashPages$Disk", "allowed", "I", false)
  | _ => ("HashPages$Disk", "down", "Z", false)
def tyX1 : Nat → FieldType := fun k => match k with
  | 0 => .array .int
  | 1 => .array .int
  | 2 => .boolean
  | 3 => .int
  | 4 => .int
  | 5 => .int
  | 6 => .int
  | _ => .boolean
abbrev wsX10 : List Cond := u_ws RX1 TX1 8
theorem nmX1 : ∀ a, a < 8 → ∀ b, b < 8 → a ≠ b → (TX1 a).2.1 ≠ (TX1 b).2.1 := by decide +kernel
theorem tyX1_ok : ∀ k, k < 8 → parseFieldDescriptor (TX1 k).2.2.1 = some (tyX1 k) := by decide +kernel
abbrev cX1_init : ByteArray := prog_3_method_1_code
def yX1_init : MethodName := ⟨RX1, "<init>", "()V"⟩
abbrev cX1_wipe : ByteArray := prog_3_method_2_code
def yX1_wipe : MethodName := ⟨RX1, "wipe", "(IILHashPages$Page;)V"⟩
abbrev cX1_place : ByteArray := prog_3_method_3_code
def yX1_place : MethodName := ⟨RX1, "place", "(ILHashPages$Page;)V"⟩
abbrev cX1_lay : ByteArray := prog_3_method_4_code
def yX1_lay : MethodName := ⟨RX1, "lay", "(III)V"⟩
abbrev cX1_isPage : ByteArray := prog_3_method_5_code
def yX1_isPage : MethodName := ⟨RX1, "isPage", "(I)Z"⟩
abbrev cX1_pages : ByteArray := prog_3_method_6_code
def yX1_pages : MethodName := ⟨RX1, "pages", "()I"⟩
abbrev cX1_log : ByteArray := prog_3_method_7_code
def yX1_log : MethodName := ⟨RX1, "log", "()I"⟩
abbrev cX1_writes : ByteArray := prog_3_method_8_code
def yX1_writes : MethodName := ⟨RX1, "writes", "()I"⟩
abbrev cX1_allowed : ByteArray := prog_3_method_9_code
def yX1_allowed : MethodName := ⟨RX1, "allowed", "()I"⟩
abbrev cX1_isDown : ByteArray := prog_3_method_10_code
def yX1_isDown : MethodName := ⟨RX1, "isDown", "()Z"⟩
abbrev cX1_allow : ByteArray := prog_3_method_11_code
def yX1_allow : MethodName := ⟨RX1, "allow", "(I)V"⟩
abbrev cX1_write : ByteArray := prog_3_method_12_code
def yX1_write : MethodName := ⟨RX1, "write", "(ILHashPages$Page;)Z"⟩
abbrev cX1_read : ByteArray := prog_3_method_13_code
def yX1_read : MethodName := ⟨RX1, "read", "(ILHashPages$Page;)V"⟩
abbrev cX1_at : ByteArray := prog_3_method_14_code
def yX1_at : MethodName := ⟨RX1, "at", "(II)I"⟩
abbrev cX1_depth : ByteArray := prog_3_method_15_code
def yX1_depth : MethodName := ⟨RX1, "depth", "()I"⟩
abbrev cX1_directoryPage : ByteArray := prog_3_method_16_code
def yX1_directoryPage : MethodName := ⟨RX1, "directoryPage", "(I)I"⟩
abbrev cX1_entryAt : ByteArray := prog_3_method_17_code
def yX1_entryAt : MethodName := ⟨RX1, "entryAt", "(I)I"⟩
abbrev cX1_indexOf : ByteArray := prog_3_method_18_code
def yX1_indexOf : MethodName := ⟨RX1, "indexOf", "(I)I"⟩
abbrev cX1_bucketOf : ByteArray := prog_3_method_19_code
def yX1_bucketOf : MethodName := ⟨RX1, "bucketOf", "(I)I"⟩
abbrev cX1_kindOf : ByteArray := prog_3_method_20_code
def yX1_kindOf : MethodName := ⟨RX1, "kindOf", "(I)I"⟩
abbrev cX1_learnKinds : ByteArray := prog_3_method_21_code
def yX1_learnKinds : MethodName := ⟨RX1, "learnKinds", "()V"⟩
abbrev cX1_mark : ByteArray := prog_3_method_22_code
def yX1_mark : MethodName := ⟨RX1, "mark", "(II)V"⟩
abbrev cX1_countKind : ByteArray := prog_3_method_23_code
def yX1_countKind : MethodName := ⟨RX1, "countKind", "(I)I"⟩
abbrev cX1_freeBehind : ByteArray := prog_3_method_24_code
def yX1_freeBehind : MethodName := ⟨RX1, "freeBehind", "(I)I"⟩
abbrev cX1_countRecords : ByteArray := prog_3_method_25_code
def yX1_countRecords : MethodName := ⟨RX1, "countRecords", "()I"⟩
abbrev cX1_hasBucketOfDepth : ByteArray := prog_3_method_26_code
def yX1_hasBucketOfDepth : MethodName := ⟨RX1, "hasBucketOfDepth", "(I)Z"⟩
abbrev cX1_recordBytes : ByteArray := prog_3_method_27_code
def yX1_recordBytes : MethodName := ⟨RX1, "recordBytes", "(I)I"⟩
abbrev cX1_recordSize : ByteArray := prog_3_method_28_code
def yX1_recordSize : MethodName := ⟨RX1, "recordSize", "(II)I"⟩
abbrev cX1_recordStart : ByteArray := prog_3_method_29_code
def yX1_recordStart : MethodName := ⟨RX1, "recordStart", "(II)I"⟩
abbrev cX1_recordHash : ByteArray := prog_3_method_30_code
def yX1_recordHash : MethodName := ⟨RX1, "recordHash", "(II)I"⟩
abbrev cX1_allHashesAre : ByteArray := prog_3_method_31_code
def yX1_allHashesAre : MethodName := ⟨RX1, "allHashesAre", "(II)Z"⟩
abbrev cX1_find : ByteArray := prog_3_method_32_code
def yX1_find : MethodName := ⟨RX1, "find", "(ILHashPages$Tape;I)I"⟩
abbrev cX1_hasKey : ByteArray := prog_3_method_33_code
def yX1_hasKey : MethodName := ⟨RX1, "hasKey", "(IILHashPages$Tape;I)Z"⟩
def RX2 : String := "HashPages$Page"
def TX2 : u_T := fun k => match k with
  | _ => ("HashPages$Page", "bytes", "[I", true)
def tyX2 : Nat → FieldType := fun k => match k with
  | _ => .array .int
abbrev wsX20 : List Cond := u_ws RX2 TX2 1
theorem nmX2 : ∀ a, a < 1 → ∀ b, b < 1 → a ≠ b → (TX2 a).2.1 ≠ (TX2 b).2.1 := by decide +kernel
theorem tyX2_ok : ∀ k, k < 1 → parseFieldDescriptor (TX2 k).2.2.1 = some (tyX2 k) := by decide +kernel
abbrev cX2_init : ByteArray := prog_4_method_1_code
def yX2_init : MethodName := ⟨RX2, "<init>", "()V"⟩
abbrev cX2_bytes : ByteArray := prog_4_method_2_code
def yX2_bytes : MethodName := ⟨RX2, "bytes", "()[I"⟩
abbrev cX2_byteAt : ByteArray := prog_4_method_3_code
def yX2_byteAt : MethodName := ⟨RX2, "byteAt", "(I)I"⟩
abbrev cX2_set : ByteArray := prog_4_method_4_code
def yX2_set : MethodName := ⟨RX2, "set", "(II)V"⟩
abbrev cX2_clear : ByteArray := prog_4_method_5_code
def yX2_clear : MethodName := ⟨RX2, "clear", "()V"⟩
abbrev cX2_startBucket : ByteArray := prog_4_method_6_code
def yX2_startBucket : MethodName := ⟨RX2, "startBucket", "(I)V"⟩
abbrev cX2_copyRecord : ByteArray := prog_4_method_7_code
def yX2_copyRecord : MethodName := ⟨RX2, "copyRecord", "(LHashPages$Disk;II)V"⟩
abbrev cX2_addRecord : ByteArray := prog_4_method_8_code
def yX2_addRecord : MethodName := ⟨RX2, "addRecord", "(LHashPages$Tape;II)V"⟩
abbrev cX2_countRecord : ByteArray := prog_4_method_9_code
def yX2_countRecord : MethodName := ⟨RX2, "countRecord", "(I)I"⟩
def RX3 : String := "HashPages$Tape"
def TX3 : u_T := fun k => match k with
  | 0 => ("HashPages$Tape", "bytes", "[I", true)
  | _ => ("HashPages$Tape", "size", "I", false)
def tyX3 : Nat → FieldType := fun k => match k with
  | 0 => .array .int
  | _ => .int
abbrev wsX30 : List Cond := u_ws RX3 TX3 2
theorem nmX3 : ∀ a, a < 2 → ∀ b, b < 2 → a ≠ b → (TX3 a).2.1 ≠ (TX3 b).2.1 := by decide +kernel
theorem tyX3_ok : ∀ k, k < 2 → parseFieldDescriptor (TX3 k).2.2.1 = some (tyX3 k) := by decide +kernel
abbrev cX3_init : ByteArray := prog_5_method_1_code
def yX3_init : MethodName := ⟨RX3, "<init>", "()V"⟩
abbrev cX3_size : ByteArray := prog_5_method_2_code
def yX3_size : MethodName := ⟨RX3, "size", "()I"⟩
abbrev cX3_byteAt : ByteArray := prog_5_method_3_code
def yX3_byteAt : MethodName := ⟨RX3, "byteAt", "(I)I"⟩
abbrev cX3_append : ByteArray := prog_5_method_4_code
def yX3_append : MethodName := ⟨RX3, "append", "(I)V"⟩
abbrev cX3_take : ByteArray := prog_5_method_5_code
def yX3_take : MethodName := ⟨RX3, "take", "()I"⟩
abbrev cX3_keyHash : ByteArray := prog_5_method_6_code
def yX3_keyHash : MethodName := ⟨RX3, "keyHash", "(I)I"⟩
def RX4 : String := "HashPages"
def TX4 : u_T := fun k => match k with
  | 0 => ("HashPages", "disk", "LHashPages$Disk;", true)
  | 1 => ("HashPages", "change", "LHashPages$Change;", true)
  | 2 => ("HashPages", "built", "LHashPages$Page;", true)
  | 3 => ("HashPages", "head", "LHashPages$Page;", true)
  | 4 => ("HashPages", "tape", "LHashPages$Tape;", true)
  | 5 => ("HashPages", "answerBytes", "[I", true)
  | _ => ("HashPages", "answerSize", "I", false)
def tyX4 : Nat → FieldType := fun k => match k with
  | 0 => .object "HashPages$Disk"
  | 1 => .object "HashPages$Change"
  | 2 => .object "HashPages$Page"
  | 3 => .object "HashPages$Page"
  | 4 => .object "HashPages$Tape"
  | 5 => .array .int
  | _ => .int
abbrev wsX40 : List Cond := u_ws RX4 TX4 7
theorem nmX4 : ∀ a, a < 7 → ∀ b, b < 7 → a ≠ b → (TX4 a).2.1 ≠ (TX4 b).2.1 := by decide +kernel
theorem tyX4_ok : ∀ k, k < 7 → parseFieldDescriptor (TX4 k).2.2.1 = some (tyX4 k) := by decide +kernel
abbrev cX4_init : ByteArray := prog_1_method_1_code
def yX4_init : MethodName := ⟨RX4, "<init>", "()V"⟩
abbrev cX4_format : ByteArray := prog_1_method_2_code
def yX4_format : MethodName := ⟨RX4, "format", "(II)V"⟩
abbrev cX4_feed : ByteArray := prog_1_method_3_code
def yX4_feed : MethodName := ⟨RX4, "feed", "(IJJ)I"⟩
abbrev cX4_put : ByteArray := prog_1_method_4_code
def yX4_put : MethodName := ⟨RX4, "put", "(I)I"⟩
abbrev cX4_remove : ByteArray := prog_1_method_5_code
def yX4_remove : MethodName := ⟨RX4, "remove", "()I"⟩
abbrev cX4_get : ByteArray := prog_1_method_6_code
def yX4_get : MethodName := ⟨RX4, "get", "()I"⟩
abbrev cX4_answer : ByteArray := prog_1_method_7_code
def yX4_answer : MethodName := ⟨RX4, "answer", "(I)I"⟩
abbrev cX4_power : ByteArray := prog_1_method_8_code
def yX4_power : MethodName := ⟨RX4, "power", "(I)V"⟩
abbrev cX4_recover : ByteArray := prog_1_method_9_code
def yX4_recover : MethodName := ⟨RX4, "recover", "(I)I"⟩
abbrev cX4_byteOf : ByteArray := prog_1_method_10_code
def yX4_byteOf : MethodName := ⟨RX4, "byteOf", "(II)I"⟩
abbrev cX4_kind : ByteArray := prog_1_method_11_code
def yX4_kind : MethodName := ⟨RX4, "kind", "(I)I"⟩
abbrev cX4_hash : ByteArray := prog_1_method_12_code
def yX4_hash : MethodName := ⟨RX4, "hash", "()I"⟩
abbrev cX4_entry : ByteArray := prog_1_method_13_code
def yX4_entry : MethodName := ⟨RX4, "entry", "(I)I"⟩
abbrev cX4_bucket : ByteArray := prog_1_method_14_code
def yX4_bucket : MethodName := ⟨RX4, "bucket", "(II)I"⟩
abbrev cX4_record : ByteArray := prog_1_method_15_code
def yX4_record : MethodName := ⟨RX4, "record", "(IIII)I"⟩
abbrev cX4_look : ByteArray := prog_1_method_16_code
def yX4_look : MethodName := ⟨RX4, "look", "(I)I"⟩
abbrev cX4_makePlace : ByteArray := prog_1_method_17_code
def yX4_makePlace : MethodName := ⟨RX4, "makePlace", "(III)I"⟩
abbrev cX4_hasPlace : ByteArray := prog_1_method_18_code
def yX4_hasPlace : MethodName := ⟨RX4, "hasPlace", "(III)Z"⟩
abbrev cX4_storeRecord : ByteArray := prog_1_method_19_code
def yX4_storeRecord : MethodName := ⟨RX4, "storeRecord", "(III)I"⟩
abbrev cX4_buildWithout : ByteArray := prog_1_method_20_code
def yX4_buildWithout : MethodName := ⟨RX4, "buildWithout", "(II)V"⟩
abbrev cX4_addRecordsBut : ByteArray := prog_1_method_21_code
def yX4_addRecordsBut : MethodName := ⟨RX4, "addRecordsBut", "(II)V"⟩
abbrev cX4_resizeDirectory : ByteArray := prog_1_method_22_code
def yX4_resizeDirectory : MethodName := ⟨RX4, "resizeDirectory", "(I)I"⟩
abbrev cX4_buildDirectoryPage : ByteArray := prog_1_method_23_code
def yX4_buildDirectoryPage : MethodName := ⟨RX4, "buildDirectoryPage", "(II)V"⟩
abbrev cX4_split : ByteArray := prog_1_method_24_code
def yX4_split : MethodName := ⟨RX4, "split", "(II)I"⟩
abbrev cX4_buildHalf : ByteArray := prog_1_method_25_code
def yX4_buildHalf : MethodName := ⟨RX4, "buildHalf", "(III)V"⟩
abbrev cX4_directoryPagesOf : ByteArray := prog_1_method_26_code
def yX4_directoryPagesOf : MethodName := ⟨RX4, "directoryPagesOf", "(II)I"⟩
abbrev cX4_retell : ByteArray := prog_1_method_27_code
def yX4_retell : MethodName := ⟨RX4, "retell", "(III)Z"⟩
abbrev cX4_mergeAll : ByteArray := prog_1_method_28_code
def yX4_mergeAll : MethodName := ⟨RX4, "mergeAll", "(I)I"⟩
abbrev cX4_mergePartner : ByteArray := prog_1_method_29_code
def yX4_mergePartner : MethodName := ⟨RX4, "mergePartner", "(I)I"⟩
abbrev cX4_merge : ByteArray := prog_1_method_30_code
def yX4_merge : MethodName := ⟨RX4, "merge", "(II)I"⟩
abbrev cX4_halveAll : ByteArray := prog_1_method_31_code
def yX4_halveAll : MethodName := ⟨RX4, "halveAll", "()I"⟩
abbrev cX4_pagesFor : ByteArray := prog_1_method_32_code
def yX4_pagesFor : MethodName := ⟨RX4, "pagesFor", "(I)I"⟩
abbrev cX4_hashOf : ByteArray := prog_1_method_33_code
def yX4_hashOf : MethodName := ⟨RX4, "hashOf", "([III)I"⟩
def RX5 : String := "HashPagesModel"
def TX5 : u_T := fun k => match k with
  | 0 => ("HashPagesModel", "thrown", "I", false)
  | 1 => ("HashPagesModel", "disk", "[B", true)
  | 2 => ("HashPagesModel", "pages", "I", false)
  | 3 => ("HashPagesModel", "log", "I", false)
  | 4 => ("HashPagesModel", "written", "I", false)
  | 5 => ("HashPagesModel", "power", "I", false)
  | 6 => ("HashPagesModel", "down", "Z", false)
  | 7 => ("HashPagesModel", "depth", "I", false)
  | 8 => ("HashPagesModel", "dirMany", "I", false)
  | 9 => ("HashPagesModel", "dir", "[I", true)
  | 10 => ("HashPagesModel", "entries", "[I", true)
  | 11 => ("HashPagesModel", "other", "[I", true)
  | 12 => ("HashPagesModel", "isBucket", "[Z", true)
  | 13 => ("HashPagesModel", "bucketDepth", "[I", true)
  | 14 => ("HashPagesModel", "many", "[I", true)
  | 15 => ("HashPagesModel", "keySize", "[I", true)
  | 16 => ("HashPagesModel", "valueSize", "[I", true)
  | 17 => ("HashPagesModel", "keys", "[J", true)
  | 18 => ("HashPagesModel", "values", "[J", true)
  | 19 => ("HashPagesModel", "tape", "[B", true)
  | 20 => ("HashPagesModel", "taped", "I", false)
  | 21 => ("HashPagesModel", "answer", "[B", true)
  | 22 => ("HashPagesModel", "answered", "I", false)
  | 23 => ("HashPagesModel", "out", "[I", true)
  | 24 => ("HashPagesModel", "change", "[I", true)
  | _ => ("HashPagesModel", "changes", "I", false)
def tyX5 : Nat → FieldType := fun k => match k with
  | 0 => .int
  | 1 => .array .byte
  | 2 => .int
  | 3 => .int
  | 4 => .int
  | 5 => .int
  | 6 => .boolean
  | 7 => .int
  | 8 => .int
  | 9 => .array .int
  | 10 => .array .int
  | 11 => .array .int
  | 12 => .array .boolean
  | 13 => .array .int
  | 14 => .array .int
  | 15 => .array .int
  | 16 => .array .int
  | 17 => .array .long
  | 18 => .array .long
  | 19 => .array .byte
  | 20 => .int
  | 21 => .array .byte
  | 22 => .int
  | 23 => .array .int
  | 24 => .array .int
  | _ => .int
abbrev wsX50 : List Cond := u_ws RX5 TX5 26
theorem nmX5 : ∀ a, a < 26 → ∀ b, b < 26 → a ≠ b → (TX5 a).2.1 ≠ (TX5 b).2.1 := by decide +kernel
theorem tyX5_ok : ∀ k, k < 26 → parseFieldDescriptor (TX5 k).2.2.1 = some (tyX5 k) := by decide +kernel
abbrev cX5_thrown : ByteArray := prog_7_method_1_code
def yX5_thrown : MethodName := ⟨RX5, "thrown", "()I"⟩
abbrev cX5_throwing : ByteArray := prog_7_method_2_code
def yX5_throwing : MethodName := ⟨RX5, "throwing", "(I)I"⟩
abbrev cX5_init : ByteArray := prog_7_method_3_code
def yX5_init : MethodName := ⟨RX5, "<init>", "()V"⟩
abbrev cX5_anew : ByteArray := prog_7_method_4_code
def yX5_anew : MethodName := ⟨RX5, "anew", "(II)V"⟩
abbrev cX5_format : ByteArray := prog_7_method_5_code
def yX5_format : MethodName := ⟨RX5, "format", "(II)V"⟩
abbrev cX5_at : ByteArray := prog_7_method_6_code
def yX5_at : MethodName := ⟨RX5, "at", "(II)I"⟩
abbrev cX5_decode : ByteArray := prog_7_method_7_code
def yX5_decode : MethodName := ⟨RX5, "decode", "()V"⟩
abbrev cX5_isDirectory : ByteArray := prog_7_method_8_code
def yX5_isDirectory : MethodName := ⟨RX5, "isDirectory", "(I)Z"⟩
abbrev cX5_bucket : ByteArray := prog_7_method_9_code
def yX5_bucket : MethodName := ⟨RX5, "bucket", "(I)V"⟩
abbrev cX5_keyByte : ByteArray := prog_7_method_10_code
def yX5_keyByte : MethodName := ⟨RX5, "keyByte", "(II)I"⟩
abbrev cX5_valueByte : ByteArray := prog_7_method_11_code
def yX5_valueByte : MethodName := ⟨RX5, "valueByte", "(II)I"⟩
abbrev cX5_bytesOf : ByteArray := prog_7_method_12_code
def yX5_bytesOf : MethodName := ⟨RX5, "bytesOf", "(I)I"⟩
abbrev cX5_step : ByteArray := prog_7_method_13_code
def yX5_step : MethodName := ⟨RX5, "step", "(II)I"⟩
abbrev cX5_hashOf : ByteArray := prog_7_method_14_code
def yX5_hashOf : MethodName := ⟨RX5, "hashOf", "(I)I"⟩
abbrev cX5_tapeHash : ByteArray := prog_7_method_15_code
def yX5_tapeHash : MethodName := ⟨RX5, "tapeHash", "(I)I"⟩
abbrev cX5_first : ByteArray := prog_7_method_16_code
def yX5_first : MethodName := ⟨RX5, "first", "(II)I"⟩
abbrev cX5_render : ByteArray := prog_7_method_17_code
def yX5_render : MethodName := ⟨RX5, "render", "(I)V"⟩
abbrev cX5_writes : ByteArray := prog_7_method_18_code
def yX5_writes : MethodName := ⟨RX5, "writes", "(I)Z"⟩
abbrev cX5_journal : ByteArray := prog_7_method_19_code
def yX5_journal : MethodName := ⟨RX5, "journal", "(I)V"⟩
abbrev cX5_allWritten : ByteArray := prog_7_method_20_code
def yX5_allWritten : MethodName := ⟨RX5, "allWritten", "()Z"⟩
abbrev cX5_changed : ByteArray := prog_7_method_21_code
def yX5_changed : MethodName := ⟨RX5, "changed", "()I"⟩
abbrev cX5_wroteBucket : ByteArray := prog_7_method_22_code
def yX5_wroteBucket : MethodName := ⟨RX5, "wroteBucket", "(I)I"⟩
abbrev cX5_isKey : ByteArray := prog_7_method_23_code
def yX5_isKey : MethodName := ⟨RX5, "isKey", "(II)Z"⟩
abbrev cX5_bucketOf : ByteArray := prog_7_method_24_code
def yX5_bucketOf : MethodName := ⟨RX5, "bucketOf", "(I)I"⟩
abbrev cX5_find : ByteArray := prog_7_method_25_code
def yX5_find : MethodName := ⟨RX5, "find", "(II)I"⟩
abbrev cX5_free : ByteArray := prog_7_method_26_code
def yX5_free : MethodName := ⟨RX5, "free", "(I)I"⟩
abbrev cX5_copyRecord : ByteArray := prog_7_method_27_code
def yX5_copyRecord : MethodName := ⟨RX5, "copyRecord", "(II)V"⟩
abbrev cX5_drop : ByteArray := prog_7_method_28_code
def yX5_drop : MethodName := ⟨RX5, "drop", "(II)V"⟩
abbrev cX5_doubles : ByteArray := prog_7_method_29_code
def yX5_doubles : MethodName := ⟨RX5, "doubles", "()I"⟩
abbrev cX5_unlike : ByteArray := prog_7_method_30_code
def yX5_unlike : MethodName := ⟨RX5, "unlike", "(I)I"⟩
abbrev cX5_splits : ByteArray := prog_7_method_31_code
def yX5_splits : MethodName := ⟨RX5, "splits", "(I)I"⟩
abbrev cX5_isAlike : ByteArray := prog_7_method_32_code
def yX5_isAlike : MethodName := ⟨RX5, "isAlike", "(II)Z"⟩
abbrev cX5_filled : ByteArray := prog_7_method_33_code
def yX5_filled : MethodName := ⟨RX5, "filled", "(III)I"⟩
abbrev cX5_put : ByteArray := prog_7_method_34_code
def yX5_put : MethodName := ⟨RX5, "put", "(I)I"⟩
abbrev cX5_buddy : ByteArray := prog_7_method_35_code
def yX5_buddy : MethodName := ⟨RX5, "buddy", "(I)I"⟩
abbrev cX5_merges : ByteArray := prog_7_method_36_code
def yX5_merges : MethodName := ⟨RX5, "merges", "(I)I"⟩
abbrev cX5_halves : ByteArray := prog_7_method_37_code
def yX5_halves : MethodName := ⟨RX5, "halves", "()I"⟩
abbrev cX5_remove : ByteArray := prog_7_method_38_code
def yX5_remove : MethodName := ⟨RX5, "remove", "()I"⟩
abbrev cX5_feed : ByteArray := prog_7_method_39_code
def yX5_feed : MethodName := ⟨RX5, "feed", "(IJJ)I"⟩
abbrev cX5_get : ByteArray := prog_7_method_40_code
def yX5_get : MethodName := ⟨RX5, "get", "()I"⟩
abbrev cX5_answer : ByteArray := prog_7_method_41_code
def yX5_answer : MethodName := ⟨RX5, "answer", "(I)I"⟩
abbrev cX5_power : ByteArray := prog_7_method_42_code
def yX5_power : MethodName := ⟨RX5, "power", "(I)V"⟩
abbrev cX5_recover : ByteArray := prog_7_method_43_code
def yX5_recover : MethodName := ⟨RX5, "recover", "(I)I"⟩
abbrev cX5_isPage : ByteArray := prog_7_method_44_code
def yX5_isPage : MethodName := ⟨RX5, "isPage", "(I)Z"⟩
abbrev cX5_byteOf : ByteArray := prog_7_method_45_code
def yX5_byteOf : MethodName := ⟨RX5, "byteOf", "(II)I"⟩
abbrev cX5_kindOf : ByteArray := prog_7_method_46_code
def yX5_kindOf : MethodName := ⟨RX5, "kindOf", "(I)I"⟩
abbrev cX5_kind : ByteArray := prog_7_method_47_code
def yX5_kind : MethodName := ⟨RX5, "kind", "(I)I"⟩
abbrev cX5_hash : ByteArray := prog_7_method_48_code
def yX5_hash : MethodName := ⟨RX5, "hash", "()I"⟩
abbrev cX5_entry : ByteArray := prog_7_method_49_code
def yX5_entry : MethodName := ⟨RX5, "entry", "(I)I"⟩
abbrev cX5_bucket_ : ByteArray := prog_7_method_50_code
def yX5_bucket_ : MethodName := ⟨RX5, "bucket", "(II)I"⟩
abbrev cX5_record : ByteArray := prog_7_method_51_code
def yX5_record : MethodName := ⟨RX5, "record", "(IIII)I"⟩
abbrev cX5_manyOf : ByteArray := prog_7_method_52_code
def yX5_manyOf : MethodName := ⟨RX5, "manyOf", "(I)I"⟩
abbrev cX5_look : ByteArray := prog_7_method_53_code
def yX5_look : MethodName := ⟨RX5, "look", "(I)I"⟩
def RJ9 : String := "java/lang/Math"
def TJ9 : u_T := fun k => match k with
  | _ => ("", "", "", false)
def tyJ9 : Nat → FieldType := fun k => match k with
  | _ => .int
abbrev wsJ90 : List Cond := u_ws RJ9 TJ9 0
theorem nmJ9 : ∀ a, a < 0 → ∀ b, b < 0 → a ≠ b → (TJ9 a).2.1 ≠ (TJ9 b).2.1 := by decide +kernel
theorem tyJ9_ok : ∀ k, k < 0 → parseFieldDescriptor (TJ9 k).2.2.1 = some (tyJ9 k) := by decide +kernel
abbrev cJ9_min_7cf53 : ByteArray := prog_11_method_69_code
def yJ9_min_7cf53 : MethodName := ⟨RJ9, "min", "(II)I"⟩
def RJ0 : String := "java/lang/String"
def TJ0 : u_T := fun k => match k with
  | _ => ("", "", "", false)
def tyJ0 : Nat → FieldType := fun k => match k with
  | _ => .int
abbrev wsJ00 : List Cond := u_ws RJ0 TJ0 0
theorem nmJ0 : ∀ a, a < 0 → ∀ b, b < 0 → a ≠ b → (TJ0 a).2.1 ≠ (TJ0 b).2.1 := by decide +kernel
theorem tyJ0_ok : ∀ k, k < 0 → parseFieldDescriptor (TJ0 k).2.2.1 = some (tyJ0 k) := by decide +kernel
def RJ10 : String := "java/lang/System"
def TJ10 : u_T := fun k => match k with
  | _ => ("", "", "", false)
def tyJ10 : Nat → FieldType := fun k => match k with
  | _ => .int
abbrev wsJ100 : List Cond := u_ws RJ10 TJ10 0
theorem nmJ10 : ∀ a, a < 0 → ∀ b, b < 0 → a ≠ b → (TJ10 a).2.1 ≠ (TJ10 b).2.1 := by decide +kernel
theorem tyJ10_ok : ∀ k, k < 0 → parseFieldDescriptor (TJ10 k).2.2.1 = some (tyJ10 k) := by decide +kernel
def RJ7 : String := "java/util/Arrays"
def TJ7 : u_T := fun k => match k with
  | _ => ("", "", "", false)
def tyJ7 : Nat → FieldType := fun k => match k with
  | _ => .int
abbrev wsJ70 : List Cond := u_ws RJ7 TJ7 0
theorem nmJ7 : ∀ a, a < 0 → ∀ b, b < 0 → a ≠ b → (TJ7 a).2.1 ≠ (TJ7 b).2.1 := by decide +kernel
theorem tyJ7_ok : ∀ k, k < 0 → parseFieldDescriptor (TJ7 k).2.2.1 = some (tyJ7 k) := by decide +kernel
abbrev cJ7_fill_53178 : ByteArray := prog_17_method_103_code
def yJ7_fill_53178 : MethodName := ⟨RJ7, "fill", "([II)V"⟩
def RL : String := "HashPagesLaw"
abbrev cL_format : ByteArray := method_3_code
def yL_format : MethodName := ⟨RL, "format", "(LHashPages;II)I"⟩
abbrev cL_feed : ByteArray := method_4_code
def yL_feed : MethodName := ⟨RL, "feed", "(LHashPages;IJJ[J)I"⟩
abbrev cL_put : ByteArray := method_5_code
def yL_put : MethodName := ⟨RL, "put", "(LHashPages;I[J)I"⟩
abbrev cL_remove : ByteArray := method_6_code
def yL_remove : MethodName := ⟨RL, "remove", "(LHashPages;[J)I"⟩
abbrev cL_get : ByteArray := method_7_code
def yL_get : MethodName := ⟨RL, "get", "(LHashPages;[J)I"⟩
abbrev cL_power : ByteArray := method_8_code
def yL_power : MethodName := ⟨RL, "power", "(LHashPages;I)I"⟩
abbrev cL_recover : ByteArray := method_9_code
def yL_recover : MethodName := ⟨RL, "recover", "(LHashPages;I[J)I"⟩
abbrev cL_law : ByteArray := code
def yL_law : MethodName := ⟨RL, "law", "([I)Z"⟩
abbrev vwCl : List vw_C := [(RX0, TX0, 3), (RX1, TX1, 8), (RX2, TX2, 1), (RX3, TX3, 2), (RX4, TX4, 7), (RX5, TX5, 26)]
def TB : List Cond := lw_tbl.filter goodWord
theorem TB_mem {w : Cond} (i : Nat) (h : lw_tbl[i]? = some w) (g : goodWord w = true) : w ∈ TB := List.mem_filter.mpr ⟨List.mem_of_getElem? h, g⟩
def nestW : List Cond := [Cond.methodLinkNest RX1 97 yX4_pagesFor RX4, Cond.methodLinkNest RX3 19 yX4_hashOf RX4, Cond.methodLinkNest RX1 115 yX4_hashOf RX4]
end
section
theorem in_L : Cond.initialized RL ∈ TB := TB_mem 56 rfl rfl
theorem in_X4 : Cond.initialized RX4 ∈ TB := TB_mem 57 rfl rfl
theorem in_X1 : Cond.initialized RX1 ∈ TB := TB_mem 58 rfl rfl
theorem in_X0 : Cond.initialized RX0 ∈ TB := TB_mem 59 rfl rfl
theorem in_X2 : Cond.initialized RX2 ∈ TB := TB_mem 60 rfl rfl
theorem in_X3 : Cond.initialized RX3 ∈ TB := TB_mem 61 rfl rfl
theorem in_J7 : Cond.initialized RJ7 ∈ TB := TB_mem 62 rfl rfl
theorem in_J10 : Cond.initialized RJ10 ∈ TB := TB_mem 63 rfl rfl
theorem in_X5 : Cond.initialized RX5 ∈ TB := TB_mem 64 rfl rfl
theorem in_java_lang_Throwable : Cond.initialized "java/lang/Throwable" ∈ TB := TB_mem 65 rfl rfl
theorem in_java_lang_Exception : Cond.initialized "java/lang/Exception" ∈ TB := TB_mem 66 rfl rfl
theorem in_java_lang_RuntimeException : Cond.initialized "java/lang/RuntimeException" ∈ TB := TB_mem 67 rfl rfl
theorem in_java_lang_IllegalArgumentException : Cond.initialized "java/lang/IllegalArgumentException" ∈ TB := TB_mem 68 rfl rfl
theorem in_java_lang_UnsupportedOperationException : Cond.initialized "java/lang/UnsupportedOperationException" ∈ TB := TB_mem 69 rfl rfl
theorem in_java_lang_IllegalStateException : Cond.initialized "java/lang/IllegalStateException" ∈ TB := TB_mem 70 rfl rfl
theorem in_J9 : Cond.initialized RJ9 ∈ TB := TB_mem 71 rfl rfl
theorem cl_L_8 : Cond.classLink RL 8 RX4 ∈ TB := TB_mem 72 rfl rfl
theorem ia_X4 : Cond.instantiable RX4 7 ∈ TB := TB_mem 73 rfl rfl
theorem ml_L_41 : Cond.methodLink RL 41 yX4_init ∈ TB := TB_mem 74 rfl rfl
theorem im_yX4_init : Cond.instanceMethod yX4_init ∈ TB := TB_mem 75 rfl rfl
theorem cd_yX4_init : Cond.code yX4_init cX4_init 1 none ∈ TB := TB_mem 76 rfl rfl
theorem ml_X4_1 : Cond.methodLink RX4 1 objectInit ∈ TB := TB_mem 77 rfl rfl
theorem im_objectInit : Cond.instanceMethod objectInit ∈ TB := TB_mem 78 rfl rfl
theorem cl_X4_7 : Cond.classLink RX4 7 RX1 ∈ TB := TB_mem 80 rfl rfl
theorem ia_X1 : Cond.instantiable RX1 8 ∈ TB := TB_mem 81 rfl rfl
theorem ml_X4_9 : Cond.methodLink RX4 9 yX1_init ∈ TB := TB_mem 82 rfl rfl
theorem im_yX1_init : Cond.instanceMethod yX1_init ∈ TB := TB_mem 83 rfl rfl
theorem cd_yX1_init : Cond.code yX1_init cX1_init 1 none ∈ TB := TB_mem 84 rfl rfl
theorem ml_X1_3 : Cond.methodLink RX1 3 objectInit ∈ TB := TB_mem 85 rfl rfl
theorem co_X1_9 : Cond.constant RX1 9 (Int32.ofInt 65280) ∈ TB := TB_mem 86 rfl rfl
theorem fl_X1_10 : Cond.fieldLink RX1 10 "HashPages$Disk" "cells" "[I" ∈ TB := TB_mem 87 rfl rfl
theorem fl_X1_16 : Cond.fieldLink RX1 16 "HashPages$Disk" "kinds" "[I" ∈ TB := TB_mem 88 rfl rfl
theorem fl_X1_33 : Cond.fieldLink RX1 33 "HashPages$Disk" "kindsAreOld" "Z" ∈ TB := TB_mem 89 rfl rfl
theorem fl_X1_19 : Cond.fieldLink RX1 19 "HashPages$Disk" "pages" "I" ∈ TB := TB_mem 90 rfl rfl
theorem fl_X1_23 : Cond.fieldLink RX1 23 "HashPages$Disk" "log" "I" ∈ TB := TB_mem 91 rfl rfl
theorem fl_X1_26 : Cond.fieldLink RX1 26 "HashPages$Disk" "writes" "I" ∈ TB := TB_mem 92 rfl rfl
theorem fl_X1_64 : Cond.fieldLink RX1 64 "HashPages$Disk" "allowed" "I" ∈ TB := TB_mem 93 rfl rfl
theorem fl_X1_67 : Cond.fieldLink RX1 67 "HashPages$Disk" "down" "Z" ∈ TB := TB_mem 94 rfl rfl
theorem ac_int : Cond.arrayClass .int ∈ TB := TB_mem 112 rfl rfl
theorem cl_X4_16 : Cond.classLink RX4 16 RX0 ∈ TB := TB_mem 113 rfl rfl
theorem ia_X0 : Cond.instantiable RX0 3 ∈ TB := TB_mem 114 rfl rfl
theorem ml_X4_18 : Cond.methodLink RX4 18 yX0_init ∈ TB := TB_mem 115 rfl rfl
theorem im_yX0_init : Cond.instanceMethod yX0_init ∈ TB := TB_mem 116 rfl rfl
theorem cd_yX0_init : Cond.code yX0_init cX0_init 2 none ∈ TB := TB_mem 117 rfl rfl
theorem ml_X0_3 : Cond.methodLink RX0 3 objectInit ∈ TB := TB_mem 118 rfl rfl
theorem cl_X0_15 : Cond.classLink RX0 15 RX2 ∈ TB := TB_mem 119 rfl rfl
theorem ia_X2 : Cond.instantiable RX2 1 ∈ TB := TB_mem 120 rfl rfl
theorem ml_X0_17 : Cond.methodLink RX0 17 yX2_init ∈ TB := TB_mem 121 rfl rfl
theorem im_yX2_init : Cond.instanceMethod yX2_init ∈ TB := TB_mem 122 rfl rfl
theorem cd_yX2_init : Cond.code yX2_init cX2_init 1 none ∈ TB := TB_mem 123 rfl rfl
theorem ml_X2_3 : Cond.methodLink RX2 3 objectInit ∈ TB := TB_mem 124 rfl rfl
theorem fl_X2_9 : Cond.fieldLink RX2 9 "HashPages$Page" "bytes" "[I" ∈ TB := TB_mem 125 rfl rfl
theorem fl_X0_9 : Cond.fieldLink RX0 9 "HashPages$Change" "disk" "LHashPages$Disk;" ∈ TB := TB_mem 129 rfl rfl
theorem fl_X0_18 : Cond.fieldLink RX0 18 "HashPages$Change" "journal" "LHashPages$Page;" ∈ TB := TB_mem 130 rfl rfl
theorem fl_X0_22 : Cond.fieldLink RX0 22 "HashPages$Change" "image" "LHashPages$Page;" ∈ TB := TB_mem 131 rfl rfl
theorem cl_X4_25 : Cond.classLink RX4 25 RX2 ∈ TB := TB_mem 139 rfl rfl
theorem ml_X4_27 : Cond.methodLink RX4 27 yX2_init ∈ TB := TB_mem 140 rfl rfl
theorem cl_X4_35 : Cond.classLink RX4 35 RX3 ∈ TB := TB_mem 141 rfl rfl
theorem ia_X3 : Cond.instantiable RX3 2 ∈ TB := TB_mem 142 rfl rfl
theorem ml_X4_37 : Cond.methodLink RX4 37 yX3_init ∈ TB := TB_mem 143 rfl rfl
theorem im_yX3_init : Cond.instanceMethod yX3_init ∈ TB := TB_mem 144 rfl rfl
theorem cd_yX3_init : Cond.code yX3_init cX3_init 1 none ∈ TB := TB_mem 145 rfl rfl
theorem ml_X3_3 : Cond.methodLink RX3 3 objectInit ∈ TB := TB_mem 146 rfl rfl
theorem fl_X3_9 : Cond.fieldLink RX3 9 "HashPages$Tape" "bytes" "[I" ∈ TB := TB_mem 147 rfl rfl
theorem fl_X3_15 : Cond.fieldLink RX3 15 "HashPages$Tape" "size" "I" ∈ TB := TB_mem 148 rfl rfl
theorem ml_X4_50 : Cond.methodLink RX4 50 yX1_wipe ∈ TB := TB_mem 154 rfl rfl
theorem im_yX1_wipe : Cond.instanceMethod yX1_wipe ∈ TB := TB_mem 155 rfl rfl
theorem se_yX1_wipe : Cond.selects RX1 yX1_wipe yX1_wipe ∈ TB := TB_mem 156 rfl rfl
theorem cd_yX1_wipe : Cond.code yX1_wipe cX1_wipe 5 none ∈ TB := TB_mem 157 rfl rfl
theorem ml_X1_29 : Cond.methodLink RX1 29 yX1_allow ∈ TB := TB_mem 158 rfl rfl
theorem im_yX1_allow : Cond.instanceMethod yX1_allow ∈ TB := TB_mem 159 rfl rfl
theorem se_yX1_allow : Cond.selects RX1 yX1_allow yX1_allow ∈ TB := TB_mem 160 rfl rfl
theorem cd_yX1_allow : Cond.code yX1_allow cX1_allow 2 none ∈ TB := TB_mem 161 rfl rfl
theorem ml_X1_37 : Cond.methodLink RX1 37 yX2_clear ∈ TB := TB_mem 162 rfl rfl
theorem im_yX2_clear : Cond.instanceMethod yX2_clear ∈ TB := TB_mem 163 rfl rfl
theorem se_yX2_clear : Cond.selects RX2 yX2_clear yX2_clear ∈ TB := TB_mem 164 rfl rfl
theorem cd_yX2_clear : Cond.code yX2_clear cX2_clear 1 none ∈ TB := TB_mem 165 rfl rfl
theorem ml_X2_15 : Cond.methodLink RX2 15 yJ7_fill_53178 ∈ TB := TB_mem 166 rfl rfl
theorem sm_yJ7_fill_53178 : Cond.static yJ7_fill_53178 ∈ TB := TB_mem 167 rfl rfl
theorem cd_yJ7_fill_53178 : Cond.code yJ7_fill_53178 cJ7_fill_53178 4 none ∈ TB := TB_mem 168 rfl rfl
theorem ml_X1_42 : Cond.methodLink RX1 42 yX1_place ∈ TB := TB_mem 169 rfl rfl
theorem im_yX1_place : Cond.instanceMethod yX1_place ∈ TB := TB_mem 171 rfl rfl
theorem cd_yX1_place : Cond.code yX1_place cX1_place 3 none ∈ TB := TB_mem 172 rfl rfl
theorem ml_X1_50 : Cond.methodLink RX1 50 yX1_isPage ∈ TB := TB_mem 173 rfl rfl
theorem im_yX1_isPage : Cond.instanceMethod yX1_isPage ∈ TB := TB_mem 175 rfl rfl
theorem cd_yX1_isPage : Cond.code yX1_isPage cX1_isPage 2 (some .boolean) ∈ TB := TB_mem 176 rfl rfl
theorem ml_X1_54 : Cond.methodLink RX1 54 yX2_bytes ∈ TB := TB_mem 177 rfl rfl
theorem im_yX2_bytes : Cond.instanceMethod yX2_bytes ∈ TB := TB_mem 178 rfl rfl
theorem se_yX2_bytes : Cond.selects RX2 yX2_bytes yX2_bytes ∈ TB := TB_mem 179 rfl rfl
theorem cd_yX2_bytes : Cond.code yX2_bytes cX2_bytes 1 (some (.array .int)) ∈ TB := TB_mem 180 rfl rfl
theorem ml_X1_58 : Cond.methodLink RX1 58 arraycopyName ∈ TB := TB_mem 181 rfl rfl
theorem sm_arraycopyName : Cond.static arraycopyName ∈ TB := TB_mem 182 rfl rfl
theorem nm_arraycopyName : Cond.native arraycopyName ∈ TB := TB_mem 183 rfl rfl
theorem ml_X1_46 : Cond.methodLink RX1 46 yX1_lay ∈ TB := TB_mem 184 rfl rfl
theorem im_yX1_lay : Cond.instanceMethod yX1_lay ∈ TB := TB_mem 186 rfl rfl
theorem cd_yX1_lay : Cond.code yX1_lay cX1_lay 4 none ∈ TB := TB_mem 187 rfl rfl
theorem fl_X4_10 : Cond.fieldLink RX4 10 "HashPages" "disk" "LHashPages$Disk;" ∈ TB := TB_mem 188 rfl rfl
theorem fl_X4_21 : Cond.fieldLink RX4 21 "HashPages" "change" "LHashPages$Change;" ∈ TB := TB_mem 189 rfl rfl
theorem fl_X4_28 : Cond.fieldLink RX4 28 "HashPages" "built" "LHashPages$Page;" ∈ TB := TB_mem 190 rfl rfl
theorem fl_X4_32 : Cond.fieldLink RX4 32 "HashPages" "head" "LHashPages$Page;" ∈ TB := TB_mem 191 rfl rfl
theorem fl_X4_38 : Cond.fieldLink RX4 38 "HashPages" "tape" "LHashPages$Tape;" ∈ TB := TB_mem 192 rfl rfl
theorem fl_X4_42 : Cond.fieldLink RX4 42 "HashPages" "answerBytes" "[I" ∈ TB := TB_mem 193 rfl rfl
theorem fl_X4_46 : Cond.fieldLink RX4 46 "HashPages" "answerSize" "I" ∈ TB := TB_mem 194 rfl rfl
theorem ml_L_71 : Cond.methodLink RL 71 yX4_answer ∈ TB := TB_mem 210 rfl rfl
theorem im_yX4_answer : Cond.instanceMethod yX4_answer ∈ TB := TB_mem 211 rfl rfl
theorem se_yX4_answer : Cond.selects RX4 yX4_answer yX4_answer ∈ TB := TB_mem 212 rfl rfl
theorem cd_yX4_answer : Cond.code yX4_answer cX4_answer 2 (some .int) ∈ TB := TB_mem 213 rfl rfl
theorem ml_L_82 : Cond.methodLink RL 82 yX4_byteOf ∈ TB := TB_mem 214 rfl rfl
theorem im_yX4_byteOf : Cond.instanceMethod yX4_byteOf ∈ TB := TB_mem 215 rfl rfl
theorem se_yX4_byteOf : Cond.selects RX4 yX4_byteOf yX4_byteOf ∈ TB := TB_mem 216 rfl rfl
theorem cd_yX4_byteOf : Cond.code yX4_byteOf cX4_byteOf 3 (some .int) ∈ TB := TB_mem 217 rfl rfl
theorem ml_X4_130 : Cond.methodLink RX4 130 yX1_at ∈ TB := TB_mem 218 rfl rfl
theorem im_yX1_at : Cond.instanceMethod yX1_at ∈ TB := TB_mem 219 rfl rfl
theorem se_yX1_at : Cond.selects RX1 yX1_at yX1_at ∈ TB := TB_mem 220 rfl rfl
theorem cd_yX1_at : Cond.code yX1_at cX1_at 3 (some .int) ∈ TB := TB_mem 221 rfl rfl
theorem ml_L_87 : Cond.methodLink RL 87 yX4_kind ∈ TB := TB_mem 222 rfl rfl
theorem im_yX4_kind : Cond.instanceMethod yX4_kind ∈ TB := TB_mem 223 rfl rfl
theorem se_yX4_kind : Cond.selects RX4 yX4_kind yX4_kind ∈ TB := TB_mem 224 rfl rfl
theorem cd_yX4_kind : Cond.code yX4_kind cX4_kind 2 (some .int) ∈ TB := TB_mem 225 rfl rfl
theorem ml_X4_142 : Cond.methodLink RX4 142 yX1_kindOf ∈ TB := TB_mem 226 rfl rfl
theorem im_yX1_kindOf : Cond.instanceMethod yX1_kindOf ∈ TB := TB_mem 227 rfl rfl
theorem se_yX1_kindOf : Cond.selects RX1 yX1_kindOf yX1_kindOf ∈ TB := TB_mem 228 rfl rfl
theorem cd_yX1_kindOf : Cond.code yX1_kindOf cX1_kindOf 2 (some .int) ∈ TB := TB_mem 229 rfl rfl
theorem ml_X1_88 : Cond.methodLink RX1 88 yX1_learnKinds ∈ TB := TB_mem 230 rfl rfl
theorem im_yX1_learnKinds : Cond.instanceMethod yX1_learnKinds ∈ TB := TB_mem 232 rfl rfl
theorem cd_yX1_learnKinds : Cond.code yX1_learnKinds cX1_learnKinds 7 none ∈ TB := TB_mem 233 rfl rfl
theorem ml_X1_91 : Cond.methodLink RX1 91 yJ7_fill_53178 ∈ TB := TB_mem 234 rfl rfl
theorem ml_X1_70 : Cond.methodLink RX1 70 yX1_at ∈ TB := TB_mem 235 rfl rfl
theorem sm_yX4_pagesFor : Cond.static yX4_pagesFor ∈ TB := TB_mem 237 rfl rfl
theorem cd_yX4_pagesFor : Cond.code yX4_pagesFor cX4_pagesFor 1 (some .int) ∈ TB := TB_mem 238 rfl rfl
theorem ml_X1_100 : Cond.methodLink RX1 100 yJ9_min_7cf53 ∈ TB := TB_mem 239 rfl rfl
theorem sm_yJ9_min_7cf53 : Cond.static yJ9_min_7cf53 ∈ TB := TB_mem 240 rfl rfl
theorem cd_yJ9_min_7cf53 : Cond.code yJ9_min_7cf53 cJ9_min_7cf53 2 (some .int) ∈ TB := TB_mem 241 rfl rfl
theorem ml_X1_105 : Cond.methodLink RX1 105 yX1_mark ∈ TB := TB_mem 242 rfl rfl
theorem im_yX1_mark : Cond.instanceMethod yX1_mark ∈ TB := TB_mem 244 rfl rfl
theorem cd_yX1_mark : Cond.code yX1_mark cX1_mark 3 none ∈ TB := TB_mem 245 rfl rfl
theorem ml_L_91 : Cond.methodLink RL 91 yX4_hash ∈ TB := TB_mem 246 rfl rfl
theorem im_yX4_hash : Cond.instanceMethod yX4_hash ∈ TB := TB_mem 247 rfl rfl
theorem se_yX4_hash : Cond.selects RX4 yX4_hash yX4_hash ∈ TB := TB_mem 248 rfl rfl
theorem cd_yX4_hash : Cond.code yX4_hash cX4_hash 2 (some .int) ∈ TB := TB_mem 249 rfl rfl
theorem ml_X4_67 : Cond.methodLink RX4 67 yX3_size ∈ TB := TB_mem 250 rfl rfl
set_option maxRecDepth 100000 in
theorem im_yX3_size : Cond.instanceMethod yX3_size ∈ TB := TB_mem 251 rfl rfl
set_option maxRecDepth 100000 in
theorem se_yX3_size : Cond.selects RX3 yX3_size yX3_size ∈ TB := TB_mem 252 rfl rfl
set_option maxRecDepth 100000 in
theorem cd_yX3_size : Cond.code yX3_size cX3_size 1 (some .int) ∈ TB := TB_mem 253 rfl rfl
set_option maxRecDepth 100000 in
theorem ml_X4_96 : Cond.methodLink RX4 96 yX3_keyHash ∈ TB := TB_mem 254 rfl rfl
set_option maxRecDepth 100000 in
theorem im_yX3_keyHash : Cond.instanceMethod yX3_keyHash ∈ TB := TB_mem 255 rfl rfl
set_option maxRecDepth 100000 in
theorem se_yX3_keyHash : Cond.selects RX3 yX3_keyHash yX3_keyHash ∈ TB := TB_mem 256 rfl rfl
set_option maxRecDepth 100000 in
theorem cd_yX3_keyHash : Cond.code yX3_keyHash cX3_keyHash 2 (some .int) ∈ TB := TB_mem 257 rfl rfl
set_option maxRecDepth 100000 in
theorem sm_yX4_hashOf : Cond.static yX4_hashOf ∈ TB := TB_mem 259 rfl rfl
set_option maxRecDepth 100000 in
theorem cd_yX4_hashOf : Cond.code yX4_hashOf cX4_hashOf 5 (some .int) ∈ TB := TB_mem 260 rfl rfl
set_option maxRecDepth 100000 in
theorem co_X4_264 : Cond.constant RX4 264 (Int32.ofInt 40503) ∈ TB := TB_mem 261 rfl rfl
set_option maxRecDepth 100000 in
theorem co_X4_265 : Cond.constant RX4 265 (Int32.ofInt 65535) ∈ TB := TB_mem 262 rfl rfl
set_option maxRecDepth 100000 in
theorem ml_L_95 : Cond.methodLink RL 95 yX4_entry ∈ TB := TB_mem 263 rfl rfl
set_option maxRecDepth 100000 in
theorem im_yX4_entry : Cond.instanceMethod yX4_entry ∈ TB := TB_mem 264 rfl rfl
set_option maxRecDepth 100000 in
theorem se_yX4_entry : Cond.selects RX4 yX4_entry yX4_entry ∈ TB := TB_mem 265 rfl rfl
set_option maxRecDepth 100000 in
theorem cd_yX4_entry : Cond.code yX4_entry cX4_entry 2 (some .int) ∈ TB := TB_mem 266 rfl rfl
set_option maxRecDepth 100000 in
theorem ml_X4_145 : Cond.methodLink RX4 145 yX1_entryAt ∈ TB := TB_mem 267 rfl rfl
set_option maxRecDepth 100000 in
theorem im_yX1_entryAt : Cond.instanceMethod yX1_entryAt ∈ TB := TB_mem 268 rfl rfl
set_option maxRecDepth 100000 in
theorem se_yX1_entryAt : Cond.selects RX1 yX1_entryAt yX1_entryAt ∈ TB := TB_mem 269 rfl rfl
set_option maxRecDepth 100000 in
theorem cd_yX1_entryAt : Cond.code yX1_entryAt cX1_entryAt 2 (some .int) ∈ TB := TB_mem 270 rfl rfl
set_option maxRecDepth 100000 in
theorem ml_X1_74 : Cond.methodLink RX1 74 yX1_depth ∈ TB := TB_mem 271 rfl rfl
set_option maxRecDepth 100000 in
theorem im_yX1_depth : Cond.instanceMethod yX1_depth ∈ TB := TB_mem 272 rfl rfl
set_option maxRecDepth 100000 in
theorem se_yX1_depth : Cond.selects RX1 yX1_depth yX1_depth ∈ TB := TB_mem 273 rfl rfl
set_option maxRecDepth 100000 in
theorem cd_yX1_depth : Cond.code yX1_depth cX1_depth 1 (some .int) ∈ TB := TB_mem 274 rfl rfl
set_option maxRecDepth 100000 in
theorem ml_X1_78 : Cond.methodLink RX1 78 yX1_directoryPage ∈ TB := TB_mem 275 rfl rfl
set_option maxRecDepth 100000 in
theorem im_yX1_directoryPage : Cond.instanceMethod yX1_directoryPage ∈ TB := TB_mem 276 rfl rfl
set_option maxRecDepth 100000 in
theorem se_yX1_directoryPage : Cond.selects RX1 yX1_directoryPage yX1_directoryPage ∈ TB := TB_mem 277 rfl rfl
set_option maxRecDepth 100000 in
theorem cd_yX1_directoryPage : Cond.code yX1_directoryPage cX1_directoryPage 2 (some .int) ∈ TB := TB_mem 278 rfl rfl
set_option maxRecDepth 100000 in
theorem ml_L_99 : Cond.methodLink RL 99 yX4_bucket ∈ TB := TB_mem 279 rfl rfl
set_option maxRecDepth 100000 in
theorem im_yX4_bucket : Cond.instanceMethod yX4_bucket ∈ TB := TB_mem 280 rfl rfl
set_option maxRecDepth 100000 in
theorem se_yX4_bucket : Cond.selects RX4 yX4_bucket yX4_bucket ∈ TB := TB_mem 281 rfl rfl
set_option maxRecDepth 100000 in
theorem cd_yX4_bucket : Cond.code yX4_bucket cX4_bucket 3 (some .int) ∈ TB := TB_mem 282 rfl rfl
set_option maxRecDepth 100000 in
theorem ml_X4_148 : Cond.methodLink RX4 148 yX1_recordBytes ∈ TB := TB_mem 283 rfl rfl
set_option maxRecDepth 100000 in
theorem im_yX1_recordBytes : Cond.instanceMethod yX1_recordBytes ∈ TB := TB_mem 284 rfl rfl
set_option maxRecDepth 100000 in
theorem se_yX1_recordBytes : Cond.selects RX1 yX1_recordBytes yX1_recordBytes ∈ TB := TB_mem 285 rfl rfl
set_option maxRecDepth 100000 in
theorem cd_yX1_recordBytes : Cond.code yX1_recordBytes cX1_recordBytes 2 (some .int) ∈ TB := TB_mem 286 rfl rfl
set_option maxRecDepth 100000 in
theorem ml_L_103 : Cond.methodLink RL 103 yX4_record ∈ TB := TB_mem 287 rfl rfl
set_option maxRecDepth 100000 in
theorem im_yX4_record : Cond.instanceMethod yX4_record ∈ TB := TB_mem 288 rfl rfl
set_option maxRecDepth 100000 in
theorem se_yX4_record : Cond.selects RX4 yX4_record yX4_record ∈ TB := TB_mem 289 rfl rfl
set_option maxRecDepth 100000 in
theorem cd_yX4_record : Cond.code yX4_record cX4_record 7 (some .int) ∈ TB := TB_mem 290 rfl rfl
set_option maxRecDepth 100000 in
theorem ml_X4_151 : Cond.methodLink RX4 151 yX1_recordStart ∈ TB := TB_mem 291 rfl rfl
set_option maxRecDepth 100000 in
theorem im_yX1_recordStart : Cond.instanceMethod yX1_recordStart ∈ TB := TB_mem 292 rfl rfl
set_option maxRecDepth 100000 in
theorem se_yX1_recordStart : Cond.selects RX1 yX1_recordStart yX1_recordStart ∈ TB := TB_mem 293 rfl rfl
set_option maxRecDepth 100000 in
theorem cd_yX1_recordStart : Cond.code yX1_recordStart cX1_recordStart 5 (some .int) ∈ TB := TB_mem 294 rfl rfl
set_option maxRecDepth 100000 in
theorem ml_X1_112 : Cond.methodLink RX1 112 yX1_recordSize ∈ TB := TB_mem 295 rfl rfl
set_option maxRecDepth 100000 in
theorem im_yX1_recordSize : Cond.instanceMethod yX1_recordSize ∈ TB := TB_mem 296 rfl rfl
set_option maxRecDepth 100000 in
theorem se_yX1_recordSize : Cond.selects RX1 yX1_recordSize yX1_recordSize ∈ TB := TB_mem 297 rfl rfl
set_option maxRecDepth 100000 in
theorem cd_yX1_recordSize : Cond.code yX1_recordSize cX1_recordSize 3 (some .int) ∈ TB := TB_mem 298 rfl rfl
set_option maxRecDepth 100000 in
theorem ml_L_108 : Cond.methodLink RL 108 yX4_look ∈ TB := TB_mem 299 rfl rfl
set_option maxRecDepth 100000 in
theorem im_yX4_look : Cond.instanceMethod yX4_look ∈ TB := TB_mem 300 rfl rfl
set_option maxRecDepth 100000 in
theorem se_yX4_look : Cond.selects RX4 yX4_look yX4_look ∈ TB := TB_mem 301 rfl rfl
set_option maxRecDepth 100000 in
theorem cd_yX4_look : Cond.code yX4_look cX4_look 2 (some .int) ∈ TB := TB_mem 302 rfl rfl
set_option maxRecDepth 100000 in
theorem ml_X4_154 : Cond.methodLink RX4 154 yX1_pages ∈ TB := TB_mem 303 rfl rfl
set_option maxRecDepth 100000 in
theorem im_yX1_pages : Cond.instanceMethod yX1_pages ∈ TB := TB_mem 304 rfl rfl
set_option maxRecDepth 100000 in
theorem se_yX1_pages : Cond.selects RX1 yX1_pages yX1_pages ∈ TB := TB_mem 305 rfl rfl
set_option maxRecDepth 100000 in
theorem cd_yX1_pages : Cond.code yX1_pages cX1_pages 1 (some .int) ∈ TB := TB_mem 306 rfl rfl
set_option maxRecDepth 100000 in
theorem ml_X4_157 : Cond.methodLink RX4 157 yX1_log ∈ TB := TB_mem 307 rfl rfl
set_option maxRecDepth 100000 in
theorem im_yX1_log : Cond.instanceMethod yX1_log ∈ TB := TB_mem 308 rfl rfl
set_option maxRecDepth 100000 in
theorem se_yX1_log : Cond.selects RX1 yX1_log yX1_log ∈ TB := TB_mem 309 rfl rfl
set_option maxRecDepth 100000 in
theorem cd_yX1_log : Cond.code yX1_log cX1_log 1 (some .int) ∈ TB := TB_mem 310 rfl rfl
set_option maxRecDepth 100000 in
theorem ml_X4_160 : Cond.methodLink RX4 160 yX1_depth ∈ TB := TB_mem 311 rfl rfl
set_option maxRecDepth 100000 in
theorem ml_X4_163 : Cond.methodLink RX4 163 yX1_countKind ∈ TB := TB_mem 312 rfl rfl
set_option maxRecDepth 100000 in
theorem im_yX1_countKind : Cond.instanceMethod yX1_countKind ∈ TB := TB_mem 313 rfl rfl
set_option maxRecDepth 100000 in
theorem se_yX1_countKind : Cond.selects RX1 yX1_countKind yX1_countKind ∈ TB := TB_mem 314 rfl rfl
set_option maxRecDepth 100000 in
theorem cd_yX1_countKind : Cond.code yX1_countKind cX1_countKind 4 (some .int) ∈ TB := TB_mem 315 rfl rfl
set_option maxRecDepth 100000 in
theorem ml_X1_109 : Cond.methodLink RX1 109 yX1_kindOf ∈ TB := TB_mem 316 rfl rfl
set_option maxRecDepth 100000 in
theorem ml_X4_166 : Cond.methodLink RX4 166 yX1_countRecords ∈ TB := TB_mem 317 rfl rfl
set_option maxRecDepth 100000 in
theorem im_yX1_countRecords : Cond.instanceMethod yX1_countRecords ∈ TB := TB_mem 318 rfl rfl
set_option maxRecDepth 100000 in
theorem se_yX1_countRecords : Cond.selects RX1 yX1_countRecords yX1_countRecords ∈ TB := TB_mem 319 rfl rfl
set_option maxRecDepth 100000 in
theorem cd_yX1_countRecords : Cond.code yX1_countRecords cX1_countRecords 3 (some .int) ∈ TB := TB_mem 320 rfl rfl
set_option maxRecDepth 100000 in
theorem ml_X4_169 : Cond.methodLink RX4 169 yX1_writes ∈ TB := TB_mem 321 rfl rfl
set_option maxRecDepth 100000 in
theorem im_yX1_writes : Cond.instanceMethod yX1_writes ∈ TB := TB_mem 322 rfl rfl
set_option maxRecDepth 100000 in
theorem se_yX1_writes : Cond.selects RX1 yX1_writes yX1_writes ∈ TB := TB_mem 323 rfl rfl
set_option maxRecDepth 100000 in
theorem cd_yX1_writes : Cond.code yX1_writes cX1_writes 1 (some .int) ∈ TB := TB_mem 324 rfl rfl
set_option maxRecDepth 100000 in
theorem ml_X4_83 : Cond.methodLink RX4 83 yX1_isDown ∈ TB := TB_mem 325 rfl rfl
set_option maxRecDepth 100000 in
theorem im_yX1_isDown : Cond.instanceMethod yX1_isDown ∈ TB := TB_mem 326 rfl rfl
set_option maxRecDepth 100000 in
theorem se_yX1_isDown : Cond.selects RX1 yX1_isDown yX1_isDown ∈ TB := TB_mem 327 rfl rfl
set_option maxRecDepth 100000 in
theorem cd_yX1_isDown : Cond.code yX1_isDown cX1_isDown 1 (some .boolean) ∈ TB := TB_mem 328 rfl rfl
set_option maxRecDepth 100000 in
theorem ml_X4_172 : Cond.methodLink RX4 172 yX1_allowed ∈ TB := TB_mem 329 rfl rfl
set_option maxRecDepth 100000 in
theorem im_yX1_allowed : Cond.instanceMethod yX1_allowed ∈ TB := TB_mem 330 rfl rfl
set_option maxRecDepth 100000 in
theorem se_yX1_allowed : Cond.selects RX1 yX1_allowed yX1_allowed ∈ TB := TB_mem 331 rfl rfl
set_option maxRecDepth 100000 in
theorem cd_yX1_allowed : Cond.code yX1_allowed cX1_allowed 1 (some .int) ∈ TB := TB_mem 332 rfl rfl
set_option maxRecDepth 100000 in
theorem ml_L_45 : Cond.methodLink RL 45 yL_format ∈ TB := TB_mem 333 rfl rfl
set_option maxRecDepth 100000 in
theorem sm_yL_format : Cond.static yL_format ∈ TB := TB_mem 334 rfl rfl
set_option maxRecDepth 100000 in
theorem cl_L_13 : Cond.classLink RL 13 "java/lang/IllegalArgumentException" ∈ TB := TB_mem 336 rfl rfl
set_option maxRecDepth 100000 in
theorem ml_L_7 : Cond.methodLink RL 7 yX4_format ∈ TB := TB_mem 337 rfl rfl
set_option maxRecDepth 100000 in
theorem im_yX4_format : Cond.instanceMethod yX4_format ∈ TB := TB_mem 338 rfl rfl
set_option maxRecDepth 100000 in
theorem se_yX4_format : Cond.selects RX4 yX4_format yX4_format ∈ TB := TB_mem 339 rfl rfl
set_option maxRecDepth 100000 in
theorem cd_yX4_format : Cond.code yX4_format cX4_format 3 none ∈ TB := TB_mem 340 rfl rfl
set_option maxRecDepth 100000 in
theorem cl_X4_54 : Cond.classLink RX4 54 "java/lang/IllegalArgumentException" ∈ TB := TB_mem 341 rfl rfl
set_option maxRecDepth 100000 in
theorem ia_java_lang_IllegalArgumentException : Cond.instantiable "java/lang/IllegalArgumentException" 6 ∈ TB := TB_mem 342 rfl rfl
set_option maxRecDepth 100000 in
theorem fl_java_lang_Throwable_198 : Cond.fieldLink "java/lang/Throwable" 198 "java/lang/Throwable" "backtrace" "Ljava/lang/Object;" ∈ TB := TB_mem 362 rfl rfl
set_option maxRecDepth 100000 in
theorem im___java_lang_Throwable_____init_______V__ : Cond.instanceMethod ⟨"java/lang/Throwable", "<init>", "()V"⟩ ∈ TB := TB_mem 364 rfl rfl
set_option maxRecDepth 100000 in
theorem cd___java_lang_Throwable_____init_______V__ : Cond.code ⟨"java/lang/Throwable", "<init>", "()V"⟩ prog_15_method_1_code 1 none ∈ TB := TB_mem 365 rfl rfl
set_option maxRecDepth 100000 in
theorem ml_java_lang_Throwable_1 : Cond.methodLink "java/lang/Throwable" 1 objectInit ∈ TB := TB_mem 366 rfl rfl
set_option maxRecDepth 100000 in
theorem fl_java_lang_Throwable_13 : Cond.fieldLink "java/lang/Throwable" 13 "java/lang/Throwable" "UNASSIGNED_STACK" "[Ljava/lang/StackTraceElement;" ∈ TB := TB_mem 367 rfl rfl
set_option maxRecDepth 100000 in
theorem fl_java_lang_Throwable_20 : Cond.fieldLink "java/lang/Throwable" 20 "java/lang/Throwable" "SUPPRESSED_SENTINEL" "Ljava/util/List;" ∈ TB := TB_mem 369 rfl rfl
set_option maxRecDepth 100000 in
theorem ml_java_lang_Throwable_27 : Cond.methodLink "java/lang/Throwable" 27 ⟨"java/lang/Throwable", "fillInStackTrace", "()Ljava/lang/Throwable;"⟩ ∈ TB := TB_mem 371 rfl rfl
set_option maxRecDepth 100000 in
theorem im___java_lang_Throwable____fillInStackTrace______Ljava_lang_Throwable___ : Cond.instanceMethod ⟨"java/lang/Throwable", "fillInStackTrace", "()Ljava/lang/Throwable;"⟩ ∈ TB := TB_mem 372 rfl rfl
set_option maxRecDepth 100000 in
theorem ml_java_lang_Throwable_202 : Cond.methodLink "java/lang/Throwable" 202 ⟨"java/lang/Throwable", "fillInStackTrace", "(I)Ljava/lang/Throwable;"⟩ ∈ TB := TB_mem 377 rfl rfl
set_option maxRecDepth 100000 in
theorem im___java_lang_Throwable____fillInStackTrace_____I_Ljava_lang_Throwable___ : Cond.instanceMethod ⟨"java/lang/Throwable", "fillInStackTrace", "(I)Ljava/lang/Throwable;"⟩ ∈ TB := TB_mem 379 rfl rfl
set_option maxRecDepth 100000 in
theorem ia_java_lang_Throwable : Cond.instantiable "java/lang/Throwable" 6 ∈ TB := TB_mem 380 rfl rfl
set_option maxRecDepth 100000 in
theorem nm___java_lang_Throwable____fillInStackTrace_____I_Ljava_lang_Throwable___ : Cond.native ⟨"java/lang/Throwable", "fillInStackTrace", "(I)Ljava/lang/Throwable;"⟩ ∈ TB := TB_mem 381 rfl rfl
set_option maxRecDepth 100000 in
theorem ml_X4_58 : Cond.methodLink RX4 58 ⟨"java/lang/IllegalArgumentException", "<init>", "(Ljava/lang/String;)V"⟩ ∈ TB := TB_mem 383 rfl rfl
set_option maxRecDepth 100000 in
theorem im___java_lang_IllegalArgumentException_____init______Ljava_lang_String__V__ : Cond.instanceMethod ⟨"java/lang/IllegalArgumentException", "<init>", "(Ljava/lang/String;)V"⟩ ∈ TB := TB_mem 384 rfl rfl
set_option maxRecDepth 100000 in
theorem cd___java_lang_IllegalArgumentException_____init______Ljava_lang_String__V__ : Cond.code ⟨"java/lang/IllegalArgumentException", "<init>", "(Ljava/lang/String;)V"⟩ prog_9_method_2_code 2 none ∈ TB := TB_mem 385 rfl rfl
set_option maxRecDepth 100000 in
theorem ml_java_lang_IllegalArgumentException_7 : Cond.methodLink "java/lang/IllegalArgumentException" 7 ⟨"java/lang/RuntimeException", "<init>", "(Ljava/lang/String;)V"⟩ ∈ TB := TB_mem 386 rfl rfl
set_option maxRecDepth 100000 in
theorem im___java_lang_RuntimeException_____init______Ljava_lang_String__V__ : Cond.instanceMethod ⟨"java/lang/RuntimeException", "<init>", "(Ljava/lang/String;)V"⟩ ∈ TB := TB_mem 387 rfl rfl
set_option maxRecDepth 100000 in
theorem cd___java_lang_RuntimeException_____init______Ljava_lang_String__V__ : Cond.code ⟨"java/lang/RuntimeException", "<init>", "(Ljava/lang/String;)V"⟩ prog_12_method_2_code 2 none ∈ TB := TB_mem 388 rfl rfl
set_option maxRecDepth 100000 in
theorem ml_java_lang_RuntimeException_7 : Cond.methodLink "java/lang/RuntimeException" 7 ⟨"java/lang/Exception", "<init>", "(Ljava/lang/String;)V"⟩ ∈ TB := TB_mem 389 rfl rfl
set_option maxRecDepth 100000 in
theorem im___java_lang_Exception_____init______Ljava_lang_String__V__ : Cond.instanceMethod ⟨"java/lang/Exception", "<init>", "(Ljava/lang/String;)V"⟩ ∈ TB := TB_mem 390 rfl rfl
set_option maxRecDepth 100000 in
theorem cd___java_lang_Exception_____init______Ljava_lang_String__V__ : Cond.code ⟨"java/lang/Exception", "<init>", "(Ljava/lang/String;)V"⟩ prog_8_method_2_code 2 none ∈ TB := TB_mem 391 rfl rfl
set_option maxRecDepth 100000 in
theorem ml_java_lang_Exception_7 : Cond.methodLink "java/lang/Exception" 7 ⟨"java/lang/Throwable", "<init>", "(Ljava/lang/String;)V"⟩ ∈ TB := TB_mem 392 rfl rfl
set_option maxRecDepth 100000 in
theorem im___java_lang_Throwable_____init______Ljava_lang_String__V__ : Cond.instanceMethod ⟨"java/lang/Throwable", "<init>", "(Ljava/lang/String;)V"⟩ ∈ TB := TB_mem 393 rfl rfl
set_option maxRecDepth 100000 in
theorem cd___java_lang_Throwable_____init______Ljava_lang_String__V__ : Cond.code ⟨"java/lang/Throwable", "<init>", "(Ljava/lang/String;)V"⟩ prog_15_method_2_code 2 none ∈ TB := TB_mem 394 rfl rfl
set_option maxRecDepth 100000 in
theorem fl_java_lang_Throwable_31 : Cond.fieldLink "java/lang/Throwable" 31 "java/lang/Throwable" "detailMessage" "Ljava/lang/String;" ∈ TB := TB_mem 396 rfl rfl
set_option maxRecDepth 100000 in
theorem fl_java_lang_Throwable_7 : Cond.fieldLink "java/lang/Throwable" 7 "java/lang/Throwable" "cause" "Ljava/lang/Throwable;" ∈ TB := TB_mem 397 rfl rfl
set_option maxRecDepth 100000 in
theorem fl_java_lang_Throwable_17 : Cond.fieldLink "java/lang/Throwable" 17 "java/lang/Throwable" "stackTrace" "[Ljava/lang/StackTraceElement;" ∈ TB := TB_mem 398 rfl rfl
set_option maxRecDepth 100000 in
theorem fl_java_lang_Throwable_24 : Cond.fieldLink "java/lang/Throwable" 24 "java/lang/Throwable" "suppressedExceptions" "Ljava/util/List;" ∈ TB := TB_mem 399 rfl rfl
set_option maxRecDepth 100000 in
theorem ac_byte : Cond.arrayClass .byte ∈ TB := TB_mem 408 rfl rfl
set_option maxRecDepth 100000 in
theorem ml_L_56 : Cond.methodLink RL 56 yL_feed ∈ TB := TB_mem 411 rfl rfl
set_option maxRecDepth 100000 in
theorem sm_yL_feed : Cond.static yL_feed ∈ TB := TB_mem 412 rfl rfl
set_option maxRecDepth 100000 in
theorem cl_L_19 : Cond.classLink RL 19 "java/lang/UnsupportedOperationException" ∈ TB := TB_mem 414 rfl rfl
set_option maxRecDepth 100000 in
theorem ml_L_15 : Cond.methodLink RL 15 yX4_feed ∈ TB := TB_mem 415 rfl rfl
set_option maxRecDepth 100000 in
theorem im_yX4_feed : Cond.instanceMethod yX4_feed ∈ TB := TB_mem 416 rfl rfl
set_option maxRecDepth 100000 in
theorem se_yX4_feed : Cond.selects RX4 yX4_feed yX4_feed ∈ TB := TB_mem 417 rfl rfl
set_option maxRecDepth 100000 in
theorem cd_yX4_feed : Cond.code yX4_feed cX4_feed 9 (some .int) ∈ TB := TB_mem 418 rfl rfl
set_option maxRecDepth 100000 in
theorem cl_X4_71 : Cond.classLink RX4 71 "java/lang/UnsupportedOperationException" ∈ TB := TB_mem 420 rfl rfl
set_option maxRecDepth 100000 in
theorem ia_java_lang_UnsupportedOperationException : Cond.instantiable "java/lang/UnsupportedOperationException" 6 ∈ TB := TB_mem 421 rfl rfl
set_option maxRecDepth 100000 in
theorem ml_X4_75 : Cond.methodLink RX4 75 ⟨"java/lang/UnsupportedOperationException", "<init>", "(Ljava/lang/String;)V"⟩ ∈ TB := TB_mem 430 rfl rfl
set_option maxRecDepth 100000 in
theorem im___java_lang_UnsupportedOperationException_____init______Ljava_lang_String__V__ : Cond.instanceMethod ⟨"java/lang/UnsupportedOperationException", "<init>", "(Ljava/lang/String;)V"⟩ ∈ TB := TB_mem 431 rfl rfl
set_option maxRecDepth 100000 in
theorem cd___java_lang_UnsupportedOperationException_____init______Ljava_lang_String__V__ : Cond.code ⟨"java/lang/UnsupportedOperationException", "<init>", "(Ljava/lang/String;)V"⟩ prog_16_method_2_code 2 none ∈ TB := TB_mem 432 rfl rfl
set_option maxRecDepth 100000 in
theorem ml_java_lang_UnsupportedOperationException_7 : Cond.methodLink "java/lang/UnsupportedOperationException" 7 ⟨"java/lang/RuntimeException", "<init>", "(Ljava/lang/String;)V"⟩ ∈ TB := TB_mem 433 rfl rfl
set_option maxRecDepth 100000 in
theorem ml_X4_76 : Cond.methodLink RX4 76 yX3_append ∈ TB := TB_mem 436 rfl rfl
set_option maxRecDepth 100000 in
theorem im_yX3_append : Cond.instanceMethod yX3_append ∈ TB := TB_mem 437 rfl rfl
set_option maxRecDepth 100000 in
theorem se_yX3_append : Cond.selects RX3 yX3_append yX3_append ∈ TB := TB_mem 438 rfl rfl
set_option maxRecDepth 100000 in
theorem cd_yX3_append : Cond.code yX3_append cX3_append 2 none ∈ TB := TB_mem 439 rfl rfl
set_option maxRecDepth 100000 in
theorem ml_L_60 : Cond.methodLink RL 60 yL_put ∈ TB := TB_mem 440 rfl rfl
set_option maxRecDepth 100000 in
theorem sm_yL_put : Cond.static yL_put ∈ TB := TB_mem 441 rfl rfl
set_option maxRecDepth 100000 in
theorem cl_L_25 : Cond.classLink RL 25 "java/lang/IllegalStateException" ∈ TB := TB_mem 443 rfl rfl
set_option maxRecDepth 100000 in
theorem ml_L_21 : Cond.methodLink RL 21 yX4_put ∈ TB := TB_mem 444 rfl rfl
set_option maxRecDepth 100000 in
theorem im_yX4_put : Cond.instanceMethod yX4_put ∈ TB := TB_mem 445 rfl rfl
set_option maxRecDepth 100000 in
theorem se_yX4_put : Cond.selects RX4 yX4_put yX4_put ∈ TB := TB_mem 446 rfl rfl
set_option maxRecDepth 100000 in
theorem cd_yX4_put : Cond.code yX4_put cX4_put 5 (some .int) ∈ TB := TB_mem 447 rfl rfl
set_option maxRecDepth 100000 in
theorem ml_X4_80 : Cond.methodLink RX4 80 yX3_take ∈ TB := TB_mem 448 rfl rfl
set_option maxRecDepth 100000 in
theorem im_yX3_take : Cond.instanceMethod yX3_take ∈ TB := TB_mem 449 rfl rfl
set_option maxRecDepth 100000 in
theorem se_yX3_take : Cond.selects RX3 yX3_take yX3_take ∈ TB := TB_mem 450 rfl rfl
set_option maxRecDepth 100000 in
theorem cd_yX3_take : Cond.code yX3_take cX3_take 2 (some .int) ∈ TB := TB_mem 451 rfl rfl
set_option maxRecDepth 100000 in
theorem cl_X4_87 : Cond.classLink RX4 87 "java/lang/IllegalStateException" ∈ TB := TB_mem 452 rfl rfl
set_option maxRecDepth 100000 in
theorem ia_java_lang_IllegalStateException : Cond.instantiable "java/lang/IllegalStateException" 6 ∈ TB := TB_mem 453 rfl rfl
set_option maxRecDepth 100000 in
theorem ml_X4_91 : Cond.methodLink RX4 91 ⟨"java/lang/IllegalStateException", "<init>", "(Ljava/lang/String;)V"⟩ ∈ TB := TB_mem 462 rfl rfl
set_option maxRecDepth 100000 in
theorem im___java_lang_IllegalStateException_____init______Ljava_lang_String__V__ : Cond.instanceMethod ⟨"java/lang/IllegalStateException", "<init>", "(Ljava/lang/String;)V"⟩ ∈ TB := TB_mem 463 rfl rfl
set_option maxRecDepth 100000 in
theorem cd___java_lang_IllegalStateException_____init______Ljava_lang_String__V__ : Cond.code ⟨"java/lang/IllegalStateException", "<init>", "(Ljava/lang/String;)V"⟩ prog_10_method_2_code 2 none ∈ TB := TB_mem 464 rfl rfl
set_option maxRecDepth 100000 in
theorem ml_java_lang_IllegalStateException_7 : Cond.methodLink "java/lang/IllegalStateException" 7 ⟨"java/lang/RuntimeException", "<init>", "(Ljava/lang/String;)V"⟩ ∈ TB := TB_mem 465 rfl rfl
set_option maxRecDepth 100000 in
theorem ml_X4_100 : Cond.methodLink RX4 100 yX4_makePlace ∈ TB := TB_mem 470 rfl rfl
set_option maxRecDepth 100000 in
theorem im_yX4_makePlace : Cond.instanceMethod yX4_makePlace ∈ TB := TB_mem 472 rfl rfl
set_option maxRecDepth 100000 in
theorem cd_yX4_makePlace : Cond.code yX4_makePlace cX4_makePlace 8 (some .int) ∈ TB := TB_mem 473 rfl rfl
set_option maxRecDepth 100000 in
theorem ml_X4_104 : Cond.methodLink RX4 104 yX1_bucketOf ∈ TB := TB_mem 474 rfl rfl
set_option maxRecDepth 100000 in
theorem im_yX1_bucketOf : Cond.instanceMethod yX1_bucketOf ∈ TB := TB_mem 475 rfl rfl
set_option maxRecDepth 100000 in
theorem se_yX1_bucketOf : Cond.selects RX1 yX1_bucketOf yX1_bucketOf ∈ TB := TB_mem 476 rfl rfl
set_option maxRecDepth 100000 in
theorem cd_yX1_bucketOf : Cond.code yX1_bucketOf cX1_bucketOf 2 (some .int) ∈ TB := TB_mem 477 rfl rfl
set_option maxRecDepth 100000 in
theorem ml_X1_82 : Cond.methodLink RX1 82 yX1_indexOf ∈ TB := TB_mem 478 rfl rfl
set_option maxRecDepth 100000 in
theorem im_yX1_indexOf : Cond.instanceMethod yX1_indexOf ∈ TB := TB_mem 479 rfl rfl
set_option maxRecDepth 100000 in
theorem se_yX1_indexOf : Cond.selects RX1 yX1_indexOf yX1_indexOf ∈ TB := TB_mem 480 rfl rfl
set_option maxRecDepth 100000 in
theorem cd_yX1_indexOf : Cond.code yX1_indexOf cX1_indexOf 2 (some .int) ∈ TB := TB_mem 481 rfl rfl
set_option maxRecDepth 100000 in
theorem ml_X1_85 : Cond.methodLink RX1 85 yX1_entryAt ∈ TB := TB_mem 482 rfl rfl
set_option maxRecDepth 100000 in
theorem ml_X4_175 : Cond.methodLink RX4 175 yX4_hasPlace ∈ TB := TB_mem 483 rfl rfl
set_option maxRecDepth 100000 in
theorem im_yX4_hasPlace : Cond.instanceMethod yX4_hasPlace ∈ TB := TB_mem 485 rfl rfl
set_option maxRecDepth 100000 in
theorem cd_yX4_hasPlace : Cond.code yX4_hasPlace cX4_hasPlace 6 (some .boolean) ∈ TB := TB_mem 486 rfl rfl
set_option maxRecDepth 100000 in
theorem ml_X4_112 : Cond.methodLink RX4 112 yX1_find ∈ TB := TB_mem 487 rfl rfl
set_option maxRecDepth 100000 in
theorem im_yX1_find : Cond.instanceMethod yX1_find ∈ TB := TB_mem 488 rfl rfl
set_option maxRecDepth 100000 in
theorem se_yX1_find : Cond.selects RX1 yX1_find yX1_find ∈ TB := TB_mem 489 rfl rfl
set_option maxRecDepth 100000 in
theorem cd_yX1_find : Cond.code yX1_find cX1_find 7 (some .int) ∈ TB := TB_mem 490 rfl rfl
set_option maxRecDepth 100000 in
theorem ml_X1_122 : Cond.methodLink RX1 122 yX1_hasKey ∈ TB := TB_mem 491 rfl rfl
set_option maxRecDepth 100000 in
theorem im_yX1_hasKey : Cond.instanceMethod yX1_hasKey ∈ TB := TB_mem 493 rfl rfl
set_option maxRecDepth 100000 in
theorem cd_yX1_hasKey : Cond.code yX1_hasKey cX1_hasKey 6 (some .boolean) ∈ TB := TB_mem 494 rfl rfl
set_option maxRecDepth 100000 in
theorem ml_X1_126 : Cond.methodLink RX1 126 yX3_byteAt ∈ TB := TB_mem 495 rfl rfl
set_option maxRecDepth 100000 in
theorem im_yX3_byteAt : Cond.instanceMethod yX3_byteAt ∈ TB := TB_mem 496 rfl rfl
set_option maxRecDepth 100000 in
theorem se_yX3_byteAt : Cond.selects RX3 yX3_byteAt yX3_byteAt ∈ TB := TB_mem 497 rfl rfl
set_option maxRecDepth 100000 in
theorem cd_yX3_byteAt : Cond.code yX3_byteAt cX3_byteAt 2 (some .int) ∈ TB := TB_mem 498 rfl rfl
set_option maxRecDepth 100000 in
theorem ml_X4_189 : Cond.methodLink RX4 189 yX1_recordSize ∈ TB := TB_mem 499 rfl rfl
set_option maxRecDepth 100000 in
theorem ml_X4_179 : Cond.methodLink RX4 179 yX1_allHashesAre ∈ TB := TB_mem 500 rfl rfl
set_option maxRecDepth 100000 in
theorem im_yX1_allHashesAre : Cond.instanceMethod yX1_allHashesAre ∈ TB := TB_mem 501 rfl rfl
set_option maxRecDepth 100000 in
theorem se_yX1_allHashesAre : Cond.selects RX1 yX1_allHashesAre yX1_allHashesAre ∈ TB := TB_mem 502 rfl rfl
set_option maxRecDepth 100000 in
theorem cd_yX1_allHashesAre : Cond.code yX1_allHashesAre cX1_allHashesAre 6 (some .boolean) ∈ TB := TB_mem 503 rfl rfl
set_option maxRecDepth 100000 in
theorem ml_X1_119 : Cond.methodLink RX1 119 yX1_recordHash ∈ TB := TB_mem 504 rfl rfl
set_option maxRecDepth 100000 in
theorem im_yX1_recordHash : Cond.instanceMethod yX1_recordHash ∈ TB := TB_mem 505 rfl rfl
set_option maxRecDepth 100000 in
theorem se_yX1_recordHash : Cond.selects RX1 yX1_recordHash yX1_recordHash ∈ TB := TB_mem 506 rfl rfl
set_option maxRecDepth 100000 in
theorem cd_yX1_recordHash : Cond.code yX1_recordHash cX1_recordHash 3 (some .int) ∈ TB := TB_mem 507 rfl rfl
set_option maxRecDepth 100000 in
theorem ml_X4_183 : Cond.methodLink RX4 183 yX4_resizeDirectory ∈ TB := TB_mem 509 rfl rfl
set_option maxRecDepth 100000 in
theorem im_yX4_resizeDirectory : Cond.instanceMethod yX4_resizeDirectory ∈ TB := TB_mem 511 rfl rfl
set_option maxRecDepth 100000 in
theorem cd_yX4_resizeDirectory : Cond.code yX4_resizeDirectory cX4_resizeDirectory 7 (some .int) ∈ TB := TB_mem 512 rfl rfl
set_option maxRecDepth 100000 in
theorem ml_X4_206 : Cond.methodLink RX4 206 yX4_pagesFor ∈ TB := TB_mem 513 rfl rfl
set_option maxRecDepth 100000 in
theorem ml_X4_209 : Cond.methodLink RX4 209 yX0_begin ∈ TB := TB_mem 514 rfl rfl
set_option maxRecDepth 100000 in
theorem im_yX0_begin : Cond.instanceMethod yX0_begin ∈ TB := TB_mem 515 rfl rfl
set_option maxRecDepth 100000 in
theorem se_yX0_begin : Cond.selects RX0 yX0_begin yX0_begin ∈ TB := TB_mem 516 rfl rfl
set_option maxRecDepth 100000 in
theorem cd_yX0_begin : Cond.code yX0_begin cX0_begin 1 none ∈ TB := TB_mem 517 rfl rfl
set_option maxRecDepth 100000 in
theorem ml_X0_25 : Cond.methodLink RX0 25 yX2_clear ∈ TB := TB_mem 518 rfl rfl
set_option maxRecDepth 100000 in
theorem ml_X4_212 : Cond.methodLink RX4 212 yX2_clear ∈ TB := TB_mem 519 rfl rfl
set_option maxRecDepth 100000 in
theorem ml_X4_215 : Cond.methodLink RX4 215 yX2_set ∈ TB := TB_mem 520 rfl rfl
set_option maxRecDepth 100000 in
theorem im_yX2_set : Cond.instanceMethod yX2_set ∈ TB := TB_mem 521 rfl rfl
set_option maxRecDepth 100000 in
theorem se_yX2_set : Cond.selects RX2 yX2_set yX2_set ∈ TB := TB_mem 522 rfl rfl
set_option maxRecDepth 100000 in
theorem cd_yX2_set : Cond.code yX2_set cX2_set 3 none ∈ TB := TB_mem 523 rfl rfl
set_option maxRecDepth 100000 in
theorem ml_X4_218 : Cond.methodLink RX4 218 yX1_directoryPage ∈ TB := TB_mem 524 rfl rfl
set_option maxRecDepth 100000 in
theorem ml_X4_221 : Cond.methodLink RX4 221 yX1_freeBehind ∈ TB := TB_mem 525 rfl rfl
set_option maxRecDepth 100000 in
theorem im_yX1_freeBehind : Cond.instanceMethod yX1_freeBehind ∈ TB := TB_mem 526 rfl rfl
set_option maxRecDepth 100000 in
theorem se_yX1_freeBehind : Cond.selects RX1 yX1_freeBehind yX1_freeBehind ∈ TB := TB_mem 527 rfl rfl
set_option maxRecDepth 100000 in
theorem cd_yX1_freeBehind : Cond.code yX1_freeBehind cX1_freeBehind 3 (some .int) ∈ TB := TB_mem 528 rfl rfl
set_option maxRecDepth 100000 in
theorem ml_X4_224 : Cond.methodLink RX4 224 yX4_buildDirectoryPage ∈ TB := TB_mem 529 rfl rfl
set_option maxRecDepth 100000 in
theorem im_yX4_buildDirectoryPage : Cond.instanceMethod yX4_buildDirectoryPage ∈ TB := TB_mem 531 rfl rfl
set_option maxRecDepth 100000 in
theorem cd_yX4_buildDirectoryPage : Cond.code yX4_buildDirectoryPage cX4_buildDirectoryPage 8 none ∈ TB := TB_mem 532 rfl rfl
set_option maxRecDepth 100000 in
theorem ml_X4_227 : Cond.methodLink RX4 227 yX0_add ∈ TB := TB_mem 533 rfl rfl
set_option maxRecDepth 100000 in
theorem im_yX0_add : Cond.instanceMethod yX0_add ∈ TB := TB_mem 534 rfl rfl
set_option maxRecDepth 100000 in
theorem se_yX0_add : Cond.selects RX0 yX0_add yX0_add ∈ TB := TB_mem 535 rfl rfl
set_option maxRecDepth 100000 in
theorem cd_yX0_add : Cond.code yX0_add cX0_add 4 (some .boolean) ∈ TB := TB_mem 536 rfl rfl
set_option maxRecDepth 100000 in
theorem ml_X0_28 : Cond.methodLink RX0 28 yX2_byteAt ∈ TB := TB_mem 537 rfl rfl
set_option maxRecDepth 100000 in
theorem im_yX2_byteAt : Cond.instanceMethod yX2_byteAt ∈ TB := TB_mem 538 rfl rfl
set_option maxRecDepth 100000 in
theorem se_yX2_byteAt : Cond.selects RX2 yX2_byteAt yX2_byteAt ∈ TB := TB_mem 539 rfl rfl
set_option maxRecDepth 100000 in
theorem cd_yX2_byteAt : Cond.code yX2_byteAt cX2_byteAt 2 (some .int) ∈ TB := TB_mem 540 rfl rfl
set_option maxRecDepth 100000 in
theorem ml_X0_32 : Cond.methodLink RX0 32 yX2_set ∈ TB := TB_mem 541 rfl rfl
set_option maxRecDepth 100000 in
theorem ml_X0_36 : Cond.methodLink RX0 36 yX1_write ∈ TB := TB_mem 542 rfl rfl
set_option maxRecDepth 100000 in
theorem im_yX1_write : Cond.instanceMethod yX1_write ∈ TB := TB_mem 543 rfl rfl
set_option maxRecDepth 100000 in
theorem se_yX1_write : Cond.selects RX1 yX1_write yX1_write ∈ TB := TB_mem 544 rfl rfl
set_option maxRecDepth 100000 in
theorem cd_yX1_write : Cond.code yX1_write cX1_write 3 (some .boolean) ∈ TB := TB_mem 545 rfl rfl
set_option maxRecDepth 100000 in
theorem ml_X4_231 : Cond.methodLink RX4 231 yX0_finish ∈ TB := TB_mem 546 rfl rfl
set_option maxRecDepth 100000 in
theorem im_yX0_finish : Cond.instanceMethod yX0_finish ∈ TB := TB_mem 547 rfl rfl
set_option maxRecDepth 100000 in
theorem se_yX0_finish : Cond.selects RX0 yX0_finish yX0_finish ∈ TB := TB_mem 548 rfl rfl
set_option maxRecDepth 100000 in
theorem cd_yX0_finish : Cond.code yX0_finish cX0_finish 1 (some .boolean) ∈ TB := TB_mem 549 rfl rfl
set_option maxRecDepth 100000 in
theorem ml_X0_42 : Cond.methodLink RX0 42 yX0_settle ∈ TB := TB_mem 550 rfl rfl
set_option maxRecDepth 100000 in
theorem im_yX0_settle : Cond.instanceMethod yX0_settle ∈ TB := TB_mem 551 rfl rfl
set_option maxRecDepth 100000 in
theorem se_yX0_settle : Cond.selects RX0 yX0_settle yX0_settle ∈ TB := TB_mem 552 rfl rfl
set_option maxRecDepth 100000 in
theorem cd_yX0_settle : Cond.code yX0_settle cX0_settle 3 (some .boolean) ∈ TB := TB_mem 553 rfl rfl
set_option maxRecDepth 100000 in
theorem ml_X0_46 : Cond.methodLink RX0 46 yX1_at ∈ TB := TB_mem 554 rfl rfl
set_option maxRecDepth 100000 in
theorem ml_X0_50 : Cond.methodLink RX0 50 yX1_read ∈ TB := TB_mem 555 rfl rfl
set_option maxRecDepth 100000 in
theorem im_yX1_read : Cond.instanceMethod yX1_read ∈ TB := TB_mem 556 rfl rfl
set_option maxRecDepth 100000 in
theorem se_yX1_read : Cond.selects RX1 yX1_read yX1_read ∈ TB := TB_mem 557 rfl rfl
set_option maxRecDepth 100000 in
theorem cd_yX1_read : Cond.code yX1_read cX1_read 3 none ∈ TB := TB_mem 558 rfl rfl
set_option maxRecDepth 100000 in
theorem ml_X4_186 : Cond.methodLink RX4 186 yX4_split ∈ TB := TB_mem 559 rfl rfl
set_option maxRecDepth 100000 in
theorem im_yX4_split : Cond.instanceMethod yX4_split ∈ TB := TB_mem 561 rfl rfl
set_option maxRecDepth 100000 in
theorem cd_yX4_split : Cond.code yX4_split cX4_split 9 (some .int) ∈ TB := TB_mem 562 rfl rfl
set_option maxRecDepth 100000 in
theorem ml_X4_234 : Cond.methodLink RX4 234 yX1_indexOf ∈ TB := TB_mem 563 rfl rfl
set_option maxRecDepth 100000 in
theorem ml_X4_237 : Cond.methodLink RX4 237 yX4_directoryPagesOf ∈ TB := TB_mem 564 rfl rfl
set_option maxRecDepth 100000 in
theorem sm_yX4_directoryPagesOf : Cond.static yX4_directoryPagesOf ∈ TB := TB_mem 565 rfl rfl
set_option maxRecDepth 100000 in
theorem cd_yX4_directoryPagesOf : Cond.code yX4_directoryPagesOf cX4_directoryPagesOf 2 (some .int) ∈ TB := TB_mem 566 rfl rfl
set_option maxRecDepth 100000 in
theorem ml_X4_240 : Cond.methodLink RX4 240 yX4_buildHalf ∈ TB := TB_mem 567 rfl rfl
set_option maxRecDepth 100000 in
theorem im_yX4_buildHalf : Cond.instanceMethod yX4_buildHalf ∈ TB := TB_mem 569 rfl rfl
set_option maxRecDepth 100000 in
theorem cd_yX4_buildHalf : Cond.code yX4_buildHalf cX4_buildHalf 8 none ∈ TB := TB_mem 570 rfl rfl
set_option maxRecDepth 100000 in
theorem ml_X4_196 : Cond.methodLink RX4 196 yX2_startBucket ∈ TB := TB_mem 571 rfl rfl
set_option maxRecDepth 100000 in
theorem im_yX2_startBucket : Cond.instanceMethod yX2_startBucket ∈ TB := TB_mem 572 rfl rfl
set_option maxRecDepth 100000 in
theorem se_yX2_startBucket : Cond.selects RX2 yX2_startBucket yX2_startBucket ∈ TB := TB_mem 573 rfl rfl
set_option maxRecDepth 100000 in
theorem cd_yX2_startBucket : Cond.code yX2_startBucket cX2_startBucket 2 none ∈ TB := TB_mem 574 rfl rfl
set_option maxRecDepth 100000 in
theorem ml_X2_21 : Cond.methodLink RX2 21 yX2_clear ∈ TB := TB_mem 575 rfl rfl
set_option maxRecDepth 100000 in
theorem ml_X2_24 : Cond.methodLink RX2 24 yX2_set ∈ TB := TB_mem 576 rfl rfl
set_option maxRecDepth 100000 in
theorem ml_X4_247 : Cond.methodLink RX4 247 yX1_recordHash ∈ TB := TB_mem 577 rfl rfl
set_option maxRecDepth 100000 in
theorem ml_X4_202 : Cond.methodLink RX4 202 yX2_copyRecord ∈ TB := TB_mem 578 rfl rfl
set_option maxRecDepth 100000 in
theorem im_yX2_copyRecord : Cond.instanceMethod yX2_copyRecord ∈ TB := TB_mem 579 rfl rfl
set_option maxRecDepth 100000 in
theorem se_yX2_copyRecord : Cond.selects RX2 yX2_copyRecord yX2_copyRecord ∈ TB := TB_mem 580 rfl rfl
set_option maxRecDepth 100000 in
theorem cd_yX2_copyRecord : Cond.code yX2_copyRecord cX2_copyRecord 7 none ∈ TB := TB_mem 581 rfl rfl
set_option maxRecDepth 100000 in
theorem ml_X2_28 : Cond.methodLink RX2 28 yX1_recordSize ∈ TB := TB_mem 582 rfl rfl
set_option maxRecDepth 100000 in
theorem ml_X2_34 : Cond.methodLink RX2 34 yX2_countRecord ∈ TB := TB_mem 583 rfl rfl
set_option maxRecDepth 100000 in
theorem im_yX2_countRecord : Cond.instanceMethod yX2_countRecord ∈ TB := TB_mem 585 rfl rfl
set_option maxRecDepth 100000 in
theorem cd_yX2_countRecord : Cond.code yX2_countRecord cX2_countRecord 3 (some .int) ∈ TB := TB_mem 586 rfl rfl
set_option maxRecDepth 100000 in
theorem ml_X2_46 : Cond.methodLink RX2 46 yX2_byteAt ∈ TB := TB_mem 587 rfl rfl
set_option maxRecDepth 100000 in
theorem ml_X2_38 : Cond.methodLink RX2 38 yX1_at ∈ TB := TB_mem 588 rfl rfl
set_option maxRecDepth 100000 in
theorem ml_X4_244 : Cond.methodLink RX4 244 yX4_retell ∈ TB := TB_mem 589 rfl rfl
set_option maxRecDepth 100000 in
theorem im_yX4_retell : Cond.instanceMethod yX4_retell ∈ TB := TB_mem 591 rfl rfl
set_option maxRecDepth 100000 in
theorem cd_yX4_retell : Cond.code yX4_retell cX4_retell 9 (some .boolean) ∈ TB := TB_mem 592 rfl rfl
set_option maxRecDepth 100000 in
theorem ml_X4_250 : Cond.methodLink RX4 250 yX1_read ∈ TB := TB_mem 593 rfl rfl
set_option maxRecDepth 100000 in
theorem ml_X4_107 : Cond.methodLink RX4 107 yX4_storeRecord ∈ TB := TB_mem 594 rfl rfl
set_option maxRecDepth 100000 in
theorem im_yX4_storeRecord : Cond.instanceMethod yX4_storeRecord ∈ TB := TB_mem 596 rfl rfl
set_option maxRecDepth 100000 in
theorem cd_yX4_storeRecord : Cond.code yX4_storeRecord cX4_storeRecord 4 (some .int) ∈ TB := TB_mem 597 rfl rfl
set_option maxRecDepth 100000 in
theorem ml_X4_116 : Cond.methodLink RX4 116 yX4_buildWithout ∈ TB := TB_mem 598 rfl rfl
set_option maxRecDepth 100000 in
theorem im_yX4_buildWithout : Cond.instanceMethod yX4_buildWithout ∈ TB := TB_mem 600 rfl rfl
set_option maxRecDepth 100000 in
theorem cd_yX4_buildWithout : Cond.code yX4_buildWithout cX4_buildWithout 3 none ∈ TB := TB_mem 601 rfl rfl
set_option maxRecDepth 100000 in
theorem ml_X4_199 : Cond.methodLink RX4 199 yX4_addRecordsBut ∈ TB := TB_mem 602 rfl rfl
set_option maxRecDepth 100000 in
theorem im_yX4_addRecordsBut : Cond.instanceMethod yX4_addRecordsBut ∈ TB := TB_mem 604 rfl rfl
set_option maxRecDepth 100000 in
theorem cd_yX4_addRecordsBut : Cond.code yX4_addRecordsBut cX4_addRecordsBut 6 none ∈ TB := TB_mem 605 rfl rfl
set_option maxRecDepth 100000 in
theorem ml_X4_192 : Cond.methodLink RX4 192 yX2_addRecord ∈ TB := TB_mem 606 rfl rfl
set_option maxRecDepth 100000 in
theorem im_yX2_addRecord : Cond.instanceMethod yX2_addRecord ∈ TB := TB_mem 607 rfl rfl
set_option maxRecDepth 100000 in
theorem se_yX2_addRecord : Cond.selects RX2 yX2_addRecord yX2_addRecord ∈ TB := TB_mem 608 rfl rfl
set_option maxRecDepth 100000 in
theorem cd_yX2_addRecord : Cond.code yX2_addRecord cX2_addRecord 6 none ∈ TB := TB_mem 609 rfl rfl
set_option maxRecDepth 100000 in
theorem ml_X2_41 : Cond.methodLink RX2 41 yX3_byteAt ∈ TB := TB_mem 610 rfl rfl
set_option maxRecDepth 100000 in
theorem ml_X4_120 : Cond.methodLink RX4 120 yX1_write ∈ TB := TB_mem 611 rfl rfl
set_option maxRecDepth 100000 in
theorem ml_L_64 : Cond.methodLink RL 64 yL_remove ∈ TB := TB_mem 612 rfl rfl
set_option maxRecDepth 100000 in
theorem sm_yL_remove : Cond.static yL_remove ∈ TB := TB_mem 613 rfl rfl
set_option maxRecDepth 100000 in
theorem ml_L_27 : Cond.methodLink RL 27 yX4_remove ∈ TB := TB_mem 615 rfl rfl
set_option maxRecDepth 100000 in
theorem im_yX4_remove : Cond.instanceMethod yX4_remove ∈ TB := TB_mem 616 rfl rfl
set_option maxRecDepth 100000 in
theorem se_yX4_remove : Cond.selects RX4 yX4_remove yX4_remove ∈ TB := TB_mem 617 rfl rfl
set_option maxRecDepth 100000 in
theorem cd_yX4_remove : Cond.code yX4_remove cX4_remove 6 (some .int) ∈ TB := TB_mem 618 rfl rfl
set_option maxRecDepth 100000 in
theorem ml_X4_124 : Cond.methodLink RX4 124 yX4_mergeAll ∈ TB := TB_mem 620 rfl rfl
set_option maxRecDepth 100000 in
theorem im_yX4_mergeAll : Cond.instanceMethod yX4_mergeAll ∈ TB := TB_mem 622 rfl rfl
set_option maxRecDepth 100000 in
theorem cd_yX4_mergeAll : Cond.code yX4_mergeAll cX4_mergeAll 5 (some .int) ∈ TB := TB_mem 623 rfl rfl
set_option maxRecDepth 100000 in
theorem ml_X4_254 : Cond.methodLink RX4 254 yX4_mergePartner ∈ TB := TB_mem 624 rfl rfl
set_option maxRecDepth 100000 in
theorem im_yX4_mergePartner : Cond.instanceMethod yX4_mergePartner ∈ TB := TB_mem 626 rfl rfl
set_option maxRecDepth 100000 in
theorem cd_yX4_mergePartner : Cond.code yX4_mergePartner cX4_mergePartner 5 (some .int) ∈ TB := TB_mem 627 rfl rfl
set_option maxRecDepth 100000 in
theorem ml_X4_257 : Cond.methodLink RX4 257 yX4_merge ∈ TB := TB_mem 628 rfl rfl
set_option maxRecDepth 100000 in
theorem im_yX4_merge : Cond.instanceMethod yX4_merge ∈ TB := TB_mem 630 rfl rfl
set_option maxRecDepth 100000 in
theorem cd_yX4_merge : Cond.code yX4_merge cX4_merge 11 (some .int) ∈ TB := TB_mem 631 rfl rfl
set_option maxRecDepth 100000 in
theorem ml_X4_127 : Cond.methodLink RX4 127 yX4_halveAll ∈ TB := TB_mem 632 rfl rfl
set_option maxRecDepth 100000 in
theorem im_yX4_halveAll : Cond.instanceMethod yX4_halveAll ∈ TB := TB_mem 634 rfl rfl
set_option maxRecDepth 100000 in
theorem cd_yX4_halveAll : Cond.code yX4_halveAll cX4_halveAll 4 (some .int) ∈ TB := TB_mem 635 rfl rfl
set_option maxRecDepth 100000 in
theorem ml_X4_260 : Cond.methodLink RX4 260 yX1_hasBucketOfDepth ∈ TB := TB_mem 636 rfl rfl
set_option maxRecDepth 100000 in
theorem im_yX1_hasBucketOfDepth : Cond.instanceMethod yX1_hasBucketOfDepth ∈ TB := TB_mem 637 rfl rfl
set_option maxRecDepth 100000 in
theorem se_yX1_hasBucketOfDepth : Cond.selects RX1 yX1_hasBucketOfDepth yX1_hasBucketOfDepth ∈ TB := TB_mem 638 rfl rfl
set_option maxRecDepth 100000 in
theorem cd_yX1_hasBucketOfDepth : Cond.code yX1_hasBucketOfDepth cX1_hasBucketOfDepth 3 (some .boolean) ∈ TB := TB_mem 639 rfl rfl
set_option maxRecDepth 100000 in
theorem ml_L_68 : Cond.methodLink RL 68 yL_get ∈ TB := TB_mem 640 rfl rfl
set_option maxRecDepth 100000 in
theorem sm_yL_get : Cond.static yL_get ∈ TB := TB_mem 641 rfl rfl
set_option maxRecDepth 100000 in
theorem ml_L_31 : Cond.methodLink RL 31 yX4_get ∈ TB := TB_mem 643 rfl rfl
set_option maxRecDepth 100000 in
theorem im_yX4_get : Cond.instanceMethod yX4_get ∈ TB := TB_mem 644 rfl rfl
set_option maxRecDepth 100000 in
theorem se_yX4_get : Cond.selects RX4 yX4_get yX4_get ∈ TB := TB_mem 645 rfl rfl
set_option maxRecDepth 100000 in
theorem cd_yX4_get : Cond.code yX4_get cX4_get 6 (some .int) ∈ TB := TB_mem 646 rfl rfl
set_option maxRecDepth 100000 in
theorem ml_L_75 : Cond.methodLink RL 75 yL_power ∈ TB := TB_mem 647 rfl rfl
set_option maxRecDepth 100000 in
theorem sm_yL_power : Cond.static yL_power ∈ TB := TB_mem 648 rfl rfl
set_option maxRecDepth 100000 in
theorem ml_L_34 : Cond.methodLink RL 34 yX4_power ∈ TB := TB_mem 650 rfl rfl
set_option maxRecDepth 100000 in
theorem im_yX4_power : Cond.instanceMethod yX4_power ∈ TB := TB_mem 651 rfl rfl
set_option maxRecDepth 100000 in
theorem se_yX4_power : Cond.selects RX4 yX4_power yX4_power ∈ TB := TB_mem 652 rfl rfl
set_option maxRecDepth 100000 in
theorem cd_yX4_power : Cond.code yX4_power cX4_power 2 none ∈ TB := TB_mem 653 rfl rfl
set_option maxRecDepth 100000 in
theorem ml_X4_136 : Cond.methodLink RX4 136 yX1_allow ∈ TB := TB_mem 655 rfl rfl
set_option maxRecDepth 100000 in
theorem ml_L_79 : Cond.methodLink RL 79 yL_recover ∈ TB := TB_mem 656 rfl rfl
set_option maxRecDepth 100000 in
theorem sm_yL_recover : Cond.static yL_recover ∈ TB := TB_mem 657 rfl rfl
set_option maxRecDepth 100000 in
theorem ml_L_38 : Cond.methodLink RL 38 yX4_recover ∈ TB := TB_mem 659 rfl rfl
set_option maxRecDepth 100000 in
theorem im_yX4_recover : Cond.instanceMethod yX4_recover ∈ TB := TB_mem 660 rfl rfl
set_option maxRecDepth 100000 in
theorem se_yX4_recover : Cond.selects RX4 yX4_recover yX4_recover ∈ TB := TB_mem 661 rfl rfl
set_option maxRecDepth 100000 in
theorem cd_yX4_recover : Cond.code yX4_recover cX4_recover 2 (some .int) ∈ TB := TB_mem 662 rfl rfl
set_option maxRecDepth 100000 in
theorem ml_X4_139 : Cond.methodLink RX4 139 yX0_settle ∈ TB := TB_mem 663 rfl rfl
set_option maxRecDepth 100000 in
theorem ml_L_51 : Cond.methodLink RL 51 yX5_thrown ∈ TB := TB_mem 664 rfl rfl
set_option maxRecDepth 100000 in
theorem im_yX5_thrown : Cond.instanceMethod yX5_thrown ∈ TB := TB_mem 665 rfl rfl
set_option maxRecDepth 100000 in
theorem se_yX5_thrown : Cond.selects RX5 yX5_thrown yX5_thrown ∈ TB := TB_mem 666 rfl rfl
set_option maxRecDepth 100000 in
theorem cd_yX5_thrown : Cond.code yX5_thrown cX5_thrown 1 (some .int) ∈ TB := TB_mem 667 rfl rfl
set_option maxRecDepth 100000 in
theorem cl_L_42 : Cond.classLink RL 42 RX5 ∈ TB := TB_mem 668 rfl rfl
set_option maxRecDepth 100000 in
theorem ia_X5 : Cond.instantiable RX5 26 ∈ TB := TB_mem 669 rfl rfl
set_option maxRecDepth 100000 in
theorem ml_L_44 : Cond.methodLink RL 44 yX5_init ∈ TB := TB_mem 670 rfl rfl
set_option maxRecDepth 100000 in
theorem im_yX5_init : Cond.instanceMethod yX5_init ∈ TB := TB_mem 671 rfl rfl
set_option maxRecDepth 100000 in
theorem cd_yX5_init : Cond.code yX5_init cX5_init 1 none ∈ TB := TB_mem 672 rfl rfl
set_option maxRecDepth 100000 in
theorem ml_X5_7 : Cond.methodLink RX5 7 objectInit ∈ TB := TB_mem 673 rfl rfl
set_option maxRecDepth 100000 in
theorem co_X5_13 : Cond.constant RX5 13 (Int32.ofInt 65536) ∈ TB := TB_mem 674 rfl rfl
set_option maxRecDepth 100000 in
theorem co_X5_44 : Cond.constant RX5 44 (Int32.ofInt 46080) ∈ TB := TB_mem 675 rfl rfl
set_option maxRecDepth 100000 in
theorem co_X5_49 : Cond.constant RX5 49 (Int32.ofInt 92160) ∈ TB := TB_mem 676 rfl rfl
set_option maxRecDepth 100000 in
theorem ml_X5_65 : Cond.methodLink RX5 65 yX5_anew ∈ TB := TB_mem 677 rfl rfl
set_option maxRecDepth 100000 in
theorem im_yX5_anew : Cond.instanceMethod yX5_anew ∈ TB := TB_mem 679 rfl rfl
set_option maxRecDepth 100000 in
theorem cd_yX5_anew : Cond.code yX5_anew cX5_anew 4 none ∈ TB := TB_mem 680 rfl rfl
set_option maxRecDepth 100000 in
theorem ml_X5_88 : Cond.methodLink RX5 88 yX5_decode ∈ TB := TB_mem 681 rfl rfl
set_option maxRecDepth 100000 in
theorem im_yX5_decode : Cond.instanceMethod yX5_decode ∈ TB := TB_mem 683 rfl rfl
set_option maxRecDepth 100000 in
theorem cd_yX5_decode : Cond.code yX5_decode cX5_decode 4 none ∈ TB := TB_mem 684 rfl rfl
set_option maxRecDepth 100000 in
theorem ml_X5_91 : Cond.methodLink RX5 91 yX5_at ∈ TB := TB_mem 685 rfl rfl
set_option maxRecDepth 100000 in
theorem im_yX5_at : Cond.instanceMethod yX5_at ∈ TB := TB_mem 687 rfl rfl
set_option maxRecDepth 100000 in
theorem cd_yX5_at : Cond.code yX5_at cX5_at 3 (some .int) ∈ TB := TB_mem 688 rfl rfl
set_option maxRecDepth 100000 in
theorem ml_X5_101 : Cond.methodLink RX5 101 yX5_isDirectory ∈ TB := TB_mem 689 rfl rfl
set_option maxRecDepth 100000 in
theorem im_yX5_isDirectory : Cond.instanceMethod yX5_isDirectory ∈ TB := TB_mem 691 rfl rfl
set_option maxRecDepth 100000 in
theorem cd_yX5_isDirectory : Cond.code yX5_isDirectory cX5_isDirectory 3 (some .boolean) ∈ TB := TB_mem 692 rfl rfl
set_option maxRecDepth 100000 in
theorem ml_X5_105 : Cond.methodLink RX5 105 yX5_bucket ∈ TB := TB_mem 693 rfl rfl
set_option maxRecDepth 100000 in
theorem im_yX5_bucket : Cond.instanceMethod yX5_bucket ∈ TB := TB_mem 695 rfl rfl
set_option maxRecDepth 100000 in
theorem cd_yX5_bucket : Cond.code yX5_bucket cX5_bucket 6 none ∈ TB := TB_mem 696 rfl rfl
set_option maxRecDepth 100000 in
theorem fl_X5_1 : Cond.fieldLink RX5 1 "HashPagesModel" "thrown" "I" ∈ TB := TB_mem 697 rfl rfl
set_option maxRecDepth 100000 in
theorem fl_X5_14 : Cond.fieldLink RX5 14 "HashPagesModel" "disk" "[B" ∈ TB := TB_mem 698 rfl rfl
set_option maxRecDepth 100000 in
theorem fl_X5_69 : Cond.fieldLink RX5 69 "HashPagesModel" "pages" "I" ∈ TB := TB_mem 699 rfl rfl
set_option maxRecDepth 100000 in
theorem fl_X5_72 : Cond.fieldLink RX5 72 "HashPagesModel" "log" "I" ∈ TB := TB_mem 700 rfl rfl
set_option maxRecDepth 100000 in
theorem fl_X5_75 : Cond.fieldLink RX5 75 "HashPagesModel" "written" "I" ∈ TB := TB_mem 701 rfl rfl
set_option maxRecDepth 100000 in
theorem fl_X5_78 : Cond.fieldLink RX5 78 "HashPagesModel" "power" "I" ∈ TB := TB_mem 702 rfl rfl
set_option maxRecDepth 100000 in
theorem fl_X5_81 : Cond.fieldLink RX5 81 "HashPagesModel" "down" "Z" ∈ TB := TB_mem 703 rfl rfl
set_option maxRecDepth 100000 in
theorem fl_X5_95 : Cond.fieldLink RX5 95 "HashPagesModel" "depth" "I" ∈ TB := TB_mem 704 rfl rfl
set_option maxRecDepth 100000 in
theorem fl_X5_98 : Cond.fieldLink RX5 98 "HashPagesModel" "dirMany" "I" ∈ TB := TB_mem 705 rfl rfl
set_option maxRecDepth 100000 in
theorem fl_X5_18 : Cond.fieldLink RX5 18 "HashPagesModel" "dir" "[I" ∈ TB := TB_mem 706 rfl rfl
set_option maxRecDepth 100000 in
theorem fl_X5_22 : Cond.fieldLink RX5 22 "HashPagesModel" "entries" "[I" ∈ TB := TB_mem 707 rfl rfl
set_option maxRecDepth 100000 in
theorem fl_X5_25 : Cond.fieldLink RX5 25 "HashPagesModel" "other" "[I" ∈ TB := TB_mem 708 rfl rfl
set_option maxRecDepth 100000 in
theorem fl_X5_28 : Cond.fieldLink RX5 28 "HashPagesModel" "isBucket" "[Z" ∈ TB := TB_mem 709 rfl rfl
set_option maxRecDepth 100000 in
theorem fl_X5_32 : Cond.fieldLink RX5 32 "HashPagesModel" "bucketDepth" "[I" ∈ TB := TB_mem 710 rfl rfl
set_option maxRecDepth 100000 in
theorem fl_X5_35 : Cond.fieldLink RX5 35 "HashPagesModel" "many" "[I" ∈ TB := TB_mem 711 rfl rfl
set_option maxRecDepth 100000 in
theorem fl_X5_38 : Cond.fieldLink RX5 38 "HashPagesModel" "keySize" "[I" ∈ TB := TB_mem 712 rfl rfl
set_option maxRecDepth 100000 in
theorem fl_X5_41 : Cond.fieldLink RX5 41 "HashPagesModel" "valueSize" "[I" ∈ TB := TB_mem 713 rfl rfl
set_option maxRecDepth 100000 in
theorem fl_X5_45 : Cond.fieldLink RX5 45 "HashPagesModel" "keys" "[J" ∈ TB := TB_mem 714 rfl rfl
set_option maxRecDepth 100000 in
theorem fl_X5_50 : Cond.fieldLink RX5 50 "HashPagesModel" "values" "[J" ∈ TB := TB_mem 715 rfl rfl
set_option maxRecDepth 100000 in
theorem fl_X5_53 : Cond.fieldLink RX5 53 "HashPagesModel" "tape" "[B" ∈ TB := TB_mem 716 rfl rfl
set_option maxRecDepth 100000 in
theorem fl_X5_172 : Cond.fieldLink RX5 172 "HashPagesModel" "taped" "I" ∈ TB := TB_mem 717 rfl rfl
set_option maxRecDepth 100000 in
theorem fl_X5_56 : Cond.fieldLink RX5 56 "HashPagesModel" "answer" "[B" ∈ TB := TB_mem 718 rfl rfl
set_option maxRecDepth 100000 in
theorem fl_X5_85 : Cond.fieldLink RX5 85 "HashPagesModel" "answered" "I" ∈ TB := TB_mem 719 rfl rfl
set_option maxRecDepth 100000 in
theorem fl_X5_59 : Cond.fieldLink RX5 59 "HashPagesModel" "out" "[I" ∈ TB := TB_mem 720 rfl rfl
set_option maxRecDepth 100000 in
theorem fl_X5_62 : Cond.fieldLink RX5 62 "HashPagesModel" "change" "[I" ∈ TB := TB_mem 721 rfl rfl
set_option maxRecDepth 100000 in
theorem fl_X5_124 : Cond.fieldLink RX5 124 "HashPagesModel" "changes" "I" ∈ TB := TB_mem 722 rfl rfl
set_option maxRecDepth 100000 in
theorem ac_boolean : Cond.arrayClass .boolean ∈ TB := TB_mem 776 rfl rfl
set_option maxRecDepth 100000 in
theorem ac_long : Cond.arrayClass .long ∈ TB := TB_mem 777 rfl rfl
set_option maxRecDepth 100000 in
theorem ml_L_50 : Cond.methodLink RL 50 yX5_format ∈ TB := TB_mem 778 rfl rfl
set_option maxRecDepth 100000 in
theorem im_yX5_format : Cond.instanceMethod yX5_format ∈ TB := TB_mem 779 rfl rfl
set_option maxRecDepth 100000 in
theorem se_yX5_format : Cond.selects RX5 yX5_format yX5_format ∈ TB := TB_mem 780 rfl rfl
set_option maxRecDepth 100000 in
theorem cd_yX5_format : Cond.code yX5_format cX5_format 3 none ∈ TB := TB_mem 781 rfl rfl
set_option maxRecDepth 100000 in
theorem ml_L_63 : Cond.methodLink RL 63 yX5_put ∈ TB := TB_mem 782 rfl rfl
set_option maxRecDepth 100000 in
theorem im_yX5_put : Cond.instanceMethod yX5_put ∈ TB := TB_mem 783 rfl rfl
set_option maxRecDepth 100000 in
theorem se_yX5_put : Cond.selects RX5 yX5_put yX5_put ∈ TB := TB_mem 784 rfl rfl
set_option maxRecDepth 100000 in
theorem cd_yX5_put : Cond.code yX5_put cX5_put 8 (some .int) ∈ TB := TB_mem 785 rfl rfl
set_option maxRecDepth 100000 in
theorem ml_X5_175 : Cond.methodLink RX5 175 yX5_throwing ∈ TB := TB_mem 786 rfl rfl
set_option maxRecDepth 100000 in
theorem im_yX5_throwing : Cond.instanceMethod yX5_throwing ∈ TB := TB_mem 788 rfl rfl
set_option maxRecDepth 100000 in
theorem cd_yX5_throwing : Cond.code yX5_throwing cX5_throwing 2 (some .int) ∈ TB := TB_mem 789 rfl rfl
set_option maxRecDepth 100000 in
theorem ml_X5_140 : Cond.methodLink RX5 140 yX5_tapeHash ∈ TB := TB_mem 790 rfl rfl
set_option maxRecDepth 100000 in
theorem im_yX5_tapeHash : Cond.instanceMethod yX5_tapeHash ∈ TB := TB_mem 792 rfl rfl
set_option maxRecDepth 100000 in
theorem cd_yX5_tapeHash : Cond.code yX5_tapeHash cX5_tapeHash 4 (some .int) ∈ TB := TB_mem 793 rfl rfl
set_option maxRecDepth 100000 in
theorem co_X5_109 : Cond.constant RX5 109 (Int32.ofInt 40503) ∈ TB := TB_mem 794 rfl rfl
set_option maxRecDepth 100000 in
theorem ml_X5_114 : Cond.methodLink RX5 114 yX5_step ∈ TB := TB_mem 795 rfl rfl
set_option maxRecDepth 100000 in
theorem sm_yX5_step : Cond.static yX5_step ∈ TB := TB_mem 796 rfl rfl
set_option maxRecDepth 100000 in
theorem cd_yX5_step : Cond.code yX5_step cX5_step 3 (some .int) ∈ TB := TB_mem 797 rfl rfl
set_option maxRecDepth 100000 in
theorem co_X5_110 : Cond.constant RX5 110 (Int32.ofInt 65535) ∈ TB := TB_mem 798 rfl rfl
set_option maxRecDepth 100000 in
theorem ml_X5_178 : Cond.methodLink RX5 178 yX5_bucketOf ∈ TB := TB_mem 799 rfl rfl
set_option maxRecDepth 100000 in
theorem im_yX5_bucketOf : Cond.instanceMethod yX5_bucketOf ∈ TB := TB_mem 801 rfl rfl
set_option maxRecDepth 100000 in
theorem cd_yX5_bucketOf : Cond.code yX5_bucketOf cX5_bucketOf 2 (some .int) ∈ TB := TB_mem 802 rfl rfl
set_option maxRecDepth 100000 in
theorem ml_X5_143 : Cond.methodLink RX5 143 yX5_first ∈ TB := TB_mem 803 rfl rfl
set_option maxRecDepth 100000 in
theorem sm_yX5_first : Cond.static yX5_first ∈ TB := TB_mem 804 rfl rfl
set_option maxRecDepth 100000 in
theorem cd_yX5_first : Cond.code yX5_first cX5_first 2 (some .int) ∈ TB := TB_mem 805 rfl rfl
set_option maxRecDepth 100000 in
theorem ml_X5_181 : Cond.methodLink RX5 181 yX5_filled ∈ TB := TB_mem 806 rfl rfl
set_option maxRecDepth 100000 in
theorem im_yX5_filled : Cond.instanceMethod yX5_filled ∈ TB := TB_mem 808 rfl rfl
set_option maxRecDepth 100000 in
theorem cd_yX5_filled : Cond.code yX5_filled cX5_filled 6 (some .int) ∈ TB := TB_mem 809 rfl rfl
set_option maxRecDepth 100000 in
theorem ml_X5_169 : Cond.methodLink RX5 169 yX5_find ∈ TB := TB_mem 810 rfl rfl
set_option maxRecDepth 100000 in
theorem im_yX5_find : Cond.instanceMethod yX5_find ∈ TB := TB_mem 812 rfl rfl
set_option maxRecDepth 100000 in
theorem cd_yX5_find : Cond.code yX5_find cX5_find 4 (some .int) ∈ TB := TB_mem 813 rfl rfl
set_option maxRecDepth 100000 in
theorem ml_X5_146 : Cond.methodLink RX5 146 yX5_isKey ∈ TB := TB_mem 814 rfl rfl
set_option maxRecDepth 100000 in
theorem im_yX5_isKey : Cond.instanceMethod yX5_isKey ∈ TB := TB_mem 816 rfl rfl
set_option maxRecDepth 100000 in
theorem cd_yX5_isKey : Cond.code yX5_isKey cX5_isKey 5 (some .boolean) ∈ TB := TB_mem 817 rfl rfl
set_option maxRecDepth 100000 in
theorem ml_X5_111 : Cond.methodLink RX5 111 yX5_keyByte ∈ TB := TB_mem 818 rfl rfl
set_option maxRecDepth 100000 in
theorem im_yX5_keyByte : Cond.instanceMethod yX5_keyByte ∈ TB := TB_mem 820 rfl rfl
set_option maxRecDepth 100000 in
theorem cd_yX5_keyByte : Cond.code yX5_keyByte cX5_keyByte 3 (some .int) ∈ TB := TB_mem 821 rfl rfl
set_option maxRecDepth 100000 in
theorem ml_X5_117 : Cond.methodLink RX5 117 yX5_bytesOf ∈ TB := TB_mem 822 rfl rfl
set_option maxRecDepth 100000 in
theorem im_yX5_bytesOf : Cond.instanceMethod yX5_bytesOf ∈ TB := TB_mem 824 rfl rfl
set_option maxRecDepth 100000 in
theorem cd_yX5_bytesOf : Cond.code yX5_bytesOf cX5_bytesOf 4 (some .int) ∈ TB := TB_mem 825 rfl rfl
set_option maxRecDepth 100000 in
theorem ml_X5_185 : Cond.methodLink RX5 185 yX5_isAlike ∈ TB := TB_mem 826 rfl rfl
set_option maxRecDepth 100000 in
theorem im_yX5_isAlike : Cond.instanceMethod yX5_isAlike ∈ TB := TB_mem 828 rfl rfl
set_option maxRecDepth 100000 in
theorem cd_yX5_isAlike : Cond.code yX5_isAlike cX5_isAlike 5 (some .boolean) ∈ TB := TB_mem 829 rfl rfl
set_option maxRecDepth 100000 in
theorem ml_X5_163 : Cond.methodLink RX5 163 yX5_hashOf ∈ TB := TB_mem 830 rfl rfl
set_option maxRecDepth 100000 in
theorem im_yX5_hashOf : Cond.instanceMethod yX5_hashOf ∈ TB := TB_mem 832 rfl rfl
set_option maxRecDepth 100000 in
theorem cd_yX5_hashOf : Cond.code yX5_hashOf cX5_hashOf 4 (some .int) ∈ TB := TB_mem 833 rfl rfl
set_option maxRecDepth 100000 in
theorem ml_X5_188 : Cond.methodLink RX5 188 yX5_doubles ∈ TB := TB_mem 834 rfl rfl
set_option maxRecDepth 100000 in
theorem im_yX5_doubles : Cond.instanceMethod yX5_doubles ∈ TB := TB_mem 836 rfl rfl
set_option maxRecDepth 100000 in
theorem cd_yX5_doubles : Cond.code yX5_doubles cX5_doubles 5 (some .int) ∈ TB := TB_mem 837 rfl rfl
set_option maxRecDepth 100000 in
theorem ml_X5_153 : Cond.methodLink RX5 153 yX5_free ∈ TB := TB_mem 838 rfl rfl
set_option maxRecDepth 100000 in
theorem im_yX5_free : Cond.instanceMethod yX5_free ∈ TB := TB_mem 840 rfl rfl
set_option maxRecDepth 100000 in
theorem cd_yX5_free : Cond.code yX5_free cX5_free 3 (some .int) ∈ TB := TB_mem 841 rfl rfl
set_option maxRecDepth 100000 in
theorem ml_X5_156 : Cond.methodLink RX5 156 yX5_changed ∈ TB := TB_mem 842 rfl rfl
set_option maxRecDepth 100000 in
theorem im_yX5_changed : Cond.instanceMethod yX5_changed ∈ TB := TB_mem 844 rfl rfl
set_option maxRecDepth 100000 in
theorem cd_yX5_changed : Cond.code yX5_changed cX5_changed 1 (some .int) ∈ TB := TB_mem 845 rfl rfl
set_option maxRecDepth 100000 in
theorem ml_X5_136 : Cond.methodLink RX5 136 yX5_allWritten ∈ TB := TB_mem 846 rfl rfl
set_option maxRecDepth 100000 in
theorem im_yX5_allWritten : Cond.instanceMethod yX5_allWritten ∈ TB := TB_mem 848 rfl rfl
set_option maxRecDepth 100000 in
theorem cd_yX5_allWritten : Cond.code yX5_allWritten cX5_allWritten 2 (some .boolean) ∈ TB := TB_mem 849 rfl rfl
set_option maxRecDepth 100000 in
theorem ml_X5_127 : Cond.methodLink RX5 127 yX5_render ∈ TB := TB_mem 850 rfl rfl
set_option maxRecDepth 100000 in
theorem im_yX5_render : Cond.instanceMethod yX5_render ∈ TB := TB_mem 852 rfl rfl
set_option maxRecDepth 100000 in
theorem cd_yX5_render : Cond.code yX5_render cX5_render 7 none ∈ TB := TB_mem 853 rfl rfl
set_option maxRecDepth 100000 in
theorem ml_X5_121 : Cond.methodLink RX5 121 yX5_valueByte ∈ TB := TB_mem 854 rfl rfl
set_option maxRecDepth 100000 in
theorem im_yX5_valueByte : Cond.instanceMethod yX5_valueByte ∈ TB := TB_mem 856 rfl rfl
set_option maxRecDepth 100000 in
theorem cd_yX5_valueByte : Cond.code yX5_valueByte cX5_valueByte 3 (some .int) ∈ TB := TB_mem 857 rfl rfl
set_option maxRecDepth 100000 in
theorem ml_X5_130 : Cond.methodLink RX5 130 yX5_writes ∈ TB := TB_mem 858 rfl rfl
set_option maxRecDepth 100000 in
theorem im_yX5_writes : Cond.instanceMethod yX5_writes ∈ TB := TB_mem 860 rfl rfl
set_option maxRecDepth 100000 in
theorem cd_yX5_writes : Cond.code yX5_writes cX5_writes 3 (some .boolean) ∈ TB := TB_mem 861 rfl rfl
set_option maxRecDepth 100000 in
theorem ml_X5_133 : Cond.methodLink RX5 133 yX5_journal ∈ TB := TB_mem 862 rfl rfl
set_option maxRecDepth 100000 in
theorem im_yX5_journal : Cond.instanceMethod yX5_journal ∈ TB := TB_mem 864 rfl rfl
set_option maxRecDepth 100000 in
theorem cd_yX5_journal : Cond.code yX5_journal cX5_journal 3 none ∈ TB := TB_mem 865 rfl rfl
set_option maxRecDepth 100000 in
theorem ml_X5_191 : Cond.methodLink RX5 191 yX5_splits ∈ TB := TB_mem 866 rfl rfl
set_option maxRecDepth 100000 in
theorem im_yX5_splits : Cond.instanceMethod yX5_splits ∈ TB := TB_mem 868 rfl rfl
set_option maxRecDepth 100000 in
theorem cd_yX5_splits : Cond.code yX5_splits cX5_splits 6 (some .int) ∈ TB := TB_mem 869 rfl rfl
set_option maxRecDepth 100000 in
theorem ml_X5_160 : Cond.methodLink RX5 160 yX5_unlike ∈ TB := TB_mem 870 rfl rfl
set_option maxRecDepth 100000 in
theorem im_yX5_unlike : Cond.instanceMethod yX5_unlike ∈ TB := TB_mem 872 rfl rfl
set_option maxRecDepth 100000 in
theorem cd_yX5_unlike : Cond.code yX5_unlike cX5_unlike 6 (some .int) ∈ TB := TB_mem 873 rfl rfl
set_option maxRecDepth 100000 in
theorem ml_X5_150 : Cond.methodLink RX5 150 yX5_copyRecord ∈ TB := TB_mem 874 rfl rfl
set_option maxRecDepth 100000 in
theorem im_yX5_copyRecord : Cond.instanceMethod yX5_copyRecord ∈ TB := TB_mem 876 rfl rfl
set_option maxRecDepth 100000 in
theorem cd_yX5_copyRecord : Cond.code yX5_copyRecord cX5_copyRecord 4 none ∈ TB := TB_mem 877 rfl rfl
set_option maxRecDepth 100000 in
theorem ml_X5_166 : Cond.methodLink RX5 166 yX5_drop ∈ TB := TB_mem 878 rfl rfl
set_option maxRecDepth 100000 in
theorem im_yX5_drop : Cond.instanceMethod yX5_drop ∈ TB := TB_mem 880 rfl rfl
set_option maxRecDepth 100000 in
theorem cd_yX5_drop : Cond.code yX5_drop cX5_drop 4 none ∈ TB := TB_mem 881 rfl rfl
set_option maxRecDepth 100000 in
theorem ml_X5_196 : Cond.methodLink RX5 196 yX5_wroteBucket ∈ TB := TB_mem 883 rfl rfl
set_option maxRecDepth 100000 in
theorem im_yX5_wroteBucket : Cond.instanceMethod yX5_wroteBucket ∈ TB := TB_mem 885 rfl rfl
set_option maxRecDepth 100000 in
theorem cd_yX5_wroteBucket : Cond.code yX5_wroteBucket cX5_wroteBucket 2 (some .int) ∈ TB := TB_mem 886 rfl rfl
set_option maxRecDepth 100000 in
theorem ml_L_67 : Cond.methodLink RL 67 yX5_remove ∈ TB := TB_mem 887 rfl rfl
set_option maxRecDepth 100000 in
theorem im_yX5_remove : Cond.instanceMethod yX5_remove ∈ TB := TB_mem 888 rfl rfl
set_option maxRecDepth 100000 in
theorem se_yX5_remove : Cond.selects RX5 yX5_remove yX5_remove ∈ TB := TB_mem 889 rfl rfl
set_option maxRecDepth 100000 in
theorem cd_yX5_remove : Cond.code yX5_remove cX5_remove 6 (some .int) ∈ TB := TB_mem 890 rfl rfl
set_option maxRecDepth 100000 in
theorem ml_X5_202 : Cond.methodLink RX5 202 yX5_merges ∈ TB := TB_mem 891 rfl rfl
set_option maxRecDepth 100000 in
theorem im_yX5_merges : Cond.instanceMethod yX5_merges ∈ TB := TB_mem 893 rfl rfl
set_option maxRecDepth 100000 in
theorem cd_yX5_merges : Cond.code yX5_merges cX5_merges 9 (some .int) ∈ TB := TB_mem 894 rfl rfl
set_option maxRecDepth 100000 in
theorem ml_X5_199 : Cond.methodLink RX5 199 yX5_buddy ∈ TB := TB_mem 895 rfl rfl
set_option maxRecDepth 100000 in
theorem im_yX5_buddy : Cond.instanceMethod yX5_buddy ∈ TB := TB_mem 897 rfl rfl
set_option maxRecDepth 100000 in
theorem cd_yX5_buddy : Cond.code yX5_buddy cX5_buddy 5 (some .int) ∈ TB := TB_mem 898 rfl rfl
set_option maxRecDepth 100000 in
theorem ml_X5_205 : Cond.methodLink RX5 205 yX5_halves ∈ TB := TB_mem 899 rfl rfl
set_option maxRecDepth 100000 in
theorem im_yX5_halves : Cond.instanceMethod yX5_halves ∈ TB := TB_mem 901 rfl rfl
set_option maxRecDepth 100000 in
theorem cd_yX5_halves : Cond.code yX5_halves cX5_halves 3 (some .int) ∈ TB := TB_mem 902 rfl rfl
set_option maxRecDepth 100000 in
theorem ml_L_59 : Cond.methodLink RL 59 yX5_feed ∈ TB := TB_mem 903 rfl rfl
set_option maxRecDepth 100000 in
theorem im_yX5_feed : Cond.instanceMethod yX5_feed ∈ TB := TB_mem 904 rfl rfl
set_option maxRecDepth 100000 in
theorem se_yX5_feed : Cond.selects RX5 yX5_feed yX5_feed ∈ TB := TB_mem 905 rfl rfl
set_option maxRecDepth 100000 in
theorem cd_yX5_feed : Cond.code yX5_feed cX5_feed 7 (some .int) ∈ TB := TB_mem 906 rfl rfl
set_option maxRecDepth 100000 in
theorem ml_L_70 : Cond.methodLink RL 70 yX5_get ∈ TB := TB_mem 907 rfl rfl
set_option maxRecDepth 100000 in
theorem im_yX5_get : Cond.instanceMethod yX5_get ∈ TB := TB_mem 908 rfl rfl
set_option maxRecDepth 100000 in
theorem se_yX5_get : Cond.selects RX5 yX5_get yX5_get ∈ TB := TB_mem 909 rfl rfl
set_option maxRecDepth 100000 in
theorem cd_yX5_get : Cond.code yX5_get cX5_get 6 (some .int) ∈ TB := TB_mem 910 rfl rfl
set_option maxRecDepth 100000 in
theorem ml_L_74 : Cond.methodLink RL 74 yX5_answer ∈ TB := TB_mem 911 rfl rfl
set_option maxRecDepth 100000 in
theorem im_yX5_answer : Cond.instanceMethod yX5_answer ∈ TB := TB_mem 912 rfl rfl
set_option maxRecDepth 100000 in
theorem se_yX5_answer : Cond.selects RX5 yX5_answer yX5_answer ∈ TB := TB_mem 913 rfl rfl
set_option maxRecDepth 100000 in
theorem cd_yX5_answer : Cond.code yX5_answer cX5_answer 2 (some .int) ∈ TB := TB_mem 914 rfl rfl
set_option maxRecDepth 100000 in
theorem ml_L_78 : Cond.methodLink RL 78 yX5_power ∈ TB := TB_mem 915 rfl rfl
set_option maxRecDepth 100000 in
theorem im_yX5_power : Cond.instanceMethod yX5_power ∈ TB := TB_mem 916 rfl rfl
set_option maxRecDepth 100000 in
theorem se_yX5_power : Cond.selects RX5 yX5_power yX5_power ∈ TB := TB_mem 917 rfl rfl
set_option maxRecDepth 100000 in
theorem cd_yX5_power : Cond.code yX5_power cX5_power 2 none ∈ TB := TB_mem 918 rfl rfl
set_option maxRecDepth 100000 in
theorem ml_L_81 : Cond.methodLink RL 81 yX5_recover ∈ TB := TB_mem 919 rfl rfl
set_option maxRecDepth 100000 in
theorem im_yX5_recover : Cond.instanceMethod yX5_recover ∈ TB := TB_mem 920 rfl rfl
set_option maxRecDepth 100000 in
theorem se_yX5_recover : Cond.selects RX5 yX5_recover yX5_recover ∈ TB := TB_mem 921 rfl rfl
set_option maxRecDepth 100000 in
theorem cd_yX5_recover : Cond.code yX5_recover cX5_recover 5 (some .int) ∈ TB := TB_mem 922 rfl rfl
set_option maxRecDepth 100000 in
theorem ml_L_86 : Cond.methodLink RL 86 yX5_byteOf ∈ TB := TB_mem 923 rfl rfl
set_option maxRecDepth 100000 in
theorem im_yX5_byteOf : Cond.instanceMethod yX5_byteOf ∈ TB := TB_mem 924 rfl rfl
set_option maxRecDepth 100000 in
theorem se_yX5_byteOf : Cond.selects RX5 yX5_byteOf yX5_byteOf ∈ TB := TB_mem 925 rfl rfl
set_option maxRecDepth 100000 in
theorem cd_yX5_byteOf : Cond.code yX5_byteOf cX5_byteOf 3 (some .int) ∈ TB := TB_mem 926 rfl rfl
set_option maxRecDepth 100000 in
theorem ml_X5_208 : Cond.methodLink RX5 208 yX5_isPage ∈ TB := TB_mem 927 rfl rfl
set_option maxRecDepth 100000 in
theorem im_yX5_isPage : Cond.instanceMethod yX5_isPage ∈ TB := TB_mem 929 rfl rfl
set_option maxRecDepth 100000 in
theorem cd_yX5_isPage : Cond.code yX5_isPage cX5_isPage 2 (some .boolean) ∈ TB := TB_mem 930 rfl rfl
set_option maxRecDepth 100000 in
theorem ml_L_90 : Cond.methodLink RL 90 yX5_kind ∈ TB := TB_mem 931 rfl rfl
set_option maxRecDepth 100000 in
theorem im_yX5_kind : Cond.instanceMethod yX5_kind ∈ TB := TB_mem 932 rfl rfl
set_option maxRecDepth 100000 in
theorem se_yX5_kind : Cond.selects RX5 yX5_kind yX5_kind ∈ TB := TB_mem 933 rfl rfl
set_option maxRecDepth 100000 in
theorem cd_yX5_kind : Cond.code yX5_kind cX5_kind 2 (some .int) ∈ TB := TB_mem 934 rfl rfl
set_option maxRecDepth 100000 in
theorem ml_X5_211 : Cond.methodLink RX5 211 yX5_kindOf ∈ TB := TB_mem 935 rfl rfl
set_option maxRecDepth 100000 in
theorem im_yX5_kindOf : Cond.instanceMethod yX5_kindOf ∈ TB := TB_mem 937 rfl rfl
set_option maxRecDepth 100000 in
theorem cd_yX5_kindOf : Cond.code yX5_kindOf cX5_kindOf 2 (some .int) ∈ TB := TB_mem 938 rfl rfl
set_option maxRecDepth 100000 in
theorem ml_L_94 : Cond.methodLink RL 94 yX5_hash ∈ TB := TB_mem 939 rfl rfl
set_option maxRecDepth 100000 in
theorem im_yX5_hash : Cond.instanceMethod yX5_hash ∈ TB := TB_mem 940 rfl rfl
set_option maxRecDepth 100000 in
theorem se_yX5_hash : Cond.selects RX5 yX5_hash yX5_hash ∈ TB := TB_mem 941 rfl rfl
set_option maxRecDepth 100000 in
theorem cd_yX5_hash : Cond.code yX5_hash cX5_hash 1 (some .int) ∈ TB := TB_mem 942 rfl rfl
set_option maxRecDepth 100000 in
theorem ml_L_98 : Cond.methodLink RL 98 yX5_entry ∈ TB := TB_mem 943 rfl rfl
set_option maxRecDepth 100000 in
theorem im_yX5_entry : Cond.instanceMethod yX5_entry ∈ TB := TB_mem 944 rfl rfl
set_option maxRecDepth 100000 in
theorem se_yX5_entry : Cond.selects RX5 yX5_entry yX5_entry ∈ TB := TB_mem 945 rfl rfl
set_option maxRecDepth 100000 in
theorem cd_yX5_entry : Cond.code yX5_entry cX5_entry 2 (some .int) ∈ TB := TB_mem 946 rfl rfl
set_option maxRecDepth 100000 in
theorem ml_L_102 : Cond.methodLink RL 102 yX5_bucket_ ∈ TB := TB_mem 947 rfl rfl
set_option maxRecDepth 100000 in
theorem im_yX5_bucket_ : Cond.instanceMethod yX5_bucket_ ∈ TB := TB_mem 948 rfl rfl
set_option maxRecDepth 100000 in
theorem se_yX5_bucket_ : Cond.selects RX5 yX5_bucket_ yX5_bucket_ ∈ TB := TB_mem 949 rfl rfl
set_option maxRecDepth 100000 in
theorem cd_yX5_bucket_ : Cond.code yX5_bucket_ cX5_bucket_ 3 (some .int) ∈ TB := TB_mem 950 rfl rfl
set_option maxRecDepth 100000 in
theorem ml_L_107 : Cond.methodLink RL 107 yX5_record ∈ TB := TB_mem 951 rfl rfl
set_option maxRecDepth 100000 in
theorem im_yX5_record : Cond.instanceMethod yX5_record ∈ TB := TB_mem 952 rfl rfl
set_option maxRecDepth 100000 in
theorem se_yX5_record : Cond.selects RX5 yX5_record yX5_record ∈ TB := TB_mem 953 rfl rfl
set_option maxRecDepth 100000 in
theorem cd_yX5_record : Cond.code yX5_record cX5_record 6 (some .int) ∈ TB := TB_mem 954 rfl rfl
set_option maxRecDepth 100000 in
theorem ml_L_111 : Cond.methodLink RL 111 yX5_look ∈ TB := TB_mem 955 rfl rfl
set_option maxRecDepth 100000 in
theorem im_yX5_look : Cond.instanceMethod yX5_look ∈ TB := TB_mem 956 rfl rfl
set_option maxRecDepth 100000 in
theorem se_yX5_look : Cond.selects RX5 yX5_look yX5_look ∈ TB := TB_mem 957 rfl rfl
set_option maxRecDepth 100000 in
theorem cd_yX5_look : Cond.code yX5_look cX5_look 4 (some .int) ∈ TB := TB_mem 958 rfl rfl
set_option maxRecDepth 100000 in
theorem ml_X5_214 : Cond.methodLink RX5 214 yX5_manyOf ∈ TB := TB_mem 959 rfl rfl
set_option maxRecDepth 100000 in
theorem im_yX5_manyOf : Cond.instanceMethod yX5_manyOf ∈ TB := TB_mem 961 rfl rfl
set_option maxRecDepth 100000 in
theorem cd_yX5_manyOf : Cond.code yX5_manyOf cX5_manyOf 4 (some .int) ∈ TB := TB_mem 962 rfl rfl
theorem se_yX1_place : Cond.selects RX1 yX1_place yX1_place ∈ TB := TB_mem 0 rfl rfl
theorem se_yX1_isPage : Cond.selects RX1 yX1_isPage yX1_isPage ∈ TB := TB_mem 1 rfl rfl
theorem se_yX1_lay : Cond.selects RX1 yX1_lay yX1_lay ∈ TB := TB_mem 2 rfl rfl
theorem se_yX1_learnKinds : Cond.selects RX1 yX1_learnKinds yX1_learnKinds ∈ TB := TB_mem 3 rfl rfl
theorem se_yX1_mark : Cond.selects RX1 yX1_mark yX1_mark ∈ TB := TB_mem 4 rfl rfl
theorem se_yX4_makePlace : Cond.selects RX4 yX4_makePlace yX4_makePlace ∈ TB := TB_mem 6 rfl rfl
theorem se_yX4_hasPlace : Cond.selects RX4 yX4_hasPlace yX4_hasPlace ∈ TB := TB_mem 7 rfl rfl
theorem se_yX1_hasKey : Cond.selects RX1 yX1_hasKey yX1_hasKey ∈ TB := TB_mem 8 rfl rfl
theorem se_yX4_resizeDirectory : Cond.selects RX4 yX4_resizeDirectory yX4_resizeDirectory ∈ TB := TB_mem 9 rfl rfl
theorem se_yX4_buildDirectoryPage : Cond.selects RX4 yX4_buildDirectoryPage yX4_buildDirectoryPage ∈ TB := TB_mem 10 rfl rfl
theorem se_yX4_split : Cond.selects RX4 yX4_split yX4_split ∈ TB := TB_mem 11 rfl rfl
theorem se_yX4_buildHalf : Cond.selects RX4 yX4_buildHalf yX4_buildHalf ∈ TB := TB_mem 12 rfl rfl
theorem se_yX2_countRecord : Cond.selects RX2 yX2_countRecord yX2_countRecord ∈ TB := TB_mem 13 rfl rfl
theorem se_yX4_retell : Cond.selects RX4 yX4_retell yX4_retell ∈ TB := TB_mem 14 rfl rfl
theorem se_yX4_storeRecord : Cond.selects RX4 yX4_storeRecord yX4_storeRecord ∈ TB := TB_mem 15 rfl rfl
theorem se_yX4_buildWithout : Cond.selects RX4 yX4_buildWithout yX4_buildWithout ∈ TB := TB_mem 16 rfl rfl
theorem se_yX4_addRecordsBut : Cond.selects RX4 yX4_addRecordsBut yX4_addRecordsBut ∈ TB := TB_mem 17 rfl rfl
theorem se_yX4_mergeAll : Cond.selects RX4 yX4_mergeAll yX4_mergeAll ∈ TB := TB_mem 18 rfl rfl
theorem se_yX4_mergePartner : Cond.selects RX4 yX4_mergePartner yX4_mergePartner ∈ TB := TB_mem 19 rfl rfl
theorem se_yX4_merge : Cond.selects RX4 yX4_merge yX4_merge ∈ TB := TB_mem 20 rfl rfl
theorem se_yX4_halveAll : Cond.selects RX4 yX4_halveAll yX4_halveAll ∈ TB := TB_mem 21 rfl rfl
theorem se_yX5_anew : Cond.selects RX5 yX5_anew yX5_anew ∈ TB := TB_mem 22 rfl rfl
theorem se_yX5_decode : Cond.selects RX5 yX5_decode yX5_decode ∈ TB := TB_mem 23 rfl rfl
theorem se_yX5_at : Cond.selects RX5 yX5_at yX5_at ∈ TB := TB_mem 24 rfl rfl
theorem se_yX5_isDirectory : Cond.selects RX5 yX5_isDirectory yX5_isDirectory ∈ TB := TB_mem 25 rfl rfl
theorem se_yX5_bucket : Cond.selects RX5 yX5_bucket yX5_bucket ∈ TB := TB_mem 26 rfl rfl
theorem se_yX5_throwing : Cond.selects RX5 yX5_throwing yX5_throwing ∈ TB := TB_mem 27 rfl rfl
theorem se_yX5_tapeHash : Cond.selects RX5 yX5_tapeHash yX5_tapeHash ∈ TB := TB_mem 28 rfl rfl
theorem se_yX5_bucketOf : Cond.selects RX5 yX5_bucketOf yX5_bucketOf ∈ TB := TB_mem 29 rfl rfl
theorem se_yX5_filled : Cond.selects RX5 yX5_filled yX5_filled ∈ TB := TB_mem 30 rfl rfl
theorem se_yX5_find : Cond.selects RX5 yX5_find yX5_find ∈ TB := TB_mem 31 rfl rfl
theorem se_yX5_isKey : Cond.selects RX5 yX5_isKey yX5_isKey ∈ TB := TB_mem 32 rfl rfl
theorem se_yX5_keyByte : Cond.selects RX5 yX5_keyByte yX5_keyByte ∈ TB := TB_mem 33 rfl rfl
theorem se_yX5_bytesOf : Cond.selects RX5 yX5_bytesOf yX5_bytesOf ∈ TB := TB_mem 34 rfl rfl
theorem se_yX5_isAlike : Cond.selects RX5 yX5_isAlike yX5_isAlike ∈ TB := TB_mem 35 rfl rfl
theorem se_yX5_hashOf : Cond.selects RX5 yX5_hashOf yX5_hashOf ∈ TB := TB_mem 36 rfl rfl
theorem se_yX5_doubles : Cond.selects RX5 yX5_doubles yX5_doubles ∈ TB := TB_mem 37 rfl rfl
theorem se_yX5_free : Cond.selects RX5 yX5_free yX5_free ∈ TB := TB_mem 38 rfl rfl
theorem se_yX5_changed : Cond.selects RX5 yX5_changed yX5_changed ∈ TB := TB_mem 39 rfl rfl
theorem se_yX5_allWritten : Cond.selects RX5 yX5_allWritten yX5_allWritten ∈ TB := TB_mem 40 rfl rfl
theorem se_yX5_render : Cond.selects RX5 yX5_render yX5_render ∈ TB := TB_mem 41 rfl rfl
theorem se_yX5_valueByte : Cond.selects RX5 yX5_valueByte yX5_valueByte ∈ TB := TB_mem 42 rfl rfl
theorem se_yX5_writes : Cond.selects RX5 yX5_writes yX5_writes ∈ TB := TB_mem 43 rfl rfl
theorem se_yX5_journal : Cond.selects RX5 yX5_journal yX5_journal ∈ TB := TB_mem 44 rfl rfl
theorem se_yX5_splits : Cond.selects RX5 yX5_splits yX5_splits ∈ TB := TB_mem 45 rfl rfl
theorem se_yX5_unlike : Cond.selects RX5 yX5_unlike yX5_unlike ∈ TB := TB_mem 46 rfl rfl
theorem se_yX5_copyRecord : Cond.selects RX5 yX5_copyRecord yX5_copyRecord ∈ TB := TB_mem 47 rfl rfl
theorem se_yX5_drop : Cond.selects RX5 yX5_drop yX5_drop ∈ TB := TB_mem 48 rfl rfl
theorem se_yX5_wroteBucket : Cond.selects RX5 yX5_wroteBucket yX5_wroteBucket ∈ TB := TB_mem 49 rfl rfl
theorem se_yX5_merges : Cond.selects RX5 yX5_merges yX5_merges ∈ TB := TB_mem 50 rfl rfl
theorem se_yX5_buddy : Cond.selects RX5 yX5_buddy yX5_buddy ∈ TB := TB_mem 51 rfl rfl
theorem se_yX5_halves : Cond.selects RX5 yX5_halves yX5_halves ∈ TB := TB_mem 52 rfl rfl
theorem se_yX5_isPage : Cond.selects RX5 yX5_isPage yX5_isPage ∈ TB := TB_mem 53 rfl rfl
theorem se_yX5_kindOf : Cond.selects RX5 yX5_kindOf yX5_kindOf ∈ TB := TB_mem 54 rfl rfl
theorem se_yX5_manyOf : Cond.selects RX5 yX5_manyOf yX5_manyOf ∈ TB := TB_mem 55 rfl rfl
theorem uTB0 : ∀ w ∈ u_ws RX0 TX0 3, w ∈ TB := by decide +kernel
theorem uTB1 : ∀ w ∈ u_ws RX1 TX1 8, w ∈ TB := by decide +kernel
theorem uTB2 : ∀ w ∈ u_ws RX2 TX2 1, w ∈ TB := by decide +kernel
theorem uTB3 : ∀ w ∈ u_ws RX3 TX3 2, w ∈ TB := by decide +kernel
theorem uTB4 : ∀ w ∈ u_ws RX4 TX4 7, w ∈ TB := by decide +kernel
theorem uTB5 : ∀ w ∈ u_ws RX5 TX5 26, w ∈ TB := by decide +kernel
end
section
theorem dX0_init_0 : decode cX0_init 0 = .ok (.aload_n 0, 1) := by decide +kernel
theorem dX0_init_1 : decode cX0_init 1 = .ok (.invokespecial 3, 3) := by decide +kernel
theorem dX0_init_4 : decode cX0_init 4 = .ok (.aload_n 0, 1) := by decide +kernel
theorem dX0_init_5 : decode cX0_init 5 = .ok (.aload_n 1, 1) := by decide +kernel
theorem dX0_init_6 : decode cX0_init 6 = .ok (.putfield 9, 3) := by decide +kernel
theorem dX0_init_9 : decode cX0_init 9 = .ok (.aload_n 0, 1) := by decide +kernel
theorem dX0_init_10 : decode cX0_init 10 = .ok (.new 15, 3) := by decide +kernel
theorem dX0_init_13 : decode cX0_init 13 = .ok (.dup, 1) := by decide +kernel
theorem dX0_init_14 : decode cX0_init 14 = .ok (.invokespecial 17, 3) := by decide +kernel
theorem dX0_init_17 : decode cX0_init 17 = .ok (.putfield 18, 3) := by decide +kernel
theorem dX0_init_20 : decode cX0_init 20 = .ok (.aload_n 0, 1) := by decide +kernel
theorem dX0_init_21 : decode cX0_init 21 = .ok (.new 15, 3) := by decide +kernel
theorem dX0_init_24 : decode cX0_init 24 = .ok (.dup, 1) := by decide +kernel
theorem dX0_init_25 : decode cX0_init 25 = .ok (.invokespecial 17, 3) := by decide +kernel
theorem dX0_init_28 : decode cX0_init 28 = .ok (.putfield 22, 3) := by decide +kernel
theorem dX0_init_31 : decode cX0_init 31 = .ok (.return_, 1) := by decide +kernel
theorem dX0_begin_0 : decode cX0_begin 0 = .ok (.aload_n 0, 1) := by decide +kernel
theorem dX0_begin_1 : decode cX0_begin 1 = .ok (.getfield 18, 3) := by decide +kernel
theorem dX0_begin_4 : decode cX0_begin 4 = .ok (.invokevirtual 25, 3) := by decide +kernel
theorem dX0_begin_7 : decode cX0_begin 7 = .ok (.return_, 1) := by decide +kernel
theorem dX0_add_0 : decode cX0_add 0 = .ok (.aload_n 0, 1) := by decide +kernel
theorem dX0_add_1 : decode cX0_add 1 = .ok (.getfield 18, 3) := by decide +kernel
theorem dX0_add_4 : decode cX0_add 4 = .ok (.iconst 0, 1) := by decide +kernel
theorem dX0_add_5 : decode cX0_add 5 = .ok (.invokevirtual 28, 3) := by decide +kernel
theorem dX0_add_8 : decode cX0_add 8 = .ok (.istore_n 3, 1) := by decide +kernel
theorem dX0_add_9 : decode cX0_add 9 = .ok (.aload_n 0, 1) := by decide +kernel
theorem dX0_add_10 : decode cX0_add 10 = .ok (.getfield 18, 3) := by decide +kernel
theorem dX0_add_13 : decode cX0_add 13 = .ok (.iconst 0, 1) := by decide +kernel
theorem dX0_add_14 : decode cX0_add 14 = .ok (.iload_n 3, 1) := by decide +kernel
theorem dX0_add_15 : decode cX0_add 15 = .ok (.iconst 1, 1) := by decide +kernel
theorem dX0_add_16 : decode cX0_add 16 = .ok (.iadd, 1) := by decide +kernel
theorem dX0_add_17 : decode cX0_add 17 = .ok (.invokevirtual 32, 3) := by decide +kernel
theorem dX0_add_20 : decode cX0_add 20 = .ok (.aload_n 0, 1) := by decide +kernel
theorem dX0_add_21 : decode cX0_add 21 = .ok (.getfield 18, 3) := by decide +kernel
theorem dX0_add_24 : decode cX0_add 24 = .ok (.iload_n 3, 1) := by decide +kernel
theorem dX0_add_25 : decode cX0_add 25 = .ok (.iconst 1, 1) := by decide +kernel
theorem dX0_add_26 : decode cX0_add 26 = .ok (.iadd, 1) := by decide +kernel
theorem dX0_add_27 : decode cX0_add 27 = .ok (.iload_n 2, 1) := by decide +kernel
theorem dX0_add_28 : decode cX0_add 28 = .ok (.invokevirtual 32, 3) := by decide +kernel
theorem dX0_add_31 : decode cX0_add 31 = .ok (.aload_n 0, 1) := by decide +kernel
theorem dX0_add_32 : decode cX0_add 32 = .ok (.getfield 9, 3) := by decide +kernel
theorem dX0_add_35 : decode cX0_add 35 = .ok (.iconst 2, 1) := by decide +kernel
theorem dX0_add_36 : decode cX0_add 36 = .ok (.iload_n 3, 1) := by decide +kernel
theorem dX0_add_37 : decode cX0_add 37 = .ok (.iadd, 1) := by decide +kernel
theorem dX0_add_38 : decode cX0_add 38 = .ok (.aload_n 1, 1) := by decide +kernel
theorem dX0_add_39 : decode cX0_add 39 = .ok (.invokevirtual 36, 3) := by decide +kernel
theorem dX0_add_42 : decode cX0_add 42 = .ok (.ireturn, 1) := by decide +kernel
theorem dX0_finish_0 : decode cX0_finish 0 = .ok (.aload_n 0, 1) := by decide +kernel
theorem dX0_finish_1 : decode cX0_finish 1 = .ok (.getfield 9, 3) := by decide +kernel
theorem dX0_finish_4 : decode cX0_finish 4 = .ok (.iconst 1, 1) := by decide +kernel
theorem dX0_finish_5 : decode cX0_finish 5 = .ok (.aload_n 0, 1) := by decide +kernel
theorem dX0_finish_6 : decode cX0_finish 6 = .ok (.getfield 18, 3) := by decide +kernel
theorem dX0_finish_9 : decode cX0_finish 9 = .ok (.invokevirtual 36, 3) := by decide +kernel
theorem dX0_finish_12 : decode cX0_finish 12 = .ok (.ifCond .eq 14, 3) := by decide +kernel
theorem dX0_finish_15 : decode cX0_finish 15 = .ok (.aload_n 0, 1) := by decide +kernel
theorem dX0_finish_16 : decode cX0_finish 16 = .ok (.invokevirtual 42, 3) := by decide +kernel
theorem dX0_finish_19 : decode cX0_finish 19 = .ok (.ifCond .eq 7, 3) := by decide +kernel
theorem dX0_finish_22 : decode cX0_finish 22 = .ok (.iconst 1, 1) := by decide +kernel
theorem dX0_finish_23 : decode cX0_finish 23 = .ok (.goto 4, 3) := by decide +kernel
theorem dX0_finish_26 : decode cX0_finish 26 = .ok (.iconst 0, 1) := by decide +kernel
theorem dX0_finish_27 : decode cX0_finish 27 = .ok (.ireturn, 1) := by decide +kernel
theorem dX0_settle_0 : decode cX0_settle 0 = .ok (.aload_n 0, 1) := by decide +kernel
theorem dX0_settle_1 : decode cX0_settle 1 = .ok (.getfield 9, 3) := by decide +kernel
theorem dX0_settle_4 : decode cX0_settle 4 = .ok (.iconst 1, 1) := by decide +kernel
theorem dX0_settle_5 : decode cX0_settle 5 = .ok (.iconst 0, 1) := by decide +kernel
theorem dX0_settle_6 : decode cX0_settle 6 = .ok (.invokevirtual 46, 3) := by decide +kernel
theorem dX0_settle_9 : decode cX0_settle 9 = .ok (.istore_n 1, 1) := by decide +kernel
theorem dX0_settle_10 : decode cX0_settle 10 = .ok (.iconst 0, 1) := by decide +kernel
theorem dX0_settle_11 : decode cX0_settle 11 = .ok (.istore_n 2, 1) := by decide +kernel
theorem dX0_settle_12 : decode cX0_settle 12 = .ok (.iload_n 2, 1) := by decide +kernel
theorem dX0_settle_13 : decode cX0_settle 13 = .ok (.iload_n 1, 1) := by decide +kernel
theorem dX0_settle_14 : decode cX0_settle 14 = .ok (.if_icmp .ge 50, 3) := by decide +kernel
theorem dX0_settle_17 : decode cX0_settle 17 = .ok (.aload_n 0, 1) := by decide +kernel
theorem dX0_settle_18 : decode cX0_settle 18 = .ok (.getfield 9, 3) := by decide +kernel
theorem dX0_settle_21 : decode cX0_settle 21 = .ok (.iconst 2, 1) := by decide +kernel
theorem dX0_settle_22 : decode cX0_settle 22 = .ok (.iload_n 2, 1) := by decide +kernel
theorem dX0_settle_23 : decode cX0_settle 23 = .ok (.iadd, 1) := by decide +kernel
theorem dX0_settle_24 : decode cX0_settle 24 = .ok (.aload_n 0, 1) := by decide +kernel
theorem dX0_settle_25 : decode cX0_settle 25 = .ok (.getfield 22, 3) := by decide +kernel
theorem dX0_settle_28 : decode cX0_settle 28 = .ok (.invokevirtual 50, 3) := by decide +kernel
theorem dX0_settle_31 : decode cX0_settle 31 = .ok (.aload_n 0, 1) := by decide +kernel
theorem dX0_settle_32 : decode cX0_settle 32 = .ok (.getfield 9, 3) := by decide +kernel
theorem dX0_settle_35 : decode cX0_settle 35 = .ok (.aload_n 0, 1) := by decide +kernel
theorem dX0_settle_36 : decode cX0_settle 36 = .ok (.getfield 9, 3) := by decide +kernel
theorem dX0_settle_39 : decode cX0_settle 39 = .ok (.iconst 1, 1) := by decide +kernel
theorem dX0_settle_40 : decode cX0_settle 40 = .ok (.iconst 1, 1) := by decide +kernel
theorem dX0_settle_41 : decode cX0_settle 41 = .ok (.iload_n 2, 1) := by decide +kernel
theorem dX0_settle_42 : decode cX0_settle 42 = .ok (.iadd, 1) := by decide +kernel
theorem dX0_settle_43 : decode cX0_settle 43 = .ok (.invokevirtual 46, 3) := by decide +kernel
theorem dX0_settle_46 : decode cX0_settle 46 = .ok (.aload_n 0, 1) := by decide +kernel
theorem dX0_settle_47 : decode cX0_settle 47 = .ok (.getfield 22, 3) := by decide +kernel
theorem dX0_settle_50 : decode cX0_settle 50 = .ok (.invokevirtual 36, 3) := by decide +kernel
theorem dX0_settle_53 : decode cX0_settle 53 = .ok (.ifCond .ne 5, 3) := by decide +kernel
theorem dX0_settle_56 : decode cX0_settle 56 = .ok (.iconst 0, 1) := by decide +kernel
theorem dX0_settle_57 : decode cX0_settle 57 = .ok (.ireturn, 1) := by decide +kernel
theorem dX0_settle_58 : decode cX0_settle 58 = .ok (.iinc 2 1, 3) := by decide +kernel
theorem dX0_settle_61 : decode cX0_settle 61 = .ok (.goto (-49), 3) := by decide +kernel
theorem dX0_settle_64 : decode cX0_settle 64 = .ok (.aload_n 0, 1) := by decide +kernel
theorem dX0_settle_65 : decode cX0_settle 65 = .ok (.getfield 18, 3) := by decide +kernel
theorem dX0_settle_68 : decode cX0_settle 68 = .ok (.invokevirtual 25, 3) := by decide +kernel
theorem dX0_settle_71 : decode cX0_settle 71 = .ok (.aload_n 0, 1) := by decide +kernel
theorem dX0_settle_72 : decode cX0_settle 72 = .ok (.getfield 9, 3) := by decide +kernel
theorem dX0_settle_75 : decode cX0_settle 75 = .ok (.iconst 1, 1) := by decide +kernel
theorem dX0_settle_76 : decode cX0_settle 76 = .ok (.aload_n 0, 1) := by decide +kernel
theorem dX0_settle_77 : decode cX0_settle 77 = .ok (.getfield 18, 3) := by decide +kernel
theorem dX0_settle_80 : decode cX0_settle 80 = .ok (.invokevirtual 36, 3) := by decide +kernel
theorem dX0_settle_83 : decode cX0_settle 83 = .ok (.ireturn, 1) := by decide +kernel
theorem dX1_init_0 : decode cX1_init 0 = .ok (.aload_n 0, 1) := by decide +kernel
theorem dX1_init_1 : decode cX1_init 1 = .ok (.invokespecial 3, 3) := by decide +kernel
theorem dX1_init_4 : decode cX1_init 4 = .ok (.aload_n 0, 1) := by decide +kernel
theorem dX1_init_5 : decode cX1_init 5 = .ok (.ldc 9, 2) := by decide +kernel
theorem dX1_init_7 : decode cX1_init 7 = .ok (.newarray .int, 2) := by decide +kernel
theorem dX1_init_9 : decode cX1_init 9 = .ok (.putfield 10, 3) := by decide +kernel
theorem dX1_init_12 : decode cX1_init 12 = .ok (.aload_n 0, 1) := by decide +kernel
theorem dX1_init_13 : decode cX1_init 13 = .ok (.sipush 255, 3) := by decide +kernel
theorem dX1_init_16 : decode cX1_init 16 = .ok (.newarray .int, 2) := by decide +kernel
theorem dX1_init_18 : decode cX1_init 18 = .ok (.putfield 16, 3) := by decide +kernel
theorem dX1_init_21 : decode cX1_init 21 = .ok (.return_, 1) := by decide +kernel
theorem dX1_wipe_0 : decode cX1_wipe 0 = .ok (.aload_n 0, 1) := by decide +kernel
theorem dX1_wipe_1 : decode cX1_wipe 1 = .ok (.iload_n 1, 1) := by decide +kernel
theorem dX1_wipe_2 : decode cX1_wipe 2 = .ok (.putfield 19, 3) := by decide +kernel
theorem dX1_wipe_5 : decode cX1_wipe 5 = .ok (.aload_n 0, 1) := by decide +kernel
theorem dX1_wipe_6 : decode cX1_wipe 6 = .ok (.iload_n 2, 1) := by decide +kernel
theorem dX1_wipe_7 : decode cX1_wipe 7 = .ok (.putfield 23, 3) := by decide +kernel
theorem dX1_wipe_10 : decode cX1_wipe 10 = .ok (.aload_n 0, 1) := by decide +kernel
theorem dX1_wipe_11 : decode cX1_wipe 11 = .ok (.iconst 0, 1) := by decide +kernel
theorem dX1_wipe_12 : decode cX1_wipe 12 = .ok (.putfield 26, 3) := by decide +kernel
theorem dX1_wipe_15 : decode cX1_wipe 15 = .ok (.aload_n 0, 1) := by decide +kernel
theorem dX1_wipe_16 : decode cX1_wipe 16 = .ok (.iconst (-1), 1) := by decide +kernel
theorem dX1_wipe_17 : decode cX1_wipe 17 = .ok (.invokevirtual 29, 3) := by decide +kernel
theorem dX1_wipe_20 : decode cX1_wipe 20 = .ok (.aload_n 0, 1) := by decide +kernel
theorem dX1_wipe_21 : decode cX1_wipe 21 = .ok (.iconst 1, 1) := by decide +kernel
theorem dX1_wipe_22 : decode cX1_wipe 22 = .ok (.putfield 33, 3) := by decide +kernel
theorem dX1_wipe_25 : decode cX1_wipe 25 = .ok (.aload_n 3, 1) := by decide +kernel
theorem dX1_wipe_26 : decode cX1_wipe 26 = .ok (.invokevirtual 37, 3) := by decide +kernel
theorem dX1_wipe_29 : decode cX1_wipe 29 = .ok (.iconst 0, 1) := by decide +kernel
theorem dX1_wipe_30 : decode cX1_wipe 30 = .ok (.istore 4, 2) := by decide +kernel
theorem dX1_wipe_32 : decode cX1_wipe 32 = .ok (.iload 4, 2) := by decide +kernel
theorem dX1_wipe_34 : decode cX1_wipe 34 = .ok (.aload_n 0, 1) := by decide +kernel
theorem dX1_wipe_35 : decode cX1_wipe 35 = .ok (.getfield 19, 3) := by decide +kernel
theorem dX1_wipe_38 : decode cX1_wipe 38 = .ok (.if_icmp .ge 16, 3) := by decide +kernel
theorem dX1_wipe_41 : decode cX1_wipe 41 = .ok (.aload_n 0, 1) := by decide +kernel
theorem dX1_wipe_42 : decode cX1_wipe 42 = .ok (.iload 4, 2) := by decide +kernel
theorem dX1_wipe_44 : decode cX1_wipe 44 = .ok (.aload_n 3, 1) := by decide +kernel
theorem dX1_wipe_45 : decode cX1_wipe 45 = .ok (.invokevirtual 42, 3) := by decide +kernel
theorem dX1_wipe_48 : decode cX1_wipe 48 = .ok (.iinc 4 1, 3) := by decide +kernel
theorem dX1_wipe_51 : decode cX1_wipe 51 = .ok (.goto (-19), 3) := by decide +kernel
theorem dX1_wipe_54 : decode cX1_wipe 54 = .ok (.aload_n 0, 1) := by decide +kernel
theorem dX1_wipe_55 : decode cX1_wipe 55 = .ok (.iconst 0, 1) := by decide +kernel
theorem dX1_wipe_56 : decode cX1_wipe 56 = .ok (.iconst 1, 1) := by decide +kernel
theorem dX1_wipe_57 : decode cX1_wipe 57 = .ok (.aload_n 0, 1) := by decide +kernel
theorem dX1_wipe_58 : decode cX1_wipe 58 = .ok (.getfield 23, 3) := by decide +kernel
theorem dX1_wipe_61 : decode cX1_wipe 61 = .ok (.iconst 2, 1) := by decide +kernel
theorem dX1_wipe_62 : decode cX1_wipe 62 = .ok (.iadd, 1) := by decide +kernel
theorem dX1_wipe_63 : decode cX1_wipe 63 = .ok (.invokevirtual 46, 3) := by decide +kernel
theorem dX1_wipe_66 : decode cX1_wipe 66 = .ok (.aload_n 0, 1) := by decide +kernel
theorem dX1_wipe_67 : decode cX1_wipe 67 = .ok (.aload_n 0, 1) := by decide +kernel
theorem dX1_wipe_68 : decode cX1_wipe 68 = .ok (.getfield 23, 3) := by decide +kernel
theorem dX1_wipe_71 : decode cX1_wipe 71 = .ok (.iconst 2, 1) := by decide +kernel
theorem dX1_wipe_72 : decode cX1_wipe 72 = .ok (.iadd, 1) := by decide +kernel
theorem dX1_wipe_73 : decode cX1_wipe 73 = .ok (.iconst 0, 1) := by decide +kernel
theorem dX1_wipe_74 : decode cX1_wipe 74 = .ok (.aload_n 0, 1) := by decide +kernel
theorem dX1_wipe_75 : decode cX1_wipe 75 = .ok (.getfield 23, 3) := by decide +kernel
theorem dX1_wipe_78 : decode cX1_wipe 78 = .ok (.iconst 3, 1) := by decide +kernel
theorem dX1_wipe_79 : decode cX1_wipe 79 = .ok (.iadd, 1) := by decide +kernel
theorem dX1_wipe_80 : decode cX1_wipe 80 = .ok (.invokevirtual 46, 3) := by decide +kernel
theorem dX1_wipe_83 : decode cX1_wipe 83 = .ok (.return_, 1) := by decide +kernel
theorem dX1_place_0 : decode cX1_place 0 = .ok (.aload_n 0, 1) := by decide +kernel
theorem dX1_place_1 : decode cX1_place 1 = .ok (.iload_n 1, 1) := by decide +kernel
theorem dX1_place_2 : decode cX1_place 2 = .ok (.invokevirtual 50, 3) := by decide +kernel
theorem dX1_place_5 : decode cX1_place 5 = .ok (.ifCond .eq 23, 3) := by decide +kernel
theorem dX1_place_8 : decode cX1_place 8 = .ok (.aload_n 2, 1) := by decide +kernel
theorem dX1_place_9 : decode cX1_place 9 = .ok (.invokevirtual 54, 3) := by decide +kernel
theorem dX1_place_12 : decode cX1_place 12 = .ok (.iconst 0, 1) := by decide +kernel
theorem dX1_place_13 : decode cX1_place 13 = .ok (.aload_n 0, 1) := by decide +kernel
theorem dX1_place_14 : decode cX1_place 14 = .ok (.getfield 10, 3) := by decide +kernel
theorem dX1_place_17 : decode cX1_place 17 = .ok (.iload_n 1, 1) := by decide +kernel
theorem dX1_place_18 : decode cX1_place 18 = .ok (.sipush 256, 3) := by decide +kernel
theorem dX1_place_21 : decode cX1_place 21 = .ok (.imul, 1) := by decide +kernel
theorem dX1_place_22 : decode cX1_place 22 = .ok (.sipush 256, 3) := by decide +kernel
theorem dX1_place_25 : decode cX1_place 25 = .ok (.invokestatic 58, 3) := by decide +kernel
theorem dX1_place_28 : decode cX1_place 28 = .ok (.return_, 1) := by decide +kernel
theorem dX1_lay_0 : decode cX1_lay 0 = .ok (.aload_n 0, 1) := by decide +kernel
theorem dX1_lay_1 : decode cX1_lay 1 = .ok (.iload_n 1, 1) := by decide +kernel
theorem dX1_lay_2 : decode cX1_lay 2 = .ok (.invokevirtual 50, 3) := by decide +kernel
theorem dX1_lay_5 : decode cX1_lay 5 = .ok (.ifCond .eq 27, 3) := by decide +kernel
theorem dX1_lay_8 : decode cX1_lay 8 = .ok (.iload_n 2, 1) := by decide +kernel
theorem dX1_lay_9 : decode cX1_lay 9 = .ok (.ifCond .lt 23, 3) := by decide +kernel
theorem dX1_lay_12 : decode cX1_lay 12 = .ok (.iload_n 2, 1) := by decide +kernel
theorem dX1_lay_13 : decode cX1_lay 13 = .ok (.sipush 256, 3) := by decide +kernel
theorem dX1_lay_16 : decode cX1_lay 16 = .ok (.if_icmp .ge 16, 3) := by decide +kernel
theorem dX1_lay_19 : decode cX1_lay 19 = .ok (.aload_n 0, 1) := by decide +kernel
theorem dX1_lay_20 : decode cX1_lay 20 = .ok (.getfield 10, 3) := by decide +kernel
theorem dX1_lay_23 : decode cX1_lay 23 = .ok (.iload_n 1, 1) := by decide +kernel
theorem dX1_lay_24 : decode cX1_lay 24 = .ok (.sipush 256, 3) := by decide +kernel
theorem dX1_lay_27 : decode cX1_lay 27 = .ok (.imul, 1) := by decide +kernel
theorem dX1_lay_28 : decode cX1_lay 28 = .ok (.iload_n 2, 1) := by decide +kernel
theorem dX1_lay_29 : decode cX1_lay 29 = .ok (.iadd, 1) := by decide +kernel
theorem dX1_lay_30 : decode cX1_lay 30 = .ok (.iload_n 3, 1) := by decide +kernel
theorem dX1_lay_31 : decode cX1_lay 31 = .ok (.iastore, 1) := by decide +kernel
theorem dX1_lay_32 : decode cX1_lay 32 = .ok (.return_, 1) := by decide +kernel
theorem dX1_isPage_0 : decode cX1_isPage 0 = .ok (.iload_n 1, 1) := by decide +kernel
theorem dX1_isPage_1 : decode cX1_isPage 1 = .ok (.ifCond .lt 22, 3) := by decide +kernel
theorem dX1_isPage_4 : decode cX1_isPage 4 = .ok (.iload_n 1, 1) := by decide +kernel
theorem dX1_isPage_5 : decode cX1_isPage 5 = .ok (.aload_n 0, 1) := by decide +kernel
theorem dX1_isPage_6 : decode cX1_isPage 6 = .ok (.getfield 19, 3) := by decide +kernel
theorem dX1_isPage_9 : decode cX1_isPage 9 = .ok (.if_icmp .ge 14, 3) := by decide +kernel
theorem dX1_isPage_12 : decode cX1_isPage 12 = .ok (.iload_n 1, 1) := by decide +kernel
theorem dX1_isPage_13 : decode cX1_isPage 13 = .ok (.sipush 255, 3) := by decide +kernel
theorem dX1_isPage_16 : decode cX1_isPage 16 = .ok (.if_icmp .ge 7, 3) := by decide +kernel
theorem dX1_isPage_19 : decode cX1_isPage 19 = .ok (.iconst 1, 1) := by decide +kernel
theorem dX1_isPage_20 : decode cX1_isPage 20 = .ok (.goto 4, 3) := by decide +kernel
theorem dX1_isPage_23 : decode cX1_isPage 23 = .ok (.iconst 0, 1) := by decide +kernel
theorem dX1_isPage_24 : decode cX1_isPage 24 = .ok (.ireturn, 1) := by decide +kernel
theorem dX1_pages_0 : decode cX1_pages 0 = .ok (.aload_n 0, 1) := by decide +kernel
theorem dX1_pages_1 : decode cX1_pages 1 = .ok (.getfield 19, 3) := by decide +kernel
theorem dX1_pages_4 : decode cX1_pages 4 = .ok (.ireturn, 1) := by decide +kernel
theorem dX1_log_0 : decode cX1_log 0 = .ok (.aload_n 0, 1) := by decide +kernel
theorem dX1_log_1 : decode cX1_log 1 = .ok (.getfield 23, 3) := by decide +kernel
theorem dX1_log_4 : decode cX1_log 4 = .ok (.ireturn, 1) := by decide +kernel
theorem dX1_writes_0 : decode cX1_writes 0 = .ok (.aload_n 0, 1) := by decide +kernel
theorem dX1_writes_1 : decode cX1_writes 1 = .ok (.getfield 26, 3) := by decide +kernel
theorem dX1_writes_4 : decode cX1_writes 4 = .ok (.ireturn, 1) := by decide +kernel
theorem dX1_allowed_0 : decode cX1_allowed 0 = .ok (.aload_n 0, 1) := by decide +kernel
theorem dX1_allowed_1 : decode cX1_allowed 1 = .ok (.getfield 64, 3) := by decide +kernel
theorem dX1_allowed_4 : decode cX1_allowed 4 = .ok (.ireturn, 1) := by decide +kernel
theorem dX1_isDown_0 : decode cX1_isDown 0 = .ok (.aload_n 0, 1) := by decide +kernel
theorem dX1_isDown_1 : decode cX1_isDown 1 = .ok (.getfield 67, 3) := by decide +kernel
theorem dX1_isDown_4 : decode cX1_isDown 4 = .ok (.ireturn, 1) := by decide +kernel
theorem dX1_allow_0 : decode cX1_allow 0 = .ok (.aload_n 0, 1) := by decide +kernel
theorem dX1_allow_1 : decode cX1_allow 1 = .ok (.iconst 0, 1) := by decide +kernel
theorem dX1_allow_2 : decode cX1_allow 2 = .ok (.putfield 67, 3) := by decide +kernel
theorem dX1_allow_5 : decode cX1_allow 5 = .ok (.aload_n 0, 1) := by decide +kernel
theorem dX1_allow_6 : decode cX1_allow 6 = .ok (.iload_n 1, 1) := by decide +kernel
theorem dX1_allow_7 : decode cX1_allow 7 = .ok (.putfield 64, 3) := by decide +kernel
theorem dX1_allow_10 : decode cX1_allow 10 = .ok (.return_, 1) := by decide +kernel
theorem dX1_write_0 : decode cX1_write 0 = .ok (.aload_n 0, 1) := by decide +kernel
theorem dX1_write_1 : decode cX1_write 1 = .ok (.getfield 64, 3) := by decide +kernel
theorem dX1_write_4 : decode cX1_write 4 = .ok (.ifCond .ne 10, 3) := by decide +kernel
theorem dX1_write_7 : decode cX1_write 7 = .ok (.aload_n 0, 1) := by decide +kernel
theorem dX1_write_8 : decode cX1_write 8 = .ok (.iconst 1, 1) := by decide +kernel
theorem dX1_write_9 : decode cX1_write 9 = .ok (.putfield 67, 3) := by decide +kernel
theorem dX1_write_12 : decode cX1_write 12 = .ok (.iconst 0, 1) := by decide +kernel
theorem dX1_write_13 : decode cX1_write 13 = .ok (.ireturn, 1) := by decide +kernel
theorem dX1_write_14 : decode cX1_write 14 = .ok (.aload_n 0, 1) := by decide +kernel
theorem dX1_write_15 : decode cX1_write 15 = .ok (.getfield 64, 3) := by decide +kernel
theorem dX1_write_18 : decode cX1_write 18 = .ok (.ifCond .le 13, 3) := by decide +kernel
theorem dX1_write_21 : decode cX1_write 21 = .ok (.aload_n 0, 1) := by decide +kernel
theorem dX1_write_22 : decode cX1_write 22 = .ok (.dup, 1) := by decide +kernel
theorem dX1_write_23 : decode cX1_write 23 = .ok (.getfield 64, 3) := by decide +kernel
theorem dX1_write_26 : decode cX1_write 26 = .ok (.iconst 1, 1) := by decide +kernel
theorem dX1_write_27 : decode cX1_write 27 = .ok (.isub, 1) := by decide +kernel
theorem dX1_write_28 : decode cX1_write 28 = .ok (.putfield 64, 3) := by decide +kernel
theorem dX1_write_31 : decode cX1_write 31 = .ok (.aload_n 0, 1) := by decide +kernel
theorem dX1_write_32 : decode cX1_write 32 = .ok (.dup, 1) := by decide +kernel
theorem dX1_write_33 : decode cX1_write 33 = .ok (.getfield 26, 3) := by decide +kernel
theorem dX1_write_36 : decode cX1_write 36 = .ok (.iconst 1, 1) := by decide +kernel
theorem dX1_write_37 : decode cX1_write 37 = .ok (.iadd, 1) := by decide +kernel
theorem dX1_write_38 : decode cX1_write 38 = .ok (.putfield 26, 3) := by decide +kernel
theorem dX1_write_41 : decode cX1_write 41 = .ok (.iload_n 1, 1) := by decide +kernel
theorem dX1_write_42 : decode cX1_write 42 = .ok (.ifCond .eq 21, 3) := by decide +kernel
theorem dX1_write_45 : decode cX1_write 45 = .ok (.aload_n 0, 1) := by decide +kernel
theorem dX1_write_46 : decode cX1_write 46 = .ok (.iload_n 1, 1) := by decide +kernel
theorem dX1_write_47 : decode cX1_write 47 = .ok (.invokevirtual 50, 3) := by decide +kernel
theorem dX1_write_50 : decode cX1_write 50 = .ok (.ifCond .eq 18, 3) := by decide +kernel
theorem dX1_write_53 : decode cX1_write 53 = .ok (.aload_n 0, 1) := by decide +kernel
theorem dX1_write_54 : decode cX1_write 54 = .ok (.getfield 16, 3) := by decide +kernel
theorem dX1_write_57 : decode cX1_write 57 = .ok (.iload_n 1, 1) := by decide +kernel
theorem dX1_write_58 : decode cX1_write 58 = .ok (.iaload, 1) := by decide +kernel
theorem dX1_write_59 : decode cX1_write 59 = .ok (.iconst 4, 1) := by decide +kernel
theorem dX1_write_60 : decode cX1_write 60 = .ok (.if_icmp .ne 8, 3) := by decide +kernel
theorem dX1_write_63 : decode cX1_write 63 = .ok (.aload_n 0, 1) := by decide +kernel
theorem dX1_write_64 : decode cX1_write 64 = .ok (.iconst 1, 1) := by decide +kernel
theorem dX1_write_65 : decode cX1_write 65 = .ok (.putfield 33, 3) := by decide +kernel
theorem dX1_write_68 : decode cX1_write 68 = .ok (.aload_n 0, 1) := by decide +kernel
theorem dX1_write_69 : decode cX1_write 69 = .ok (.iload_n 1, 1) := by decide +kernel
theorem dX1_write_70 : decode cX1_write 70 = .ok (.aload_n 2, 1) := by decide +kernel
theorem dX1_write_71 : decode cX1_write 71 = .ok (.invokevirtual 42, 3) := by decide +kernel
theorem dX1_write_74 : decode cX1_write 74 = .ok (.iconst 1, 1) := by decide +kernel
theorem dX1_write_75 : decode cX1_write 75 = .ok (.ireturn, 1) := by decide +kernel
theorem dX1_read_0 : decode cX1_read 0 = .ok (.aload_n 0, 1) := by decide +kernel
theorem dX1_read_1 : decode cX1_read 1 = .ok (.iload_n 1, 1) := by decide +kernel
theorem dX1_read_2 : decode cX1_read 2 = .ok (.invokevirtual 50, 3) := by decide +kernel
theorem dX1_read_5 : decode cX1_read 5 = .ok (.ifCond .eq 23, 3) := by decide +kernel
theorem dX1_read_8 : decode cX1_read 8 = .ok (.aload_n 0, 1) := by decide +kernel
theorem dX1_read_9 : decode cX1_read 9 = .ok (.getfield 10, 3) := by decide +kernel
theorem dX1_read_12 : decode cX1_read 12 = .ok (.iload_n 1, 1) := by decide +kernel
theorem dX1_read_13 : decode cX1_read 13 = .ok (.sipush 256, 3) := by decide +kernel
theorem dX1_read_16 : decode cX1_read 16 = .ok (.imul, 1) := by decide +kernel
theorem dX1_read_17 : decode cX1_read 17 = .ok (.aload_n 2, 1) := by decide +kernel
theorem dX1_read_18 : decode cX1_read 18 = .ok (.invokevirtual 54, 3) := by decide +kernel
theorem dX1_read_21 : decode cX1_read 21 = .ok (.iconst 0, 1) := by decide +kernel
theorem dX1_read_22 : decode cX1_read 22 = .ok (.sipush 256, 3) := by decide +kernel
theorem dX1_read_25 : decode cX1_read 25 = .ok (.invokestatic 58, 3) := by decide +kernel
theorem dX1_read_28 : decode cX1_read 28 = .ok (.return_, 1) := by decide +kernel
theorem dX1_at_0 : decode cX1_at 0 = .ok (.iload_n 1, 1) := by decide +kernel
theorem dX1_at_1 : decode cX1_at 1 = .ok (.ifCond .lt 29, 3) := by decide +kernel
theorem dX1_at_4 : decode cX1_at 4 = .ok (.iload_n 1, 1) := by decide +kernel
theorem dX1_at_5 : decode cX1_at 5 = .ok (.aload_n 0, 1) := by decide +kernel
theorem dX1_at_6 : decode cX1_at 6 = .ok (.getfield 19, 3) := by decide +kernel
theorem dX1_at_9 : decode cX1_at 9 = .ok (.if_icmp .ge 21, 3) := by decide +kernel
theorem dX1_at_12 : decode cX1_at 12 = .ok (.iload_n 1, 1) := by decide +kernel
theorem dX1_at_13 : decode cX1_at 13 = .ok (.sipush 255, 3) := by decide +kernel
theorem dX1_at_16 : decode cX1_at 16 = .ok (.if_icmp .ge 14, 3) := by decide +kernel
theorem dX1_at_19 : decode cX1_at 19 = .ok (.iload_n 2, 1) := by decide +kernel
theorem dX1_at_20 : decode cX1_at 20 = .ok (.ifCond .lt 10, 3) := by decide +kernel
theorem dX1_at_23 : decode cX1_at 23 = .ok (.iload_n 2, 1) := by decide +kernel
theorem dX1_at_24 : decode cX1_at 24 = .ok (.sipush 256, 3) := by decide +kernel
theorem dX1_at_27 : decode cX1_at 27 = .ok (.if_icmp .lt 5, 3) := by decide +kernel
theorem dX1_at_30 : decode cX1_at 30 = .ok (.iconst (-1), 1) := by decide +kernel
theorem dX1_at_31 : decode cX1_at 31 = .ok (.ireturn, 1) := by decide +kernel
theorem dX1_at_32 : decode cX1_at 32 = .ok (.aload_n 0, 1) := by decide +kernel
theorem dX1_at_33 : decode cX1_at 33 = .ok (.getfield 10, 3) := by decide +kernel
theorem dX1_at_36 : decode cX1_at 36 = .ok (.iload_n 1, 1) := by decide +kernel
theorem dX1_at_37 : decode cX1_at 37 = .ok (.sipush 256, 3) := by decide +kernel
theorem dX1_at_40 : decode cX1_at 40 = .ok (.imul, 1) := by decide +kernel
theorem dX1_at_41 : decode cX1_at 41 = .ok (.iload_n 2, 1) := by decide +kernel
theorem dX1_at_42 : decode cX1_at 42 = .ok (.iadd, 1) := by decide +kernel
theorem dX1_at_43 : decode cX1_at 43 = .ok (.iaload, 1) := by decide +kernel
theorem dX1_at_44 : decode cX1_at 44 = .ok (.ireturn, 1) := by decide +kernel
theorem dX1_depth_0 : decode cX1_depth 0 = .ok (.aload_n 0, 1) := by decide +kernel
theorem dX1_depth_1 : decode cX1_depth 1 = .ok (.iconst 0, 1) := by decide +kernel
theorem dX1_depth_2 : decode cX1_depth 2 = .ok (.iconst 0, 1) := by decide +kernel
theorem dX1_depth_3 : decode cX1_depth 3 = .ok (.invokevirtual 70, 3) := by decide +kernel
theorem dX1_depth_6 : decode cX1_depth 6 = .ok (.ireturn, 1) := by decide +kernel
theorem dX1_directoryPage_0 : decode cX1_directoryPage 0 = .ok (.aload_n 0, 1) := by decide +kernel
theorem dX1_directoryPage_1 : decode cX1_directoryPage 1 = .ok (.iconst 0, 1) := by decide +kernel
theorem dX1_directoryPage_2 : decode cX1_directoryPage 2 = .ok (.iconst 1, 1) := by decide +kernel
theorem dX1_directoryPage_3 : decode cX1_directoryPage 3 = .ok (.iload_n 1, 1) := by decide +kernel
theorem dX1_directoryPage_4 : decode cX1_directoryPage 4 = .ok (.iadd, 1) := by decide +kernel
theorem dX1_directoryPage_5 : decode cX1_directoryPage 5 = .ok (.invokevirtual 70, 3) := by decide +kernel
theorem dX1_directoryPage_8 : decode cX1_directoryPage 8 = .ok (.ireturn, 1) := by decide +kernel
theorem dX1_entryAt_0 : decode cX1_entryAt 0 = .ok (.iload_n 1, 1) := by decide +kernel
theorem dX1_entryAt_1 : decode cX1_entryAt 1 = .ok (.ifCond .lt 13, 3) := by decide +kernel
theorem dX1_entryAt_4 : decode cX1_entryAt 4 = .ok (.iload_n 1, 1) := by decide +kernel
theorem dX1_entryAt_5 : decode cX1_entryAt 5 = .ok (.iconst 1, 1) := by decide +kernel
theorem dX1_entryAt_6 : decode cX1_entryAt 6 = .ok (.aload_n 0, 1) := by decide +kernel
theorem dX1_entryAt_7 : decode cX1_entryAt 7 = .ok (.invokevirtual 74, 3) := by decide +kernel
theorem dX1_entryAt_10 : decode cX1_entryAt 10 = .ok (.ishl, 1) := by decide +kernel
theorem dX1_entryAt_11 : decode cX1_entryAt 11 = .ok (.if_icmp .lt 5, 3) := by decide +kernel
theorem dX1_entryAt_14 : decode cX1_entryAt 14 = .ok (.iconst (-1), 1) := by decide +kernel
theorem dX1_entryAt_15 : decode cX1_entryAt 15 = .ok (.ireturn, 1) := by decide +kernel
theorem dX1_entryAt_16 : decode cX1_entryAt 16 = .ok (.aload_n 0, 1) := by decide +kernel
theorem dX1_entryAt_17 : decode cX1_entryAt 17 = .ok (.aload_n 0, 1) := by decide +kernel
theorem dX1_entryAt_18 : decode cX1_entryAt 18 = .ok (.iload_n 1, 1) := by decide +kernel
theorem dX1_entryAt_19 : decode cX1_entryAt 19 = .ok (.sipush 256, 3) := by decide +kernel
theorem dX1_entryAt_22 : decode cX1_entryAt 22 = .ok (.idiv, 1) := by decide +kernel
theorem dX1_entryAt_23 : decode cX1_entryAt 23 = .ok (.invokevirtual 78, 3) := by decide +kernel
theorem dX1_entryAt_26 : decode cX1_entryAt 26 = .ok (.iload_n 1, 1) := by decide +kernel
theorem dX1_entryAt_27 : decode cX1_entryAt 27 = .ok (.sipush 256, 3) := by decide +kernel
theorem dX1_entryAt_30 : decode cX1_entryAt 30 = .ok (.irem, 1) := by decide +kernel
theorem dX1_entryAt_31 : decode cX1_entryAt 31 = .ok (.invokevirtual 70, 3) := by decide +kernel
theorem dX1_entryAt_34 : decode cX1_entryAt 34 = .ok (.ireturn, 1) := by decide +kernel
theorem dX1_indexOf_0 : decode cX1_indexOf 0 = .ok (.iload_n 1, 1) := by decide +kernel
theorem dX1_indexOf_1 : decode cX1_indexOf 1 = .ok (.bipush 16, 2) := by decide +kernel
theorem dX1_indexOf_3 : decode cX1_indexOf 3 = .ok (.aload_n 0, 1) := by decide +kernel
theorem dX1_indexOf_4 : decode cX1_indexOf 4 = .ok (.invokevirtual 74, 3) := by decide +kernel
theorem dX1_indexOf_7 : decode cX1_indexOf 7 = .ok (.isub, 1) := by decide +kernel
theorem dX1_indexOf_8 : decode cX1_indexOf 8 = .ok (.ishr, 1) := by decide +kernel
theorem dX1_indexOf_9 : decode cX1_indexOf 9 = .ok (.ireturn, 1) := by decide +kernel
theorem dX1_bucketOf_0 : decode cX1_bucketOf 0 = .ok (.aload_n 0, 1) := by decide +kernel
theorem dX1_bucketOf_1 : decode cX1_bucketOf 1 = .ok (.aload_n 0, 1) := by decide +kernel
theorem dX1_bucketOf_2 : decode cX1_bucketOf 2 = .ok (.iload_n 1, 1) := by decide +kernel
theorem dX1_bucketOf_3 : decode cX1_bucketOf 3 = .ok (.invokevirtual 82, 3) := by decide +kernel
theorem dX1_bucketOf_6 : decode cX1_bucketOf 6 = .ok (.invokevirtual 85, 3) := by decide +kernel
theorem dX1_bucketOf_9 : decode cX1_bucketOf 9 = .ok (.ireturn, 1) := by decide +kernel
theorem dX1_kindOf_0 : decode cX1_kindOf 0 = .ok (.aload_n 0, 1) := by decide +kernel
theorem dX1_kindOf_1 : decode cX1_kindOf 1 = .ok (.iload_n 1, 1) := by decide +kernel
theorem dX1_kindOf_2 : decode cX1_kindOf 2 = .ok (.invokevirtual 50, 3) := by decide +kernel
theorem dX1_kindOf_5 : decode cX1_kindOf 5 = .ok (.ifCond .ne 5, 3) := by decide +kernel
theorem dX1_kindOf_8 : decode cX1_kindOf 8 = .ok (.iconst (-1), 1) := by decide +kernel
theorem dX1_kindOf_9 : decode cX1_kindOf 9 = .ok (.ireturn, 1) := by decide +kernel
theorem dX1_kindOf_10 : decode cX1_kindOf 10 = .ok (.aload_n 0, 1) := by decide +kernel
theorem dX1_kindOf_11 : decode cX1_kindOf 11 = .ok (.getfield 33, 3) := by decide +kernel
theorem dX1_kindOf_14 : decode cX1_kindOf 14 = .ok (.ifCond .eq 7, 3) := by decide +kernel
theorem dX1_kindOf_17 : decode cX1_kindOf 17 = .ok (.aload_n 0, 1) := by decide +kernel
theorem dX1_kindOf_18 : decode cX1_kindOf 18 = .ok (.invokevirtual 88, 3) := by decide +kernel
theorem dX1_kindOf_21 : decode cX1_kindOf 21 = .ok (.aload_n 0, 1) := by decide +kernel
theorem dX1_kindOf_22 : decode cX1_kindOf 22 = .ok (.getfield 16, 3) := by decide +kernel
theorem dX1_kindOf_25 : decode cX1_kindOf 25 = .ok (.iload_n 1, 1) := by decide +kernel
theorem dX1_kindOf_26 : decode cX1_kindOf 26 = .ok (.iaload, 1) := by decide +kernel
theorem dX1_kindOf_27 : decode cX1_kindOf 27 = .ok (.ireturn, 1) := by decide +kernel
theorem dX1_learnKinds_0 : decode cX1_learnKinds 0 = .ok (.aload_n 0, 1) := by decide +kernel
theorem dX1_learnKinds_1 : decode cX1_learnKinds 1 = .ok (.iconst 0, 1) := by decide +kernel
theorem dX1_learnKinds_2 : decode cX1_learnKinds 2 = .ok (.putfield 33, 3) := by decide +kernel
theorem dX1_learnKinds_5 : decode cX1_learnKinds 5 = .ok (.aload_n 0, 1) := by decide +kernel
theorem dX1_learnKinds_6 : decode cX1_learnKinds 6 = .ok (.getfield 16, 3) := by decide +kernel
theorem dX1_learnKinds_9 : decode cX1_learnKinds 9 = .ok (.iconst 0, 1) := by decide +kernel
theorem dX1_learnKinds_10 : decode cX1_learnKinds 10 = .ok (.invokestatic 91, 3) := by decide +kernel
theorem dX1_learnKinds_13 : decode cX1_learnKinds 13 = .ok (.aload_n 0, 1) := by decide +kernel
theorem dX1_learnKinds_14 : decode cX1_learnKinds 14 = .ok (.iconst 0, 1) := by decide +kernel
theorem dX1_learnKinds_15 : decode cX1_learnKinds 15 = .ok (.iconst 0, 1) := by decide +kernel
theorem dX1_learnKinds_16 : decode cX1_learnKinds 16 = .ok (.invokevirtual 70, 3) := by decide +kernel
theorem dX1_learnKinds_19 : decode cX1_learnKinds 19 = .ok (.istore_n 1, 1) := by decide +kernel
theorem dX1_learnKinds_20 : decode cX1_learnKinds 20 = .ok (.iload_n 1, 1) := by decide +kernel
theorem dX1_learnKinds_21 : decode cX1_learnKinds 21 = .ok (.invokestatic 97, 3) := by decide +kernel
theorem dX1_learnKinds_24 : decode cX1_learnKinds 24 = .ok (.istore_n 2, 1) := by decide +kernel
theorem dX1_learnKinds_25 : decode cX1_learnKinds 25 = .ok (.iconst 1, 1) := by decide +kernel
theorem dX1_learnKinds_26 : decode cX1_learnKinds 26 = .ok (.iload_n 1, 1) := by decide +kernel
theorem dX1_learnKinds_27 : decode cX1_learnKinds 27 = .ok (.ishl, 1) := by decide +kernel
theorem dX1_learnKinds_28 : decode cX1_learnKinds 28 = .ok (.sipush 256, 3) := by decide +kernel
theorem dX1_learnKinds_31 : decode cX1_learnKinds 31 = .ok (.invokestatic 100, 3) := by decide +kernel
theorem dX1_learnKinds_34 : decode cX1_learnKinds 34 = .ok (.istore_n 3, 1) := by decide +kernel
theorem dX1_learnKinds_35 : decode cX1_learnKinds 35 = .ok (.iconst 0, 1) := by decide +kernel
theorem dX1_learnKinds_36 : decode cX1_learnKinds 36 = .ok (.istore 4, 2) := by decide +kernel
theorem dX1_learnKinds_38 : decode cX1_learnKinds 38 = .ok (.iload 4, 2) := by decide +kernel
theorem dX1_learnKinds_40 : decode cX1_learnKinds 40 = .ok (.iload_n 2, 1) := by decide +kernel
theorem dX1_learnKinds_41 : decode cX1_learnKinds 41 = .ok (.if_icmp .ge 48, 3) := by decide +kernel
theorem dX1_learnKinds_44 : decode cX1_learnKinds 44 = .ok (.aload_n 0, 1) := by decide +kernel
theorem dX1_learnKinds_45 : decode cX1_learnKinds 45 = .ok (.iconst 0, 1) := by decide +kernel
theorem dX1_learnKinds_46 : decode cX1_learnKinds 46 = .ok (.iconst 1, 1) := by decide +kernel
theorem dX1_learnKinds_47 : decode cX1_learnKinds 47 = .ok (.iload 4, 2) := by decide +kernel
theorem dX1_learnKinds_49 : decode cX1_learnKinds 49 = .ok (.iadd, 1) := by decide +kernel
theorem dX1_learnKinds_50 : decode cX1_learnKinds 50 = .ok (.invokevirtual 70, 3) := by decide +kernel
theorem dX1_learnKinds_53 : decode cX1_learnKinds 53 = .ok (.istore 5, 2) := by decide +kernel
theorem dX1_learnKinds_55 : decode cX1_learnKinds 55 = .ok (.iconst 0, 1) := by decide +kernel
theorem dX1_learnKinds_56 : decode cX1_learnKinds 56 = .ok (.istore 6, 2) := by decide +kernel
theorem dX1_learnKinds_58 : decode cX1_learnKinds 58 = .ok (.iload 6, 2) := by decide +kernel
theorem dX1_learnKinds_60 : decode cX1_learnKinds 60 = .ok (.iload_n 3, 1) := by decide +kernel
theorem dX1_learnKinds_61 : decode cX1_learnKinds 61 = .ok (.if_icmp .ge 22, 3) := by decide +kernel
theorem dX1_learnKinds_64 : decode cX1_learnKinds 64 = .ok (.aload_n 0, 1) := by decide +kernel
theorem dX1_learnKinds_65 : decode cX1_learnKinds 65 = .ok (.aload_n 0, 1) := by decide +kernel
theorem dX1_learnKinds_66 : decode cX1_learnKinds 66 = .ok (.iload 5, 2) := by decide +kernel
theorem dX1_learnKinds_68 : decode cX1_learnKinds 68 = .ok (.iload 6, 2) := by decide +kernel
theorem dX1_learnKinds_70 : decode cX1_learnKinds 70 = .ok (.invokevirtual 70, 3) := by decide +kernel
theorem dX1_learnKinds_73 : decode cX1_learnKinds 73 = .ok (.iconst 5, 1) := by decide +kernel
theorem dX1_learnKinds_74 : decode cX1_learnKinds 74 = .ok (.invokevirtual 105, 3) := by decide +kernel
theorem dX1_learnKinds_77 : decode cX1_learnKinds 77 = .ok (.iinc 6 1, 3) := by decide +kernel
theorem dX1_learnKinds_80 : decode cX1_learnKinds 80 = .ok (.goto (-22), 3) := by decide +kernel
theorem dX1_learnKinds_83 : decode cX1_learnKinds 83 = .ok (.iinc 4 1, 3) := by decide +kernel
theorem dX1_learnKinds_86 : decode cX1_learnKinds 86 = .ok (.goto (-48), 3) := by decide +kernel
theorem dX1_learnKinds_89 : decode cX1_learnKinds 89 = .ok (.iconst 0, 1) := by decide +kernel
theorem dX1_learnKinds_90 : decode cX1_learnKinds 90 = .ok (.istore 4, 2) := by decide +kernel
theorem dX1_learnKinds_92 : decode cX1_learnKinds 92 = .ok (.iload 4, 2) := by decide +kernel
theorem dX1_learnKinds_94 : decode cX1_learnKinds 94 = .ok (.iload_n 2, 1) := by decide +kernel
theorem dX1_learnKinds_95 : decode cX1_learnKinds 95 = .ok (.if_icmp .ge 23, 3) := by decide +kernel
theorem dX1_learnKinds_98 : decode cX1_learnKinds 98 = .ok (.aload_n 0, 1) := by decide +kernel
theorem dX1_learnKinds_99 : decode cX1_learnKinds 99 = .ok (.aload_n 0, 1) := by decide +kernel
theorem dX1_learnKinds_100 : decode cX1_learnKinds 100 = .ok (.iconst 0, 1) := by decide +kernel
theorem dX1_learnKinds_101 : decode cX1_learnKinds 101 = .ok (.iconst 1, 1) := by decide +kernel
theorem dX1_learnKinds_102 : decode cX1_learnKinds 102 = .ok (.iload 4, 2) := by decide +kernel
theorem dX1_learnKinds_104 : decode cX1_learnKinds 104 = .ok (.iadd, 1) := by decide +kernel
theorem dX1_learnKinds_105 : decode cX1_learnKinds 105 = .ok (.invokevirtual 70, 3) := by decide +kernel
theorem dX1_learnKinds_108 : decode cX1_learnKinds 108 = .ok (.iconst 4, 1) := by decide +kernel
theorem dX1_learnKinds_109 : decode cX1_learnKinds 109 = .ok (.invokevirtual 105, 3) := by decide +kernel
theorem dX1_learnKinds_112 : decode cX1_learnKinds 112 = .ok (.iinc 4 1, 3) := by decide +kernel
theorem dX1_learnKinds_115 : decode cX1_learnKinds 115 = .ok (.goto (-23), 3) := by decide +kernel
theorem dX1_learnKinds_118 : decode cX1_learnKinds 118 = .ok (.iconst 0, 1) := by decide +kernel
theorem dX1_learnKinds_119 : decode cX1_learnKinds 119 = .ok (.istore 4, 2) := by decide +kernel
theorem dX1_learnKinds_121 : decode cX1_learnKinds 121 = .ok (.iload 4, 2) := by decide +kernel
theorem dX1_learnKinds_123 : decode cX1_learnKinds 123 = .ok (.aload_n 0, 1) := by decide +kernel
theorem dX1_learnKinds_124 : decode cX1_learnKinds 124 = .ok (.getfield 23, 3) := by decide +kernel
theorem dX1_learnKinds_127 : decode cX1_learnKinds 127 = .ok (.if_icmp .ge 18, 3) := by decide +kernel
theorem dX1_learnKinds_130 : decode cX1_learnKinds 130 = .ok (.aload_n 0, 1) := by decide +kernel
theorem dX1_learnKinds_131 : decode cX1_learnKinds 131 = .ok (.iconst 2, 1) := by decide +kernel
theorem dX1_learnKinds_132 : decode cX1_learnKinds 132 = .ok (.iload 4, 2) := by decide +kernel
theorem dX1_learnKinds_134 : decode cX1_learnKinds 134 = .ok (.iadd, 1) := by decide +kernel
theorem dX1_learnKinds_135 : decode cX1_learnKinds 135 = .ok (.iconst 3, 1) := by decide +kernel
theorem dX1_learnKinds_136 : decode cX1_learnKinds 136 = .ok (.invokevirtual 105, 3) := by decide +kernel
theorem dX1_learnKinds_139 : decode cX1_learnKinds 139 = .ok (.iinc 4 1, 3) := by decide +kernel
theorem dX1_learnKinds_142 : decode cX1_learnKinds 142 = .ok (.goto (-21), 3) := by decide +kernel
theorem dX1_learnKinds_145 : decode cX1_learnKinds 145 = .ok (.aload_n 0, 1) := by decide +kernel
theorem dX1_learnKinds_146 : decode cX1_learnKinds 146 = .ok (.iconst 1, 1) := by decide +kernel
theorem dX1_learnKinds_147 : decode cX1_learnKinds 147 = .ok (.iconst 2, 1) := by decide +kernel
theorem dX1_learnKinds_148 : decode cX1_learnKinds 148 = .ok (.invokevirtual 105, 3) := by decide +kernel
theorem dX1_learnKinds_151 : decode cX1_learnKinds 151 = .ok (.aload_n 0, 1) := by decide +kernel
theorem dX1_learnKinds_152 : decode cX1_learnKinds 152 = .ok (.iconst 0, 1) := by decide +kernel
theorem dX1_learnKinds_153 : decode cX1_learnKinds 153 = .ok (.iconst 1, 1) := by decide +kernel
theorem dX1_learnKinds_154 : decode cX1_learnKinds 154 = .ok (.invokevirtual 105, 3) := by decide +kernel
theorem dX1_learnKinds_157 : decode cX1_learnKinds 157 = .ok (.return_, 1) := by decide +kernel
theorem dX1_mark_0 : decode cX1_mark 0 = .ok (.aload_n 0, 1) := by decide +kernel
theorem dX1_mark_1 : decode cX1_mark 1 = .ok (.iload_n 1, 1) := by decide +kernel
theorem dX1_mark_2 : decode cX1_mark 2 = .ok (.invokevirtual 50, 3) := by decide +kernel
theorem dX1_mark_5 : decode cX1_mark 5 = .ok (.ifCond .eq 10, 3) := by decide +kernel
theorem dX1_mark_8 : decode cX1_mark 8 = .ok (.aload_n 0, 1) := by decide +kernel
theorem dX1_mark_9 : decode cX1_mark 9 = .ok (.getfield 16, 3) := by decide +kernel
theorem dX1_mark_12 : decode cX1_mark 12 = .ok (.iload_n 1, 1) := by decide +kernel
theorem dX1_mark_13 : decode cX1_mark 13 = .ok (.iload_n 2, 1) := by decide +kernel
theorem dX1_mark_14 : decode cX1_mark 14 = .ok (.iastore, 1) := by decide +kernel
theorem dX1_mark_15 : decode cX1_mark 15 = .ok (.return_, 1) := by decide +kernel
theorem dX1_countKind_0 : decode cX1_countKind 0 = .ok (.iconst 0, 1) := by decide +kernel
theorem dX1_countKind_1 : decode cX1_countKind 1 = .ok (.istore_n 2, 1) := by decide +kernel
theorem dX1_countKind_2 : decode cX1_countKind 2 = .ok (.iconst 0, 1) := by decide +kernel
theorem dX1_countKind_3 : decode cX1_countKind 3 = .ok (.istore_n 3, 1) := by decide +kernel
theorem dX1_countKind_4 : decode cX1_countKind 4 = .ok (.iload_n 3, 1) := by decide +kernel
theorem dX1_countKind_5 : decode cX1_countKind 5 = .ok (.aload_n 0, 1) := by decide +kernel
theorem dX1_countKind_6 : decode cX1_countKind 6 = .ok (.getfield 19, 3) := by decide +kernel
theorem dX1_countKind_9 : decode cX1_countKind 9 = .ok (.if_icmp .ge 21, 3) := by decide +kernel
theorem dX1_countKind_12 : decode cX1_countKind 12 = .ok (.aload_n 0, 1) := by decide +kernel
theorem dX1_countKind_13 : decode cX1_countKind 13 = .ok (.iload_n 3, 1) := by decide +kernel
theorem dX1_countKind_14 : decode cX1_countKind 14 = .ok (.invokevirtual 109, 3) := by decide +kernel
theorem dX1_countKind_17 : decode cX1_countKind 17 = .ok (.iload_n 1, 1) := by decide +kernel
theorem dX1_countKind_18 : decode cX1_countKind 18 = .ok (.if_icmp .ne 6, 3) := by decide +kernel
theorem dX1_countKind_21 : decode cX1_countKind 21 = .ok (.iinc 2 1, 3) := by decide +kernel
theorem dX1_countKind_24 : decode cX1_countKind 24 = .ok (.iinc 3 1, 3) := by decide +kernel
theorem dX1_countKind_27 : decode cX1_countKind 27 = .ok (.goto (-23), 3) := by decide +kernel
theorem dX1_countKind_30 : decode cX1_countKind 30 = .ok (.iload_n 2, 1) := by decide +kernel
theorem dX1_countKind_31 : decode cX1_countKind 31 = .ok (.ireturn, 1) := by decide +kernel
theorem dX1_freeBehind_0 : decode cX1_freeBehind 0 = .ok (.iload_n 1, 1) := by decide +kernel
theorem dX1_freeBehind_1 : decode cX1_freeBehind 1 = .ok (.iconst 1, 1) := by decide +kernel
theorem dX1_freeBehind_2 : decode cX1_freeBehind 2 = .ok (.iadd, 1) := by decide +kernel
theorem dX1_freeBehind_3 : decode cX1_freeBehind 3 = .ok (.istore_n 2, 1) := by decide +kernel
theorem dX1_freeBehind_4 : decode cX1_freeBehind 4 = .ok (.iload_n 2, 1) := by decide +kernel
theorem dX1_freeBehind_5 : decode cX1_freeBehind 5 = .ok (.aload_n 0, 1) := by decide +kernel
theorem dX1_freeBehind_6 : decode cX1_freeBehind 6 = .ok (.getfield 19, 3) := by decide +kernel
theorem dX1_freeBehind_9 : decode cX1_freeBehind 9 = .ok (.if_icmp .ge 19, 3) := by decide +kernel
theorem dX1_freeBehind_12 : decode cX1_freeBehind 12 = .ok (.aload_n 0, 1) := by decide +kernel
theorem dX1_freeBehind_13 : decode cX1_freeBehind 13 = .ok (.iload_n 2, 1) := by decide +kernel
theorem dX1_freeBehind_14 : decode cX1_freeBehind 14 = .ok (.invokevirtual 109, 3) := by decide +kernel
theorem dX1_freeBehind_17 : decode cX1_freeBehind 17 = .ok (.ifCond .ne 5, 3) := by decide +kernel
theorem dX1_freeBehind_20 : decode cX1_freeBehind 20 = .ok (.iload_n 2, 1) := by decide +kernel
theorem dX1_freeBehind_21 : decode cX1_freeBehind 21 = .ok (.ireturn, 1) := by decide +kernel
theorem dX1_freeBehind_22 : decode cX1_freeBehind 22 = .ok (.iinc 2 1, 3) := by decide +kernel
theorem dX1_freeBehind_25 : decode cX1_freeBehind 25 = .ok (.goto (-21), 3) := by decide +kernel
theorem dX1_freeBehind_28 : decode cX1_freeBehind 28 = .ok (.iconst (-1), 1) := by decide +kernel
theorem dX1_freeBehind_29 : decode cX1_freeBehind 29 = .ok (.ireturn, 1) := by decide +kernel
theorem dX1_countRecords_0 : decode cX1_countRecords 0 = .ok (.iconst 0, 1) := by decide +kernel
theorem dX1_countRecords_1 : decode cX1_countRecords 1 = .ok (.istore_n 1, 1) := by decide +kernel
theorem dX1_countRecords_2 : decode cX1_countRecords 2 = .ok (.iconst 0, 1) := by decide +kernel
theorem dX1_countRecords_3 : decode cX1_countRecords 3 = .ok (.istore_n 2, 1) := by decide +kernel
theorem dX1_countRecords_4 : decode cX1_countRecords 4 = .ok (.iload_n 2, 1) := by decide +kernel
theorem dX1_countRecords_5 : decode cX1_countRecords 5 = .ok (.aload_n 0, 1) := by decide +kernel
theorem dX1_countRecords_6 : decode cX1_countRecords 6 = .ok (.getfield 19, 3) := by decide +kernel
theorem dX1_countRecords_9 : decode cX1_countRecords 9 = .ok (.if_icmp .ge 27, 3) := by decide +kernel
theorem dX1_countRecords_12 : decode cX1_countRecords 12 = .ok (.aload_n 0, 1) := by decide +kernel
theorem dX1_countRecords_13 : decode cX1_countRecords 13 = .ok (.iload_n 2, 1) := by decide +kernel
theorem dX1_countRecords_14 : decode cX1_countRecords 14 = .ok (.invokevirtual 109, 3) := by decide +kernel
theorem dX1_countRecords_17 : decode cX1_countRecords 17 = .ok (.iconst 5, 1) := by decide +kernel
theorem dX1_countRecords_18 : decode cX1_countRecords 18 = .ok (.if_icmp .ne 12, 3) := by decide +kernel
theorem dX1_countRecords_21 : decode cX1_countRecords 21 = .ok (.iload_n 1, 1) := by decide +kernel
theorem dX1_countRecords_22 : decode cX1_countRecords 22 = .ok (.aload_n 0, 1) := by decide +kernel
theorem dX1_countRecords_23 : decode cX1_countRecords 23 = .ok (.iload_n 2, 1) := by decide +kernel
theorem dX1_countRecords_24 : decode cX1_countRecords 24 = .ok (.iconst 1, 1) := by decide +kernel
theorem dX1_countRecords_25 : decode cX1_countRecords 25 = .ok (.invokevirtual 70, 3) := by decide +kernel
theorem dX1_countRecords_28 : decode cX1_countRecords 28 = .ok (.iadd, 1) := by decide +kernel
theorem dX1_countRecords_29 : decode cX1_countRecords 29 = .ok (.istore_n 1, 1) := by decide +kernel
theorem dX1_countRecords_30 : decode cX1_countRecords 30 = .ok (.iinc 2 1, 3) := by decide +kernel
theorem dX1_countRecords_33 : decode cX1_countRecords 33 = .ok (.goto (-29), 3) := by decide +kernel
theorem dX1_countRecords_36 : decode cX1_countRecords 36 = .ok (.iload_n 1, 1) := by decide +kernel
theorem dX1_countRecords_37 : decode cX1_countRecords 37 = .ok (.ireturn, 1) := by decide +kernel
theorem dX1_hasBucketOfDepth_0 : decode cX1_hasBucketOfDepth 0 = .ok (.iconst 0, 1) := by decide +kernel
theorem dX1_hasBucketOfDepth_1 : decode cX1_hasBucketOfDepth 1 = .ok (.istore_n 2, 1) := by decide +kernel
theorem dX1_hasBucketOfDepth_2 : decode cX1_hasBucketOfDepth 2 = .ok (.iload_n 2, 1) := by decide +kernel
theorem dX1_hasBucketOfDepth_3 : decode cX1_hasBucketOfDepth 3 = .ok (.aload_n 0, 1) := by decide +kernel
theorem dX1_hasBucketOfDepth_4 : decode cX1_hasBucketOfDepth 4 = .ok (.getfield 19, 3) := by decide +kernel
theorem dX1_hasBucketOfDepth_7 : decode cX1_hasBucketOfDepth 7 = .ok (.if_icmp .ge 30, 3) := by decide +kernel
theorem dX1_hasBucketOfDepth_10 : decode cX1_hasBucketOfDepth 10 = .ok (.aload_n 0, 1) := by decide +kernel
theorem dX1_hasBucketOfDepth_11 : decode cX1_hasBucketOfDepth 11 = .ok (.iload_n 2, 1) := by decide +kernel
theorem dX1_hasBucketOfDepth_12 : decode cX1_hasBucketOfDepth 12 = .ok (.invokevirtual 109, 3) := by decide +kernel
theorem dX1_hasBucketOfDepth_15 : decode cX1_hasBucketOfDepth 15 = .ok (.iconst 5, 1) := by decide +kernel
theorem dX1_hasBucketOfDepth_16 : decode cX1_hasBucketOfDepth 16 = .ok (.if_icmp .ne 15, 3) := by decide +kernel
theorem dX1_hasBucketOfDepth_19 : decode cX1_hasBucketOfDepth 19 = .ok (.aload_n 0, 1) := by decide +kernel
theorem dX1_hasBucketOfDepth_20 : decode cX1_hasBucketOfDepth 20 = .ok (.iload_n 2, 1) := by decide +kernel
theorem dX1_hasBucketOfDepth_21 : decode cX1_hasBucketOfDepth 21 = .ok (.iconst 0, 1) := by decide +kernel
theorem dX1_hasBucketOfDepth_22 : decode cX1_hasBucketOfDepth 22 = .ok (.invokevirtual 70, 3) := by decide +kernel
theorem dX1_hasBucketOfDepth_25 : decode cX1_hasBucketOfDepth 25 = .ok (.iload_n 1, 1) := by decide +kernel
theorem dX1_hasBucketOfDepth_26 : decode cX1_hasBucketOfDepth 26 = .ok (.if_icmp .ne 5, 3) := by decide +kernel
theorem dX1_hasBucketOfDepth_29 : decode cX1_hasBucketOfDepth 29 = .ok (.iconst 1, 1) := by decide +kernel
theorem dX1_hasBucketOfDepth_30 : decode cX1_hasBucketOfDepth 30 = .ok (.ireturn, 1) := by decide +kernel
theorem dX1_hasBucketOfDepth_31 : decode cX1_hasBucketOfDepth 31 = .ok (.iinc 2 1, 3) := by decide +kernel
theorem dX1_hasBucketOfDepth_34 : decode cX1_hasBucketOfDepth 34 = .ok (.goto (-32), 3) := by decide +kernel
theorem dX1_hasBucketOfDepth_37 : decode cX1_hasBucketOfDepth 37 = .ok (.iconst 0, 1) := by decide +kernel
theorem dX1_hasBucketOfDepth_38 : decode cX1_hasBucketOfDepth 38 = .ok (.ireturn, 1) := by decide +kernel
theorem dX1_recordBytes_0 : decode cX1_recordBytes 0 = .ok (.aload_n 0, 1) := by decide +kernel
theorem dX1_recordBytes_1 : decode cX1_recordBytes 1 = .ok (.iload_n 1, 1) := by decide +kernel
theorem dX1_recordBytes_2 : decode cX1_recordBytes 2 = .ok (.iconst 2, 1) := by decide +kernel
theorem dX1_recordBytes_3 : decode cX1_recordBytes 3 = .ok (.invokevirtual 70, 3) := by decide +kernel
theorem dX1_recordBytes_6 : decode cX1_recordBytes 6 = .ok (.sipush 256, 3) := by decide +kernel
theorem dX1_recordBytes_9 : decode cX1_recordBytes 9 = .ok (.imul, 1) := by decide +kernel
theorem dX1_recordBytes_10 : decode cX1_recordBytes 10 = .ok (.aload_n 0, 1) := by decide +kernel
theorem dX1_recordBytes_11 : decode cX1_recordBytes 11 = .ok (.iload_n 1, 1) := by decide +kernel
theorem dX1_recordBytes_12 : decode cX1_recordBytes 12 = .ok (.iconst 3, 1) := by decide +kernel
theorem dX1_recordBytes_13 : decode cX1_recordBytes 13 = .ok (.invokevirtual 70, 3) := by decide +kernel
theorem dX1_recordBytes_16 : decode cX1_recordBytes 16 = .ok (.iadd, 1) := by decide +kernel
theorem dX1_recordBytes_17 : decode cX1_recordBytes 17 = .ok (.ireturn, 1) := by decide +kernel
theorem dX1_recordSize_0 : decode cX1_recordSize 0 = .ok (.iconst 2, 1) := by decide +kernel
theorem dX1_recordSize_1 : decode cX1_recordSize 1 = .ok (.aload_n 0, 1) := by decide +kernel
theorem dX1_recordSize_2 : decode cX1_recordSize 2 = .ok (.iload_n 1, 1) := by decide +kernel
theorem dX1_recordSize_3 : decode cX1_recordSize 3 = .ok (.iload_n 2, 1) := by decide +kernel
theorem dX1_recordSize_4 : decode cX1_recordSize 4 = .ok (.invokevirtual 70, 3) := by decide +kernel
theorem dX1_recordSize_7 : decode cX1_recordSize 7 = .ok (.iadd, 1) := by decide +kernel
theorem dX1_recordSize_8 : decode cX1_recordSize 8 = .ok (.aload_n 0, 1) := by decide +kernel
theorem dX1_recordSize_9 : decode cX1_recordSize 9 = .ok (.iload_n 1, 1) := by decide +kernel
theorem dX1_recordSize_10 : decode cX1_recordSize 10 = .ok (.iload_n 2, 1) := by decide +kernel
theorem dX1_recordSize_11 : decode cX1_recordSize 11 = .ok (.iconst 1, 1) := by decide +kernel
theorem dX1_recordSize_12 : decode cX1_recordSize 12 = .ok (.iadd, 1) := by decide +kernel
theorem dX1_recordSize_13 : decode cX1_recordSize 13 = .ok (.invokevirtual 70, 3) := by decide +kernel
theorem dX1_recordSize_16 : decode cX1_recordSize 16 = .ok (.iadd, 1) := by decide +kernel
theorem dX1_recordSize_17 : decode cX1_recordSize 17 = .ok (.ireturn, 1) := by decide +kernel
theorem dX1_recordStart_0 : decode cX1_recordStart 0 = .ok (.iconst 4, 1) := by decide +kernel
theorem dX1_recordStart_1 : decode cX1_recordStart 1 = .ok (.istore_n 3, 1) := by decide +kernel
theorem dX1_recordStart_2 : decode cX1_recordStart 2 = .ok (.iconst 0, 1) := by decide +kernel
theorem dX1_recordStart_3 : decode cX1_recordStart 3 = .ok (.istore 4, 2) := by decide +kernel
theorem dX1_recordStart_5 : decode cX1_recordStart 5 = .ok (.iload 4, 2) := by decide +kernel
theorem dX1_recordStart_7 : decode cX1_recordStart 7 = .ok (.iload_n 2, 1) := by decide +kernel
theorem dX1_recordStart_8 : decode cX1_recordStart 8 = .ok (.if_icmp .ge 18, 3) := by decide +kernel
theorem dX1_recordStart_11 : decode cX1_recordStart 11 = .ok (.iload_n 3, 1) := by decide +kernel
theorem dX1_recordStart_12 : decode cX1_recordStart 12 = .ok (.aload_n 0, 1) := by decide +kernel
theorem dX1_recordStart_13 : decode cX1_recordStart 13 = .ok (.iload_n 1, 1) := by decide +kernel
theorem dX1_recordStart_14 : decode cX1_recordStart 14 = .ok (.iload_n 3, 1) := by decide +kernel
theorem dX1_recordStart_15 : decode cX1_recordStart 15 = .ok (.invokevirtual 112, 3) := by decide +kernel
theorem dX1_recordStart_18 : decode cX1_recordStart 18 = .ok (.iadd, 1) := by decide +kernel
theorem dX1_recordStart_19 : decode cX1_recordStart 19 = .ok (.istore_n 3, 1) := by decide +kernel
theorem dX1_recordStart_20 : decode cX1_recordStart 20 = .ok (.iinc 4 1, 3) := by decide +kernel
theorem dX1_recordStart_23 : decode cX1_recordStart 23 = .ok (.goto (-18), 3) := by decide +kernel
theorem dX1_recordStart_26 : decode cX1_recordStart 26 = .ok (.iload_n 3, 1) := by decide +kernel
theorem dX1_recordStart_27 : decode cX1_recordStart 27 = .ok (.ireturn, 1) := by decide +kernel
theorem dX1_recordHash_0 : decode cX1_recordHash 0 = .ok (.aload_n 0, 1) := by decide +kernel
theorem dX1_recordHash_1 : decode cX1_recordHash 1 = .ok (.getfield 10, 3) := by decide +kernel
theorem dX1_recordHash_4 : decode cX1_recordHash 4 = .ok (.iload_n 1, 1) := by decide +kernel
theorem dX1_recordHash_5 : decode cX1_recordHash 5 = .ok (.sipush 256, 3) := by decide +kernel
theorem dX1_recordHash_8 : decode cX1_recordHash 8 = .ok (.imul, 1) := by decide +kernel
theorem dX1_recordHash_9 : decode cX1_recordHash 9 = .ok (.iload_n 2, 1) := by decide +kernel
theorem dX1_recordHash_10 : decode cX1_recordHash 10 = .ok (.iadd, 1) := by decide +kernel
theorem dX1_recordHash_11 : decode cX1_recordHash 11 = .ok (.iconst 2, 1) := by decide +kernel
theorem dX1_recordHash_12 : decode cX1_recordHash 12 = .ok (.iadd, 1) := by decide +kernel
theorem dX1_recordHash_13 : decode cX1_recordHash 13 = .ok (.aload_n 0, 1) := by decide +kernel
theorem dX1_recordHash_14 : decode cX1_recordHash 14 = .ok (.iload_n 1, 1) := by decide +kernel
theorem dX1_recordHash_15 : decode cX1_recordHash 15 = .ok (.iload_n 2, 1) := by decide +kernel
theorem dX1_recordHash_16 : decode cX1_recordHash 16 = .ok (.invokevirtual 70, 3) := by decide +kernel
theorem dX1_recordHash_19 : decode cX1_recordHash 19 = .ok (.invokestatic 115, 3) := by decide +kernel
theorem dX1_recordHash_22 : decode cX1_recordHash 22 = .ok (.ireturn, 1) := by decide +kernel
theorem dX1_allHashesAre_0 : decode cX1_allHashesAre 0 = .ok (.aload_n 0, 1) := by decide +kernel
theorem dX1_allHashesAre_1 : decode cX1_allHashesAre 1 = .ok (.iload_n 1, 1) := by decide +kernel
theorem dX1_allHashesAre_2 : decode cX1_allHashesAre 2 = .ok (.iconst 1, 1) := by decide +kernel
theorem dX1_allHashesAre_3 : decode cX1_allHashesAre 3 = .ok (.invokevirtual 70, 3) := by decide +kernel
theorem dX1_allHashesAre_6 : decode cX1_allHashesAre 6 = .ok (.istore_n 3, 1) := by decide +kernel
theorem dX1_allHashesAre_7 : decode cX1_allHashesAre 7 = .ok (.iconst 4, 1) := by decide +kernel
theorem dX1_allHashesAre_8 : decode cX1_allHashesAre 8 = .ok (.istore 4, 2) := by decide +kernel
theorem dX1_allHashesAre_10 : decode cX1_allHashesAre 10 = .ok (.iconst 0, 1) := by decide +kernel
theorem dX1_allHashesAre_11 : decode cX1_allHashesAre 11 = .ok (.istore 5, 2) := by decide +kernel
theorem dX1_allHashesAre_13 : decode cX1_allHashesAre 13 = .ok (.iload 5, 2) := by decide +kernel
theorem dX1_allHashesAre_15 : decode cX1_allHashesAre 15 = .ok (.iload_n 3, 1) := by decide +kernel
theorem dX1_allHashesAre_16 : decode cX1_allHashesAre 16 = .ok (.if_icmp .ge 34, 3) := by decide +kernel
theorem dX1_allHashesAre_19 : decode cX1_allHashesAre 19 = .ok (.aload_n 0, 1) := by decide +kernel
theorem dX1_allHashesAre_20 : decode cX1_allHashesAre 20 = .ok (.iload_n 1, 1) := by decide +kernel
theorem dX1_allHashesAre_21 : decode cX1_allHashesAre 21 = .ok (.iload 4, 2) := by decide +kernel
theorem dX1_allHashesAre_23 : decode cX1_allHashesAre 23 = .ok (.invokevirtual 119, 3) := by decide +kernel
theorem dX1_allHashesAre_26 : decode cX1_allHashesAre 26 = .ok (.iload_n 2, 1) := by decide +kernel
theorem dX1_allHashesAre_27 : decode cX1_allHashesAre 27 = .ok (.if_icmp .eq 5, 3) := by decide +kernel
theorem dX1_allHashesAre_30 : decode cX1_allHashesAre 30 = .ok (.iconst 0, 1) := by decide +kernel
theorem dX1_allHashesAre_31 : decode cX1_allHashesAre 31 = .ok (.ireturn, 1) := by decide +kernel
theorem dX1_allHashesAre_32 : decode cX1_allHashesAre 32 = .ok (.iload 4, 2) := by decide +kernel
theorem dX1_allHashesAre_34 : decode cX1_allHashesAre 34 = .ok (.aload_n 0, 1) := by decide +kernel
theorem dX1_allHashesAre_35 : decode cX1_allHashesAre 35 = .ok (.iload_n 1, 1) := by decide +kernel
theorem dX1_allHashesAre_36 : decode cX1_allHashesAre 36 = .ok (.iload 4, 2) := by decide +kernel
theorem dX1_allHashesAre_38 : decode cX1_allHashesAre 38 = .ok (.invokevirtual 112, 3) := by decide +kernel
theorem dX1_allHashesAre_41 : decode cX1_allHashesAre 41 = .ok (.iadd, 1) := by decide +kernel
theorem dX1_allHashesAre_42 : decode cX1_allHashesAre 42 = .ok (.istore 4, 2) := by decide +kernel
theorem dX1_allHashesAre_44 : decode cX1_allHashesAre 44 = .ok (.iinc 5 1, 3) := by decide +kernel
theorem dX1_allHashesAre_47 : decode cX1_allHashesAre 47 = .ok (.goto (-34), 3) := by decide +kernel
theorem dX1_allHashesAre_50 : decode cX1_allHashesAre 50 = .ok (.iconst 1, 1) := by decide +kernel
theorem dX1_allHashesAre_51 : decode cX1_allHashesAre 51 = .ok (.ireturn, 1) := by decide +kernel
theorem dX1_find_0 : decode cX1_find 0 = .ok (.aload_n 0, 1) := by decide +kernel
theorem dX1_find_1 : decode cX1_find 1 = .ok (.iload_n 1, 1) := by decide +kernel
theorem dX1_find_2 : decode cX1_find 2 = .ok (.iconst 1, 1) := by decide +kernel
theorem dX1_find_3 : decode cX1_find 3 = .ok (.invokevirtual 70, 3) := by decide +kernel
theorem dX1_find_6 : decode cX1_find 6 = .ok (.istore 4, 2) := by decide +kernel
theorem dX1_find_8 : decode cX1_find 8 = .ok (.iconst 4, 1) := by decide +kernel
theorem dX1_find_9 : decode cX1_find 9 = .ok (.istore 5, 2) := by decide +kernel
theorem dX1_find_11 : decode cX1_find 11 = .ok (.iconst 0, 1) := by decide +kernel
theorem dX1_find_12 : decode cX1_find 12 = .ok (.istore 6, 2) := by decide +kernel
theorem dX1_find_14 : decode cX1_find 14 = .ok (.iload 6, 2) := by decide +kernel
theorem dX1_find_16 : decode cX1_find 16 = .ok (.iload 4, 2) := by decide +kernel
theorem dX1_find_18 : decode cX1_find 18 = .ok (.if_icmp .ge 49, 3) := by decide +kernel
theorem dX1_find_21 : decode cX1_find 21 = .ok (.aload_n 0, 1) := by decide +kernel
theorem dX1_find_22 : decode cX1_find 22 = .ok (.iload_n 1, 1) := by decide +kernel
theorem dX1_find_23 : decode cX1_find 23 = .ok (.iload 5, 2) := by decide +kernel
theorem dX1_find_25 : decode cX1_find 25 = .ok (.invokevirtual 70, 3) := by decide +kernel
theorem dX1_find_28 : decode cX1_find 28 = .ok (.iload_n 3, 1) := by decide +kernel
theorem dX1_find_29 : decode cX1_find 29 = .ok (.if_icmp .ne 20, 3) := by decide +kernel
theorem dX1_find_32 : decode cX1_find 32 = .ok (.aload_n 0, 1) := by decide +kernel
theorem dX1_find_33 : decode cX1_find 33 = .ok (.iload_n 1, 1) := by decide +kernel
theorem dX1_find_34 : decode cX1_find 34 = .ok (.iload 5, 2) := by decide +kernel
theorem dX1_find_36 : decode cX1_find 36 = .ok (.iconst 2, 1) := by decide +kernel
theorem dX1_find_37 : decode cX1_find 37 = .ok (.iadd, 1) := by decide +kernel
theorem dX1_find_38 : decode cX1_find 38 = .ok (.aload_n 2, 1) := by decide +kernel
theorem dX1_find_39 : decode cX1_find 39 = .ok (.iload_n 3, 1) := by decide +kernel
theorem dX1_find_40 : decode cX1_find 40 = .ok (.invokevirtual 122, 3) := by decide +kernel
theorem dX1_find_43 : decode cX1_find 43 = .ok (.ifCond .eq 6, 3) := by decide +kernel
theorem dX1_find_46 : decode cX1_find 46 = .ok (.iload 5, 2) := by decide +kernel
theorem dX1_find_48 : decode cX1_find 48 = .ok (.ireturn, 1) := by decide +kernel
theorem dX1_find_49 : decode cX1_find 49 = .ok (.iload 5, 2) := by decide +kernel
theorem dX1_find_51 : decode cX1_find 51 = .ok (.aload_n 0, 1) := by decide +kernel
theorem dX1_find_52 : decode cX1_find 52 = .ok (.iload_n 1, 1) := by decide +kernel
theorem dX1_find_53 : decode cX1_find 53 = .ok (.iload 5, 2) := by decide +kernel
theorem dX1_find_55 : decode cX1_find 55 = .ok (.invokevirtual 112, 3) := by decide +kernel
theorem dX1_find_58 : decode cX1_find 58 = .ok (.iadd, 1) := by decide +kernel
theorem dX1_find_59 : decode cX1_find 59 = .ok (.istore 5, 2) := by decide +kernel
theorem dX1_find_61 : decode cX1_find 61 = .ok (.iinc 6 1, 3) := by decide +kernel
theorem dX1_find_64 : decode cX1_find 64 = .ok (.goto (-50), 3) := by decide +kernel
theorem dX1_find_67 : decode cX1_find 67 = .ok (.iconst (-1), 1) := by decide +kernel
theorem dX1_find_68 : decode cX1_find 68 = .ok (.ireturn, 1) := by decide +kernel
theorem dX1_hasKey_0 : decode cX1_hasKey 0 = .ok (.iconst 0, 1) := by decide +kernel
theorem dX1_hasKey_1 : decode cX1_hasKey 1 = .ok (.istore 5, 2) := by decide +kernel
theorem dX1_hasKey_3 : decode cX1_hasKey 3 = .ok (.iload 5, 2) := by decide +kernel
theorem dX1_hasKey_5 : decode cX1_hasKey 5 = .ok (.iload 4, 2) := by decide +kernel
theorem dX1_hasKey_7 : decode cX1_hasKey 7 = .ok (.if_icmp .ge 29, 3) := by decide +kernel
theorem dX1_hasKey_10 : decode cX1_hasKey 10 = .ok (.aload_n 0, 1) := by decide +kernel
theorem dX1_hasKey_11 : decode cX1_hasKey 11 = .ok (.iload_n 1, 1) := by decide +kernel
theorem dX1_hasKey_12 : decode cX1_hasKey 12 = .ok (.iload_n 2, 1) := by decide +kernel
theorem dX1_hasKey_13 : decode cX1_hasKey 13 = .ok (.iload 5, 2) := by decide +kernel
theorem dX1_hasKey_15 : decode cX1_hasKey 15 = .ok (.iadd, 1) := by decide +kernel
theorem dX1_hasKey_16 : decode cX1_hasKey 16 = .ok (.invokevirtual 70, 3) := by decide +kernel
theorem dX1_hasKey_19 : decode cX1_hasKey 19 = .ok (.aload_n 3, 1) := by decide +kernel
theorem dX1_hasKey_20 : decode cX1_hasKey 20 = .ok (.iload 5, 2) := by decide +kernel
theorem dX1_hasKey_22 : decode cX1_hasKey 22 = .ok (.invokevirtual 126, 3) := by decide +kernel
theorem dX1_hasKey_25 : decode cX1_hasKey 25 = .ok (.if_icmp .eq 5, 3) := by decide +kernel
theorem dX1_hasKey_28 : decode cX1_hasKey 28 = .ok (.iconst 0, 1) := by decide +kernel
theorem dX1_hasKey_29 : decode cX1_hasKey 29 = .ok (.ireturn, 1) := by decide +kernel
theorem dX1_hasKey_30 : decode cX1_hasKey 30 = .ok (.iinc 5 1, 3) := by decide +kernel
theorem dX1_hasKey_33 : decode cX1_hasKey 33 = .ok (.goto (-30), 3) := by decide +kernel
theorem dX1_hasKey_36 : decode cX1_hasKey 36 = .ok (.iconst 1, 1) := by decide +kernel
theorem dX1_hasKey_37 : decode cX1_hasKey 37 = .ok (.ireturn, 1) := by decide +kernel
theorem dX2_init_0 : decode cX2_init 0 = .ok (.aload_n 0, 1) := by decide +kernel
theorem dX2_init_1 : decode cX2_init 1 = .ok (.invokespecial 3, 3) := by decide +kernel
theorem dX2_init_4 : decode cX2_init 4 = .ok (.aload_n 0, 1) := by decide +kernel
theorem dX2_init_5 : decode cX2_init 5 = .ok (.sipush 256, 3) := by decide +kernel
theorem dX2_init_8 : decode cX2_init 8 = .ok (.newarray .int, 2) := by decide +kernel
theorem dX2_init_10 : decode cX2_init 10 = .ok (.putfield 9, 3) := by decide +kernel
theorem dX2_init_13 : decode cX2_init 13 = .ok (.return_, 1) := by decide +kernel
theorem dX2_bytes_0 : decode cX2_bytes 0 = .ok (.aload_n 0, 1) := by decide +kernel
theorem dX2_bytes_1 : decode cX2_bytes 1 = .ok (.getfield 9, 3) := by decide +kernel
theorem dX2_bytes_4 : decode cX2_bytes 4 = .ok (.areturn, 1) := by decide +kernel
theorem dX2_byteAt_0 : decode cX2_byteAt 0 = .ok (.iload_n 1, 1) := by decide +kernel
theorem dX2_byteAt_1 : decode cX2_byteAt 1 = .ok (.ifCond .lt 21, 3) := by decide +kernel
theorem dX2_byteAt_4 : decode cX2_byteAt 4 = .ok (.iload_n 1, 1) := by decide +kernel
theorem dX2_byteAt_5 : decode cX2_byteAt 5 = .ok (.aload_n 0, 1) := by decide +kernel
theorem dX2_byteAt_6 : decode cX2_byteAt 6 = .ok (.getfield 9, 3) := by decide +kernel
theorem dX2_byteAt_9 : decode cX2_byteAt 9 = .ok (.arraylength, 1) := by decide +kernel
theorem dX2_byteAt_10 : decode cX2_byteAt 10 = .ok (.if_icmp .ge 12, 3) := by decide +kernel
theorem dX2_byteAt_13 : decode cX2_byteAt 13 = .ok (.aload_n 0, 1) := by decide +kernel
theorem dX2_byteAt_14 : decode cX2_byteAt 14 = .ok (.getfield 9, 3) := by decide +kernel
theorem dX2_byteAt_17 : decode cX2_byteAt 17 = .ok (.iload_n 1, 1) := by decide +kernel
theorem dX2_byteAt_18 : decode cX2_byteAt 18 = .ok (.iaload, 1) := by decide +kernel
theorem dX2_byteAt_19 : decode cX2_byteAt 19 = .ok (.goto 4, 3) := by decide +kernel
theorem dX2_byteAt_22 : decode cX2_byteAt 22 = .ok (.iconst 0, 1) := by decide +kernel
theorem dX2_byteAt_23 : decode cX2_byteAt 23 = .ok (.ireturn, 1) := by decide +kernel
theorem dX2_set_0 : decode cX2_set 0 = .ok (.iload_n 1, 1) := by decide +kernel
theorem dX2_set_1 : decode cX2_set 1 = .ok (.ifCond .lt 23, 3) := by decide +kernel
theorem dX2_set_4 : decode cX2_set 4 = .ok (.iload_n 1, 1) := by decide +kernel
theorem dX2_set_5 : decode cX2_set 5 = .ok (.aload_n 0, 1) := by decide +kernel
theorem dX2_set_6 : decode cX2_set 6 = .ok (.getfield 9, 3) := by decide +kernel
theorem dX2_set_9 : decode cX2_set 9 = .ok (.arraylength, 1) := by decide +kernel
theorem dX2_set_10 : decode cX2_set 10 = .ok (.if_icmp .ge 14, 3) := by decide +kernel
theorem dX2_set_13 : decode cX2_set 13 = .ok (.aload_n 0, 1) := by decide +kernel
theorem dX2_set_14 : decode cX2_set 14 = .ok (.getfield 9, 3) := by decide +kernel
theorem dX2_set_17 : decode cX2_set 17 = .ok (.iload_n 1, 1) := by decide +kernel
theorem dX2_set_18 : decode cX2_set 18 = .ok (.iload_n 2, 1) := by decide +kernel
theorem dX2_set_19 : decode cX2_set 19 = .ok (.sipush 255, 3) := by decide +kernel
theorem dX2_set_22 : decode cX2_set 22 = .ok (.iand, 1) := by decide +kernel
theorem dX2_set_23 : decode cX2_set 23 = .ok (.iastore, 1) := by decide +kernel
theorem dX2_set_24 : decode cX2_set 24 = .ok (.return_, 1) := by decide +kernel
theorem dX2_clear_0 : decode cX2_clear 0 = .ok (.aload_n 0, 1) := by decide +kernel
theorem dX2_clear_1 : decode cX2_clear 1 = .ok (.getfield 9, 3) := by decide +kernel
theorem dX2_clear_4 : decode cX2_clear 4 = .ok (.iconst 0, 1) := by decide +kernel
theorem dX2_clear_5 : decode cX2_clear 5 = .ok (.invokestatic 15, 3) := by decide +kernel
theorem dX2_clear_8 : decode cX2_clear 8 = .ok (.return_, 1) := by decide +kernel
theorem dX2_startBucket_0 : decode cX2_startBucket 0 = .ok (.aload_n 0, 1) := by decide +kernel
theorem dX2_startBucket_1 : decode cX2_startBucket 1 = .ok (.invokevirtual 21, 3) := by decide +kernel
theorem dX2_startBucket_4 : decode cX2_startBucket 4 = .ok (.aload_n 0, 1) := by decide +kernel
theorem dX2_startBucket_5 : decode cX2_startBucket 5 = .ok (.iconst 0, 1) := by decide +kernel
theorem dX2_startBucket_6 : decode cX2_startBucket 6 = .ok (.iload_n 1, 1) := by decide +kernel
theorem dX2_startBucket_7 : decode cX2_startBucket 7 = .ok (.invokevirtual 24, 3) := by decide +kernel
theorem dX2_startBucket_10 : decode cX2_startBucket 10 = .ok (.return_, 1) := by decide +kernel
theorem dX2_copyRecord_0 : decode cX2_copyRecord 0 = .ok (.aload_n 1, 1) := by decide +kernel
theorem dX2_copyRecord_1 : decode cX2_copyRecord 1 = .ok (.iload_n 2, 1) := by decide +kernel
theorem dX2_copyRecord_2 : decode cX2_copyRecord 2 = .ok (.iload_n 3, 1) := by decide +kernel
theorem dX2_copyRecord_3 : decode cX2_copyRecord 3 = .ok (.invokevirtual 28, 3) := by decide +kernel
theorem dX2_copyRecord_6 : decode cX2_copyRecord 6 = .ok (.istore 4, 2) := by decide +kernel
theorem dX2_copyRecord_8 : decode cX2_copyRecord 8 = .ok (.aload_n 0, 1) := by decide +kernel
theorem dX2_copyRecord_9 : decode cX2_copyRecord 9 = .ok (.iload 4, 2) := by decide +kernel
theorem dX2_copyRecord_11 : decode cX2_copyRecord 11 = .ok (.invokevirtual 34, 3) := by decide +kernel
theorem dX2_copyRecord_14 : decode cX2_copyRecord 14 = .ok (.istore 5, 2) := by decide +kernel
theorem dX2_copyRecord_16 : decode cX2_copyRecord 16 = .ok (.iconst 0, 1) := by decide +kernel
theorem dX2_copyRecord_17 : decode cX2_copyRecord 17 = .ok (.istore 6, 2) := by decide +kernel
theorem dX2_copyRecord_19 : decode cX2_copyRecord 19 = .ok (.iload 6, 2) := by decide +kernel
theorem dX2_copyRecord_21 : decode cX2_copyRecord 21 = .ok (.iload 4, 2) := by decide +kernel
theorem dX2_copyRecord_23 : decode cX2_copyRecord 23 = .ok (.if_icmp .ge 27, 3) := by decide +kernel
theorem dX2_copyRecord_26 : decode cX2_copyRecord 26 = .ok (.aload_n 0, 1) := by decide +kernel
theorem dX2_copyRecord_27 : decode cX2_copyRecord 27 = .ok (.iload 5, 2) := by decide +kernel
theorem dX2_copyRecord_29 : decode cX2_copyRecord 29 = .ok (.iload 6, 2) := by decide +kernel
theorem dX2_copyRecord_31 : decode cX2_copyRecord 31 = .ok (.iadd, 1) := by decide +kernel
theorem dX2_copyRecord_32 : decode cX2_copyRecord 32 = .ok (.aload_n 1, 1) := by decide +kernel
theorem dX2_copyRecord_33 : decode cX2_copyRecord 33 = .ok (.iload_n 2, 1) := by decide +kernel
theorem dX2_copyRecord_34 : decode cX2_copyRecord 34 = .ok (.iload_n 3, 1) := by decide +kernel
theorem dX2_copyRecord_35 : decode cX2_copyRecord 35 = .ok (.iload 6, 2) := by decide +kernel
theorem dX2_copyRecord_37 : decode cX2_copyRecord 37 = .ok (.iadd, 1) := by decide +kernel
theorem dX2_copyRecord_38 : decode cX2_copyRecord 38 = .ok (.invokevirtual 38, 3) := by decide +kernel
theorem dX2_copyRecord_41 : decode cX2_copyRecord 41 = .ok (.invokevirtual 24, 3) := by decide +kernel
theorem dX2_copyRecord_44 : decode cX2_copyRecord 44 = .ok (.iinc 6 1, 3) := by decide +kernel
theorem dX2_copyRecord_47 : decode cX2_copyRecord 47 = .ok (.goto (-28), 3) := by decide +kernel
theorem dX2_copyRecord_50 : decode cX2_copyRecord 50 = .ok (.return_, 1) := by decide +kernel
theorem dX2_addRecord_0 : decode cX2_addRecord 0 = .ok (.aload_n 0, 1) := by decide +kernel
theorem dX2_addRecord_1 : decode cX2_addRecord 1 = .ok (.iconst 2, 1) := by decide +kernel
theorem dX2_addRecord_2 : decode cX2_addRecord 2 = .ok (.iload_n 3, 1) := by decide +kernel
theorem dX2_addRecord_3 : decode cX2_addRecord 3 = .ok (.iadd, 1) := by decide +kernel
theorem dX2_addRecord_4 : decode cX2_addRecord 4 = .ok (.invokevirtual 34, 3) := by decide +kernel
theorem dX2_addRecord_7 : decode cX2_addRecord 7 = .ok (.istore 4, 2) := by decide +kernel
theorem dX2_addRecord_9 : decode cX2_addRecord 9 = .ok (.aload_n 0, 1) := by decide +kernel
theorem dX2_addRecord_10 : decode cX2_addRecord 10 = .ok (.iload 4, 2) := by decide +kernel
theorem dX2_addRecord_12 : decode cX2_addRecord 12 = .ok (.iload_n 2, 1) := by decide +kernel
theorem dX2_addRecord_13 : decode cX2_addRecord 13 = .ok (.invokevirtual 24, 3) := by decide +kernel
theorem dX2_addRecord_16 : decode cX2_addRecord 16 = .ok (.aload_n 0, 1) := by decide +kernel
theorem dX2_addRecord_17 : decode cX2_addRecord 17 = .ok (.iload 4, 2) := by decide +kernel
theorem dX2_addRecord_19 : decode cX2_addRecord 19 = .ok (.iconst 1, 1) := by decide +kernel
theorem dX2_addRecord_20 : decode cX2_addRecord 20 = .ok (.iadd, 1) := by decide +kernel
theorem dX2_addRecord_21 : decode cX2_addRecord 21 = .ok (.iload_n 3, 1) := by decide +kernel
theorem dX2_addRecord_22 : decode cX2_addRecord 22 = .ok (.iload_n 2, 1) := by decide +kernel
theorem dX2_addRecord_23 : decode cX2_addRecord 23 = .ok (.isub, 1) := by decide +kernel
theorem dX2_addRecord_24 : decode cX2_addRecord 24 = .ok (.invokevirtual 24, 3) := by decide +kernel
theorem dX2_addRecord_27 : decode cX2_addRecord 27 = .ok (.iconst 0, 1) := by decide +kernel
theorem dX2_addRecord_28 : decode cX2_addRecord 28 = .ok (.istore 5, 2) := by decide +kernel
theorem dX2_addRecord_30 : decode cX2_addRecord 30 = .ok (.iload 5, 2) := by decide +kernel
theorem dX2_addRecord_32 : decode cX2_addRecord 32 = .ok (.iload_n 3, 1) := by decide +kernel
theorem dX2_addRecord_33 : decode cX2_addRecord 33 = .ok (.if_icmp .ge 26, 3) := by decide +kernel
theorem dX2_addRecord_36 : decode cX2_addRecord 36 = .ok (.aload_n 0, 1) := by decide +kernel
theorem dX2_addRecord_37 : decode cX2_addRecord 37 = .ok (.iload 4, 2) := by decide +kernel
theorem dX2_addRecord_39 : decode cX2_addRecord 39 = .ok (.iconst 2, 1) := by decide +kernel
theorem dX2_addRecord_40 : decode cX2_addRecord 40 = .ok (.iadd, 1) := by decide +kernel
theorem dX2_addRecord_41 : decode cX2_addRecord 41 = .ok (.iload 5, 2) := by decide +kernel
theorem dX2_addRecord_43 : decode cX2_addRecord 43 = .ok (.iadd, 1) := by decide +kernel
theorem dX2_addRecord_44 : decode cX2_addRecord 44 = .ok (.aload_n 1, 1) := by decide +kernel
theorem dX2_addRecord_45 : decode cX2_addRecord 45 = .ok (.iload 5, 2) := by decide +kernel
theorem dX2_addRecord_47 : decode cX2_addRecord 47 = .ok (.invokevirtual 41, 3) := by decide +kernel
theorem dX2_addRecord_50 : decode cX2_addRecord 50 = .ok (.invokevirtual 24, 3) := by decide +kernel
theorem dX2_addRecord_53 : decode cX2_addRecord 53 = .ok (.iinc 5 1, 3) := by decide +kernel
theorem dX2_addRecord_56 : decode cX2_addRecord 56 = .ok (.goto (-26), 3) := by decide +kernel
theorem dX2_addRecord_59 : decode cX2_addRecord 59 = .ok (.return_, 1) := by decide +kernel
theorem dX2_countRecord_0 : decode cX2_countRecord 0 = .ok (.aload_n 0, 1) := by decide +kernel
theorem dX2_countRecord_1 : decode cX2_countRecord 1 = .ok (.iconst 2, 1) := by decide +kernel
theorem dX2_countRecord_2 : decode cX2_countRecord 2 = .ok (.invokevirtual 46, 3) := by decide +kernel
theorem dX2_countRecord_5 : decode cX2_countRecord 5 = .ok (.sipush 256, 3) := by decide +kernel
theorem dX2_countRecord_8 : decode cX2_countRecord 8 = .ok (.imul, 1) := by decide +kernel
theorem dX2_countRecord_9 : decode cX2_countRecord 9 = .ok (.aload_n 0, 1) := by decide +kernel
theorem dX2_countRecord_10 : decode cX2_countRecord 10 = .ok (.iconst 3, 1) := by decide +kernel
theorem dX2_countRecord_11 : decode cX2_countRecord 11 = .ok (.invokevirtual 46, 3) := by decide +kernel
theorem dX2_countRecord_14 : decode cX2_countRecord 14 = .ok (.iadd, 1) := by decide +kernel
theorem dX2_countRecord_15 : decode cX2_countRecord 15 = .ok (.istore_n 2, 1) := by decide +kernel
theorem dX2_countRecord_16 : decode cX2_countRecord 16 = .ok (.aload_n 0, 1) := by decide +kernel
theorem dX2_countRecord_17 : decode cX2_countRecord 17 = .ok (.iconst 1, 1) := by decide +kernel
theorem dX2_countRecord_18 : decode cX2_countRecord 18 = .ok (.aload_n 0, 1) := by decide +kernel
theorem dX2_countRecord_19 : decode cX2_countRecord 19 = .ok (.iconst 1, 1) := by decide +kernel
theorem dX2_countRecord_20 : decode cX2_countRecord 20 = .ok (.invokevirtual 46, 3) := by decide +kernel
theorem dX2_countRecord_23 : decode cX2_countRecord 23 = .ok (.iconst 1, 1) := by decide +kernel
theorem dX2_countRecord_24 : decode cX2_countRecord 24 = .ok (.iadd, 1) := by decide +kernel
theorem dX2_countRecord_25 : decode cX2_countRecord 25 = .ok (.invokevirtual 24, 3) := by decide +kernel
theorem dX2_countRecord_28 : decode cX2_countRecord 28 = .ok (.aload_n 0, 1) := by decide +kernel
theorem dX2_countRecord_29 : decode cX2_countRecord 29 = .ok (.iconst 2, 1) := by decide +kernel
theorem dX2_countRecord_30 : decode cX2_countRecord 30 = .ok (.iload_n 2, 1) := by decide +kernel
theorem dX2_countRecord_31 : decode cX2_countRecord 31 = .ok (.iload_n 1, 1) := by decide +kernel
theorem dX2_countRecord_32 : decode cX2_countRecord 32 = .ok (.iadd, 1) := by decide +kernel
theorem dX2_countRecord_33 : decode cX2_countRecord 33 = .ok (.sipush 256, 3) := by decide +kernel
theorem dX2_countRecord_36 : decode cX2_countRecord 36 = .ok (.idiv, 1) := by decide +kernel
theorem dX2_countRecord_37 : decode cX2_countRecord 37 = .ok (.invokevirtual 24, 3) := by decide +kernel
theorem dX2_countRecord_40 : decode cX2_countRecord 40 = .ok (.aload_n 0, 1) := by decide +kernel
theorem dX2_countRecord_41 : decode cX2_countRecord 41 = .ok (.iconst 3, 1) := by decide +kernel
theorem dX2_countRecord_42 : decode cX2_countRecord 42 = .ok (.iload_n 2, 1) := by decide +kernel
theorem dX2_countRecord_43 : decode cX2_countRecord 43 = .ok (.iload_n 1, 1) := by decide +kernel
theorem dX2_countRecord_44 : decode cX2_countRecord 44 = .ok (.iadd, 1) := by decide +kernel
theorem dX2_countRecord_45 : decode cX2_countRecord 45 = .ok (.sipush 256, 3) := by decide +kernel
theorem dX2_countRecord_48 : decode cX2_countRecord 48 = .ok (.irem, 1) := by decide +kernel
theorem dX2_countRecord_49 : decode cX2_countRecord 49 = .ok (.invokevirtual 24, 3) := by decide +kernel
theorem dX2_countRecord_52 : decode cX2_countRecord 52 = .ok (.iconst 4, 1) := by decide +kernel
theorem dX2_countRecord_53 : decode cX2_countRecord 53 = .ok (.iload_n 2, 1) := by decide +kernel
theorem dX2_countRecord_54 : decode cX2_countRecord 54 = .ok (.iadd, 1) := by decide +kernel
theorem dX2_countRecord_55 : decode cX2_countRecord 55 = .ok (.ireturn, 1) := by decide +kernel
theorem dX3_init_0 : decode cX3_init 0 = .ok (.aload_n 0, 1) := by decide +kernel
theorem dX3_init_1 : decode cX3_init 1 = .ok (.invokespecial 3, 3) := by decide +kernel
theorem dX3_init_4 : decode cX3_init 4 = .ok (.aload_n 0, 1) := by decide +kernel
theorem dX3_init_5 : decode cX3_init 5 = .ok (.bipush 48, 2) := by decide +kernel
theorem dX3_init_7 : decode cX3_init 7 = .ok (.newarray .int, 2) := by decide +kernel
theorem dX3_init_9 : decode cX3_init 9 = .ok (.putfield 9, 3) := by decide +kernel
theorem dX3_init_12 : decode cX3_init 12 = .ok (.aload_n 0, 1) := by decide +kernel
theorem dX3_init_13 : decode cX3_init 13 = .ok (.iconst 0, 1) := by decide +kernel
theorem dX3_init_14 : decode cX3_init 14 = .ok (.putfield 15, 3) := by decide +kernel
theorem dX3_init_17 : decode cX3_init 17 = .ok (.return_, 1) := by decide +kernel
theorem dX3_size_0 : decode cX3_size 0 = .ok (.aload_n 0, 1) := by decide +kernel
theorem dX3_size_1 : decode cX3_size 1 = .ok (.getfield 15, 3) := by decide +kernel
theorem dX3_size_4 : decode cX3_size 4 = .ok (.ireturn, 1) := by decide +kernel
theorem dX3_byteAt_0 : decode cX3_byteAt 0 = .ok (.iload_n 1, 1) := by decide +kernel
theorem dX3_byteAt_1 : decode cX3_byteAt 1 = .ok (.ifCond .lt 21, 3) := by decide +kernel
theorem dX3_byteAt_4 : decode cX3_byteAt 4 = .ok (.iload_n 1, 1) := by decide +kernel
theorem dX3_byteAt_5 : decode cX3_byteAt 5 = .ok (.aload_n 0, 1) := by decide +kernel
theorem dX3_byteAt_6 : decode cX3_byteAt 6 = .ok (.getfield 9, 3) := by decide +kernel
theorem dX3_byteAt_9 : decode cX3_byteAt 9 = .ok (.arraylength, 1) := by decide +kernel
theorem dX3_byteAt_10 : decode cX3_byteAt 10 = .ok (.if_icmp .ge 12, 3) := by decide +kernel
theorem dX3_byteAt_13 : decode cX3_byteAt 13 = .ok (.aload_n 0, 1) := by decide +kernel
theorem dX3_byteAt_14 : decode cX3_byteAt 14 = .ok (.getfield 9, 3) := by decide +kernel
theorem dX3_byteAt_17 : decode cX3_byteAt 17 = .ok (.iload_n 1, 1) := by decide +kernel
theorem dX3_byteAt_18 : decode cX3_byteAt 18 = .ok (.iaload, 1) := by decide +kernel
theorem dX3_byteAt_19 : decode cX3_byteAt 19 = .ok (.goto 4, 3) := by decide +kernel
theorem dX3_byteAt_22 : decode cX3_byteAt 22 = .ok (.iconst 0, 1) := by decide +kernel
theorem dX3_byteAt_23 : decode cX3_byteAt 23 = .ok (.ireturn, 1) := by decide +kernel
theorem dX3_append_0 : decode cX3_append 0 = .ok (.aload_n 0, 1) := by decide +kernel
theorem dX3_append_1 : decode cX3_append 1 = .ok (.getfield 15, 3) := by decide +kernel
theorem dX3_append_4 : decode cX3_append 4 = .ok (.ifCond .lt 35, 3) := by decide +kernel
theorem dX3_append_7 : decode cX3_append 7 = .ok (.aload_n 0, 1) := by decide +kernel
theorem dX3_append_8 : decode cX3_append 8 = .ok (.getfield 15, 3) := by decide +kernel
theorem dX3_append_11 : decode cX3_append 11 = .ok (.aload_n 0, 1) := by decide +kernel
theorem dX3_append_12 : decode cX3_append 12 = .ok (.getfield 9, 3) := by decide +kernel
theorem dX3_append_15 : decode cX3_append 15 = .ok (.arraylength, 1) := by decide +kernel
theorem dX3_append_16 : decode cX3_append 16 = .ok (.if_icmp .ge 23, 3) := by decide +kernel
theorem dX3_append_19 : decode cX3_append 19 = .ok (.aload_n 0, 1) := by decide +kernel
theorem dX3_append_20 : decode cX3_append 20 = .ok (.getfield 9, 3) := by decide +kernel
theorem dX3_append_23 : decode cX3_append 23 = .ok (.aload_n 0, 1) := by decide +kernel
theorem dX3_append_24 : decode cX3_append 24 = .ok (.getfield 15, 3) := by decide +kernel
theorem dX3_append_27 : decode cX3_append 27 = .ok (.iload_n 1, 1) := by decide +kernel
theorem dX3_append_28 : decode cX3_append 28 = .ok (.iastore, 1) := by decide +kernel
theorem dX3_append_29 : decode cX3_append 29 = .ok (.aload_n 0, 1) := by decide +kernel
theorem dX3_append_30 : decode cX3_append 30 = .ok (.dup, 1) := by decide +kernel
theorem dX3_append_31 : decode cX3_append 31 = .ok (.getfield 15, 3) := by decide +kernel
theorem dX3_append_34 : decode cX3_append 34 = .ok (.iconst 1, 1) := by decide +kernel
theorem dX3_append_35 : decode cX3_append 35 = .ok (.iadd, 1) := by decide +kernel
theorem dX3_append_36 : decode cX3_append 36 = .ok (.putfield 15, 3) := by decide +kernel
theorem dX3_append_39 : decode cX3_append 39 = .ok (.return_, 1) := by decide +kernel
theorem dX3_take_0 : decode cX3_take 0 = .ok (.aload_n 0, 1) := by decide +kernel
theorem dX3_take_1 : decode cX3_take 1 = .ok (.getfield 15, 3) := by decide +kernel
theorem dX3_take_4 : decode cX3_take 4 = .ok (.istore_n 1, 1) := by decide +kernel
theorem dX3_take_5 : decode cX3_take 5 = .ok (.aload_n 0, 1) := by decide +kernel
theorem dX3_take_6 : decode cX3_take 6 = .ok (.iconst 0, 1) := by decide +kernel
theorem dX3_take_7 : decode cX3_take 7 = .ok (.putfield 15, 3) := by decide +kernel
theorem dX3_take_10 : decode cX3_take 10 = .ok (.iload_n 1, 1) := by decide +kernel
theorem dX3_take_11 : decode cX3_take 11 = .ok (.ireturn, 1) := by decide +kernel
theorem dX3_keyHash_0 : decode cX3_keyHash 0 = .ok (.aload_n 0, 1) := by decide +kernel
theorem dX3_keyHash_1 : decode cX3_keyHash 1 = .ok (.getfield 9, 3) := by decide +kernel
theorem dX3_keyHash_4 : decode cX3_keyHash 4 = .ok (.iconst 0, 1) := by decide +kernel
theorem dX3_keyHash_5 : decode cX3_keyHash 5 = .ok (.iload_n 1, 1) := by decide +kernel
theorem dX3_keyHash_6 : decode cX3_keyHash 6 = .ok (.invokestatic 19, 3) := by decide +kernel
theorem dX3_keyHash_9 : decode cX3_keyHash 9 = .ok (.ireturn, 1) := by decide +kernel
theorem dX4_init_0 : decode cX4_init 0 = .ok (.aload_n 0, 1) := by decide +kernel
theorem dX4_init_1 : decode cX4_init 1 = .ok (.invokespecial 1, 3) := by decide +kernel
theorem dX4_init_4 : decode cX4_init 4 = .ok (.aload_n 0, 1) := by decide +kernel
theorem dX4_init_5 : decode cX4_init 5 = .ok (.new 7, 3) := by decide +kernel
theorem dX4_init_8 : decode cX4_init 8 = .ok (.dup, 1) := by decide +kernel
theorem dX4_init_9 : decode cX4_init 9 = .ok (.invokespecial 9, 3) := by decide +kernel
theorem dX4_init_12 : decode cX4_init 12 = .ok (.putfield 10, 3) := by decide +kernel
theorem dX4_init_15 : decode cX4_init 15 = .ok (.aload_n 0, 1) := by decide +kernel
theorem dX4_init_16 : decode cX4_init 16 = .ok (.new 16, 3) := by decide +kernel
theorem dX4_init_19 : decode cX4_init 19 = .ok (.dup, 1) := by decide +kernel
theorem dX4_init_20 : decode cX4_init 20 = .ok (.aload_n 0, 1) := by decide +kernel
theorem dX4_init_21 : decode cX4_init 21 = .ok (.getfield 10, 3) := by decide +kernel
theorem dX4_init_24 : decode cX4_init 24 = .ok (.invokespecial 18, 3) := by decide +kernel
theorem dX4_init_27 : decode cX4_init 27 = .ok (.putfield 21, 3) := by decide +kernel
theorem dX4_init_30 : decode cX4_init 30 = .ok (.aload_n 0, 1) := by decide +kernel
theorem dX4_init_31 : decode cX4_init 31 = .ok (.new 25, 3) := by decide +kernel
theorem dX4_init_34 : decode cX4_init 34 = .ok (.dup, 1) := by decide +kernel
theorem dX4_init_35 : decode cX4_init 35 = .ok (.invokespecial 27, 3) := by decide +kernel
theorem dX4_init_38 : decode cX4_init 38 = .ok (.putfield 28, 3) := by decide +kernel
theorem dX4_init_41 : decode cX4_init 41 = .ok (.aload_n 0, 1) := by decide +kernel
theorem dX4_init_42 : decode cX4_init 42 = .ok (.new 25, 3) := by decide +kernel
theorem dX4_init_45 : decode cX4_init 45 = .ok (.dup, 1) := by decide +kernel
theorem dX4_init_46 : decode cX4_init 46 = .ok (.invokespecial 27, 3) := by decide +kernel
theorem dX4_init_49 : decode cX4_init 49 = .ok (.putfield 32, 3) := by decide +kernel
theorem dX4_init_52 : decode cX4_init 52 = .ok (.aload_n 0, 1) := by decide +kernel
theorem dX4_init_53 : decode cX4_init 53 = .ok (.new 35, 3) := by decide +kernel
theorem dX4_init_56 : decode cX4_init 56 = .ok (.dup, 1) := by decide +kernel
theorem dX4_init_57 : decode cX4_init 57 = .ok (.invokespecial 37, 3) := by decide +kernel
theorem dX4_init_60 : decode cX4_init 60 = .ok (.putfield 38, 3) := by decide +kernel
theorem dX4_init_63 : decode cX4_init 63 = .ok (.aload_n 0, 1) := by decide +kernel
theorem dX4_init_64 : decode cX4_init 64 = .ok (.bipush 32, 2) := by decide +kernel
theorem dX4_init_66 : decode cX4_init 66 = .ok (.newarray .int, 2) := by decide +kernel
theorem dX4_init_68 : decode cX4_init 68 = .ok (.putfield 42, 3) := by decide +kernel
theorem dX4_init_71 : decode cX4_init 71 = .ok (.aload_n 0, 1) := by decide +kernel
theorem dX4_init_72 : decode cX4_init 72 = .ok (.iconst 0, 1) := by decide +kernel
theorem dX4_init_73 : decode cX4_init 73 = .ok (.putfield 46, 3) := by decide +kernel
theorem dX4_init_76 : decode cX4_init 76 = .ok (.aload_n 0, 1) := by decide +kernel
theorem dX4_init_77 : decode cX4_init 77 = .ok (.getfield 10, 3) := by decide +kernel
theorem dX4_init_80 : decode cX4_init 80 = .ok (.bipush 64, 2) := by decide +kernel
theorem dX4_init_82 : decode cX4_init 82 = .ok (.bipush 8, 2) := by decide +kernel
theorem dX4_init_84 : decode cX4_init 84 = .ok (.aload_n 0, 1) := by decide +kernel
theorem dX4_init_85 : decode cX4_init 85 = .ok (.getfield 28, 3) := by decide +kernel
theorem dX4_init_88 : decode cX4_init 88 = .ok (.invokevirtual 50, 3) := by decide +kernel
theorem dX4_init_91 : decode cX4_init 91 = .ok (.return_, 1) := by decide +kernel
theorem dX4_format_0 : decode cX4_format 0 = .ok (.iload_n 1, 1) := by decide +kernel
theorem dX4_format_1 : decode cX4_format 1 = .ok (.bipush 8, 2) := by decide +kernel
theorem dX4_format_3 : decode cX4_format 3 = .ok (.if_icmp .lt 10, 3) := by decide +kernel
theorem dX4_format_6 : decode cX4_format 6 = .ok (.iload_n 1, 1) := by decide +kernel
theorem dX4_format_7 : decode cX4_format 7 = .ok (.sipush 255, 3) := by decide +kernel
theorem dX4_format_10 : decode cX4_format 10 = .ok (.if_icmp .le 13, 3) := by decide +kernel
theorem dX4_format_13 : decode cX4_format 13 = .ok (.new 54, 3) := by decide +kernel
theorem dX4_format_16 : decode cX4_format 16 = .ok (.dup, 1) := by decide +kernel
theorem dX4_format_17 : decode cX4_format 17 = .ok (.ldc 56, 2) := by decide +kernel
theorem dX4_format_19 : decode cX4_format 19 = .ok (.invokespecial 58, 3) := by decide +kernel
theorem dX4_format_22 : decode cX4_format 22 = .ok (.athrow, 1) := by decide +kernel
theorem dX4_format_23 : decode cX4_format 23 = .ok (.iload_n 2, 1) := by decide +kernel
theorem dX4_format_24 : decode cX4_format 24 = .ok (.iconst 2, 1) := by decide +kernel
theorem dX4_format_25 : decode cX4_format 25 = .ok (.if_icmp .lt 9, 3) := by decide +kernel
theorem dX4_format_28 : decode cX4_format 28 = .ok (.iload_n 2, 1) := by decide +kernel
theorem dX4_format_29 : decode cX4_format 29 = .ok (.bipush 100, 2) := by decide +kernel
theorem dX4_format_31 : decode cX4_format 31 = .ok (.if_icmp .le 13, 3) := by decide +kernel
theorem dX4_format_34 : decode cX4_format 34 = .ok (.new 54, 3) := by decide +kernel
theorem dX4_format_37 : decode cX4_format 37 = .ok (.dup, 1) := by decide +kernel
theorem dX4_format_38 : decode cX4_format 38 = .ok (.ldc 61, 2) := by decide +kernel
theorem dX4_format_40 : decode cX4_format 40 = .ok (.invokespecial 58, 3) := by decide +kernel
theorem dX4_format_43 : decode cX4_format 43 = .ok (.athrow, 1) := by decide +kernel
theorem dX4_format_44 : decode cX4_format 44 = .ok (.iload_n 1, 1) := by decide +kernel
theorem dX4_format_45 : decode cX4_format 45 = .ok (.iload_n 2, 1) := by decide +kernel
theorem dX4_format_46 : decode cX4_format 46 = .ok (.iconst 4, 1) := by decide +kernel
theorem dX4_format_47 : decode cX4_format 47 = .ok (.iadd, 1) := by decide +kernel
theorem dX4_format_48 : decode cX4_format 48 = .ok (.if_icmp .ge 13, 3) := by decide +kernel
theorem dX4_format_51 : decode cX4_format 51 = .ok (.new 54, 3) := by decide +kernel
theorem dX4_format_54 : decode cX4_format 54 = .ok (.dup, 1) := by decide +kernel
theorem dX4_format_55 : decode cX4_format 55 = .ok (.ldc 63, 2) := by decide +kernel
theorem dX4_format_57 : decode cX4_format 57 = .ok (.invokespecial 58, 3) := by decide +kernel
theorem dX4_format_60 : decode cX4_format 60 = .ok (.athrow, 1) := by decide +kernel
theorem dX4_format_61 : decode cX4_format 61 = .ok (.aload_n 0, 1) := by decide +kernel
theorem dX4_format_62 : decode cX4_format 62 = .ok (.getfield 10, 3) := by decide +kernel
theorem dX4_format_65 : decode cX4_format 65 = .ok (.iload_n 1, 1) := by decide +kernel
theorem dX4_format_66 : decode cX4_format 66 = .ok (.iload_n 2, 1) := by decide +kernel
theorem dX4_format_67 : decode cX4_format 67 = .ok (.aload_n 0, 1) := by decide +kernel
theorem dX4_format_68 : decode cX4_format 68 = .ok (.getfield 28, 3) := by decide +kernel
theorem dX4_format_71 : decode cX4_format 71 = .ok (.invokevirtual 50, 3) := by decide +kernel
theorem dX4_format_74 : decode cX4_format 74 = .ok (.aload_n 0, 1) := by decide +kernel
theorem dX4_format_75 : decode cX4_format 75 = .ok (.iconst 0, 1) := by decide +kernel
theorem dX4_format_76 : decode cX4_format 76 = .ok (.putfield 46, 3) := by decide +kernel
theorem dX4_format_79 : decode cX4_format 79 = .ok (.return_, 1) := by decide +kernel
theorem dX4_feed_0 : decode cX4_feed 0 = .ok (.iload_n 1, 1) := by decide +kernel
theorem dX4_feed_1 : decode cX4_feed 1 = .ok (.iconst 1, 1) := by decide +kernel
theorem dX4_feed_2 : decode cX4_feed 2 = .ok (.if_icmp .lt 9, 3) := by decide +kernel
theorem dX4_feed_5 : decode cX4_feed 5 = .ok (.iload_n 1, 1) := by decide +kernel
theorem dX4_feed_6 : decode cX4_feed 6 = .ok (.bipush 16, 2) := by decide +kernel
theorem dX4_feed_8 : decode cX4_feed 8 = .ok (.if_icmp .le 13, 3) := by decide +kernel
theorem dX4_feed_11 : decode cX4_feed 11 = .ok (.new 54, 3) := by decide +kernel
theorem dX4_feed_14 : decode cX4_feed 14 = .ok (.dup, 1) := by decide +kernel
theorem dX4_feed_15 : decode cX4_feed 15 = .ok (.ldc 65, 2) := by decide +kernel
theorem dX4_feed_17 : decode cX4_feed 17 = .ok (.invokespecial 58, 3) := by decide +kernel
theorem dX4_feed_20 : decode cX4_feed 20 = .ok (.athrow, 1) := by decide +kernel
theorem dX4_feed_21 : decode cX4_feed 21 = .ok (.aload_n 0, 1) := by decide +kernel
theorem dX4_feed_22 : decode cX4_feed 22 = .ok (.getfield 38, 3) := by decide +kernel
theorem dX4_feed_25 : decode cX4_feed 25 = .ok (.invokevirtual 67, 3) := by decide +kernel
theorem dX4_feed_28 : decode cX4_feed 28 = .ok (.iload_n 1, 1) := by decide +kernel
theorem dX4_feed_29 : decode cX4_feed 29 = .ok (.iadd, 1) := by decide +kernel
theorem dX4_feed_30 : decode cX4_feed 30 = .ok (.bipush 48, 2) := by decide +kernel
theorem dX4_feed_32 : decode cX4_feed 32 = .ok (.if_icmp .le 13, 3) := by decide +kernel
theorem dX4_feed_35 : decode cX4_feed 35 = .ok (.new 71, 3) := by decide +kernel
theorem dX4_feed_38 : decode cX4_feed 38 = .ok (.dup, 1) := by decide +kernel
theorem dX4_feed_39 : decode cX4_feed 39 = .ok (.ldc 73, 2) := by decide +kernel
theorem dX4_feed_41 : decode cX4_feed 41 = .ok (.invokespecial 75, 3) := by decide +kernel
theorem dX4_feed_44 : decode cX4_feed 44 = .ok (.athrow, 1) := by decide +kernel
theorem dX4_feed_45 : decode cX4_feed 45 = .ok (.iconst 0, 1) := by decide +kernel
theorem dX4_feed_46 : decode cX4_feed 46 = .ok (.istore 6, 2) := by decide +kernel
theorem dX4_feed_48 : decode cX4_feed 48 = .ok (.iload 6, 2) := by decide +kernel
theorem dX4_feed_50 : decode cX4_feed 50 = .ok (.iload_n 1, 1) := by decide +kernel
theorem dX4_feed_51 : decode cX4_feed 51 = .ok (.if_icmp .ge 47, 3) := by decide +kernel
theorem dX4_feed_54 : decode cX4_feed 54 = .ok (.iload 6, 2) := by decide +kernel
theorem dX4_feed_56 : decode cX4_feed 56 = .ok (.bipush 8, 2) := by decide +kernel
theorem dX4_feed_58 : decode cX4_feed 58 = .ok (.if_icmp .ge 7, 3) := by decide +kernel
theorem dX4_feed_61 : decode cX4_feed 61 = .ok (.lload_n 2, 1) := by decide +kernel
theorem dX4_feed_62 : decode cX4_feed 62 = .ok (.goto 5, 3) := by decide +kernel
theorem dX4_feed_65 : decode cX4_feed 65 = .ok (.lload 4, 2) := by decide +kernel
theorem dX4_feed_67 : decode cX4_feed 67 = .ok (.lstore 7, 2) := by decide +kernel
theorem dX4_feed_69 : decode cX4_feed 69 = .ok (.aload_n 0, 1) := by decide +kernel
theorem dX4_feed_70 : decode cX4_feed 70 = .ok (.getfield 38, 3) := by decide +kernel
theorem dX4_feed_73 : decode cX4_feed 73 = .ok (.lload 7, 2) := by decide +kernel
theorem dX4_feed_75 : decode cX4_feed 75 = .ok (.bipush 8, 2) := by decide +kernel
theorem dX4_feed_77 : decode cX4_feed 77 = .ok (.iload 6, 2) := by decide +kernel
theorem dX4_feed_79 : decode cX4_feed 79 = .ok (.bipush 7, 2) := by decide +kernel
theorem dX4_feed_81 : decode cX4_feed 81 = .ok (.iand, 1) := by decide +kernel
theorem dX4_feed_82 : decode cX4_feed 82 = .ok (.imul, 1) := by decide +kernel
theorem dX4_feed_83 : decode cX4_feed 83 = .ok (.lushr, 1) := by decide +kernel
theorem dX4_feed_84 : decode cX4_feed 84 = .ok (.l2i, 1) := by decide +kernel
theorem dX4_feed_85 : decode cX4_feed 85 = .ok (.sipush 255, 3) := by decide +kernel
theorem dX4_feed_88 : decode cX4_feed 88 = .ok (.iand, 1) := by decide +kernel
theorem dX4_feed_89 : decode cX4_feed 89 = .ok (.invokevirtual 76, 3) := by decide +kernel
theorem dX4_feed_92 : decode cX4_feed 92 = .ok (.iinc 6 1, 3) := by decide +kernel
theorem dX4_feed_95 : decode cX4_feed 95 = .ok (.goto (-47), 3) := by decide +kernel
theorem dX4_feed_98 : decode cX4_feed 98 = .ok (.aload_n 0, 1) := by decide +kernel
theorem dX4_feed_99 : decode cX4_feed 99 = .ok (.getfield 38, 3) := by decide +kernel
theorem dX4_feed_102 : decode cX4_feed 102 = .ok (.invokevirtual 67, 3) := by decide +kernel
theorem dX4_feed_105 : decode cX4_feed 105 = .ok (.ireturn, 1) := by decide +kernel
theorem dX4_put_0 : decode cX4_put 0 = .ok (.aload_n 0, 1) := by decide +kernel
theorem dX4_put_1 : decode cX4_put 1 = .ok (.getfield 38, 3) := by decide +kernel
theorem dX4_put_4 : decode cX4_put 4 = .ok (.invokevirtual 80, 3) := by decide +kernel
theorem dX4_put_7 : decode cX4_put 7 = .ok (.istore_n 2, 1) := by decide +kernel
theorem dX4_put_8 : decode cX4_put 8 = .ok (.aload_n 0, 1) := by decide +kernel
theorem dX4_put_9 : decode cX4_put 9 = .ok (.getfield 10, 3) := by decide +kernel
theorem dX4_put_12 : decode cX4_put 12 = .ok (.invokevirtual 83, 3) := by decide +kernel
theorem dX4_put_15 : decode cX4_put 15 = .ok (.ifCond .eq 13, 3) := by decide +kernel
theorem dX4_put_18 : decode cX4_put 18 = .ok (.new 87, 3) := by decide +kernel
theorem dX4_put_21 : decode cX4_put 21 = .ok (.dup, 1) := by decide +kernel
theorem dX4_put_22 : decode cX4_put 22 = .ok (.ldc 89, 2) := by decide +kernel
theorem dX4_put_24 : decode cX4_put 24 = .ok (.invokespecial 91, 3) := by decide +kernel
theorem dX4_put_27 : decode cX4_put 27 = .ok (.athrow, 1) := by decide +kernel
theorem dX4_put_28 : decode cX4_put 28 = .ok (.iload_n 1, 1) := by decide +kernel
theorem dX4_put_29 : decode cX4_put 29 = .ok (.iconst 1, 1) := by decide +kernel
theorem dX4_put_30 : decode cX4_put 30 = .ok (.if_icmp .lt 14, 3) := by decide +kernel
theorem dX4_put_33 : decode cX4_put 33 = .ok (.iload_n 1, 1) := by decide +kernel
theorem dX4_put_34 : decode cX4_put 34 = .ok (.bipush 16, 2) := by decide +kernel
theorem dX4_put_36 : decode cX4_put 36 = .ok (.if_icmp .gt 8, 3) := by decide +kernel
theorem dX4_put_39 : decode cX4_put 39 = .ok (.iload_n 1, 1) := by decide +kernel
theorem dX4_put_40 : decode cX4_put 40 = .ok (.iload_n 2, 1) := by decide +kernel
theorem dX4_put_41 : decode cX4_put 41 = .ok (.if_icmp .le 13, 3) := by decide +kernel
theorem dX4_put_44 : decode cX4_put 44 = .ok (.new 54, 3) := by decide +kernel
theorem dX4_put_47 : decode cX4_put 47 = .ok (.dup, 1) := by decide +kernel
theorem dX4_put_48 : decode cX4_put 48 = .ok (.ldc 92, 2) := by decide +kernel
theorem dX4_put_50 : decode cX4_put 50 = .ok (.invokespecial 58, 3) := by decide +kernel
theorem dX4_put_53 : decode cX4_put 53 = .ok (.athrow, 1) := by decide +kernel
theorem dX4_put_54 : decode cX4_put 54 = .ok (.iload_n 2, 1) := by decide +kernel
theorem dX4_put_55 : decode cX4_put 55 = .ok (.iload_n 1, 1) := by decide +kernel
theorem dX4_put_56 : decode cX4_put 56 = .ok (.isub, 1) := by decide +kernel
theorem dX4_put_57 : decode cX4_put 57 = .ok (.bipush 32, 2) := by decide +kernel
theorem dX4_put_59 : decode cX4_put 59 = .ok (.if_icmp .le 13, 3) := by decide +kernel
theorem dX4_put_62 : decode cX4_put 62 = .ok (.new 54, 3) := by decide +kernel
theorem dX4_put_65 : decode cX4_put 65 = .ok (.dup, 1) := by decide +kernel
theorem dX4_put_66 : decode cX4_put 66 = .ok (.ldc 94, 2) := by decide +kernel
theorem dX4_put_68 : decode cX4_put 68 = .ok (.invokespecial 58, 3) := by decide +kernel
theorem dX4_put_71 : decode cX4_put 71 = .ok (.athrow, 1) := by decide +kernel
theorem dX4_put_72 : decode cX4_put 72 = .ok (.aload_n 0, 1) := by decide +kernel
theorem dX4_put_73 : decode cX4_put 73 = .ok (.getfield 38, 3) := by decide +kernel
theorem dX4_put_76 : decode cX4_put 76 = .ok (.iload_n 1, 1) := by decide +kernel
theorem dX4_put_77 : decode cX4_put 77 = .ok (.invokevirtual 96, 3) := by decide +kernel
theorem dX4_put_80 : decode cX4_put 80 = .ok (.istore_n 3, 1) := by decide +kernel
theorem dX4_put_81 : decode cX4_put 81 = .ok (.aload_n 0, 1) := by decide +kernel
theorem dX4_put_82 : decode cX4_put 82 = .ok (.iload_n 3, 1) := by decide +kernel
theorem dX4_put_83 : decode cX4_put 83 = .ok (.iload_n 1, 1) := by decide +kernel
theorem dX4_put_84 : decode cX4_put 84 = .ok (.iload_n 2, 1) := by decide +kernel
theorem dX4_put_85 : decode cX4_put 85 = .ok (.invokevirtual 100, 3) := by decide +kernel
theorem dX4_put_88 : decode cX4_put 88 = .ok (.istore 4, 2) := by decide +kernel
theorem dX4_put_90 : decode cX4_put 90 = .ok (.iload 4, 2) := by decide +kernel
theorem dX4_put_92 : decode cX4_put 92 = .ok (.ifCond .ne 20, 3) := by decide +kernel
theorem dX4_put_95 : decode cX4_put 95 = .ok (.aload_n 0, 1) := by decide +kernel
theorem dX4_put_96 : decode cX4_put 96 = .ok (.aload_n 0, 1) := by decide +kernel
theorem dX4_put_97 : decode cX4_put 97 = .ok (.getfield 10, 3) := by decide +kernel
theorem dX4_put_100 : decode cX4_put 100 = .ok (.iload_n 3, 1) := by decide +kernel
theorem dX4_put_101 : decode cX4_put 101 = .ok (.invokevirtual 104, 3) := by decide +kernel
theorem dX4_put_104 : decode cX4_put 104 = .ok (.iload_n 1, 1) := by decide +kernel
theorem dX4_put_105 : decode cX4_put 105 = .ok (.iload_n 2, 1) := by decide +kernel
theorem dX4_put_106 : decode cX4_put 106 = .ok (.invokevirtual 107, 3) := by decide +kernel
theorem dX4_put_109 : decode cX4_put 109 = .ok (.goto 5, 3) := by decide +kernel
theorem dX4_put_112 : decode cX4_put 112 = .ok (.iload 4, 2) := by decide +kernel
theorem dX4_put_114 : decode cX4_put 114 = .ok (.ireturn, 1) := by decide +kernel
theorem dX4_remove_0 : decode cX4_remove 0 = .ok (.aload_n 0, 1) := by decide +kernel
theorem dX4_remove_1 : decode cX4_remove 1 = .ok (.getfield 38, 3) := by decide +kernel
theorem dX4_remove_4 : decode cX4_remove 4 = .ok (.invokevirtual 80, 3) := by decide +kernel
theorem dX4_remove_7 : decode cX4_remove 7 = .ok (.istore_n 1, 1) := by decide +kernel
theorem dX4_remove_8 : decode cX4_remove 8 = .ok (.aload_n 0, 1) := by decide +kernel
theorem dX4_remove_9 : decode cX4_remove 9 = .ok (.getfield 10, 3) := by decide +kernel
theorem dX4_remove_12 : decode cX4_remove 12 = .ok (.invokevirtual 83, 3) := by decide +kernel
theorem dX4_remove_15 : decode cX4_remove 15 = .ok (.ifCond .eq 13, 3) := by decide +kernel
theorem dX4_remove_18 : decode cX4_remove 18 = .ok (.new 87, 3) := by decide +kernel
theorem dX4_remove_21 : decode cX4_remove 21 = .ok (.dup, 1) := by decide +kernel
theorem dX4_remove_22 : decode cX4_remove 22 = .ok (.ldc 89, 2) := by decide +kernel
theorem dX4_remove_24 : decode cX4_remove 24 = .ok (.invokespecial 91, 3) := by decide +kernel
theorem dX4_remove_27 : decode cX4_remove 27 = .ok (.athrow, 1) := by decide +kernel
theorem dX4_remove_28 : decode cX4_remove 28 = .ok (.iload_n 1, 1) := by decide +kernel
theorem dX4_remove_29 : decode cX4_remove 29 = .ok (.iconst 1, 1) := by decide +kernel
theorem dX4_remove_30 : decode cX4_remove 30 = .ok (.if_icmp .lt 9, 3) := by decide +kernel
theorem dX4_remove_33 : decode cX4_remove 33 = .ok (.iload_n 1, 1) := by decide +kernel
theorem dX4_remove_34 : decode cX4_remove 34 = .ok (.bipush 16, 2) := by decide +kernel
theorem dX4_remove_36 : decode cX4_remove 36 = .ok (.if_icmp .le 13, 3) := by decide +kernel
theorem dX4_remove_39 : decode cX4_remove 39 = .ok (.new 54, 3) := by decide +kernel
theorem dX4_remove_42 : decode cX4_remove 42 = .ok (.dup, 1) := by decide +kernel
theorem dX4_remove_43 : decode cX4_remove 43 = .ok (.ldc 110, 2) := by decide +kernel
theorem dX4_remove_45 : decode cX4_remove 45 = .ok (.invokespecial 58, 3) := by decide +kernel
theorem dX4_remove_48 : decode cX4_remove 48 = .ok (.athrow, 1) := by decide +kernel
theorem dX4_remove_49 : decode cX4_remove 49 = .ok (.aload_n 0, 1) := by decide +kernel
theorem dX4_remove_50 : decode cX4_remove 50 = .ok (.getfield 38, 3) := by decide +kernel
theorem dX4_remove_53 : decode cX4_remove 53 = .ok (.iload_n 1, 1) := by decide +kernel
theorem dX4_remove_54 : decode cX4_remove 54 = .ok (.invokevirtual 96, 3) := by decide +kernel
theorem dX4_remove_57 : decode cX4_remove 57 = .ok (.istore_n 2, 1) := by decide +kernel
theorem dX4_remove_58 : decode cX4_remove 58 = .ok (.aload_n 0, 1) := by decide +kernel
theorem dX4_remove_59 : decode cX4_remove 59 = .ok (.getfield 10, 3) := by decide +kernel
theorem dX4_remove_62 : decode cX4_remove 62 = .ok (.iload_n 2, 1) := by decide +kernel
theorem dX4_remove_63 : decode cX4_remove 63 = .ok (.invokevirtual 104, 3) := by decide +kernel
theorem dX4_remove_66 : decode cX4_remove 66 = .ok (.istore_n 3, 1) := by decide +kernel
theorem dX4_remove_67 : decode cX4_remove 67 = .ok (.aload_n 0, 1) := by decide +kernel
theorem dX4_remove_68 : decode cX4_remove 68 = .ok (.getfield 10, 3) := by decide +kernel
theorem dX4_remove_71 : decode cX4_remove 71 = .ok (.iload_n 3, 1) := by decide +kernel
theorem dX4_remove_72 : decode cX4_remove 72 = .ok (.aload_n 0, 1) := by decide +kernel
theorem dX4_remove_73 : decode cX4_remove 73 = .ok (.getfield 38, 3) := by decide +kernel
theorem dX4_remove_76 : decode cX4_remove 76 = .ok (.iload_n 1, 1) := by decide +kernel
theorem dX4_remove_77 : decode cX4_remove 77 = .ok (.invokevirtual 112, 3) := by decide +kernel
theorem dX4_remove_80 : decode cX4_remove 80 = .ok (.istore 4, 2) := by decide +kernel
theorem dX4_remove_82 : decode cX4_remove 82 = .ok (.iload 4, 2) := by decide +kernel
theorem dX4_remove_84 : decode cX4_remove 84 = .ok (.iconst (-1), 1) := by decide +kernel
theorem dX4_remove_85 : decode cX4_remove 85 = .ok (.if_icmp .ne 5, 3) := by decide +kernel
theorem dX4_remove_88 : decode cX4_remove 88 = .ok (.iconst (-1), 1) := by decide +kernel
theorem dX4_remove_89 : decode cX4_remove 89 = .ok (.ireturn, 1) := by decide +kernel
theorem dX4_remove_90 : decode cX4_remove 90 = .ok (.aload_n 0, 1) := by decide +kernel
theorem dX4_remove_91 : decode cX4_remove 91 = .ok (.iload_n 3, 1) := by decide +kernel
theorem dX4_remove_92 : decode cX4_remove 92 = .ok (.iload 4, 2) := by decide +kernel
theorem dX4_remove_94 : decode cX4_remove 94 = .ok (.invokevirtual 116, 3) := by decide +kernel
theorem dX4_remove_97 : decode cX4_remove 97 = .ok (.aload_n 0, 1) := by decide +kernel
theorem dX4_remove_98 : decode cX4_remove 98 = .ok (.getfield 10, 3) := by decide +kernel
theorem dX4_remove_101 : decode cX4_remove 101 = .ok (.iload_n 3, 1) := by decide +kernel
theorem dX4_remove_102 : decode cX4_remove 102 = .ok (.aload_n 0, 1) := by decide +kernel
theorem dX4_remove_103 : decode cX4_remove 103 = .ok (.getfield 28, 3) := by decide +kernel
theorem dX4_remove_106 : decode cX4_remove 106 = .ok (.invokevirtual 120, 3) := by decide +kernel
theorem dX4_remove_109 : decode cX4_remove 109 = .ok (.ifCond .ne 5, 3) := by decide +kernel
theorem dX4_remove_112 : decode cX4_remove 112 = .ok (.iconst 4, 1) := by decide +kernel
theorem dX4_remove_113 : decode cX4_remove 113 = .ok (.ireturn, 1) := by decide +kernel
theorem dX4_remove_114 : decode cX4_remove 114 = .ok (.aload_n 0, 1) := by decide +kernel
theorem dX4_remove_115 : decode cX4_remove 115 = .ok (.iload_n 2, 1) := by decide +kernel
theorem dX4_remove_116 : decode cX4_remove 116 = .ok (.invokevirtual 124, 3) := by decide +kernel
theorem dX4_remove_119 : decode cX4_remove 119 = .ok (.istore 5, 2) := by decide +kernel
theorem dX4_remove_121 : decode cX4_remove 121 = .ok (.iload 5, 2) := by decide +kernel
theorem dX4_remove_123 : decode cX4_remove 123 = .ok (.iconst 4, 1) := by decide +kernel
theorem dX4_remove_124 : decode cX4_remove 124 = .ok (.if_icmp .ne 7, 3) := by decide +kernel
theorem dX4_remove_127 : decode cX4_remove 127 = .ok (.iconst 4, 1) := by decide +kernel
theorem dX4_remove_128 : decode cX4_remove 128 = .ok (.goto 7, 3) := by decide +kernel
theorem dX4_remove_131 : decode cX4_remove 131 = .ok (.aload_n 0, 1) := by decide +kernel
theorem dX4_remove_132 : decode cX4_remove 132 = .ok (.invokevirtual 127, 3) := by decide +kernel
theorem dX4_remove_135 : decode cX4_remove 135 = .ok (.ireturn, 1) := by decide +kernel
theorem dX4_get_0 : decode cX4_get 0 = .ok (.aload_n 0, 1) := by decide +kernel
theorem dX4_get_1 : decode cX4_get 1 = .ok (.getfield 38, 3) := by decide +kernel
theorem dX4_get_4 : decode cX4_get 4 = .ok (.invokevirtual 80, 3) := by decide +kernel
theorem dX4_get_7 : decode cX4_get 7 = .ok (.istore_n 1, 1) := by decide +kernel
theorem dX4_get_8 : decode cX4_get 8 = .ok (.aload_n 0, 1) := by decide +kernel
theorem dX4_get_9 : decode cX4_get 9 = .ok (.getfield 10, 3) := by decide +kernel
theorem dX4_get_12 : decode cX4_get 12 = .ok (.invokevirtual 83, 3) := by decide +kernel
theorem dX4_get_15 : decode cX4_get 15 = .ok (.ifCond .eq 13, 3) := by decide +kernel
theorem dX4_get_18 : decode cX4_get 18 = .ok (.new 87, 3) := by decide +kernel
theorem dX4_get_21 : decode cX4_get 21 = .ok (.dup, 1) := by decide +kernel
theorem dX4_get_22 : decode cX4_get 22 = .ok (.ldc 89, 2) := by decide +kernel
theorem dX4_get_24 : decode cX4_get 24 = .ok (.invokespecial 91, 3) := by decide +kernel
theorem dX4_get_27 : decode cX4_get 27 = .ok (.athrow, 1) := by decide +kernel
theorem dX4_get_28 : decode cX4_get 28 = .ok (.aload_n 0, 1) := by decide +kernel
theorem dX4_get_29 : decode cX4_get 29 = .ok (.iconst 0, 1) := by decide +kernel
theorem dX4_get_30 : decode cX4_get 30 = .ok (.putfield 46, 3) := by decide +kernel
theorem dX4_get_33 : decode cX4_get 33 = .ok (.iload_n 1, 1) := by decide +kernel
theorem dX4_get_34 : decode cX4_get 34 = .ok (.iconst 1, 1) := by decide +kernel
theorem dX4_get_35 : decode cX4_get 35 = .ok (.if_icmp .lt 9, 3) := by decide +kernel
theorem dX4_get_38 : decode cX4_get 38 = .ok (.iload_n 1, 1) := by decide +kernel
theorem dX4_get_39 : decode cX4_get 39 = .ok (.bipush 16, 2) := by decide +kernel
theorem dX4_get_41 : decode cX4_get 41 = .ok (.if_icmp .le 5, 3) := by decide +kernel
theorem dX4_get_44 : decode cX4_get 44 = .ok (.iconst (-1), 1) := by decide +kernel
theorem dX4_get_45 : decode cX4_get 45 = .ok (.ireturn, 1) := by decide +kernel
theorem dX4_get_46 : decode cX4_get 46 = .ok (.aload_n 0, 1) := by decide +kernel
theorem dX4_get_47 : decode cX4_get 47 = .ok (.getfield 10, 3) := by decide +kernel
theorem dX4_get_50 : decode cX4_get 50 = .ok (.aload_n 0, 1) := by decide +kernel
theorem dX4_get_51 : decode cX4_get 51 = .ok (.getfield 38, 3) := by decide +kernel
theorem dX4_get_54 : decode cX4_get 54 = .ok (.iload_n 1, 1) := by decide +kernel
theorem dX4_get_55 : decode cX4_get 55 = .ok (.invokevirtual 96, 3) := by decide +kernel
theorem dX4_get_58 : decode cX4_get 58 = .ok (.invokevirtual 104, 3) := by decide +kernel
theorem dX4_get_61 : decode cX4_get 61 = .ok (.istore_n 2, 1) := by decide +kernel
theorem dX4_get_62 : decode cX4_get 62 = .ok (.aload_n 0, 1) := by decide +kernel
theorem dX4_get_63 : decode cX4_get 63 = .ok (.getfield 10, 3) := by decide +kernel
theorem dX4_get_66 : decode cX4_get 66 = .ok (.iload_n 2, 1) := by decide +kernel
theorem dX4_get_67 : decode cX4_get 67 = .ok (.aload_n 0, 1) := by decide +kernel
theorem dX4_get_68 : decode cX4_get 68 = .ok (.getfield 38, 3) := by decide +kernel
theorem dX4_get_71 : decode cX4_get 71 = .ok (.iload_n 1, 1) := by decide +kernel
theorem dX4_get_72 : decode cX4_get 72 = .ok (.invokevirtual 112, 3) := by decide +kernel
theorem dX4_get_75 : decode cX4_get 75 = .ok (.istore_n 3, 1) := by decide +kernel
theorem dX4_get_76 : decode cX4_get 76 = .ok (.iload_n 3, 1) := by decide +kernel
theorem dX4_get_77 : decode cX4_get 77 = .ok (.iconst (-1), 1) := by decide +kernel
theorem dX4_get_78 : decode cX4_get 78 = .ok (.if_icmp .ne 5, 3) := by decide +kernel
theorem dX4_get_81 : decode cX4_get 81 = .ok (.iconst (-1), 1) := by decide +kernel
theorem dX4_get_82 : decode cX4_get 82 = .ok (.ireturn, 1) := by decide +kernel
theorem dX4_get_83 : decode cX4_get 83 = .ok (.aload_n 0, 1) := by decide +kernel
theorem dX4_get_84 : decode cX4_get 84 = .ok (.getfield 10, 3) := by decide +kernel
theorem dX4_get_87 : decode cX4_get 87 = .ok (.iload_n 2, 1) := by decide +kernel
theorem dX4_get_88 : decode cX4_get 88 = .ok (.iload_n 3, 1) := by decide +kernel
theorem dX4_get_89 : decode cX4_get 89 = .ok (.iconst 1, 1) := by decide +kernel
theorem dX4_get_90 : decode cX4_get 90 = .ok (.iadd, 1) := by decide +kernel
theorem dX4_get_91 : decode cX4_get 91 = .ok (.invokevirtual 130, 3) := by decide +kernel
theorem dX4_get_94 : decode cX4_get 94 = .ok (.istore 4, 2) := by decide +kernel
theorem dX4_get_96 : decode cX4_get 96 = .ok (.iconst 0, 1) := by decide +kernel
theorem dX4_get_97 : decode cX4_get 97 = .ok (.istore 5, 2) := by decide +kernel
theorem dX4_get_99 : decode cX4_get 99 = .ok (.iload 5, 2) := by decide +kernel
theorem dX4_get_101 : decode cX4_get 101 = .ok (.iload 4, 2) := by decide +kernel
theorem dX4_get_103 : decode cX4_get 103 = .ok (.if_icmp .ge 42, 3) := by decide +kernel
theorem dX4_get_106 : decode cX4_get 106 = .ok (.iload 5, 2) := by decide +kernel
theorem dX4_get_108 : decode cX4_get 108 = .ok (.aload_n 0, 1) := by decide +kernel
theorem dX4_get_109 : decode cX4_get 109 = .ok (.getfield 42, 3) := by decide +kernel
theorem dX4_get_112 : decode cX4_get 112 = .ok (.arraylength, 1) := by decide +kernel
theorem dX4_get_113 : decode cX4_get 113 = .ok (.if_icmp .ge 32, 3) := by decide +kernel
theorem dX4_get_116 : decode cX4_get 116 = .ok (.aload_n 0, 1) := by decide +kernel
theorem dX4_get_117 : decode cX4_get 117 = .ok (.getfield 42, 3) := by decide +kernel
theorem dX4_get_120 : decode cX4_get 120 = .ok (.iload 5, 2) := by decide +kernel
theorem dX4_get_122 : decode cX4_get 122 = .ok (.aload_n 0, 1) := by decide +kernel
theorem dX4_get_123 : decode cX4_get 123 = .ok (.getfield 10, 3) := by decide +kernel
theorem dX4_get_126 : decode cX4_get 126 = .ok (.iload_n 2, 1) := by decide +kernel
theorem dX4_get_127 : decode cX4_get 127 = .ok (.iload_n 3, 1) := by decide +kernel
theorem dX4_get_128 : decode cX4_get 128 = .ok (.iconst 2, 1) := by decide +kernel
theorem dX4_get_129 : decode cX4_get 129 = .ok (.iadd, 1) := by decide +kernel
theorem dX4_get_130 : decode cX4_get 130 = .ok (.iload_n 1, 1) := by decide +kernel
theorem dX4_get_131 : decode cX4_get 131 = .ok (.iadd, 1) := by decide +kernel
theorem dX4_get_132 : decode cX4_get 132 = .ok (.iload 5, 2) := by decide +kernel
theorem dX4_get_134 : decode cX4_get 134 = .ok (.iadd, 1) := by decide +kernel
theorem dX4_get_135 : decode cX4_get 135 = .ok (.invokevirtual 130, 3) := by decide +kernel
theorem dX4_get_138 : decode cX4_get 138 = .ok (.iastore, 1) := by decide +kernel
theorem dX4_get_139 : decode cX4_get 139 = .ok (.iinc 5 1, 3) := by decide +kernel
theorem dX4_get_142 : decode cX4_get 142 = .ok (.goto (-43), 3) := by decide +kernel
theorem dX4_get_145 : decode cX4_get 145 = .ok (.aload_n 0, 1) := by decide +kernel
theorem dX4_get_146 : decode cX4_get 146 = .ok (.iload 4, 2) := by decide +kernel
theorem dX4_get_148 : decode cX4_get 148 = .ok (.putfield 46, 3) := by decide +kernel
theorem dX4_get_151 : decode cX4_get 151 = .ok (.aload_n 0, 1) := by decide +kernel
theorem dX4_get_152 : decode cX4_get 152 = .ok (.getfield 46, 3) := by decide +kernel
theorem dX4_get_155 : decode cX4_get 155 = .ok (.ireturn, 1) := by decide +kernel
theorem dX4_answer_0 : decode cX4_answer 0 = .ok (.iload_n 1, 1) := by decide +kernel
theorem dX4_answer_1 : decode cX4_answer 1 = .ok (.ifCond .lt 29, 3) := by decide +kernel
theorem dX4_answer_4 : decode cX4_answer 4 = .ok (.iload_n 1, 1) := by decide +kernel
theorem dX4_answer_5 : decode cX4_answer 5 = .ok (.aload_n 0, 1) := by decide +kernel
theorem dX4_answer_6 : decode cX4_answer 6 = .ok (.getfield 46, 3) := by decide +kernel
theorem dX4_answer_9 : decode cX4_answer 9 = .ok (.if_icmp .ge 21, 3) := by decide +kernel
theorem dX4_answer_12 : decode cX4_answer 12 = .ok (.iload_n 1, 1) := by decide +kernel
theorem dX4_answer_13 : decode cX4_answer 13 = .ok (.aload_n 0, 1) := by decide +kernel
theorem dX4_answer_14 : decode cX4_answer 14 = .ok (.getfield 42, 3) := by decide +kernel
theorem dX4_answer_17 : decode cX4_answer 17 = .ok (.arraylength, 1) := by decide +kernel
theorem dX4_answer_18 : decode cX4_answer 18 = .ok (.if_icmp .ge 12, 3) := by decide +kernel
theorem dX4_answer_21 : decode cX4_answer 21 = .ok (.aload_n 0, 1) := by decide +kernel
theorem dX4_answer_22 : decode cX4_answer 22 = .ok (.getfield 42, 3) := by decide +kernel
theorem dX4_answer_25 : decode cX4_answer 25 = .ok (.iload_n 1, 1) := by decide +kernel
theorem dX4_answer_26 : decode cX4_answer 26 = .ok (.iaload, 1) := by decide +kernel
theorem dX4_answer_27 : decode cX4_answer 27 = .ok (.goto 4, 3) := by decide +kernel
theorem dX4_answer_30 : decode cX4_answer 30 = .ok (.iconst (-1), 1) := by decide +kernel
theorem dX4_answer_31 : decode cX4_answer 31 = .ok (.ireturn, 1) := by decide +kernel
theorem dX4_power_0 : decode cX4_power 0 = .ok (.aload_n 0, 1) := by decide +kernel
theorem dX4_power_1 : decode cX4_power 1 = .ok (.getfield 10, 3) := by decide +kernel
theorem dX4_power_4 : decode cX4_power 4 = .ok (.invokevirtual 83, 3) := by decide +kernel
theorem dX4_power_7 : decode cX4_power 7 = .ok (.ifCond .eq 13, 3) := by decide +kernel
theorem dX4_power_10 : decode cX4_power 10 = .ok (.new 87, 3) := by decide +kernel
theorem dX4_power_13 : decode cX4_power 13 = .ok (.dup, 1) := by decide +kernel
theorem dX4_power_14 : decode cX4_power 14 = .ok (.ldc 89, 2) := by decide +kernel
theorem dX4_power_16 : decode cX4_power 16 = .ok (.invokespecial 91, 3) := by decide +kernel
theorem dX4_power_19 : decode cX4_power 19 = .ok (.athrow, 1) := by decide +kernel
theorem dX4_power_20 : decode cX4_power 20 = .ok (.iload_n 1, 1) := by decide +kernel
theorem dX4_power_21 : decode cX4_power 21 = .ok (.iconst (-1), 1) := by decide +kernel
theorem dX4_power_22 : decode cX4_power 22 = .ok (.if_icmp .ge 13, 3) := by decide +kernel
theorem dX4_power_25 : decode cX4_power 25 = .ok (.new 54, 3) := by decide +kernel
theorem dX4_power_28 : decode cX4_power 28 = .ok (.dup, 1) := by decide +kernel
theorem dX4_power_29 : decode cX4_power 29 = .ok (.ldc 134, 2) := by decide +kernel
theorem dX4_power_31 : decode cX4_power 31 = .ok (.invokespecial 58, 3) := by decide +kernel
theorem dX4_power_34 : decode cX4_power 34 = .ok (.athrow, 1) := by decide +kernel
theorem dX4_power_35 : decode cX4_power 35 = .ok (.aload_n 0, 1) := by decide +kernel
theorem dX4_power_36 : decode cX4_power 36 = .ok (.getfield 10, 3) := by decide +kernel
theorem dX4_power_39 : decode cX4_power 39 = .ok (.iload_n 1, 1) := by decide +kernel
theorem dX4_power_40 : decode cX4_power 40 = .ok (.invokevirtual 136, 3) := by decide +kernel
theorem dX4_power_43 : decode cX4_power 43 = .ok (.return_, 1) := by decide +kernel
theorem dX4_recover_0 : decode cX4_recover 0 = .ok (.iload_n 1, 1) := by decide +kernel
theorem dX4_recover_1 : decode cX4_recover 1 = .ok (.iconst (-1), 1) := by decide +kernel
theorem dX4_recover_2 : decode cX4_recover 2 = .ok (.if_icmp .ge 13, 3) := by decide +kernel
theorem dX4_recover_5 : decode cX4_recover 5 = .ok (.new 54, 3) := by decide +kernel
theorem dX4_recover_8 : decode cX4_recover 8 = .ok (.dup, 1) := by decide +kernel
theorem dX4_recover_9 : decode cX4_recover 9 = .ok (.ldc 134, 2) := by decide +kernel
theorem dX4_recover_11 : decode cX4_recover 11 = .ok (.invokespecial 58, 3) := by decide +kernel
theorem dX4_recover_14 : decode cX4_recover 14 = .ok (.athrow, 1) := by decide +kernel
theorem dX4_recover_15 : decode cX4_recover 15 = .ok (.aload_n 0, 1) := by decide +kernel
theorem dX4_recover_16 : decode cX4_recover 16 = .ok (.getfield 10, 3) := by decide +kernel
theorem dX4_recover_19 : decode cX4_recover 19 = .ok (.iload_n 1, 1) := by decide +kernel
theorem dX4_recover_20 : decode cX4_recover 20 = .ok (.invokevirtual 136, 3) := by decide +kernel
theorem dX4_recover_23 : decode cX4_recover 23 = .ok (.aload_n 0, 1) := by decide +kernel
theorem dX4_recover_24 : decode cX4_recover 24 = .ok (.getfield 10, 3) := by decide +kernel
theorem dX4_recover_27 : decode cX4_recover 27 = .ok (.iconst 1, 1) := by decide +kernel
theorem dX4_recover_28 : decode cX4_recover 28 = .ok (.iconst 0, 1) := by decide +kernel
theorem dX4_recover_29 : decode cX4_recover 29 = .ok (.invokevirtual 130, 3) := by decide +kernel
theorem dX4_recover_32 : decode cX4_recover 32 = .ok (.ifCond .ne 5, 3) := by decide +kernel
theorem dX4_recover_35 : decode cX4_recover 35 = .ok (.iconst 0, 1) := by decide +kernel
theorem dX4_recover_36 : decode cX4_recover 36 = .ok (.ireturn, 1) := by decide +kernel
theorem dX4_recover_37 : decode cX4_recover 37 = .ok (.aload_n 0, 1) := by decide +kernel
theorem dX4_recover_38 : decode cX4_recover 38 = .ok (.getfield 21, 3) := by decide +kernel
theorem dX4_recover_41 : decode cX4_recover 41 = .ok (.invokevirtual 139, 3) := by decide +kernel
theorem dX4_recover_44 : decode cX4_recover 44 = .ok (.ifCond .eq 7, 3) := by decide +kernel
theorem dX4_recover_47 : decode cX4_recover 47 = .ok (.iconst 0, 1) := by decide +kernel
theorem dX4_recover_48 : decode cX4_recover 48 = .ok (.goto 4, 3) := by decide +kernel
theorem dX4_recover_51 : decode cX4_recover 51 = .ok (.iconst 4, 1) := by decide +kernel
theorem dX4_recover_52 : decode cX4_recover 52 = .ok (.ireturn, 1) := by decide +kernel
theorem dX4_byteOf_0 : decode cX4_byteOf 0 = .ok (.aload_n 0, 1) := by decide +kernel
theorem dX4_byteOf_1 : decode cX4_byteOf 1 = .ok (.getfield 10, 3) := by decide +kernel
theorem dX4_byteOf_4 : decode cX4_byteOf 4 = .ok (.iload_n 1, 1) := by decide +kernel
theorem dX4_byteOf_5 : decode cX4_byteOf 5 = .ok (.iload_n 2, 1) := by decide +kernel
theorem dX4_byteOf_6 : decode cX4_byteOf 6 = .ok (.invokevirtual 130, 3) := by decide +kernel
theorem dX4_byteOf_9 : decode cX4_byteOf 9 = .ok (.ireturn, 1) := by decide +kernel
theorem dX4_kind_0 : decode cX4_kind 0 = .ok (.aload_n 0, 1) := by decide +kernel
theorem dX4_kind_1 : decode cX4_kind 1 = .ok (.getfield 10, 3) := by decide +kernel
theorem dX4_kind_4 : decode cX4_kind 4 = .ok (.iload_n 1, 1) := by decide +kernel
theorem dX4_kind_5 : decode cX4_kind 5 = .ok (.invokevirtual 142, 3) := by decide +kernel
theorem dX4_kind_8 : decode cX4_kind 8 = .ok (.ireturn, 1) := by decide +kernel
theorem dX4_hash_0 : decode cX4_hash 0 = .ok (.aload_n 0, 1) := by decide +kernel
theorem dX4_hash_1 : decode cX4_hash 1 = .ok (.getfield 38, 3) := by decide +kernel
theorem dX4_hash_4 : decode cX4_hash 4 = .ok (.invokevirtual 67, 3) := by decide +kernel
theorem dX4_hash_7 : decode cX4_hash 7 = .ok (.istore_n 1, 1) := by decide +kernel
theorem dX4_hash_8 : decode cX4_hash 8 = .ok (.iload_n 1, 1) := by decide +kernel
theorem dX4_hash_9 : decode cX4_hash 9 = .ok (.iconst 1, 1) := by decide +kernel
theorem dX4_hash_10 : decode cX4_hash 10 = .ok (.if_icmp .lt 20, 3) := by decide +kernel
theorem dX4_hash_13 : decode cX4_hash 13 = .ok (.iload_n 1, 1) := by decide +kernel
theorem dX4_hash_14 : decode cX4_hash 14 = .ok (.bipush 16, 2) := by decide +kernel
theorem dX4_hash_16 : decode cX4_hash 16 = .ok (.if_icmp .gt 14, 3) := by decide +kernel
theorem dX4_hash_19 : decode cX4_hash 19 = .ok (.aload_n 0, 1) := by decide +kernel
theorem dX4_hash_20 : decode cX4_hash 20 = .ok (.getfield 38, 3) := by decide +kernel
theorem dX4_hash_23 : decode cX4_hash 23 = .ok (.iload_n 1, 1) := by decide +kernel
theorem dX4_hash_24 : decode cX4_hash 24 = .ok (.invokevirtual 96, 3) := by decide +kernel
theorem dX4_hash_27 : decode cX4_hash 27 = .ok (.goto 4, 3) := by decide +kernel
theorem dX4_hash_30 : decode cX4_hash 30 = .ok (.iconst (-1), 1) := by decide +kernel
theorem dX4_hash_31 : decode cX4_hash 31 = .ok (.ireturn, 1) := by decide +kernel
theorem dX4_entry_0 : decode cX4_entry 0 = .ok (.aload_n 0, 1) := by decide +kernel
theorem dX4_entry_1 : decode cX4_entry 1 = .ok (.getfield 10, 3) := by decide +kernel
theorem dX4_entry_4 : decode cX4_entry 4 = .ok (.iload_n 1, 1) := by decide +kernel
theorem dX4_entry_5 : decode cX4_entry 5 = .ok (.invokevirtual 145, 3) := by decide +kernel
theorem dX4_entry_8 : decode cX4_entry 8 = .ok (.ireturn, 1) := by decide +kernel
theorem dX4_bucket_0 : decode cX4_bucket 0 = .ok (.aload_n 0, 1) := by decide +kernel
theorem dX4_bucket_1 : decode cX4_bucket 1 = .ok (.getfield 10, 3) := by decide +kernel
theorem dX4_bucket_4 : decode cX4_bucket 4 = .ok (.iload_n 1, 1) := by decide +kernel
theorem dX4_bucket_5 : decode cX4_bucket 5 = .ok (.invokevirtual 142, 3) := by decide +kernel
theorem dX4_bucket_8 : decode cX4_bucket 8 = .ok (.iconst 5, 1) := by decide +kernel
theorem dX4_bucket_9 : decode cX4_bucket 9 = .ok (.if_icmp .eq 5, 3) := by decide +kernel
theorem dX4_bucket_12 : decode cX4_bucket 12 = .ok (.iconst (-1), 1) := by decide +kernel
theorem dX4_bucket_13 : decode cX4_bucket 13 = .ok (.ireturn, 1) := by decide +kernel
theorem dX4_bucket_14 : decode cX4_bucket 14 = .ok (.iload_n 2, 1) := by decide +kernel
theorem dX4_bucket_15 : decode cX4_bucket 15 = .ok (.tableswitch 54 0 2 #[25, 35, 45], 25) := by decide +kernel
theorem dX4_bucket_40 : decode cX4_bucket 40 = .ok (.aload_n 0, 1) := by decide +kernel
theorem dX4_bucket_41 : decode cX4_bucket 41 = .ok (.getfield 10, 3) := by decide +kernel
theorem dX4_bucket_44 : decode cX4_bucket 44 = .ok (.iload_n 1, 1) := by decide +kernel
theorem dX4_bucket_45 : decode cX4_bucket 45 = .ok (.iconst 0, 1) := by decide +kernel
theorem dX4_bucket_46 : decode cX4_bucket 46 = .ok (.invokevirtual 130, 3) := by decide +kernel
theorem dX4_bucket_49 : decode cX4_bucket 49 = .ok (.ireturn, 1) := by decide +kernel
theorem dX4_bucket_50 : decode cX4_bucket 50 = .ok (.aload_n 0, 1) := by decide +kernel
theorem dX4_bucket_51 : decode cX4_bucket 51 = .ok (.getfield 10, 3) := by decide +kernel
theorem dX4_bucket_54 : decode cX4_bucket 54 = .ok (.iload_n 1, 1) := by decide +kernel
theorem dX4_bucket_55 : decode cX4_bucket 55 = .ok (.iconst 1, 1) := by decide +kernel
theorem dX4_bucket_56 : decode cX4_bucket 56 = .ok (.invokevirtual 130, 3) := by decide +kernel
theorem dX4_bucket_59 : decode cX4_bucket 59 = .ok (.ireturn, 1) := by decide +kernel
theorem dX4_bucket_60 : decode cX4_bucket 60 = .ok (.aload_n 0, 1) := by decide +kernel
theorem dX4_bucket_61 : decode cX4_bucket 61 = .ok (.getfield 10, 3) := by decide +kernel
theorem dX4_bucket_64 : decode cX4_bucket 64 = .ok (.iload_n 1, 1) := by decide +kernel
theorem dX4_bucket_65 : decode cX4_bucket 65 = .ok (.invokevirtual 148, 3) := by decide +kernel
theorem dX4_bucket_68 : decode cX4_bucket 68 = .ok (.ireturn, 1) := by decide +kernel
theorem dX4_bucket_69 : decode cX4_bucket 69 = .ok (.iconst (-1), 1) := by decide +kernel
theorem dX4_bucket_70 : decode cX4_bucket 70 = .ok (.ireturn, 1) := by decide +kernel
theorem dX4_record_0 : decode cX4_record 0 = .ok (.aload_n 0, 1) := by decide +kernel
theorem dX4_record_1 : decode cX4_record 1 = .ok (.getfield 10, 3) := by decide +kernel
theorem dX4_record_4 : decode cX4_record 4 = .ok (.iload_n 1, 1) := by decide +kernel
theorem dX4_record_5 : decode cX4_record 5 = .ok (.invokevirtual 142, 3) := by decide +kernel
theorem dX4_record_8 : decode cX4_record 8 = .ok (.iconst 5, 1) := by decide +kernel
theorem dX4_record_9 : decode cX4_record 9 = .ok (.if_icmp .ne 20, 3) := by decide +kernel
theorem dX4_record_12 : decode cX4_record 12 = .ok (.iload_n 2, 1) := by decide +kernel
theorem dX4_record_13 : decode cX4_record 13 = .ok (.ifCond .lt 16, 3) := by decide +kernel
theorem dX4_record_16 : decode cX4_record 16 = .ok (.iload_n 2, 1) := by decide +kernel
theorem dX4_record_17 : decode cX4_record 17 = .ok (.aload_n 0, 1) := by decide +kernel
theorem dX4_record_18 : decode cX4_record 18 = .ok (.getfield 10, 3) := by decide +kernel
theorem dX4_record_21 : decode cX4_record 21 = .ok (.iload_n 1, 1) := by decide +kernel
theorem dX4_record_22 : decode cX4_record 22 = .ok (.iconst 1, 1) := by decide +kernel
theorem dX4_record_23 : decode cX4_record 23 = .ok (.invokevirtual 130, 3) := by decide +kernel
theorem dX4_record_26 : decode cX4_record 26 = .ok (.if_icmp .lt 5, 3) := by decide +kernel
theorem dX4_record_29 : decode cX4_record 29 = .ok (.iconst (-1), 1) := by decide +kernel
theorem dX4_record_30 : decode cX4_record 30 = .ok (.ireturn, 1) := by decide +kernel
theorem dX4_record_31 : decode cX4_record 31 = .ok (.aload_n 0, 1) := by decide +kernel
theorem dX4_record_32 : decode cX4_record 32 = .ok (.getfield 10, 3) := by decide +kernel
theorem dX4_record_35 : decode cX4_record 35 = .ok (.iload_n 1, 1) := by decide +kernel
theorem dX4_record_36 : decode cX4_record 36 = .ok (.iload_n 2, 1) := by decide +kernel
theorem dX4_record_37 : decode cX4_record 37 = .ok (.invokevirtual 151, 3) := by decide +kernel
theorem dX4_record_40 : decode cX4_record 40 = .ok (.istore 5, 2) := by decide +kernel
theorem dX4_record_42 : decode cX4_record 42 = .ok (.aload_n 0, 1) := by decide +kernel
theorem dX4_record_43 : decode cX4_record 43 = .ok (.getfield 10, 3) := by decide +kernel
theorem dX4_record_46 : decode cX4_record 46 = .ok (.iload_n 1, 1) := by decide +kernel
theorem dX4_record_47 : decode cX4_record 47 = .ok (.iload 5, 2) := by decide +kernel
theorem dX4_record_49 : decode cX4_record 49 = .ok (.invokevirtual 130, 3) := by decide +kernel
theorem dX4_record_52 : decode cX4_record 52 = .ok (.istore 6, 2) := by decide +kernel
theorem dX4_record_54 : decode cX4_record 54 = .ok (.iload_n 3, 1) := by decide +kernel
theorem dX4_record_55 : decode cX4_record 55 = .ok (.ifCond .ne 35, 3) := by decide +kernel
theorem dX4_record_58 : decode cX4_record 58 = .ok (.iload 4, 2) := by decide +kernel
theorem dX4_record_60 : decode cX4_record 60 = .ok (.ifCond .lt 28, 3) := by decide +kernel
theorem dX4_record_63 : decode cX4_record 63 = .ok (.iload 4, 2) := by decide +kernel
theorem dX4_record_65 : decode cX4_record 65 = .ok (.iload 6, 2) := by decide +kernel
theorem dX4_record_67 : decode cX4_record 67 = .ok (.if_icmp .ge 21, 3) := by decide +kernel
theorem dX4_record_70 : decode cX4_record 70 = .ok (.aload_n 0, 1) := by decide +kernel
theorem dX4_record_71 : decode cX4_record 71 = .ok (.getfield 10, 3) := by decide +kernel
theorem dX4_record_74 : decode cX4_record 74 = .ok (.iload_n 1, 1) := by decide +kernel
theorem dX4_record_75 : decode cX4_record 75 = .ok (.iload 5, 2) := by decide +kernel
theorem dX4_record_77 : decode cX4_record 77 = .ok (.iconst 2, 1) := by decide +kernel
theorem dX4_record_78 : decode cX4_record 78 = .ok (.iadd, 1) := by decide +kernel
theorem dX4_record_79 : decode cX4_record 79 = .ok (.iload 4, 2) := by decide +kernel
theorem dX4_record_81 : decode cX4_record 81 = .ok (.iadd, 1) := by decide +kernel
theorem dX4_record_82 : decode cX4_record 82 = .ok (.invokevirtual 130, 3) := by decide +kernel
theorem dX4_record_85 : decode cX4_record 85 = .ok (.goto 4, 3) := by decide +kernel
theorem dX4_record_88 : decode cX4_record 88 = .ok (.iconst (-1), 1) := by decide +kernel
theorem dX4_record_89 : decode cX4_record 89 = .ok (.ireturn, 1) := by decide +kernel
theorem dX4_record_90 : decode cX4_record 90 = .ok (.iload_n 3, 1) := by decide +kernel
theorem dX4_record_91 : decode cX4_record 91 = .ok (.iconst 1, 1) := by decide +kernel
theorem dX4_record_92 : decode cX4_record 92 = .ok (.if_icmp .ne 48, 3) := by decide +kernel
theorem dX4_record_95 : decode cX4_record 95 = .ok (.iload 4, 2) := by decide +kernel
theorem dX4_record_97 : decode cX4_record 97 = .ok (.ifCond .lt 41, 3) := by decide +kernel
theorem dX4_record_100 : decode cX4_record 100 = .ok (.iload 4, 2) := by decide +kernel
theorem dX4_record_102 : decode cX4_record 102 = .ok (.aload_n 0, 1) := by decide +kernel
theorem dX4_record_103 : decode cX4_record 103 = .ok (.getfield 10, 3) := by decide +kernel
theorem dX4_record_106 : decode cX4_record 106 = .ok (.iload_n 1, 1) := by decide +kernel
theorem dX4_record_107 : decode cX4_record 107 = .ok (.iload 5, 2) := by decide +kernel
theorem dX4_record_109 : decode cX4_record 109 = .ok (.iconst 1, 1) := by decide +kernel
theorem dX4_record_110 : decode cX4_record 110 = .ok (.iadd, 1) := by decide +kernel
theorem dX4_record_111 : decode cX4_record 111 = .ok (.invokevirtual 130, 3) := by decide +kernel
theorem dX4_record_114 : decode cX4_record 114 = .ok (.if_icmp .ge 24, 3) := by decide +kernel
theorem dX4_record_117 : decode cX4_record 117 = .ok (.aload_n 0, 1) := by decide +kernel
theorem dX4_record_118 : decode cX4_record 118 = .ok (.getfield 10, 3) := by decide +kernel
theorem dX4_record_121 : decode cX4_record 121 = .ok (.iload_n 1, 1) := by decide +kernel
theorem dX4_record_122 : decode cX4_record 122 = .ok (.iload 5, 2) := by decide +kernel
theorem dX4_record_124 : decode cX4_record 124 = .ok (.iconst 2, 1) := by decide +kernel
theorem dX4_record_125 : decode cX4_record 125 = .ok (.iadd, 1) := by decide +kernel
theorem dX4_record_126 : decode cX4_record 126 = .ok (.iload 6, 2) := by decide +kernel
theorem dX4_record_128 : decode cX4_record 128 = .ok (.iadd, 1) := by decide +kernel
theorem dX4_record_129 : decode cX4_record 129 = .ok (.iload 4, 2) := by decide +kernel
theorem dX4_record_131 : decode cX4_record 131 = .ok (.iadd, 1) := by decide +kernel
theorem dX4_record_132 : decode cX4_record 132 = .ok (.invokevirtual 130, 3) := by decide +kernel
theorem dX4_record_135 : decode cX4_record 135 = .ok (.goto 4, 3) := by decide +kernel
theorem dX4_record_138 : decode cX4_record 138 = .ok (.iconst (-1), 1) := by decide +kernel
theorem dX4_record_139 : decode cX4_record 139 = .ok (.ireturn, 1) := by decide +kernel
theorem dX4_record_140 : decode cX4_record 140 = .ok (.iconst (-1), 1) := by decide +kernel
theorem dX4_record_141 : decode cX4_record 141 = .ok (.ireturn, 1) := by decide +kernel
theorem dX4_look_0 : decode cX4_look 0 = .ok (.iload_n 1, 1) := by decide +kernel
theorem dX4_look_1 : decode cX4_look 1 = .ok (.tableswitch 159 0 10 #[59, 67, 75, 83, 92, 101, 109, 117, 133, 141, 149], 59) := by decide +kernel
theorem dX4_look_60 : decode cX4_look 60 = .ok (.aload_n 0, 1) := by decide +kernel
theorem dX4_look_61 : decode cX4_look 61 = .ok (.getfield 10, 3) := by decide +kernel
theorem dX4_look_64 : decode cX4_look 64 = .ok (.invokevirtual 154, 3) := by decide +kernel
theorem dX4_look_67 : decode cX4_look 67 = .ok (.ireturn, 1) := by decide +kernel
theorem dX4_look_68 : decode cX4_look 68 = .ok (.aload_n 0, 1) := by decide +kernel
theorem dX4_look_69 : decode cX4_look 69 = .ok (.getfield 10, 3) := by decide +kernel
theorem dX4_look_72 : decode cX4_look 72 = .ok (.invokevirtual 157, 3) := by decide +kernel
theorem dX4_look_75 : decode cX4_look 75 = .ok (.ireturn, 1) := by decide +kernel
theorem dX4_look_76 : decode cX4_look 76 = .ok (.aload_n 0, 1) := by decide +kernel
theorem dX4_look_77 : decode cX4_look 77 = .ok (.getfield 10, 3) := by decide +kernel
theorem dX4_look_80 : decode cX4_look 80 = .ok (.invokevirtual 160, 3) := by decide +kernel
theorem dX4_look_83 : decode cX4_look 83 = .ok (.ireturn, 1) := by decide +kernel
theorem dX4_look_84 : decode cX4_look 84 = .ok (.aload_n 0, 1) := by decide +kernel
theorem dX4_look_85 : decode cX4_look 85 = .ok (.getfield 10, 3) := by decide +kernel
theorem dX4_look_88 : decode cX4_look 88 = .ok (.iconst 5, 1) := by decide +kernel
theorem dX4_look_89 : decode cX4_look 89 = .ok (.invokevirtual 163, 3) := by decide +kernel
theorem dX4_look_92 : decode cX4_look 92 = .ok (.ireturn, 1) := by decide +kernel
theorem dX4_look_93 : decode cX4_look 93 = .ok (.aload_n 0, 1) := by decide +kernel
theorem dX4_look_94 : decode cX4_look 94 = .ok (.getfield 10, 3) := by decide +kernel
theorem dX4_look_97 : decode cX4_look 97 = .ok (.iconst 0, 1) := by decide +kernel
theorem dX4_look_98 : decode cX4_look 98 = .ok (.invokevirtual 163, 3) := by decide +kernel
theorem dX4_look_101 : decode cX4_look 101 = .ok (.ireturn, 1) := by decide +kernel
theorem dX4_look_102 : decode cX4_look 102 = .ok (.aload_n 0, 1) := by decide +kernel
theorem dX4_look_103 : decode cX4_look 103 = .ok (.getfield 10, 3) := by decide +kernel
theorem dX4_look_106 : decode cX4_look 106 = .ok (.invokevirtual 166, 3) := by decide +kernel
theorem dX4_look_109 : decode cX4_look 109 = .ok (.ireturn, 1) := by decide +kernel
theorem dX4_look_110 : decode cX4_look 110 = .ok (.aload_n 0, 1) := by decide +kernel
theorem dX4_look_111 : decode cX4_look 111 = .ok (.getfield 10, 3) := by decide +kernel
theorem dX4_look_114 : decode cX4_look 114 = .ok (.invokevirtual 169, 3) := by decide +kernel
theorem dX4_look_117 : decode cX4_look 117 = .ok (.ireturn, 1) := by decide +kernel
theorem dX4_look_118 : decode cX4_look 118 = .ok (.aload_n 0, 1) := by decide +kernel
theorem dX4_look_119 : decode cX4_look 119 = .ok (.getfield 10, 3) := by decide +kernel
theorem dX4_look_122 : decode cX4_look 122 = .ok (.invokevirtual 83, 3) := by decide +kernel
theorem dX4_look_125 : decode cX4_look 125 = .ok (.ifCond .eq 7, 3) := by decide +kernel
theorem dX4_look_128 : decode cX4_look 128 = .ok (.iconst 1, 1) := by decide +kernel
theorem dX4_look_129 : decode cX4_look 129 = .ok (.goto 4, 3) := by decide +kernel
theorem dX4_look_132 : decode cX4_look 132 = .ok (.iconst 0, 1) := by decide +kernel
theorem dX4_look_133 : decode cX4_look 133 = .ok (.ireturn, 1) := by decide +kernel
theorem dX4_look_134 : decode cX4_look 134 = .ok (.aload_n 0, 1) := by decide +kernel
theorem dX4_look_135 : decode cX4_look 135 = .ok (.getfield 10, 3) := by decide +kernel
theorem dX4_look_138 : decode cX4_look 138 = .ok (.invokevirtual 172, 3) := by decide +kernel
theorem dX4_look_141 : decode cX4_look 141 = .ok (.ireturn, 1) := by decide +kernel
theorem dX4_look_142 : decode cX4_look 142 = .ok (.aload_n 0, 1) := by decide +kernel
theorem dX4_look_143 : decode cX4_look 143 = .ok (.getfield 38, 3) := by decide +kernel
theorem dX4_look_146 : decode cX4_look 146 = .ok (.invokevirtual 67, 3) := by decide +kernel
theorem dX4_look_149 : decode cX4_look 149 = .ok (.ireturn, 1) := by decide +kernel
theorem dX4_look_150 : decode cX4_look 150 = .ok (.aload_n 0, 1) := by decide +kernel
theorem dX4_look_151 : decode cX4_look 151 = .ok (.getfield 10, 3) := by decide +kernel
theorem dX4_look_154 : decode cX4_look 154 = .ok (.iconst 1, 1) := by decide +kernel
theorem dX4_look_155 : decode cX4_look 155 = .ok (.iconst 0, 1) := by decide +kernel
theorem dX4_look_156 : decode cX4_look 156 = .ok (.invokevirtual 130, 3) := by decide +kernel
theorem dX4_look_159 : decode cX4_look 159 = .ok (.ireturn, 1) := by decide +kernel
theorem dX4_look_160 : decode cX4_look 160 = .ok (.iconst (-1), 1) := by decide +kernel
theorem dX4_look_161 : decode cX4_look 161 = .ok (.ireturn, 1) := by decide +kernel
theorem dX4_makePlace_0 : decode cX4_makePlace 0 = .ok (.iconst 0, 1) := by decide +kernel
theorem dX4_makePlace_1 : decode cX4_makePlace 1 = .ok (.istore 4, 2) := by decide +kernel
theorem dX4_makePlace_3 : decode cX4_makePlace 3 = .ok (.iload 4, 2) := by decide +kernel
theorem dX4_makePlace_5 : decode cX4_makePlace 5 = .ok (.bipush 64, 2) := by decide +kernel
theorem dX4_makePlace_7 : decode cX4_makePlace 7 = .ok (.if_icmp .ge 99, 3) := by decide +kernel
theorem dX4_makePlace_10 : decode cX4_makePlace 10 = .ok (.aload_n 0, 1) := by decide +kernel
theorem dX4_makePlace_11 : decode cX4_makePlace 11 = .ok (.getfield 10, 3) := by decide +kernel
theorem dX4_makePlace_14 : decode cX4_makePlace 14 = .ok (.iload_n 1, 1) := by decide +kernel
theorem dX4_makePlace_15 : decode cX4_makePlace 15 = .ok (.invokevirtual 104, 3) := by decide +kernel
theorem dX4_makePlace_18 : decode cX4_makePlace 18 = .ok (.istore 5, 2) := by decide +kernel
theorem dX4_makePlace_20 : decode cX4_makePlace 20 = .ok (.aload_n 0, 1) := by decide +kernel
theorem dX4_makePlace_21 : decode cX4_makePlace 21 = .ok (.iload 5, 2) := by decide +kernel
theorem dX4_makePlace_23 : decode cX4_makePlace 23 = .ok (.iload_n 2, 1) := by decide +kernel
theorem dX4_makePlace_24 : decode cX4_makePlace 24 = .ok (.iload_n 3, 1) := by decide +kernel
theorem dX4_makePlace_25 : decode cX4_makePlace 25 = .ok (.invokevirtual 175, 3) := by decide +kernel
theorem dX4_makePlace_28 : decode cX4_makePlace 28 = .ok (.ifCond .eq 5, 3) := by decide +kernel
theorem dX4_makePlace_31 : decode cX4_makePlace 31 = .ok (.iconst 0, 1) := by decide +kernel
theorem dX4_makePlace_32 : decode cX4_makePlace 32 = .ok (.ireturn, 1) := by decide +kernel
theorem dX4_makePlace_33 : decode cX4_makePlace 33 = .ok (.aload_n 0, 1) := by decide +kernel
theorem dX4_makePlace_34 : decode cX4_makePlace 34 = .ok (.getfield 10, 3) := by decide +kernel
theorem dX4_makePlace_37 : decode cX4_makePlace 37 = .ok (.iload 5, 2) := by decide +kernel
theorem dX4_makePlace_39 : decode cX4_makePlace 39 = .ok (.iload_n 1, 1) := by decide +kernel
theorem dX4_makePlace_40 : decode cX4_makePlace 40 = .ok (.invokevirtual 179, 3) := by decide +kernel
theorem dX4_makePlace_43 : decode cX4_makePlace 43 = .ok (.ifCond .eq 5, 3) := by decide +kernel
theorem dX4_makePlace_46 : decode cX4_makePlace 46 = .ok (.iconst 3, 1) := by decide +kernel
theorem dX4_makePlace_47 : decode cX4_makePlace 47 = .ok (.ireturn, 1) := by decide +kernel
theorem dX4_makePlace_48 : decode cX4_makePlace 48 = .ok (.aload_n 0, 1) := by decide +kernel
theorem dX4_makePlace_49 : decode cX4_makePlace 49 = .ok (.getfield 10, 3) := by decide +kernel
theorem dX4_makePlace_52 : decode cX4_makePlace 52 = .ok (.invokevirtual 160, 3) := by decide +kernel
theorem dX4_makePlace_55 : decode cX4_makePlace 55 = .ok (.istore 6, 2) := by decide +kernel
theorem dX4_makePlace_57 : decode cX4_makePlace 57 = .ok (.aload_n 0, 1) := by decide +kernel
theorem dX4_makePlace_58 : decode cX4_makePlace 58 = .ok (.getfield 10, 3) := by decide +kernel
theorem dX4_makePlace_61 : decode cX4_makePlace 61 = .ok (.iload 5, 2) := by decide +kernel
theorem dX4_makePlace_63 : decode cX4_makePlace 63 = .ok (.iconst 0, 1) := by decide +kernel
theorem dX4_makePlace_64 : decode cX4_makePlace 64 = .ok (.invokevirtual 130, 3) := by decide +kernel
theorem dX4_makePlace_67 : decode cX4_makePlace 67 = .ok (.iload 6, 2) := by decide +kernel
theorem dX4_makePlace_69 : decode cX4_makePlace 69 = .ok (.if_icmp .ne 14, 3) := by decide +kernel
theorem dX4_makePlace_72 : decode cX4_makePlace 72 = .ok (.aload_n 0, 1) := by decide +kernel
theorem dX4_makePlace_73 : decode cX4_makePlace 73 = .ok (.iload 6, 2) := by decide +kernel
theorem dX4_makePlace_75 : decode cX4_makePlace 75 = .ok (.iconst 1, 1) := by decide +kernel
theorem dX4_makePlace_76 : decode cX4_makePlace 76 = .ok (.iadd, 1) := by decide +kernel
theorem dX4_makePlace_77 : decode cX4_makePlace 77 = .ok (.invokevirtual 183, 3) := by decide +kernel
theorem dX4_makePlace_80 : decode cX4_makePlace 80 = .ok (.goto 10, 3) := by decide +kernel
theorem dX4_makePlace_83 : decode cX4_makePlace 83 = .ok (.aload_n 0, 1) := by decide +kernel
theorem dX4_makePlace_84 : decode cX4_makePlace 84 = .ok (.iload 5, 2) := by decide +kernel
theorem dX4_makePlace_86 : decode cX4_makePlace 86 = .ok (.iload_n 1, 1) := by decide +kernel
theorem dX4_makePlace_87 : decode cX4_makePlace 87 = .ok (.invokevirtual 186, 3) := by decide +kernel
theorem dX4_makePlace_90 : decode cX4_makePlace 90 = .ok (.istore 7, 2) := by decide +kernel
theorem dX4_makePlace_92 : decode cX4_makePlace 92 = .ok (.iload 7, 2) := by decide +kernel
theorem dX4_makePlace_94 : decode cX4_makePlace 94 = .ok (.ifCond .eq 6, 3) := by decide +kernel
theorem dX4_makePlace_97 : decode cX4_makePlace 97 = .ok (.iload 7, 2) := by decide +kernel
theorem dX4_makePlace_99 : decode cX4_makePlace 99 = .ok (.ireturn, 1) := by decide +kernel
theorem dX4_makePlace_100 : decode cX4_makePlace 100 = .ok (.iinc 4 1, 3) := by decide +kernel
theorem dX4_makePlace_103 : decode cX4_makePlace 103 = .ok (.goto (-100), 3) := by decide +kernel
theorem dX4_makePlace_106 : decode cX4_makePlace 106 = .ok (.iconst 1, 1) := by decide +kernel
theorem dX4_makePlace_107 : decode cX4_makePlace 107 = .ok (.ireturn, 1) := by decide +kernel
theorem dX4_hasPlace_0 : decode cX4_hasPlace 0 = .ok (.aload_n 0, 1) := by decide +kernel
theorem dX4_hasPlace_1 : decode cX4_hasPlace 1 = .ok (.getfield 10, 3) := by decide +kernel
theorem dX4_hasPlace_4 : decode cX4_hasPlace 4 = .ok (.iload_n 1, 1) := by decide +kernel
theorem dX4_hasPlace_5 : decode cX4_hasPlace 5 = .ok (.aload_n 0, 1) := by decide +kernel
theorem dX4_hasPlace_6 : decode cX4_hasPlace 6 = .ok (.getfield 38, 3) := by decide +kernel
theorem dX4_hasPlace_9 : decode cX4_hasPlace 9 = .ok (.iload_n 2, 1) := by decide +kernel
theorem dX4_hasPlace_10 : decode cX4_hasPlace 10 = .ok (.invokevirtual 112, 3) := by decide +kernel
theorem dX4_hasPlace_13 : decode cX4_hasPlace 13 = .ok (.istore 4, 2) := by decide +kernel
theorem dX4_hasPlace_15 : decode cX4_hasPlace 15 = .ok (.aload_n 0, 1) := by decide +kernel
theorem dX4_hasPlace_16 : decode cX4_hasPlace 16 = .ok (.getfield 10, 3) := by decide +kernel
theorem dX4_hasPlace_19 : decode cX4_hasPlace 19 = .ok (.iload_n 1, 1) := by decide +kernel
theorem dX4_hasPlace_20 : decode cX4_hasPlace 20 = .ok (.invokevirtual 148, 3) := by decide +kernel
theorem dX4_hasPlace_23 : decode cX4_hasPlace 23 = .ok (.iload 4, 2) := by decide +kernel
theorem dX4_hasPlace_25 : decode cX4_hasPlace 25 = .ok (.iconst (-1), 1) := by decide +kernel
theorem dX4_hasPlace_26 : decode cX4_hasPlace 26 = .ok (.if_icmp .ne 7, 3) := by decide +kernel
theorem dX4_hasPlace_29 : decode cX4_hasPlace 29 = .ok (.iconst 0, 1) := by decide +kernel
theorem dX4_hasPlace_30 : decode cX4_hasPlace 30 = .ok (.goto 13, 3) := by decide +kernel
theorem dX4_hasPlace_33 : decode cX4_hasPlace 33 = .ok (.aload_n 0, 1) := by decide +kernel
theorem dX4_hasPlace_34 : decode cX4_hasPlace 34 = .ok (.getfield 10, 3) := by decide +kernel
theorem dX4_hasPlace_37 : decode cX4_hasPlace 37 = .ok (.iload_n 1, 1) := by decide +kernel
theorem dX4_hasPlace_38 : decode cX4_hasPlace 38 = .ok (.iload 4, 2) := by decide +kernel
theorem dX4_hasPlace_40 : decode cX4_hasPlace 40 = .ok (.invokevirtual 189, 3) := by decide +kernel
theorem dX4_hasPlace_43 : decode cX4_hasPlace 43 = .ok (.isub, 1) := by decide +kernel
theorem dX4_hasPlace_44 : decode cX4_hasPlace 44 = .ok (.istore 5, 2) := by decide +kernel
theorem dX4_hasPlace_46 : decode cX4_hasPlace 46 = .ok (.iload 5, 2) := by decide +kernel
theorem dX4_hasPlace_48 : decode cX4_hasPlace 48 = .ok (.iconst 2, 1) := by decide +kernel
theorem dX4_hasPlace_49 : decode cX4_hasPlace 49 = .ok (.iadd, 1) := by decide +kernel
theorem dX4_hasPlace_50 : decode cX4_hasPlace 50 = .ok (.iload_n 3, 1) := by decide +kernel
theorem dX4_hasPlace_51 : decode cX4_hasPlace 51 = .ok (.iadd, 1) := by decide +kernel
theorem dX4_hasPlace_52 : decode cX4_hasPlace 52 = .ok (.sipush 252, 3) := by decide +kernel
theorem dX4_hasPlace_55 : decode cX4_hasPlace 55 = .ok (.if_icmp .gt 7, 3) := by decide +kernel
theorem dX4_hasPlace_58 : decode cX4_hasPlace 58 = .ok (.iconst 1, 1) := by decide +kernel
theorem dX4_hasPlace_59 : decode cX4_hasPlace 59 = .ok (.goto 4, 3) := by decide +kernel
theorem dX4_hasPlace_62 : decode cX4_hasPlace 62 = .ok (.iconst 0, 1) := by decide +kernel
theorem dX4_hasPlace_63 : decode cX4_hasPlace 63 = .ok (.ireturn, 1) := by decide +kernel
theorem dX4_storeRecord_0 : decode cX4_storeRecord 0 = .ok (.aload_n 0, 1) := by decide +kernel
theorem dX4_storeRecord_1 : decode cX4_storeRecord 1 = .ok (.iload_n 1, 1) := by decide +kernel
theorem dX4_storeRecord_2 : decode cX4_storeRecord 2 = .ok (.aload_n 0, 1) := by decide +kernel
theorem dX4_storeRecord_3 : decode cX4_storeRecord 3 = .ok (.getfield 10, 3) := by decide +kernel
theorem dX4_storeRecord_6 : decode cX4_storeRecord 6 = .ok (.iload_n 1, 1) := by decide +kernel
theorem dX4_storeRecord_7 : decode cX4_storeRecord 7 = .ok (.aload_n 0, 1) := by decide +kernel
theorem dX4_storeRecord_8 : decode cX4_storeRecord 8 = .ok (.getfield 38, 3) := by decide +kernel
theorem dX4_storeRecord_11 : decode cX4_storeRecord 11 = .ok (.iload_n 2, 1) := by decide +kernel
theorem dX4_storeRecord_12 : decode cX4_storeRecord 12 = .ok (.invokevirtual 112, 3) := by decide +kernel
theorem dX4_storeRecord_15 : decode cX4_storeRecord 15 = .ok (.invokevirtual 116, 3) := by decide +kernel
theorem dX4_storeRecord_18 : decode cX4_storeRecord 18 = .ok (.aload_n 0, 1) := by decide +kernel
theorem dX4_storeRecord_19 : decode cX4_storeRecord 19 = .ok (.getfield 28, 3) := by decide +kernel
theorem dX4_storeRecord_22 : decode cX4_storeRecord 22 = .ok (.aload_n 0, 1) := by decide +kernel
theorem dX4_storeRecord_23 : decode cX4_storeRecord 23 = .ok (.getfield 38, 3) := by decide +kernel
theorem dX4_storeRecord_26 : decode cX4_storeRecord 26 = .ok (.iload_n 2, 1) := by decide +kernel
theorem dX4_storeRecord_27 : decode cX4_storeRecord 27 = .ok (.iload_n 3, 1) := by decide +kernel
theorem dX4_storeRecord_28 : decode cX4_storeRecord 28 = .ok (.invokevirtual 192, 3) := by decide +kernel
theorem dX4_storeRecord_31 : decode cX4_storeRecord 31 = .ok (.aload_n 0, 1) := by decide +kernel
theorem dX4_storeRecord_32 : decode cX4_storeRecord 32 = .ok (.getfield 10, 3) := by decide +kernel
theorem dX4_storeRecord_35 : decode cX4_storeRecord 35 = .ok (.iload_n 1, 1) := by decide +kernel
theorem dX4_storeRecord_36 : decode cX4_storeRecord 36 = .ok (.aload_n 0, 1) := by decide +kernel
theorem dX4_storeRecord_37 : decode cX4_storeRecord 37 = .ok (.getfield 28, 3) := by decide +kernel
theorem dX4_storeRecord_40 : decode cX4_storeRecord 40 = .ok (.invokevirtual 120, 3) := by decide +kernel
theorem dX4_storeRecord_43 : decode cX4_storeRecord 43 = .ok (.ifCond .eq 7, 3) := by decide +kernel
theorem dX4_storeRecord_46 : decode cX4_storeRecord 46 = .ok (.iconst 0, 1) := by decide +kernel
theorem dX4_storeRecord_47 : decode cX4_storeRecord 47 = .ok (.goto 4, 3) := by decide +kernel
theorem dX4_storeRecord_50 : decode cX4_storeRecord 50 = .ok (.iconst 4, 1) := by decide +kernel
theorem dX4_storeRecord_51 : decode cX4_storeRecord 51 = .ok (.ireturn, 1) := by decide +kernel
theorem dX4_buildWithout_0 : decode cX4_buildWithout 0 = .ok (.aload_n 0, 1) := by decide +kernel
theorem dX4_buildWithout_1 : decode cX4_buildWithout 1 = .ok (.getfield 28, 3) := by decide +kernel
theorem dX4_buildWithout_4 : decode cX4_buildWithout 4 = .ok (.aload_n 0, 1) := by decide +kernel
theorem dX4_buildWithout_5 : decode cX4_buildWithout 5 = .ok (.getfield 10, 3) := by decide +kernel
theorem dX4_buildWithout_8 : decode cX4_buildWithout 8 = .ok (.iload_n 1, 1) := by decide +kernel
theorem dX4_buildWithout_9 : decode cX4_buildWithout 9 = .ok (.iconst 0, 1) := by decide +kernel
theorem dX4_buildWithout_10 : decode cX4_buildWithout 10 = .ok (.invokevirtual 130, 3) := by decide +kernel
theorem dX4_buildWithout_13 : decode cX4_buildWithout 13 = .ok (.invokevirtual 196, 3) := by decide +kernel
theorem dX4_buildWithout_16 : decode cX4_buildWithout 16 = .ok (.aload_n 0, 1) := by decide +kernel
theorem dX4_buildWithout_17 : decode cX4_buildWithout 17 = .ok (.iload_n 1, 1) := by decide +kernel
theorem dX4_buildWithout_18 : decode cX4_buildWithout 18 = .ok (.iload_n 2, 1) := by decide +kernel
theorem dX4_buildWithout_19 : decode cX4_buildWithout 19 = .ok (.invokevirtual 199, 3) := by decide +kernel
theorem dX4_buildWithout_22 : decode cX4_buildWithout 22 = .ok (.return_, 1) := by decide +kernel
theorem dX4_addRecordsBut_0 : decode cX4_addRecordsBut 0 = .ok (.aload_n 0, 1) := by decide +kernel
theorem dX4_addRecordsBut_1 : decode cX4_addRecordsBut 1 = .ok (.getfield 10, 3) := by decide +kernel
theorem dX4_addRecordsBut_4 : decode cX4_addRecordsBut 4 = .ok (.iload_n 1, 1) := by decide +kernel
theorem dX4_addRecordsBut_5 : decode cX4_addRecordsBut 5 = .ok (.iconst 1, 1) := by decide +kernel
theorem dX4_addRecordsBut_6 : decode cX4_addRecordsBut 6 = .ok (.invokevirtual 130, 3) := by decide +kernel
theorem dX4_addRecordsBut_9 : decode cX4_addRecordsBut 9 = .ok (.istore_n 3, 1) := by decide +kernel
theorem dX4_addRecordsBut_10 : decode cX4_addRecordsBut 10 = .ok (.iconst 4, 1) := by decide +kernel
theorem dX4_addRecordsBut_11 : decode cX4_addRecordsBut 11 = .ok (.istore 4, 2) := by decide +kernel
theorem dX4_addRecordsBut_13 : decode cX4_addRecordsBut 13 = .ok (.iconst 0, 1) := by decide +kernel
theorem dX4_addRecordsBut_14 : decode cX4_addRecordsBut 14 = .ok (.istore 5, 2) := by decide +kernel
theorem dX4_addRecordsBut_16 : decode cX4_addRecordsBut 16 = .ok (.iload 5, 2) := by decide +kernel
theorem dX4_addRecordsBut_18 : decode cX4_addRecordsBut 18 = .ok (.iload_n 3, 1) := by decide +kernel
theorem dX4_addRecordsBut_19 : decode cX4_addRecordsBut 19 = .ok (.if_icmp .ge 44, 3) := by decide +kernel
theorem dX4_addRecordsBut_22 : decode cX4_addRecordsBut 22 = .ok (.iload 4, 2) := by decide +kernel
theorem dX4_addRecordsBut_24 : decode cX4_addRecordsBut 24 = .ok (.iload_n 2, 1) := by decide +kernel
theorem dX4_addRecordsBut_25 : decode cX4_addRecordsBut 25 = .ok (.if_icmp .eq 17, 3) := by decide +kernel
theorem dX4_addRecordsBut_28 : decode cX4_addRecordsBut 28 = .ok (.aload_n 0, 1) := by decide +kernel
theorem dX4_addRecordsBut_29 : decode cX4_addRecordsBut 29 = .ok (.getfield 28, 3) := by decide +kernel
theorem dX4_addRecordsBut_32 : decode cX4_addRecordsBut 32 = .ok (.aload_n 0, 1) := by decide +kernel
theorem dX4_addRecordsBut_33 : decode cX4_addRecordsBut 33 = .ok (.getfield 10, 3) := by decide +kernel
theorem dX4_addRecordsBut_36 : decode cX4_addRecordsBut 36 = .ok (.iload_n 1, 1) := by decide +kernel
theorem dX4_addRecordsBut_37 : decode cX4_addRecordsBut 37 = .ok (.iload 4, 2) := by decide +kernel
theorem dX4_addRecordsBut_39 : decode cX4_addRecordsBut 39 = .ok (.invokevirtual 202, 3) := by decide +kernel
theorem dX4_addRecordsBut_42 : decode cX4_addRecordsBut 42 = .ok (.iload 4, 2) := by decide +kernel
theorem dX4_addRecordsBut_44 : decode cX4_addRecordsBut 44 = .ok (.aload_n 0, 1) := by decide +kernel
theorem dX4_addRecordsBut_45 : decode cX4_addRecordsBut 45 = .ok (.getfield 10, 3) := by decide +kernel
theorem dX4_addRecordsBut_48 : decode cX4_addRecordsBut 48 = .ok (.iload_n 1, 1) := by decide +kernel
theorem dX4_addRecordsBut_49 : decode cX4_addRecordsBut 49 = .ok (.iload 4, 2) := by decide +kernel
theorem dX4_addRecordsBut_51 : decode cX4_addRecordsBut 51 = .ok (.invokevirtual 189, 3) := by decide +kernel
theorem dX4_addRecordsBut_54 : decode cX4_addRecordsBut 54 = .ok (.iadd, 1) := by decide +kernel
theorem dX4_addRecordsBut_55 : decode cX4_addRecordsBut 55 = .ok (.istore 4, 2) := by decide +kernel
theorem dX4_addRecordsBut_57 : decode cX4_addRecordsBut 57 = .ok (.iinc 5 1, 3) := by decide +kernel
theorem dX4_addRecordsBut_60 : decode cX4_addRecordsBut 60 = .ok (.goto (-44), 3) := by decide +kernel
theorem dX4_addRecordsBut_63 : decode cX4_addRecordsBut 63 = .ok (.return_, 1) := by decide +kernel
theorem dX4_resizeDirectory_0 : decode cX4_resizeDirectory 0 = .ok (.aload_n 0, 1) := by decide +kernel
theorem dX4_resizeDirectory_1 : decode cX4_resizeDirectory 1 = .ok (.getfield 10, 3) := by decide +kernel
theorem dX4_resizeDirectory_4 : decode cX4_resizeDirectory 4 = .ok (.invokevirtual 160, 3) := by decide +kernel
theorem dX4_resizeDirectory_7 : decode cX4_resizeDirectory 7 = .ok (.invokestatic 206, 3) := by decide +kernel
theorem dX4_resizeDirectory_10 : decode cX4_resizeDirectory 10 = .ok (.istore_n 2, 1) := by decide +kernel
theorem dX4_resizeDirectory_11 : decode cX4_resizeDirectory 11 = .ok (.iload_n 1, 1) := by decide +kernel
theorem dX4_resizeDirectory_12 : decode cX4_resizeDirectory 12 = .ok (.invokestatic 206, 3) := by decide +kernel
theorem dX4_resizeDirectory_15 : decode cX4_resizeDirectory 15 = .ok (.istore_n 3, 1) := by decide +kernel
theorem dX4_resizeDirectory_16 : decode cX4_resizeDirectory 16 = .ok (.aload_n 0, 1) := by decide +kernel
theorem dX4_resizeDirectory_17 : decode cX4_resizeDirectory 17 = .ok (.getfield 10, 3) := by decide +kernel
theorem dX4_resizeDirectory_20 : decode cX4_resizeDirectory 20 = .ok (.iconst 0, 1) := by decide +kernel
theorem dX4_resizeDirectory_21 : decode cX4_resizeDirectory 21 = .ok (.invokevirtual 163, 3) := by decide +kernel
theorem dX4_resizeDirectory_24 : decode cX4_resizeDirectory 24 = .ok (.iload_n 3, 1) := by decide +kernel
theorem dX4_resizeDirectory_25 : decode cX4_resizeDirectory 25 = .ok (.iload_n 2, 1) := by decide +kernel
theorem dX4_resizeDirectory_26 : decode cX4_resizeDirectory 26 = .ok (.isub, 1) := by decide +kernel
theorem dX4_resizeDirectory_27 : decode cX4_resizeDirectory 27 = .ok (.if_icmp .ge 5, 3) := by decide +kernel
theorem dX4_resizeDirectory_30 : decode cX4_resizeDirectory 30 = .ok (.iconst 1, 1) := by decide +kernel
theorem dX4_resizeDirectory_31 : decode cX4_resizeDirectory 31 = .ok (.ireturn, 1) := by decide +kernel
theorem dX4_resizeDirectory_32 : decode cX4_resizeDirectory 32 = .ok (.iload_n 3, 1) := by decide +kernel
theorem dX4_resizeDirectory_33 : decode cX4_resizeDirectory 33 = .ok (.iconst 1, 1) := by decide +kernel
theorem dX4_resizeDirectory_34 : decode cX4_resizeDirectory 34 = .ok (.iadd, 1) := by decide +kernel
theorem dX4_resizeDirectory_35 : decode cX4_resizeDirectory 35 = .ok (.aload_n 0, 1) := by decide +kernel
theorem dX4_resizeDirectory_36 : decode cX4_resizeDirectory 36 = .ok (.getfield 10, 3) := by decide +kernel
theorem dX4_resizeDirectory_39 : decode cX4_resizeDirectory 39 = .ok (.invokevirtual 157, 3) := by decide +kernel
theorem dX4_resizeDirectory_42 : decode cX4_resizeDirectory 42 = .ok (.if_icmp .le 5, 3) := by decide +kernel
theorem dX4_resizeDirectory_45 : decode cX4_resizeDirectory 45 = .ok (.iconst 2, 1) := by decide +kernel
theorem dX4_resizeDirectory_46 : decode cX4_resizeDirectory 46 = .ok (.ireturn, 1) := by decide +kernel
theorem dX4_resizeDirectory_47 : decode cX4_resizeDirectory 47 = .ok (.aload_n 0, 1) := by decide +kernel
theorem dX4_resizeDirectory_48 : decode cX4_resizeDirectory 48 = .ok (.getfield 21, 3) := by decide +kernel
theorem dX4_resizeDirectory_51 : decode cX4_resizeDirectory 51 = .ok (.invokevirtual 209, 3) := by decide +kernel
theorem dX4_resizeDirectory_54 : decode cX4_resizeDirectory 54 = .ok (.aload_n 0, 1) := by decide +kernel
theorem dX4_resizeDirectory_55 : decode cX4_resizeDirectory 55 = .ok (.getfield 32, 3) := by decide +kernel
theorem dX4_resizeDirectory_58 : decode cX4_resizeDirectory 58 = .ok (.invokevirtual 212, 3) := by decide +kernel
theorem dX4_resizeDirectory_61 : decode cX4_resizeDirectory 61 = .ok (.aload_n 0, 1) := by decide +kernel
theorem dX4_resizeDirectory_62 : decode cX4_resizeDirectory 62 = .ok (.getfield 32, 3) := by decide +kernel
theorem dX4_resizeDirectory_65 : decode cX4_resizeDirectory 65 = .ok (.iconst 0, 1) := by decide +kernel
theorem dX4_resizeDirectory_66 : decode cX4_resizeDirectory 66 = .ok (.iload_n 1, 1) := by decide +kernel
theorem dX4_resizeDirectory_67 : decode cX4_resizeDirectory 67 = .ok (.invokevirtual 215, 3) := by decide +kernel
theorem dX4_resizeDirectory_70 : decode cX4_resizeDirectory 70 = .ok (.iconst (-1), 1) := by decide +kernel
theorem dX4_resizeDirectory_71 : decode cX4_resizeDirectory 71 = .ok (.istore 4, 2) := by decide +kernel
theorem dX4_resizeDirectory_73 : decode cX4_resizeDirectory 73 = .ok (.iconst 0, 1) := by decide +kernel
theorem dX4_resizeDirectory_74 : decode cX4_resizeDirectory 74 = .ok (.istore 5, 2) := by decide +kernel
theorem dX4_resizeDirectory_76 : decode cX4_resizeDirectory 76 = .ok (.iload 5, 2) := by decide +kernel
theorem dX4_resizeDirectory_78 : decode cX4_resizeDirectory 78 = .ok (.iload_n 3, 1) := by decide +kernel
theorem dX4_resizeDirectory_79 : decode cX4_resizeDirectory 79 = .ok (.if_icmp .ge 79, 3) := by decide +kernel
theorem dX4_resizeDirectory_82 : decode cX4_resizeDirectory 82 = .ok (.aload_n 0, 1) := by decide +kernel
theorem dX4_resizeDirectory_83 : decode cX4_resizeDirectory 83 = .ok (.getfield 10, 3) := by decide +kernel
theorem dX4_resizeDirectory_86 : decode cX4_resizeDirectory 86 = .ok (.iload 5, 2) := by decide +kernel
theorem dX4_resizeDirectory_88 : decode cX4_resizeDirectory 88 = .ok (.invokevirtual 218, 3) := by decide +kernel
theorem dX4_resizeDirectory_91 : decode cX4_resizeDirectory 91 = .ok (.istore 6, 2) := by decide +kernel
theorem dX4_resizeDirectory_93 : decode cX4_resizeDirectory 93 = .ok (.iload 5, 2) := by decide +kernel
theorem dX4_resizeDirectory_95 : decode cX4_resizeDirectory 95 = .ok (.iload_n 2, 1) := by decide +kernel
theorem dX4_resizeDirectory_96 : decode cX4_resizeDirectory 96 = .ok (.if_icmp .lt 18, 3) := by decide +kernel
theorem dX4_resizeDirectory_99 : decode cX4_resizeDirectory 99 = .ok (.aload_n 0, 1) := by decide +kernel
theorem dX4_resizeDirectory_100 : decode cX4_resizeDirectory 100 = .ok (.getfield 10, 3) := by decide +kernel
theorem dX4_resizeDirectory_103 : decode cX4_resizeDirectory 103 = .ok (.iload 4, 2) := by decide +kernel
theorem dX4_resizeDirectory_105 : decode cX4_resizeDirectory 105 = .ok (.invokevirtual 221, 3) := by decide +kernel
theorem dX4_resizeDirectory_108 : decode cX4_resizeDirectory 108 = .ok (.istore 4, 2) := by decide +kernel
theorem dX4_resizeDirectory_110 : decode cX4_resizeDirectory 110 = .ok (.iload 4, 2) := by decide +kernel
theorem dX4_resizeDirectory_112 : decode cX4_resizeDirectory 112 = .ok (.istore 6, 2) := by decide +kernel
theorem dX4_resizeDirectory_114 : decode cX4_resizeDirectory 114 = .ok (.aload_n 0, 1) := by decide +kernel
theorem dX4_resizeDirectory_115 : decode cX4_resizeDirectory 115 = .ok (.getfield 32, 3) := by decide +kernel
theorem dX4_resizeDirectory_118 : decode cX4_resizeDirectory 118 = .ok (.iconst 1, 1) := by decide +kernel
theorem dX4_resizeDirectory_119 : decode cX4_resizeDirectory 119 = .ok (.iload 5, 2) := by decide +kernel
theorem dX4_resizeDirectory_121 : decode cX4_resizeDirectory 121 = .ok (.iadd, 1) := by decide +kernel
theorem dX4_resizeDirectory_122 : decode cX4_resizeDirectory 122 = .ok (.iload 6, 2) := by decide +kernel
theorem dX4_resizeDirectory_124 : decode cX4_resizeDirectory 124 = .ok (.invokevirtual 215, 3) := by decide +kernel
theorem dX4_resizeDirectory_127 : decode cX4_resizeDirectory 127 = .ok (.aload_n 0, 1) := by decide +kernel
theorem dX4_resizeDirectory_128 : decode cX4_resizeDirectory 128 = .ok (.iload 5, 2) := by decide +kernel
theorem dX4_resizeDirectory_130 : decode cX4_resizeDirectory 130 = .ok (.iload_n 1, 1) := by decide +kernel
theorem dX4_resizeDirectory_131 : decode cX4_resizeDirectory 131 = .ok (.invokevirtual 224, 3) := by decide +kernel
theorem dX4_resizeDirectory_134 : decode cX4_resizeDirectory 134 = .ok (.aload_n 0, 1) := by decide +kernel
theorem dX4_resizeDirectory_135 : decode cX4_resizeDirectory 135 = .ok (.getfield 21, 3) := by decide +kernel
theorem dX4_resizeDirectory_138 : decode cX4_resizeDirectory 138 = .ok (.aload_n 0, 1) := by decide +kernel
theorem dX4_resizeDirectory_139 : decode cX4_resizeDirectory 139 = .ok (.getfield 28, 3) := by decide +kernel
theorem dX4_resizeDirectory_142 : decode cX4_resizeDirectory 142 = .ok (.iload 6, 2) := by decide +kernel
theorem dX4_resizeDirectory_144 : decode cX4_resizeDirectory 144 = .ok (.invokevirtual 227, 3) := by decide +kernel
theorem dX4_resizeDirectory_147 : decode cX4_resizeDirectory 147 = .ok (.ifCond .ne 5, 3) := by decide +kernel
theorem dX4_resizeDirectory_150 : decode cX4_resizeDirectory 150 = .ok (.iconst 4, 1) := by decide +kernel
theorem dX4_resizeDirectory_151 : decode cX4_resizeDirectory 151 = .ok (.ireturn, 1) := by decide +kernel
theorem dX4_resizeDirectory_152 : decode cX4_resizeDirectory 152 = .ok (.iinc 5 1, 3) := by decide +kernel
theorem dX4_resizeDirectory_155 : decode cX4_resizeDirectory 155 = .ok (.goto (-79), 3) := by decide +kernel
theorem dX4_resizeDirectory_158 : decode cX4_resizeDirectory 158 = .ok (.aload_n 0, 1) := by decide +kernel
theorem dX4_resizeDirectory_159 : decode cX4_resizeDirectory 159 = .ok (.getfield 21, 3) := by decide +kernel
theorem dX4_resizeDirectory_162 : decode cX4_resizeDirectory 162 = .ok (.aload_n 0, 1) := by decide +kernel
theorem dX4_resizeDirectory_163 : decode cX4_resizeDirectory 163 = .ok (.getfield 32, 3) := by decide +kernel
theorem dX4_resizeDirectory_166 : decode cX4_resizeDirectory 166 = .ok (.iconst 0, 1) := by decide +kernel
theorem dX4_resizeDirectory_167 : decode cX4_resizeDirectory 167 = .ok (.invokevirtual 227, 3) := by decide +kernel
theorem dX4_resizeDirectory_170 : decode cX4_resizeDirectory 170 = .ok (.ifCond .eq 17, 3) := by decide +kernel
theorem dX4_resizeDirectory_173 : decode cX4_resizeDirectory 173 = .ok (.aload_n 0, 1) := by decide +kernel
theorem dX4_resizeDirectory_174 : decode cX4_resizeDirectory 174 = .ok (.getfield 21, 3) := by decide +kernel
theorem dX4_resizeDirectory_177 : decode cX4_resizeDirectory 177 = .ok (.invokevirtual 231, 3) := by decide +kernel
theorem dX4_resizeDirectory_180 : decode cX4_resizeDirectory 180 = .ok (.ifCond .eq 7, 3) := by decide +kernel
theorem dX4_resizeDirectory_183 : decode cX4_resizeDirectory 183 = .ok (.iconst 0, 1) := by decide +kernel
theorem dX4_resizeDirectory_184 : decode cX4_resizeDirectory 184 = .ok (.goto 4, 3) := by decide +kernel
theorem dX4_resizeDirectory_187 : decode cX4_resizeDirectory 187 = .ok (.iconst 4, 1) := by decide +kernel
theorem dX4_resizeDirectory_188 : decode cX4_resizeDirectory 188 = .ok (.ireturn, 1) := by decide +kernel
theorem dX4_buildDirectoryPage_0 : decode cX4_buildDirectoryPage 0 = .ok (.iload_n 2, 1) := by decide +kernel
theorem dX4_buildDirectoryPage_1 : decode cX4_buildDirectoryPage 1 = .ok (.aload_n 0, 1) := by decide +kernel
theorem dX4_buildDirectoryPage_2 : decode cX4_buildDirectoryPage 2 = .ok (.getfield 10, 3) := by decide +kernel
theorem dX4_buildDirectoryPage_5 : decode cX4_buildDirectoryPage 5 = .ok (.invokevirtual 160, 3) := by decide +kernel
theorem dX4_buildDirectoryPage_8 : decode cX4_buildDirectoryPage 8 = .ok (.if_icmp .le 7, 3) := by decide +kernel
theorem dX4_buildDirectoryPage_11 : decode cX4_buildDirectoryPage 11 = .ok (.iconst 1, 1) := by decide +kernel
theorem dX4_buildDirectoryPage_12 : decode cX4_buildDirectoryPage 12 = .ok (.goto 4, 3) := by decide +kernel
theorem dX4_buildDirectoryPage_15 : decode cX4_buildDirectoryPage 15 = .ok (.iconst 0, 1) := by decide +kernel
theorem dX4_buildDirectoryPage_16 : decode cX4_buildDirectoryPage 16 = .ok (.istore_n 3, 1) := by decide +kernel
theorem dX4_buildDirectoryPage_17 : decode cX4_buildDirectoryPage 17 = .ok (.iload_n 1, 1) := by decide +kernel
theorem dX4_buildDirectoryPage_18 : decode cX4_buildDirectoryPage 18 = .ok (.sipush 256, 3) := by decide +kernel
theorem dX4_buildDirectoryPage_21 : decode cX4_buildDirectoryPage 21 = .ok (.imul, 1) := by decide +kernel
theorem dX4_buildDirectoryPage_22 : decode cX4_buildDirectoryPage 22 = .ok (.istore 4, 2) := by decide +kernel
theorem dX4_buildDirectoryPage_24 : decode cX4_buildDirectoryPage 24 = .ok (.iconst 1, 1) := by decide +kernel
theorem dX4_buildDirectoryPage_25 : decode cX4_buildDirectoryPage 25 = .ok (.iload_n 2, 1) := by decide +kernel
theorem dX4_buildDirectoryPage_26 : decode cX4_buildDirectoryPage 26 = .ok (.ishl, 1) := by decide +kernel
theorem dX4_buildDirectoryPage_27 : decode cX4_buildDirectoryPage 27 = .ok (.istore 5, 2) := by decide +kernel
theorem dX4_buildDirectoryPage_29 : decode cX4_buildDirectoryPage 29 = .ok (.aload_n 0, 1) := by decide +kernel
theorem dX4_buildDirectoryPage_30 : decode cX4_buildDirectoryPage 30 = .ok (.getfield 28, 3) := by decide +kernel
theorem dX4_buildDirectoryPage_33 : decode cX4_buildDirectoryPage 33 = .ok (.invokevirtual 212, 3) := by decide +kernel
theorem dX4_buildDirectoryPage_36 : decode cX4_buildDirectoryPage 36 = .ok (.iconst 0, 1) := by decide +kernel
theorem dX4_buildDirectoryPage_37 : decode cX4_buildDirectoryPage 37 = .ok (.istore 6, 2) := by decide +kernel
theorem dX4_buildDirectoryPage_39 : decode cX4_buildDirectoryPage 39 = .ok (.iload 6, 2) := by decide +kernel
theorem dX4_buildDirectoryPage_41 : decode cX4_buildDirectoryPage 41 = .ok (.sipush 256, 3) := by decide +kernel
theorem dX4_buildDirectoryPage_44 : decode cX4_buildDirectoryPage 44 = .ok (.if_icmp .ge 57, 3) := by decide +kernel
theorem dX4_buildDirectoryPage_47 : decode cX4_buildDirectoryPage 47 = .ok (.iload 4, 2) := by decide +kernel
theorem dX4_buildDirectoryPage_49 : decode cX4_buildDirectoryPage 49 = .ok (.iload 6, 2) := by decide +kernel
theorem dX4_buildDirectoryPage_51 : decode cX4_buildDirectoryPage 51 = .ok (.iadd, 1) := by decide +kernel
theorem dX4_buildDirectoryPage_52 : decode cX4_buildDirectoryPage 52 = .ok (.iload 5, 2) := by decide +kernel
theorem dX4_buildDirectoryPage_54 : decode cX4_buildDirectoryPage 54 = .ok (.if_icmp .ge 47, 3) := by decide +kernel
theorem dX4_buildDirectoryPage_57 : decode cX4_buildDirectoryPage 57 = .ok (.iload 4, 2) := by decide +kernel
theorem dX4_buildDirectoryPage_59 : decode cX4_buildDirectoryPage 59 = .ok (.iload 6, 2) := by decide +kernel
theorem dX4_buildDirectoryPage_61 : decode cX4_buildDirectoryPage 61 = .ok (.iadd, 1) := by decide +kernel
theorem dX4_buildDirectoryPage_62 : decode cX4_buildDirectoryPage 62 = .ok (.istore 7, 2) := by decide +kernel
theorem dX4_buildDirectoryPage_64 : decode cX4_buildDirectoryPage 64 = .ok (.aload_n 0, 1) := by decide +kernel
theorem dX4_buildDirectoryPage_65 : decode cX4_buildDirectoryPage 65 = .ok (.getfield 28, 3) := by decide +kernel
theorem dX4_buildDirectoryPage_68 : decode cX4_buildDirectoryPage 68 = .ok (.iload 6, 2) := by decide +kernel
theorem dX4_buildDirectoryPage_70 : decode cX4_buildDirectoryPage 70 = .ok (.aload_n 0, 1) := by decide +kernel
theorem dX4_buildDirectoryPage_71 : decode cX4_buildDirectoryPage 71 = .ok (.getfield 10, 3) := by decide +kernel
theorem dX4_buildDirectoryPage_74 : decode cX4_buildDirectoryPage 74 = .ok (.iload_n 3, 1) := by decide +kernel
theorem dX4_buildDirectoryPage_75 : decode cX4_buildDirectoryPage 75 = .ok (.ifCond .eq 10, 3) := by decide +kernel
theorem dX4_buildDirectoryPage_78 : decode cX4_buildDirectoryPage 78 = .ok (.iload 7, 2) := by decide +kernel
theorem dX4_buildDirectoryPage_80 : decode cX4_buildDirectoryPage 80 = .ok (.iconst 2, 1) := by decide +kernel
theorem dX4_buildDirectoryPage_81 : decode cX4_buildDirectoryPage 81 = .ok (.idiv, 1) := by decide +kernel
theorem dX4_buildDirectoryPage_82 : decode cX4_buildDirectoryPage 82 = .ok (.goto 7, 3) := by decide +kernel
theorem dX4_buildDirectoryPage_85 : decode cX4_buildDirectoryPage 85 = .ok (.iconst 2, 1) := by decide +kernel
theorem dX4_buildDirectoryPage_86 : decode cX4_buildDirectoryPage 86 = .ok (.iload 7, 2) := by decide +kernel
theorem dX4_buildDirectoryPage_88 : decode cX4_buildDirectoryPage 88 = .ok (.imul, 1) := by decide +kernel
theorem dX4_buildDirectoryPage_89 : decode cX4_buildDirectoryPage 89 = .ok (.invokevirtual 145, 3) := by decide +kernel
theorem dX4_buildDirectoryPage_92 : decode cX4_buildDirectoryPage 92 = .ok (.invokevirtual 215, 3) := by decide +kernel
theorem dX4_buildDirectoryPage_95 : decode cX4_buildDirectoryPage 95 = .ok (.iinc 6 1, 3) := by decide +kernel
theorem dX4_buildDirectoryPage_98 : decode cX4_buildDirectoryPage 98 = .ok (.goto (-59), 3) := by decide +kernel
theorem dX4_buildDirectoryPage_101 : decode cX4_buildDirectoryPage 101 = .ok (.return_, 1) := by decide +kernel
theorem dX4_split_0 : decode cX4_split 0 = .ok (.aload_n 0, 1) := by decide +kernel
theorem dX4_split_1 : decode cX4_split 1 = .ok (.getfield 10, 3) := by decide +kernel
theorem dX4_split_4 : decode cX4_split 4 = .ok (.iload_n 1, 1) := by decide +kernel
theorem dX4_split_5 : decode cX4_split 5 = .ok (.iconst 0, 1) := by decide +kernel
theorem dX4_split_6 : decode cX4_split 6 = .ok (.invokevirtual 130, 3) := by decide +kernel
theorem dX4_split_9 : decode cX4_split 9 = .ok (.istore_n 3, 1) := by decide +kernel
theorem dX4_split_10 : decode cX4_split 10 = .ok (.iconst 1, 1) := by decide +kernel
theorem dX4_split_11 : decode cX4_split 11 = .ok (.aload_n 0, 1) := by decide +kernel
theorem dX4_split_12 : decode cX4_split 12 = .ok (.getfield 10, 3) := by decide +kernel
theorem dX4_split_15 : decode cX4_split 15 = .ok (.invokevirtual 160, 3) := by decide +kernel
theorem dX4_split_18 : decode cX4_split 18 = .ok (.iload_n 3, 1) := by decide +kernel
theorem dX4_split_19 : decode cX4_split 19 = .ok (.isub, 1) := by decide +kernel
theorem dX4_split_20 : decode cX4_split 20 = .ok (.ishl, 1) := by decide +kernel
theorem dX4_split_21 : decode cX4_split 21 = .ok (.istore 4, 2) := by decide +kernel
theorem dX4_split_23 : decode cX4_split 23 = .ok (.aload_n 0, 1) := by decide +kernel
theorem dX4_split_24 : decode cX4_split 24 = .ok (.getfield 10, 3) := by decide +kernel
theorem dX4_split_27 : decode cX4_split 27 = .ok (.iload_n 2, 1) := by decide +kernel
theorem dX4_split_28 : decode cX4_split 28 = .ok (.invokevirtual 234, 3) := by decide +kernel
theorem dX4_split_31 : decode cX4_split 31 = .ok (.iload 4, 2) := by decide +kernel
theorem dX4_split_33 : decode cX4_split 33 = .ok (.ineg, 1) := by decide +kernel
theorem dX4_split_34 : decode cX4_split 34 = .ok (.iand, 1) := by decide +kernel
theorem dX4_split_35 : decode cX4_split 35 = .ok (.istore 5, 2) := by decide +kernel
theorem dX4_split_37 : decode cX4_split 37 = .ok (.iload 5, 2) := by decide +kernel
theorem dX4_split_39 : decode cX4_split 39 = .ok (.iload 4, 2) := by decide +kernel
theorem dX4_split_41 : decode cX4_split 41 = .ok (.iconst 2, 1) := by decide +kernel
theorem dX4_split_42 : decode cX4_split 42 = .ok (.idiv, 1) := by decide +kernel
theorem dX4_split_43 : decode cX4_split 43 = .ok (.iadd, 1) := by decide +kernel
theorem dX4_split_44 : decode cX4_split 44 = .ok (.istore 6, 2) := by decide +kernel
theorem dX4_split_46 : decode cX4_split 46 = .ok (.iload 5, 2) := by decide +kernel
theorem dX4_split_48 : decode cX4_split 48 = .ok (.iload 4, 2) := by decide +kernel
theorem dX4_split_50 : decode cX4_split 50 = .ok (.iadd, 1) := by decide +kernel
theorem dX4_split_51 : decode cX4_split 51 = .ok (.istore 7, 2) := by decide +kernel
theorem dX4_split_53 : decode cX4_split 53 = .ok (.aload_n 0, 1) := by decide +kernel
theorem dX4_split_54 : decode cX4_split 54 = .ok (.getfield 10, 3) := by decide +kernel
theorem dX4_split_57 : decode cX4_split 57 = .ok (.iconst (-1), 1) := by decide +kernel
theorem dX4_split_58 : decode cX4_split 58 = .ok (.invokevirtual 221, 3) := by decide +kernel
theorem dX4_split_61 : decode cX4_split 61 = .ok (.istore 8, 2) := by decide +kernel
theorem dX4_split_63 : decode cX4_split 63 = .ok (.iload 8, 2) := by decide +kernel
theorem dX4_split_65 : decode cX4_split 65 = .ok (.iconst (-1), 1) := by decide +kernel
theorem dX4_split_66 : decode cX4_split 66 = .ok (.if_icmp .ne 5, 3) := by decide +kernel
theorem dX4_split_69 : decode cX4_split 69 = .ok (.iconst 1, 1) := by decide +kernel
theorem dX4_split_70 : decode cX4_split 70 = .ok (.ireturn, 1) := by decide +kernel
theorem dX4_split_71 : decode cX4_split 71 = .ok (.iconst 2, 1) := by decide +kernel
theorem dX4_split_72 : decode cX4_split 72 = .ok (.iload 6, 2) := by decide +kernel
theorem dX4_split_74 : decode cX4_split 74 = .ok (.iload 7, 2) := by decide +kernel
theorem dX4_split_76 : decode cX4_split 76 = .ok (.invokestatic 237, 3) := by decide +kernel
theorem dX4_split_79 : decode cX4_split 79 = .ok (.iadd, 1) := by decide +kernel
theorem dX4_split_80 : decode cX4_split 80 = .ok (.aload_n 0, 1) := by decide +kernel
theorem dX4_split_81 : decode cX4_split 81 = .ok (.getfield 10, 3) := by decide +kernel
theorem dX4_split_84 : decode cX4_split 84 = .ok (.invokevirtual 157, 3) := by decide +kernel
theorem dX4_split_87 : decode cX4_split 87 = .ok (.if_icmp .le 5, 3) := by decide +kernel
theorem dX4_split_90 : decode cX4_split 90 = .ok (.iconst 2, 1) := by decide +kernel
theorem dX4_split_91 : decode cX4_split 91 = .ok (.ireturn, 1) := by decide +kernel
theorem dX4_split_92 : decode cX4_split 92 = .ok (.aload_n 0, 1) := by decide +kernel
theorem dX4_split_93 : decode cX4_split 93 = .ok (.getfield 21, 3) := by decide +kernel
theorem dX4_split_96 : decode cX4_split 96 = .ok (.invokevirtual 209, 3) := by decide +kernel
theorem dX4_split_99 : decode cX4_split 99 = .ok (.aload_n 0, 1) := by decide +kernel
theorem dX4_split_100 : decode cX4_split 100 = .ok (.iload_n 1, 1) := by decide +kernel
theorem dX4_split_101 : decode cX4_split 101 = .ok (.iload_n 3, 1) := by decide +kernel
theorem dX4_split_102 : decode cX4_split 102 = .ok (.iconst 0, 1) := by decide +kernel
theorem dX4_split_103 : decode cX4_split 103 = .ok (.invokevirtual 240, 3) := by decide +kernel
theorem dX4_split_106 : decode cX4_split 106 = .ok (.aload_n 0, 1) := by decide +kernel
theorem dX4_split_107 : decode cX4_split 107 = .ok (.getfield 21, 3) := by decide +kernel
theorem dX4_split_110 : decode cX4_split 110 = .ok (.aload_n 0, 1) := by decide +kernel
theorem dX4_split_111 : decode cX4_split 111 = .ok (.getfield 28, 3) := by decide +kernel
theorem dX4_split_114 : decode cX4_split 114 = .ok (.iload_n 1, 1) := by decide +kernel
theorem dX4_split_115 : decode cX4_split 115 = .ok (.invokevirtual 227, 3) := by decide +kernel
theorem dX4_split_118 : decode cX4_split 118 = .ok (.ifCond .ne 5, 3) := by decide +kernel
theorem dX4_split_121 : decode cX4_split 121 = .ok (.iconst 4, 1) := by decide +kernel
theorem dX4_split_122 : decode cX4_split 122 = .ok (.ireturn, 1) := by decide +kernel
theorem dX4_split_123 : decode cX4_split 123 = .ok (.aload_n 0, 1) := by decide +kernel
theorem dX4_split_124 : decode cX4_split 124 = .ok (.iload_n 1, 1) := by decide +kernel
theorem dX4_split_125 : decode cX4_split 125 = .ok (.iload_n 3, 1) := by decide +kernel
theorem dX4_split_126 : decode cX4_split 126 = .ok (.iconst 1, 1) := by decide +kernel
theorem dX4_split_127 : decode cX4_split 127 = .ok (.invokevirtual 240, 3) := by decide +kernel
theorem dX4_split_130 : decode cX4_split 130 = .ok (.aload_n 0, 1) := by decide +kernel
theorem dX4_split_131 : decode cX4_split 131 = .ok (.getfield 21, 3) := by decide +kernel
theorem dX4_split_134 : decode cX4_split 134 = .ok (.aload_n 0, 1) := by decide +kernel
theorem dX4_split_135 : decode cX4_split 135 = .ok (.getfield 28, 3) := by decide +kernel
theorem dX4_split_138 : decode cX4_split 138 = .ok (.iload 8, 2) := by decide +kernel
theorem dX4_split_140 : decode cX4_split 140 = .ok (.invokevirtual 227, 3) := by decide +kernel
theorem dX4_split_143 : decode cX4_split 143 = .ok (.ifCond .ne 5, 3) := by decide +kernel
theorem dX4_split_146 : decode cX4_split 146 = .ok (.iconst 4, 1) := by decide +kernel
theorem dX4_split_147 : decode cX4_split 147 = .ok (.ireturn, 1) := by decide +kernel
theorem dX4_split_148 : decode cX4_split 148 = .ok (.aload_n 0, 1) := by decide +kernel
theorem dX4_split_149 : decode cX4_split 149 = .ok (.iload 6, 2) := by decide +kernel
theorem dX4_split_151 : decode cX4_split 151 = .ok (.iload 7, 2) := by decide +kernel
theorem dX4_split_153 : decode cX4_split 153 = .ok (.iload 8, 2) := by decide +kernel
theorem dX4_split_155 : decode cX4_split 155 = .ok (.invokevirtual 244, 3) := by decide +kernel
theorem dX4_split_158 : decode cX4_split 158 = .ok (.ifCond .eq 17, 3) := by decide +kernel
theorem dX4_split_161 : decode cX4_split 161 = .ok (.aload_n 0, 1) := by decide +kernel
theorem dX4_split_162 : decode cX4_split 162 = .ok (.getfield 21, 3) := by decide +kernel
theorem dX4_split_165 : decode cX4_split 165 = .ok (.invokevirtual 231, 3) := by decide +kernel
theorem dX4_split_168 : decode cX4_split 168 = .ok (.ifCond .eq 7, 3) := by decide +kernel
theorem dX4_split_171 : decode cX4_split 171 = .ok (.iconst 0, 1) := by decide +kernel
theorem dX4_split_172 : decode cX4_split 172 = .ok (.goto 4, 3) := by decide +kernel
theorem dX4_split_175 : decode cX4_split 175 = .ok (.iconst 4, 1) := by decide +kernel
theorem dX4_split_176 : decode cX4_split 176 = .ok (.ireturn, 1) := by decide +kernel
theorem dX4_buildHalf_0 : decode cX4_buildHalf 0 = .ok (.aload_n 0, 1) := by decide +kernel
theorem dX4_buildHalf_1 : decode cX4_buildHalf 1 = .ok (.getfield 28, 3) := by decide +kernel
theorem dX4_buildHalf_4 : decode cX4_buildHalf 4 = .ok (.iload_n 2, 1) := by decide +kernel
theorem dX4_buildHalf_5 : decode cX4_buildHalf 5 = .ok (.iconst 1, 1) := by decide +kernel
theorem dX4_buildHalf_6 : decode cX4_buildHalf 6 = .ok (.iadd, 1) := by decide +kernel
theorem dX4_buildHalf_7 : decode cX4_buildHalf 7 = .ok (.invokevirtual 196, 3) := by decide +kernel
theorem dX4_buildHalf_10 : decode cX4_buildHalf 10 = .ok (.aload_n 0, 1) := by decide +kernel
theorem dX4_buildHalf_11 : decode cX4_buildHalf 11 = .ok (.getfield 10, 3) := by decide +kernel
theorem dX4_buildHalf_14 : decode cX4_buildHalf 14 = .ok (.iload_n 1, 1) := by decide +kernel
theorem dX4_buildHalf_15 : decode cX4_buildHalf 15 = .ok (.iconst 1, 1) := by decide +kernel
theorem dX4_buildHalf_16 : decode cX4_buildHalf 16 = .ok (.invokevirtual 130, 3) := by decide +kernel
theorem dX4_buildHalf_19 : decode cX4_buildHalf 19 = .ok (.istore 4, 2) := by decide +kernel
theorem dX4_buildHalf_21 : decode cX4_buildHalf 21 = .ok (.iconst 4, 1) := by decide +kernel
theorem dX4_buildHalf_22 : decode cX4_buildHalf 22 = .ok (.istore 5, 2) := by decide +kernel
theorem dX4_buildHalf_24 : decode cX4_buildHalf 24 = .ok (.iconst 0, 1) := by decide +kernel
theorem dX4_buildHalf_25 : decode cX4_buildHalf 25 = .ok (.istore 6, 2) := by decide +kernel
theorem dX4_buildHalf_27 : decode cX4_buildHalf 27 = .ok (.iload 6, 2) := by decide +kernel
theorem dX4_buildHalf_29 : decode cX4_buildHalf 29 = .ok (.iload 4, 2) := by decide +kernel
theorem dX4_buildHalf_31 : decode cX4_buildHalf 31 = .ok (.if_icmp .ge 63, 3) := by decide +kernel
theorem dX4_buildHalf_34 : decode cX4_buildHalf 34 = .ok (.aload_n 0, 1) := by decide +kernel
theorem dX4_buildHalf_35 : decode cX4_buildHalf 35 = .ok (.getfield 10, 3) := by decide +kernel
theorem dX4_buildHalf_38 : decode cX4_buildHalf 38 = .ok (.iload_n 1, 1) := by decide +kernel
theorem dX4_buildHalf_39 : decode cX4_buildHalf 39 = .ok (.iload 5, 2) := by decide +kernel
theorem dX4_buildHalf_41 : decode cX4_buildHalf 41 = .ok (.invokevirtual 247, 3) := by decide +kernel
theorem dX4_buildHalf_44 : decode cX4_buildHalf 44 = .ok (.istore 7, 2) := by decide +kernel
theorem dX4_buildHalf_46 : decode cX4_buildHalf 46 = .ok (.iload 7, 2) := by decide +kernel
theorem dX4_buildHalf_48 : decode cX4_buildHalf 48 = .ok (.bipush 15, 2) := by decide +kernel
theorem dX4_buildHalf_50 : decode cX4_buildHalf 50 = .ok (.iload_n 2, 1) := by decide +kernel
theorem dX4_buildHalf_51 : decode cX4_buildHalf 51 = .ok (.isub, 1) := by decide +kernel
theorem dX4_buildHalf_52 : decode cX4_buildHalf 52 = .ok (.ishr, 1) := by decide +kernel
theorem dX4_buildHalf_53 : decode cX4_buildHalf 53 = .ok (.iconst 1, 1) := by decide +kernel
theorem dX4_buildHalf_54 : decode cX4_buildHalf 54 = .ok (.iand, 1) := by decide +kernel
theorem dX4_buildHalf_55 : decode cX4_buildHalf 55 = .ok (.iload_n 3, 1) := by decide +kernel
theorem dX4_buildHalf_56 : decode cX4_buildHalf 56 = .ok (.if_icmp .ne 17, 3) := by decide +kernel
theorem dX4_buildHalf_59 : decode cX4_buildHalf 59 = .ok (.aload_n 0, 1) := by decide +kernel
theorem dX4_buildHalf_60 : decode cX4_buildHalf 60 = .ok (.getfield 28, 3) := by decide +kernel
theorem dX4_buildHalf_63 : decode cX4_buildHalf 63 = .ok (.aload_n 0, 1) := by decide +kernel
theorem dX4_buildHalf_64 : decode cX4_buildHalf 64 = .ok (.getfield 10, 3) := by decide +kernel
theorem dX4_buildHalf_67 : decode cX4_buildHalf 67 = .ok (.iload_n 1, 1) := by decide +kernel
theorem dX4_buildHalf_68 : decode cX4_buildHalf 68 = .ok (.iload 5, 2) := by decide +kernel
theorem dX4_buildHalf_70 : decode cX4_buildHalf 70 = .ok (.invokevirtual 202, 3) := by decide +kernel
theorem dX4_buildHalf_73 : decode cX4_buildHalf 73 = .ok (.iload 5, 2) := by decide +kernel
theorem dX4_buildHalf_75 : decode cX4_buildHalf 75 = .ok (.aload_n 0, 1) := by decide +kernel
theorem dX4_buildHalf_76 : decode cX4_buildHalf 76 = .ok (.getfield 10, 3) := by decide +kernel
theorem dX4_buildHalf_79 : decode cX4_buildHalf 79 = .ok (.iload_n 1, 1) := by decide +kernel
theorem dX4_buildHalf_80 : decode cX4_buildHalf 80 = .ok (.iload 5, 2) := by decide +kernel
theorem dX4_buildHalf_82 : decode cX4_buildHalf 82 = .ok (.invokevirtual 189, 3) := by decide +kernel
theorem dX4_buildHalf_85 : decode cX4_buildHalf 85 = .ok (.iadd, 1) := by decide +kernel
theorem dX4_buildHalf_86 : decode cX4_buildHalf 86 = .ok (.istore 5, 2) := by decide +kernel
theorem dX4_buildHalf_88 : decode cX4_buildHalf 88 = .ok (.iinc 6 1, 3) := by decide +kernel
theorem dX4_buildHalf_91 : decode cX4_buildHalf 91 = .ok (.goto (-64), 3) := by decide +kernel
theorem dX4_buildHalf_94 : decode cX4_buildHalf 94 = .ok (.return_, 1) := by decide +kernel
theorem dX4_directoryPagesOf_0 : decode cX4_directoryPagesOf 0 = .ok (.iload_n 1, 1) := by decide +kernel
theorem dX4_directoryPagesOf_1 : decode cX4_directoryPagesOf 1 = .ok (.iconst 1, 1) := by decide +kernel
theorem dX4_directoryPagesOf_2 : decode cX4_directoryPagesOf 2 = .ok (.isub, 1) := by decide +kernel
theorem dX4_directoryPagesOf_3 : decode cX4_directoryPagesOf 3 = .ok (.sipush 256, 3) := by decide +kernel
theorem dX4_directoryPagesOf_6 : decode cX4_directoryPagesOf 6 = .ok (.idiv, 1) := by decide +kernel
theorem dX4_directoryPagesOf_7 : decode cX4_directoryPagesOf 7 = .ok (.iload_n 0, 1) := by decide +kernel
theorem dX4_directoryPagesOf_8 : decode cX4_directoryPagesOf 8 = .ok (.sipush 256, 3) := by decide +kernel
theorem dX4_directoryPagesOf_11 : decode cX4_directoryPagesOf 11 = .ok (.idiv, 1) := by decide +kernel
theorem dX4_directoryPagesOf_12 : decode cX4_directoryPagesOf 12 = .ok (.isub, 1) := by decide +kernel
theorem dX4_directoryPagesOf_13 : decode cX4_directoryPagesOf 13 = .ok (.iconst 1, 1) := by decide +kernel
theorem dX4_directoryPagesOf_14 : decode cX4_directoryPagesOf 14 = .ok (.iadd, 1) := by decide +kernel
theorem dX4_directoryPagesOf_15 : decode cX4_directoryPagesOf 15 = .ok (.ireturn, 1) := by decide +kernel
theorem dX4_retell_0 : decode cX4_retell 0 = .ok (.iload_n 2, 1) := by decide +kernel
theorem dX4_retell_1 : decode cX4_retell 1 = .ok (.iconst 1, 1) := by decide +kernel
theorem dX4_retell_2 : decode cX4_retell 2 = .ok (.isub, 1) := by decide +kernel
theorem dX4_retell_3 : decode cX4_retell 3 = .ok (.sipush 256, 3) := by decide +kernel
theorem dX4_retell_6 : decode cX4_retell 6 = .ok (.idiv, 1) := by decide +kernel
theorem dX4_retell_7 : decode cX4_retell 7 = .ok (.istore 4, 2) := by decide +kernel
theorem dX4_retell_9 : decode cX4_retell 9 = .ok (.iload_n 1, 1) := by decide +kernel
theorem dX4_retell_10 : decode cX4_retell 10 = .ok (.sipush 256, 3) := by decide +kernel
theorem dX4_retell_13 : decode cX4_retell 13 = .ok (.idiv, 1) := by decide +kernel
theorem dX4_retell_14 : decode cX4_retell 14 = .ok (.istore 5, 2) := by decide +kernel
theorem dX4_retell_16 : decode cX4_retell 16 = .ok (.iload 5, 2) := by decide +kernel
theorem dX4_retell_18 : decode cX4_retell 18 = .ok (.iload 4, 2) := by decide +kernel
theorem dX4_retell_20 : decode cX4_retell 20 = .ok (.if_icmp .gt 104, 3) := by decide +kernel
theorem dX4_retell_23 : decode cX4_retell 23 = .ok (.aload_n 0, 1) := by decide +kernel
theorem dX4_retell_24 : decode cX4_retell 24 = .ok (.getfield 10, 3) := by decide +kernel
theorem dX4_retell_27 : decode cX4_retell 27 = .ok (.iload 5, 2) := by decide +kernel
theorem dX4_retell_29 : decode cX4_retell 29 = .ok (.invokevirtual 218, 3) := by decide +kernel
theorem dX4_retell_32 : decode cX4_retell 32 = .ok (.istore 6, 2) := by decide +kernel
theorem dX4_retell_34 : decode cX4_retell 34 = .ok (.iload 5, 2) := by decide +kernel
theorem dX4_retell_36 : decode cX4_retell 36 = .ok (.sipush 256, 3) := by decide +kernel
theorem dX4_retell_39 : decode cX4_retell 39 = .ok (.imul, 1) := by decide +kernel
theorem dX4_retell_40 : decode cX4_retell 40 = .ok (.istore 7, 2) := by decide +kernel
theorem dX4_retell_42 : decode cX4_retell 42 = .ok (.aload_n 0, 1) := by decide +kernel
theorem dX4_retell_43 : decode cX4_retell 43 = .ok (.getfield 10, 3) := by decide +kernel
theorem dX4_retell_46 : decode cX4_retell 46 = .ok (.iload 6, 2) := by decide +kernel
theorem dX4_retell_48 : decode cX4_retell 48 = .ok (.aload_n 0, 1) := by decide +kernel
theorem dX4_retell_49 : decode cX4_retell 49 = .ok (.getfield 28, 3) := by decide +kernel
theorem dX4_retell_52 : decode cX4_retell 52 = .ok (.invokevirtual 250, 3) := by decide +kernel
theorem dX4_retell_55 : decode cX4_retell 55 = .ok (.iconst 0, 1) := by decide +kernel
theorem dX4_retell_56 : decode cX4_retell 56 = .ok (.istore 8, 2) := by decide +kernel
theorem dX4_retell_58 : decode cX4_retell 58 = .ok (.iload 8, 2) := by decide +kernel
theorem dX4_retell_60 : decode cX4_retell 60 = .ok (.sipush 256, 3) := by decide +kernel
theorem dX4_retell_63 : decode cX4_retell 63 = .ok (.if_icmp .ge 37, 3) := by decide +kernel
theorem dX4_retell_66 : decode cX4_retell 66 = .ok (.iload 7, 2) := by decide +kernel
theorem dX4_retell_68 : decode cX4_retell 68 = .ok (.iload 8, 2) := by decide +kernel
theorem dX4_retell_70 : decode cX4_retell 70 = .ok (.iadd, 1) := by decide +kernel
theorem dX4_retell_71 : decode cX4_retell 71 = .ok (.iload_n 1, 1) := by decide +kernel
theorem dX4_retell_72 : decode cX4_retell 72 = .ok (.if_icmp .lt 22, 3) := by decide +kernel
theorem dX4_retell_75 : decode cX4_retell 75 = .ok (.iload 7, 2) := by decide +kernel
theorem dX4_retell_77 : decode cX4_retell 77 = .ok (.iload 8, 2) := by decide +kernel
theorem dX4_retell_79 : decode cX4_retell 79 = .ok (.iadd, 1) := by decide +kernel
theorem dX4_retell_80 : decode cX4_retell 80 = .ok (.iload_n 2, 1) := by decide +kernel
theorem dX4_retell_81 : decode cX4_retell 81 = .ok (.if_icmp .ge 13, 3) := by decide +kernel
theorem dX4_retell_84 : decode cX4_retell 84 = .ok (.aload_n 0, 1) := by decide +kernel
theorem dX4_retell_85 : decode cX4_retell 85 = .ok (.getfield 28, 3) := by decide +kernel
theorem dX4_retell_88 : decode cX4_retell 88 = .ok (.iload 8, 2) := by decide +kernel
theorem dX4_retell_90 : decode cX4_retell 90 = .ok (.iload_n 3, 1) := by decide +kernel
theorem dX4_retell_91 : decode cX4_retell 91 = .ok (.invokevirtual 215, 3) := by decide +kernel
theorem dX4_retell_94 : decode cX4_retell 94 = .ok (.iinc 8 1, 3) := by decide +kernel
theorem dX4_retell_97 : decode cX4_retell 97 = .ok (.goto (-39), 3) := by decide +kernel
theorem dX4_retell_100 : decode cX4_retell 100 = .ok (.aload_n 0, 1) := by decide +kernel
theorem dX4_retell_101 : decode cX4_retell 101 = .ok (.getfield 21, 3) := by decide +kernel
theorem dX4_retell_104 : decode cX4_retell 104 = .ok (.aload_n 0, 1) := by decide +kernel
theorem dX4_retell_105 : decode cX4_retell 105 = .ok (.getfield 28, 3) := by decide +kernel
theorem dX4_retell_108 : decode cX4_retell 108 = .ok (.iload 6, 2) := by decide +kernel
theorem dX4_retell_110 : decode cX4_retell 110 = .ok (.invokevirtual 227, 3) := by decide +kernel
theorem dX4_retell_113 : decode cX4_retell 113 = .ok (.ifCond .ne 5, 3) := by decide +kernel
theorem dX4_retell_116 : decode cX4_retell 116 = .ok (.iconst 0, 1) := by decide +kernel
theorem dX4_retell_117 : decode cX4_retell 117 = .ok (.ireturn, 1) := by decide +kernel
theorem dX4_retell_118 : decode cX4_retell 118 = .ok (.iinc 5 1, 3) := by decide +kernel
theorem dX4_retell_121 : decode cX4_retell 121 = .ok (.goto (-105), 3) := by decide +kernel
theorem dX4_retell_124 : decode cX4_retell 124 = .ok (.iconst 1, 1) := by decide +kernel
theorem dX4_retell_125 : decode cX4_retell 125 = .ok (.ireturn, 1) := by decide +kernel
theorem dX4_mergeAll_0 : decode cX4_mergeAll 0 = .ok (.iconst 0, 1) := by decide +kernel
theorem dX4_mergeAll_1 : decode cX4_mergeAll 1 = .ok (.istore_n 2, 1) := by decide +kernel
theorem dX4_mergeAll_2 : decode cX4_mergeAll 2 = .ok (.iload_n 2, 1) := by decide +kernel
theorem dX4_mergeAll_3 : decode cX4_mergeAll 3 = .ok (.bipush 64, 2) := by decide +kernel
theorem dX4_mergeAll_5 : decode cX4_mergeAll 5 = .ok (.if_icmp .ge 38, 3) := by decide +kernel
theorem dX4_mergeAll_8 : decode cX4_mergeAll 8 = .ok (.aload_n 0, 1) := by decide +kernel
theorem dX4_mergeAll_9 : decode cX4_mergeAll 9 = .ok (.iload_n 1, 1) := by decide +kernel
theorem dX4_mergeAll_10 : decode cX4_mergeAll 10 = .ok (.invokevirtual 254, 3) := by decide +kernel
theorem dX4_mergeAll_13 : decode cX4_mergeAll 13 = .ok (.istore_n 3, 1) := by decide +kernel
theorem dX4_mergeAll_14 : decode cX4_mergeAll 14 = .ok (.iload_n 3, 1) := by decide +kernel
theorem dX4_mergeAll_15 : decode cX4_mergeAll 15 = .ok (.iconst (-1), 1) := by decide +kernel
theorem dX4_mergeAll_16 : decode cX4_mergeAll 16 = .ok (.if_icmp .ne 5, 3) := by decide +kernel
theorem dX4_mergeAll_19 : decode cX4_mergeAll 19 = .ok (.iconst 0, 1) := by decide +kernel
theorem dX4_mergeAll_20 : decode cX4_mergeAll 20 = .ok (.ireturn, 1) := by decide +kernel
theorem dX4_mergeAll_21 : decode cX4_mergeAll 21 = .ok (.aload_n 0, 1) := by decide +kernel
theorem dX4_mergeAll_22 : decode cX4_mergeAll 22 = .ok (.iload_n 1, 1) := by decide +kernel
theorem dX4_mergeAll_23 : decode cX4_mergeAll 23 = .ok (.iload_n 3, 1) := by decide +kernel
theorem dX4_mergeAll_24 : decode cX4_mergeAll 24 = .ok (.invokevirtual 257, 3) := by decide +kernel
theorem dX4_mergeAll_27 : decode cX4_mergeAll 27 = .ok (.istore 4, 2) := by decide +kernel
theorem dX4_mergeAll_29 : decode cX4_mergeAll 29 = .ok (.iload 4, 2) := by decide +kernel
theorem dX4_mergeAll_31 : decode cX4_mergeAll 31 = .ok (.ifCond .eq 6, 3) := by decide +kernel
theorem dX4_mergeAll_34 : decode cX4_mergeAll 34 = .ok (.iload 4, 2) := by decide +kernel
theorem dX4_mergeAll_36 : decode cX4_mergeAll 36 = .ok (.ireturn, 1) := by decide +kernel
theorem dX4_mergeAll_37 : decode cX4_mergeAll 37 = .ok (.iinc 2 1, 3) := by decide +kernel
theorem dX4_mergeAll_40 : decode cX4_mergeAll 40 = .ok (.goto (-38), 3) := by decide +kernel
theorem dX4_mergeAll_43 : decode cX4_mergeAll 43 = .ok (.iconst 0, 1) := by decide +kernel
theorem dX4_mergeAll_44 : decode cX4_mergeAll 44 = .ok (.ireturn, 1) := by decide +kernel
theorem dX4_mergePartner_0 : decode cX4_mergePartner 0 = .ok (.aload_n 0, 1) := by decide +kernel
theorem dX4_mergePartner_1 : decode cX4_mergePartner 1 = .ok (.getfield 10, 3) := by decide +kernel
theorem dX4_mergePartner_4 : decode cX4_mergePartner 4 = .ok (.iload_n 1, 1) := by decide +kernel
theorem dX4_mergePartner_5 : decode cX4_mergePartner 5 = .ok (.invokevirtual 104, 3) := by decide +kernel
theorem dX4_mergePartner_8 : decode cX4_mergePartner 8 = .ok (.istore_n 2, 1) := by decide +kernel
theorem dX4_mergePartner_9 : decode cX4_mergePartner 9 = .ok (.aload_n 0, 1) := by decide +kernel
theorem dX4_mergePartner_10 : decode cX4_mergePartner 10 = .ok (.getfield 10, 3) := by decide +kernel
theorem dX4_mergePartner_13 : decode cX4_mergePartner 13 = .ok (.iload_n 2, 1) := by decide +kernel
theorem dX4_mergePartner_14 : decode cX4_mergePartner 14 = .ok (.iconst 0, 1) := by decide +kernel
theorem dX4_mergePartner_15 : decode cX4_mergePartner 15 = .ok (.invokevirtual 130, 3) := by decide +kernel
theorem dX4_mergePartner_18 : decode cX4_mergePartner 18 = .ok (.istore_n 3, 1) := by decide +kernel
theorem dX4_mergePartner_19 : decode cX4_mergePartner 19 = .ok (.iload_n 3, 1) := by decide +kernel
theorem dX4_mergePartner_20 : decode cX4_mergePartner 20 = .ok (.ifCond .gt 5, 3) := by decide +kernel
theorem dX4_mergePartner_23 : decode cX4_mergePartner 23 = .ok (.iconst (-1), 1) := by decide +kernel
theorem dX4_mergePartner_24 : decode cX4_mergePartner 24 = .ok (.ireturn, 1) := by decide +kernel
theorem dX4_mergePartner_25 : decode cX4_mergePartner 25 = .ok (.aload_n 0, 1) := by decide +kernel
theorem dX4_mergePartner_26 : decode cX4_mergePartner 26 = .ok (.getfield 10, 3) := by decide +kernel
theorem dX4_mergePartner_29 : decode cX4_mergePartner 29 = .ok (.aload_n 0, 1) := by decide +kernel
theorem dX4_mergePartner_30 : decode cX4_mergePartner 30 = .ok (.getfield 10, 3) := by decide +kernel
theorem dX4_mergePartner_33 : decode cX4_mergePartner 33 = .ok (.iload_n 1, 1) := by decide +kernel
theorem dX4_mergePartner_34 : decode cX4_mergePartner 34 = .ok (.invokevirtual 234, 3) := by decide +kernel
theorem dX4_mergePartner_37 : decode cX4_mergePartner 37 = .ok (.iconst 1, 1) := by decide +kernel
theorem dX4_mergePartner_38 : decode cX4_mergePartner 38 = .ok (.aload_n 0, 1) := by decide +kernel
theorem dX4_mergePartner_39 : decode cX4_mergePartner 39 = .ok (.getfield 10, 3) := by decide +kernel
theorem dX4_mergePartner_42 : decode cX4_mergePartner 42 = .ok (.invokevirtual 160, 3) := by decide +kernel
theorem dX4_mergePartner_45 : decode cX4_mergePartner 45 = .ok (.iload_n 3, 1) := by decide +kernel
theorem dX4_mergePartner_46 : decode cX4_mergePartner 46 = .ok (.isub, 1) := by decide +kernel
theorem dX4_mergePartner_47 : decode cX4_mergePartner 47 = .ok (.ishl, 1) := by decide +kernel
theorem dX4_mergePartner_48 : decode cX4_mergePartner 48 = .ok (.ixor, 1) := by decide +kernel
theorem dX4_mergePartner_49 : decode cX4_mergePartner 49 = .ok (.invokevirtual 145, 3) := by decide +kernel
theorem dX4_mergePartner_52 : decode cX4_mergePartner 52 = .ok (.istore 4, 2) := by decide +kernel
theorem dX4_mergePartner_54 : decode cX4_mergePartner 54 = .ok (.aload_n 0, 1) := by decide +kernel
theorem dX4_mergePartner_55 : decode cX4_mergePartner 55 = .ok (.getfield 10, 3) := by decide +kernel
theorem dX4_mergePartner_58 : decode cX4_mergePartner 58 = .ok (.iload 4, 2) := by decide +kernel
theorem dX4_mergePartner_60 : decode cX4_mergePartner 60 = .ok (.iconst 0, 1) := by decide +kernel
theorem dX4_mergePartner_61 : decode cX4_mergePartner 61 = .ok (.invokevirtual 130, 3) := by decide +kernel
theorem dX4_mergePartner_64 : decode cX4_mergePartner 64 = .ok (.iload_n 3, 1) := by decide +kernel
theorem dX4_mergePartner_65 : decode cX4_mergePartner 65 = .ok (.if_icmp .ne 26, 3) := by decide +kernel
theorem dX4_mergePartner_68 : decode cX4_mergePartner 68 = .ok (.aload_n 0, 1) := by decide +kernel
theorem dX4_mergePartner_69 : decode cX4_mergePartner 69 = .ok (.getfield 10, 3) := by decide +kernel
theorem dX4_mergePartner_72 : decode cX4_mergePartner 72 = .ok (.iload_n 2, 1) := by decide +kernel
theorem dX4_mergePartner_73 : decode cX4_mergePartner 73 = .ok (.invokevirtual 148, 3) := by decide +kernel
theorem dX4_mergePartner_76 : decode cX4_mergePartner 76 = .ok (.aload_n 0, 1) := by decide +kernel
theorem dX4_mergePartner_77 : decode cX4_mergePartner 77 = .ok (.getfield 10, 3) := by decide +kernel
theorem dX4_mergePartner_80 : decode cX4_mergePartner 80 = .ok (.iload 4, 2) := by decide +kernel
theorem dX4_mergePartner_82 : decode cX4_mergePartner 82 = .ok (.invokevirtual 148, 3) := by decide +kernel
theorem dX4_mergePartner_85 : decode cX4_mergePartner 85 = .ok (.iadd, 1) := by decide +kernel
theorem dX4_mergePartner_86 : decode cX4_mergePartner 86 = .ok (.bipush 126, 2) := by decide +kernel
theorem dX4_mergePartner_88 : decode cX4_mergePartner 88 = .ok (.if_icmp .le 5, 3) := by decide +kernel
theorem dX4_mergePartner_91 : decode cX4_mergePartner 91 = .ok (.iconst (-1), 1) := by decide +kernel
theorem dX4_mergePartner_92 : decode cX4_mergePartner 92 = .ok (.ireturn, 1) := by decide +kernel
theorem dX4_mergePartner_93 : decode cX4_mergePartner 93 = .ok (.iload 4, 2) := by decide +kernel
theorem dX4_mergePartner_95 : decode cX4_mergePartner 95 = .ok (.ireturn, 1) := by decide +kernel
theorem dX4_merge_0 : decode cX4_merge 0 = .ok (.aload_n 0, 1) := by decide +kernel
theorem dX4_merge_1 : decode cX4_merge 1 = .ok (.getfield 10, 3) := by decide +kernel
theorem dX4_merge_4 : decode cX4_merge 4 = .ok (.iload_n 1, 1) := by decide +kernel
theorem dX4_merge_5 : decode cX4_merge 5 = .ok (.invokevirtual 104, 3) := by decide +kernel
theorem dX4_merge_8 : decode cX4_merge 8 = .ok (.istore_n 3, 1) := by decide +kernel
theorem dX4_merge_9 : decode cX4_merge 9 = .ok (.aload_n 0, 1) := by decide +kernel
theorem dX4_merge_10 : decode cX4_merge 10 = .ok (.getfield 10, 3) := by decide +kernel
theorem dX4_merge_13 : decode cX4_merge 13 = .ok (.iload_n 3, 1) := by decide +kernel
theorem dX4_merge_14 : decode cX4_merge 14 = .ok (.iconst 0, 1) := by decide +kernel
theorem dX4_merge_15 : decode cX4_merge 15 = .ok (.invokevirtual 130, 3) := by decide +kernel
theorem dX4_merge_18 : decode cX4_merge 18 = .ok (.istore 4, 2) := by decide +kernel
theorem dX4_merge_20 : decode cX4_merge 20 = .ok (.iconst 1, 1) := by decide +kernel
theorem dX4_merge_21 : decode cX4_merge 21 = .ok (.aload_n 0, 1) := by decide +kernel
theorem dX4_merge_22 : decode cX4_merge 22 = .ok (.getfield 10, 3) := by decide +kernel
theorem dX4_merge_25 : decode cX4_merge 25 = .ok (.invokevirtual 160, 3) := by decide +kernel
theorem dX4_merge_28 : decode cX4_merge 28 = .ok (.iload 4, 2) := by decide +kernel
theorem dX4_merge_30 : decode cX4_merge 30 = .ok (.isub, 1) := by decide +kernel
theorem dX4_merge_31 : decode cX4_merge 31 = .ok (.ishl, 1) := by decide +kernel
theorem dX4_merge_32 : decode cX4_merge 32 = .ok (.istore 5, 2) := by decide +kernel
theorem dX4_merge_34 : decode cX4_merge 34 = .ok (.aload_n 0, 1) := by decide +kernel
theorem dX4_merge_35 : decode cX4_merge 35 = .ok (.getfield 10, 3) := by decide +kernel
theorem dX4_merge_38 : decode cX4_merge 38 = .ok (.iload_n 1, 1) := by decide +kernel
theorem dX4_merge_39 : decode cX4_merge 39 = .ok (.invokevirtual 234, 3) := by decide +kernel
theorem dX4_merge_42 : decode cX4_merge 42 = .ok (.istore 6, 2) := by decide +kernel
theorem dX4_merge_44 : decode cX4_merge 44 = .ok (.iload 6, 2) := by decide +kernel
theorem dX4_merge_46 : decode cX4_merge 46 = .ok (.iload 5, 2) := by decide +kernel
theorem dX4_merge_48 : decode cX4_merge 48 = .ok (.iand, 1) := by decide +kernel
theorem dX4_merge_49 : decode cX4_merge 49 = .ok (.ifCond .ne 7, 3) := by decide +kernel
theorem dX4_merge_52 : decode cX4_merge 52 = .ok (.iconst 1, 1) := by decide +kernel
theorem dX4_merge_53 : decode cX4_merge 53 = .ok (.goto 4, 3) := by decide +kernel
theorem dX4_merge_56 : decode cX4_merge 56 = .ok (.iconst 0, 1) := by decide +kernel
theorem dX4_merge_57 : decode cX4_merge 57 = .ok (.istore 7, 2) := by decide +kernel
theorem dX4_merge_59 : decode cX4_merge 59 = .ok (.iload 7, 2) := by decide +kernel
theorem dX4_merge_61 : decode cX4_merge 61 = .ok (.ifCond .eq 7, 3) := by decide +kernel
theorem dX4_merge_64 : decode cX4_merge 64 = .ok (.iload_n 3, 1) := by decide +kernel
theorem dX4_merge_65 : decode cX4_merge 65 = .ok (.goto 4, 3) := by decide +kernel
theorem dX4_merge_68 : decode cX4_merge 68 = .ok (.iload_n 2, 1) := by decide +kernel
theorem dX4_merge_69 : decode cX4_merge 69 = .ok (.istore 8, 2) := by decide +kernel
theorem dX4_merge_71 : decode cX4_merge 71 = .ok (.iload 7, 2) := by decide +kernel
theorem dX4_merge_73 : decode cX4_merge 73 = .ok (.ifCond .eq 7, 3) := by decide +kernel
theorem dX4_merge_76 : decode cX4_merge 76 = .ok (.iload_n 2, 1) := by decide +kernel
theorem dX4_merge_77 : decode cX4_merge 77 = .ok (.goto 4, 3) := by decide +kernel
theorem dX4_merge_80 : decode cX4_merge 80 = .ok (.iload_n 3, 1) := by decide +kernel
theorem dX4_merge_81 : decode cX4_merge 81 = .ok (.istore 9, 2) := by decide +kernel
theorem dX4_merge_83 : decode cX4_merge 83 = .ok (.iload 6, 2) := by decide +kernel
theorem dX4_merge_85 : decode cX4_merge 85 = .ok (.iload 5, 2) := by decide +kernel
theorem dX4_merge_87 : decode cX4_merge 87 = .ok (.ior, 1) := by decide +kernel
theorem dX4_merge_88 : decode cX4_merge 88 = .ok (.iload 5, 2) := by decide +kernel
theorem dX4_merge_90 : decode cX4_merge 90 = .ok (.ineg, 1) := by decide +kernel
theorem dX4_merge_91 : decode cX4_merge 91 = .ok (.iand, 1) := by decide +kernel
theorem dX4_merge_92 : decode cX4_merge 92 = .ok (.istore 10, 2) := by decide +kernel
theorem dX4_merge_94 : decode cX4_merge 94 = .ok (.iconst 1, 1) := by decide +kernel
theorem dX4_merge_95 : decode cX4_merge 95 = .ok (.iload 10, 2) := by decide +kernel
theorem dX4_merge_97 : decode cX4_merge 97 = .ok (.iload 10, 2) := by decide +kernel
theorem dX4_merge_99 : decode cX4_merge 99 = .ok (.iload 5, 2) := by decide +kernel
theorem dX4_merge_101 : decode cX4_merge 101 = .ok (.iadd, 1) := by decide +kernel
theorem dX4_merge_102 : decode cX4_merge 102 = .ok (.invokestatic 237, 3) := by decide +kernel
theorem dX4_merge_105 : decode cX4_merge 105 = .ok (.iadd, 1) := by decide +kernel
theorem dX4_merge_106 : decode cX4_merge 106 = .ok (.aload_n 0, 1) := by decide +kernel
theorem dX4_merge_107 : decode cX4_merge 107 = .ok (.getfield 10, 3) := by decide +kernel
theorem dX4_merge_110 : decode cX4_merge 110 = .ok (.invokevirtual 157, 3) := by decide +kernel
theorem dX4_merge_113 : decode cX4_merge 113 = .ok (.if_icmp .le 5, 3) := by decide +kernel
theorem dX4_merge_116 : decode cX4_merge 116 = .ok (.iconst 2, 1) := by decide +kernel
theorem dX4_merge_117 : decode cX4_merge 117 = .ok (.ireturn, 1) := by decide +kernel
theorem dX4_merge_118 : decode cX4_merge 118 = .ok (.aload_n 0, 1) := by decide +kernel
theorem dX4_merge_119 : decode cX4_merge 119 = .ok (.getfield 21, 3) := by decide +kernel
theorem dX4_merge_122 : decode cX4_merge 122 = .ok (.invokevirtual 209, 3) := by decide +kernel
theorem dX4_merge_125 : decode cX4_merge 125 = .ok (.aload_n 0, 1) := by decide +kernel
theorem dX4_merge_126 : decode cX4_merge 126 = .ok (.getfield 28, 3) := by decide +kernel
theorem dX4_merge_129 : decode cX4_merge 129 = .ok (.iload 4, 2) := by decide +kernel
theorem dX4_merge_131 : decode cX4_merge 131 = .ok (.iconst 1, 1) := by decide +kernel
theorem dX4_merge_132 : decode cX4_merge 132 = .ok (.isub, 1) := by decide +kernel
theorem dX4_merge_133 : decode cX4_merge 133 = .ok (.invokevirtual 196, 3) := by decide +kernel
theorem dX4_merge_136 : decode cX4_merge 136 = .ok (.aload_n 0, 1) := by decide +kernel
theorem dX4_merge_137 : decode cX4_merge 137 = .ok (.iload 8, 2) := by decide +kernel
theorem dX4_merge_139 : decode cX4_merge 139 = .ok (.iconst (-1), 1) := by decide +kernel
theorem dX4_merge_140 : decode cX4_merge 140 = .ok (.invokevirtual 199, 3) := by decide +kernel
theorem dX4_merge_143 : decode cX4_merge 143 = .ok (.aload_n 0, 1) := by decide +kernel
theorem dX4_merge_144 : decode cX4_merge 144 = .ok (.iload 9, 2) := by decide +kernel
theorem dX4_merge_146 : decode cX4_merge 146 = .ok (.iconst (-1), 1) := by decide +kernel
theorem dX4_merge_147 : decode cX4_merge 147 = .ok (.invokevirtual 199, 3) := by decide +kernel
theorem dX4_merge_150 : decode cX4_merge 150 = .ok (.aload_n 0, 1) := by decide +kernel
theorem dX4_merge_151 : decode cX4_merge 151 = .ok (.getfield 21, 3) := by decide +kernel
theorem dX4_merge_154 : decode cX4_merge 154 = .ok (.aload_n 0, 1) := by decide +kernel
theorem dX4_merge_155 : decode cX4_merge 155 = .ok (.getfield 28, 3) := by decide +kernel
theorem dX4_merge_158 : decode cX4_merge 158 = .ok (.iload 8, 2) := by decide +kernel
theorem dX4_merge_160 : decode cX4_merge 160 = .ok (.invokevirtual 227, 3) := by decide +kernel
theorem dX4_merge_163 : decode cX4_merge 163 = .ok (.ifCond .ne 5, 3) := by decide +kernel
theorem dX4_merge_166 : decode cX4_merge 166 = .ok (.iconst 4, 1) := by decide +kernel
theorem dX4_merge_167 : decode cX4_merge 167 = .ok (.ireturn, 1) := by decide +kernel
theorem dX4_merge_168 : decode cX4_merge 168 = .ok (.aload_n 0, 1) := by decide +kernel
theorem dX4_merge_169 : decode cX4_merge 169 = .ok (.iload 10, 2) := by decide +kernel
theorem dX4_merge_171 : decode cX4_merge 171 = .ok (.iload 10, 2) := by decide +kernel
theorem dX4_merge_173 : decode cX4_merge 173 = .ok (.iload 5, 2) := by decide +kernel
theorem dX4_merge_175 : decode cX4_merge 175 = .ok (.iadd, 1) := by decide +kernel
theorem dX4_merge_176 : decode cX4_merge 176 = .ok (.iload 8, 2) := by decide +kernel
theorem dX4_merge_178 : decode cX4_merge 178 = .ok (.invokevirtual 244, 3) := by decide +kernel
theorem dX4_merge_181 : decode cX4_merge 181 = .ok (.ifCond .eq 17, 3) := by decide +kernel
theorem dX4_merge_184 : decode cX4_merge 184 = .ok (.aload_n 0, 1) := by decide +kernel
theorem dX4_merge_185 : decode cX4_merge 185 = .ok (.getfield 21, 3) := by decide +kernel
theorem dX4_merge_188 : decode cX4_merge 188 = .ok (.invokevirtual 231, 3) := by decide +kernel
theorem dX4_merge_191 : decode cX4_merge 191 = .ok (.ifCond .eq 7, 3) := by decide +kernel
theorem dX4_merge_194 : decode cX4_merge 194 = .ok (.iconst 0, 1) := by decide +kernel
theorem dX4_merge_195 : decode cX4_merge 195 = .ok (.goto 4, 3) := by decide +kernel
theorem dX4_merge_198 : decode cX4_merge 198 = .ok (.iconst 4, 1) := by decide +kernel
theorem dX4_merge_199 : decode cX4_merge 199 = .ok (.ireturn, 1) := by decide +kernel
theorem dX4_halveAll_0 : decode cX4_halveAll 0 = .ok (.iconst 0, 1) := by decide +kernel
theorem dX4_halveAll_1 : decode cX4_halveAll 1 = .ok (.istore_n 1, 1) := by decide +kernel
theorem dX4_halveAll_2 : decode cX4_halveAll 2 = .ok (.iload_n 1, 1) := by decide +kernel
theorem dX4_halveAll_3 : decode cX4_halveAll 3 = .ok (.bipush 64, 2) := by decide +kernel
theorem dX4_halveAll_5 : decode cX4_halveAll 5 = .ok (.if_icmp .ge 57, 3) := by decide +kernel
theorem dX4_halveAll_8 : decode cX4_halveAll 8 = .ok (.aload_n 0, 1) := by decide +kernel
theorem dX4_halveAll_9 : decode cX4_halveAll 9 = .ok (.getfield 10, 3) := by decide +kernel
theorem dX4_halveAll_12 : decode cX4_halveAll 12 = .ok (.invokevirtual 160, 3) := by decide +kernel
theorem dX4_halveAll_15 : decode cX4_halveAll 15 = .ok (.istore_n 2, 1) := by decide +kernel
theorem dX4_halveAll_16 : decode cX4_halveAll 16 = .ok (.iload_n 2, 1) := by decide +kernel
theorem dX4_halveAll_17 : decode cX4_halveAll 17 = .ok (.ifCond .le 14, 3) := by decide +kernel
theorem dX4_halveAll_20 : decode cX4_halveAll 20 = .ok (.aload_n 0, 1) := by decide +kernel
theorem dX4_halveAll_21 : decode cX4_halveAll 21 = .ok (.getfield 10, 3) := by decide +kernel
theorem dX4_halveAll_24 : decode cX4_halveAll 24 = .ok (.iload_n 2, 1) := by decide +kernel
theorem dX4_halveAll_25 : decode cX4_halveAll 25 = .ok (.invokevirtual 260, 3) := by decide +kernel
theorem dX4_halveAll_28 : decode cX4_halveAll 28 = .ok (.ifCond .eq 5, 3) := by decide +kernel
theorem dX4_halveAll_31 : decode cX4_halveAll 31 = .ok (.iconst 0, 1) := by decide +kernel
theorem dX4_halveAll_32 : decode cX4_halveAll 32 = .ok (.ireturn, 1) := by decide +kernel
theorem dX4_halveAll_33 : decode cX4_halveAll 33 = .ok (.aload_n 0, 1) := by decide +kernel
theorem dX4_halveAll_34 : decode cX4_halveAll 34 = .ok (.iload_n 2, 1) := by decide +kernel
theorem dX4_halveAll_35 : decode cX4_halveAll 35 = .ok (.iconst 1, 1) := by decide +kernel
theorem dX4_halveAll_36 : decode cX4_halveAll 36 = .ok (.isub, 1) := by decide +kernel
theorem dX4_halveAll_37 : decode cX4_halveAll 37 = .ok (.invokevirtual 183, 3) := by decide +kernel
theorem dX4_halveAll_40 : decode cX4_halveAll 40 = .ok (.istore_n 3, 1) := by decide +kernel
theorem dX4_halveAll_41 : decode cX4_halveAll 41 = .ok (.iload_n 3, 1) := by decide +kernel
theorem dX4_halveAll_42 : decode cX4_halveAll 42 = .ok (.ifCond .eq 14, 3) := by decide +kernel
theorem dX4_halveAll_45 : decode cX4_halveAll 45 = .ok (.iload_n 3, 1) := by decide +kernel
theorem dX4_halveAll_46 : decode cX4_halveAll 46 = .ok (.iconst 4, 1) := by decide +kernel
theorem dX4_halveAll_47 : decode cX4_halveAll 47 = .ok (.if_icmp .ne 7, 3) := by decide +kernel
theorem dX4_halveAll_50 : decode cX4_halveAll 50 = .ok (.iconst 4, 1) := by decide +kernel
theorem dX4_halveAll_51 : decode cX4_halveAll 51 = .ok (.goto 4, 3) := by decide +kernel
theorem dX4_halveAll_54 : decode cX4_halveAll 54 = .ok (.iconst 0, 1) := by decide +kernel
theorem dX4_halveAll_55 : decode cX4_halveAll 55 = .ok (.ireturn, 1) := by decide +kernel
theorem dX4_halveAll_56 : decode cX4_halveAll 56 = .ok (.iinc 1 1, 3) := by decide +kernel
theorem dX4_halveAll_59 : decode cX4_halveAll 59 = .ok (.goto (-57), 3) := by decide +kernel
theorem dX4_halveAll_62 : decode cX4_halveAll 62 = .ok (.iconst 0, 1) := by decide +kernel
theorem dX4_halveAll_63 : decode cX4_halveAll 63 = .ok (.ireturn, 1) := by decide +kernel
theorem dX4_pagesFor_0 : decode cX4_pagesFor 0 = .ok (.iload_n 0, 1) := by decide +kernel
theorem dX4_pagesFor_1 : decode cX4_pagesFor 1 = .ok (.bipush 8, 2) := by decide +kernel
theorem dX4_pagesFor_3 : decode cX4_pagesFor 3 = .ok (.if_icmp .gt 7, 3) := by decide +kernel
theorem dX4_pagesFor_6 : decode cX4_pagesFor 6 = .ok (.iconst 1, 1) := by decide +kernel
theorem dX4_pagesFor_7 : decode cX4_pagesFor 7 = .ok (.goto 9, 3) := by decide +kernel
theorem dX4_pagesFor_10 : decode cX4_pagesFor 10 = .ok (.iconst 1, 1) := by decide +kernel
theorem dX4_pagesFor_11 : decode cX4_pagesFor 11 = .ok (.iload_n 0, 1) := by decide +kernel
theorem dX4_pagesFor_12 : decode cX4_pagesFor 12 = .ok (.bipush 8, 2) := by decide +kernel
theorem dX4_pagesFor_14 : decode cX4_pagesFor 14 = .ok (.isub, 1) := by decide +kernel
theorem dX4_pagesFor_15 : decode cX4_pagesFor 15 = .ok (.ishl, 1) := by decide +kernel
theorem dX4_pagesFor_16 : decode cX4_pagesFor 16 = .ok (.ireturn, 1) := by decide +kernel
theorem dX4_hashOf_0 : decode cX4_hashOf 0 = .ok (.ldc_w 264, 3) := by decide +kernel
theorem dX4_hashOf_3 : decode cX4_hashOf 3 = .ok (.istore_n 3, 1) := by decide +kernel
theorem dX4_hashOf_4 : decode cX4_hashOf 4 = .ok (.iload_n 1, 1) := by decide +kernel
theorem dX4_hashOf_5 : decode cX4_hashOf 5 = .ok (.istore 4, 2) := by decide +kernel
theorem dX4_hashOf_7 : decode cX4_hashOf 7 = .ok (.iload 4, 2) := by decide +kernel
theorem dX4_hashOf_9 : decode cX4_hashOf 9 = .ok (.iload_n 1, 1) := by decide +kernel
theorem dX4_hashOf_10 : decode cX4_hashOf 10 = .ok (.iload_n 2, 1) := by decide +kernel
theorem dX4_hashOf_11 : decode cX4_hashOf 11 = .ok (.iadd, 1) := by decide +kernel
theorem dX4_hashOf_12 : decode cX4_hashOf 12 = .ok (.if_icmp .ge 43, 3) := by decide +kernel
theorem dX4_hashOf_15 : decode cX4_hashOf 15 = .ok (.iload 4, 2) := by decide +kernel
theorem dX4_hashOf_17 : decode cX4_hashOf 17 = .ok (.ifCond .lt 32, 3) := by decide +kernel
theorem dX4_hashOf_20 : decode cX4_hashOf 20 = .ok (.iload 4, 2) := by decide +kernel
theorem dX4_hashOf_22 : decode cX4_hashOf 22 = .ok (.aload_n 0, 1) := by decide +kernel
theorem dX4_hashOf_23 : decode cX4_hashOf 23 = .ok (.arraylength, 1) := by decide +kernel
theorem dX4_hashOf_24 : decode cX4_hashOf 24 = .ok (.if_icmp .ge 25, 3) := by decide +kernel
theorem dX4_hashOf_27 : decode cX4_hashOf 27 = .ok (.iload_n 3, 1) := by decide +kernel
theorem dX4_hashOf_28 : decode cX4_hashOf 28 = .ok (.aload_n 0, 1) := by decide +kernel
theorem dX4_hashOf_29 : decode cX4_hashOf 29 = .ok (.iload 4, 2) := by decide +kernel
theorem dX4_hashOf_31 : decode cX4_hashOf 31 = .ok (.iaload, 1) := by decide +kernel
theorem dX4_hashOf_32 : decode cX4_hashOf 32 = .ok (.ixor, 1) := by decide +kernel
theorem dX4_hashOf_33 : decode cX4_hashOf 33 = .ok (.ldc_w 264, 3) := by decide +kernel
theorem dX4_hashOf_36 : decode cX4_hashOf 36 = .ok (.imul, 1) := by decide +kernel
theorem dX4_hashOf_37 : decode cX4_hashOf 37 = .ok (.ldc_w 265, 3) := by decide +kernel
theorem dX4_hashOf_40 : decode cX4_hashOf 40 = .ok (.iand, 1) := by decide +kernel
theorem dX4_hashOf_41 : decode cX4_hashOf 41 = .ok (.istore_n 3, 1) := by decide +kernel
theorem dX4_hashOf_42 : decode cX4_hashOf 42 = .ok (.iload_n 3, 1) := by decide +kernel
theorem dX4_hashOf_43 : decode cX4_hashOf 43 = .ok (.iload_n 3, 1) := by decide +kernel
theorem dX4_hashOf_44 : decode cX4_hashOf 44 = .ok (.bipush 32, 2) := by decide +kernel
theorem dX4_hashOf_46 : decode cX4_hashOf 46 = .ok (.idiv, 1) := by decide +kernel
theorem dX4_hashOf_47 : decode cX4_hashOf 47 = .ok (.ixor, 1) := by decide +kernel
theorem dX4_hashOf_48 : decode cX4_hashOf 48 = .ok (.istore_n 3, 1) := by decide +kernel
theorem dX4_hashOf_49 : decode cX4_hashOf 49 = .ok (.iinc 4 1, 3) := by decide +kernel
theorem dX4_hashOf_52 : decode cX4_hashOf 52 = .ok (.goto (-45), 3) := by decide +kernel
theorem dX4_hashOf_55 : decode cX4_hashOf 55 = .ok (.iload_n 3, 1) := by decide +kernel
theorem dX4_hashOf_56 : decode cX4_hashOf 56 = .ok (.ireturn, 1) := by decide +kernel
theorem dJ7_fill_53178_0 : decode cJ7_fill_53178 0 = .ok (.iconst 0, 1) := by decide +kernel
theorem dJ7_fill_53178_1 : decode cJ7_fill_53178 1 = .ok (.istore_n 2, 1) := by decide +kernel
theorem dJ7_fill_53178_2 : decode cJ7_fill_53178 2 = .ok (.aload_n 0, 1) := by decide +kernel
theorem dJ7_fill_53178_3 : decode cJ7_fill_53178 3 = .ok (.arraylength, 1) := by decide +kernel
theorem dJ7_fill_53178_4 : decode cJ7_fill_53178 4 = .ok (.istore_n 3, 1) := by decide +kernel
theorem dJ7_fill_53178_5 : decode cJ7_fill_53178 5 = .ok (.iload_n 2, 1) := by decide +kernel
theorem dJ7_fill_53178_6 : decode cJ7_fill_53178 6 = .ok (.iload_n 3, 1) := by decide +kernel
theorem dJ7_fill_53178_7 : decode cJ7_fill_53178 7 = .ok (.if_icmp .ge 13, 3) := by decide +kernel
theorem dJ7_fill_53178_10 : decode cJ7_fill_53178 10 = .ok (.aload_n 0, 1) := by decide +kernel
theorem dJ7_fill_53178_11 : decode cJ7_fill_53178 11 = .ok (.iload_n 2, 1) := by decide +kernel
theorem dJ7_fill_53178_12 : decode cJ7_fill_53178 12 = .ok (.iload_n 1, 1) := by decide +kernel
theorem dJ7_fill_53178_13 : decode cJ7_fill_53178 13 = .ok (.iastore, 1) := by decide +kernel
theorem dJ7_fill_53178_14 : decode cJ7_fill_53178 14 = .ok (.iinc 2 1, 3) := by decide +kernel
theorem dJ7_fill_53178_17 : decode cJ7_fill_53178 17 = .ok (.goto (-12), 3) := by decide +kernel
theorem dJ7_fill_53178_20 : decode cJ7_fill_53178 20 = .ok (.return_, 1) := by decide +kernel
end
section
/-! my own layer: Vw hides heap, frame and locals; ints are iI of an Int -/
def iI (a : Int) : Int32 := Int32.ofInt a
def in32 (a : Int) : Prop := -2147483648 ≤ a ∧ a ≤ 2147483647
theorem iI_toInt {a : Int} (h : in32 a) : (iI a).toInt = a := by
  obtain ⟨h1, h2⟩ := h
  exact Int32.toInt_ofInt_of_le (by omega) (by omega)
theorem iI_of (x : Int32) : ∃ a : Int, in32 a ∧ x = iI a := by
  refine ⟨x.toInt, ⟨?_, ?_⟩, ?_⟩
  · have := Int32.le_toInt x; omega
  · have := Int32.toInt_lt x; omega
  · exact (Int32.ofInt_toInt x).symm
theorem iI_add (a b : Int) : iI a + iI b = iI (a + b) := (Int32.ofInt_add a b).symm
theorem iI_mul (a b : Int) : iI a * iI b = iI (a * b) := (Int32.ofInt_mul a b).symm
theorem iI_sub (a b : Int) : iI a - iI b = iI (a - b) := (Int32.ofInt_sub a b).symm
theorem iI_neg (a : Int) : -iI a = iI (-a) := (Int32.ofInt_neg a).symm
theorem iI_lt {a b : Int} (ha : in32 a) (hb : in32 b) : iI a < iI b ↔ a < b := by
  rw [Int32.lt_iff_toInt_lt, iI_toInt ha, iI_toInt hb]
theorem iI_le {a b : Int} (ha : in32 a) (hb : in32 b) : iI a ≤ iI b ↔ a ≤ b := by
  rw [Int32.le_iff_toInt_le, iI_toInt ha, iI_toInt hb]
theorem iI_eq {a b : Int} (ha : in32 a) (hb : in32 b) : iI a = iI b ↔ a = b := by
  constructor
  · intro h
    have := congrArg Int32.toInt h
    rwa [iI_toInt ha, iI_toInt hb] at this
  · intro h; rw [h]
theorem iI_nI (n : Nat) : nI n = iI n := rfl
theorem iI_clamp {a : Int} (h : in32 a) : (iI a).toNatClampNeg = a.toNat := by
  show (iI a).toInt.toNat = a.toNat
  rw [iI_toInt h]
theorem iI_in {a : Int} {n : Nat} (h : 0 ≤ a ∧ a < n) (hn : n < 2147483648) : vp_in (iI a) n := by
  have hi : in32 a := ⟨by omega, by omega⟩
  rw [vp_in_iff, iI_toInt hi]
  exact h
theorem iI_0 : iI 0 = 0 := rfl
theorem iI_ne0 {a : Int} (h : in32 a) (h0 : a ≠ 0) : ¬ iI a = 0 := by
  rw [← iI_0, iI_eq h ⟨by omega, by omega⟩]
  exact h0
def upI (g : Nat → Int) (k : Nat) (v : Int) : Nat → Int := fun j => if j = k then v else g j
theorem upI_eq (g : Nat → Int) (k : Nat) (v : Int) : upd (fun j => iI (g j)) k (iI v) = fun j => iI (upI g k v j) := by
  funext j
  simp only [upd, upI]
  split <;> rfl
def lvput (i : Nat) (v : Value) : List (Nat × Value) → List (Nat × Value)
  | [] => [(i, v)]
  | q :: l => match Nat.beq q.1 i with
    | true => (i, v) :: l
    | false => q :: lvput i v l
def lvget (i : Nat) : List (Nat × Value) → Option Value
  | [] => none
  | q :: l => match Nat.beq q.1 i with
    | true => some q.2
    | false => lvget i l
/-- the names are apart, and none is a second half: kept by every store -/
def lvok : List (Nat × Value) → Bool
  | [] => true
  | q :: l => l.all (fun r => !(Nat.beq r.1 q.1)) && lvok l
def wput : va_W → List Nat → va_W → va_W
  | ws, i :: is, c :: cs => wput (ws.set i c) is cs
  | ws, _, _ => ws
theorem lvget_mem {i : Nat} {v : Value} : ∀ {l : List (Nat × Value)}, lvget i l = some v → (i, v) ∈ l := by
  intro l
  induction l with
  | nil => intro h; cases h
  | cons q l ih =>
    intro h
    simp only [lvget] at h
    split at h
    · rename_i e
      cases h
      have : q.1 = i := Nat.eq_of_beq_eq_true e
      rw [← this]
      exact List.mem_cons_self
    · exact List.mem_cons_of_mem _ (ih h)
theorem lvput_sub {i : Nat} {v : Value} : ∀ {l : List (Nat × Value)}, lvok l = true → ∀ q ∈ lvput i v l, q = (i, v) ∨ (q ∈ l ∧ q.1 ≠ i) := by
  intro l
  induction l with
  | nil => intro _ q h; simp [lvput] at h; exact Or.inl h
  | cons r l ih =>
    intro hok q h
    simp only [lvok, Bool.and_eq_true, List.all_eq_true] at hok
    simp only [lvput] at h
    split at h
    · rename_i e
      have e1 : r.1 = i := Nat.eq_of_beq_eq_true e
      rcases List.mem_cons.mp h with h | h
      · exact Or.inl h
      · refine Or.inr ⟨List.mem_cons_of_mem _ h, fun e2 => ?_⟩
        have := hok.1 q h
        rw [e2, e1] at this
        simp at this
    · rename_i e
      rcases List.mem_cons.mp h with h | h
      · refine Or.inr ⟨by rw [h]; exact List.mem_cons_self, fun e2 => ?_⟩
        rw [h] at e2
        rw [e2] at e
        simp at e
      · rcases ih hok.2 q h with h | ⟨h, h2⟩
        · exact Or.inl h
        · exact Or.inr ⟨List.mem_cons_of_mem _ h, h2⟩
/-- a store's locals, by lvput -/
theorem lvput_has {ls : Array Slot} {nL i : Nat} {v : Value} {l : List (Nat × Value)} (hok : lvok l = true) (h2 : l.all (fun q => !(q.1 + 1 == i && q.2.category == 2)) = true)
    (h : lv_has ls nL ((i, v) :: l.filter (fun q => !(q.1 == i) && !(q.1 + 1 == i && q.2.category == 2)))) : lv_has ls nL (lvput i v l) := by
  refine ⟨h.1, h.2.1, fun q hq => h.2.2 q ?_⟩
  rcases lvput_sub hok q hq with e | ⟨hm, hne⟩
  · rw [e]; exact List.mem_cons_self
  · refine List.mem_cons_of_mem _ (List.mem_filter.mpr ⟨hm, ?_⟩)
    have h3 := List.all_eq_true.mp h2 q hm
    have h4 : (q.1 == i) = false := beq_false_of_ne hne
    rw [h4]
    exact h3
abbrev Kx : Type := Program × Launch × Env × Room × State × MethodId × Array Value × List Frame × Method × Code × (State → Prop)
/-- the frame so far -/
def Sx (wr : Bool) (A : Nat → Prop) (H0 H : Heap) (locs : List Loc) : Prop := va_S A H0 H locs ∧ (wr = false → H = H0 ∧ locs = [])
/-- (wr false: nothing was written yet, nor will be) -/
def Vw (x : Kx) (nL : Nat) (A : Nat → Prop) (D : va_G) (wr : Bool) (cells slots : Nat) (ws : va_W) (pc : Nat) (lv : List (Nat × Value)) (st : List Value) : Prop :=
  ∀ (H : Heap) (locs : List Loc) (ls : Array Slot), va_P D vwCl ws H → va_D A ws → Sx wr A x.2.2.2.2.1.heap H locs → lv_has ls nL lv →
    W x.1 x.2.1 x.2.2.1 x.2.2.2.1 x.2.2.2.2.1 x.2.2.2.2.2.1 x.2.2.2.2.2.2.1 x.2.2.2.2.2.2.2.1 x.2.2.2.2.2.2.2.2.1 x.2.2.2.2.2.2.2.2.2.1 H locs cells slots x.2.2.2.2.2.2.2.2.2.2 (F0 x.2.2.2.2.2.1 pc ls st)
/-- what is known for good of a state: the classes, the array classes, the words of nest mates -/
def Kn (D : va_G) (tys : List (ClassId × FieldType)) (U : State) : Prop := va_K D vwCl tys U ∧ ∀ w ∈ nestW, va_Nw w U
/-- what is known of the method that is walked -/
def Kf (x : Kx) (cc : ByteArray) (nL : Nat) (own : String) (ret : Option FieldType) (D : va_G) (tys : List (ClassId × FieldType)) (rm : Room) : Prop :=
  x.1.tables.exec = Jvm.exec ∧ x.2.2.2.2.2.2.2.2.2.1.code = cc ∧ x.2.2.2.2.2.2.2.2.2.1.maxLocals = nL ∧ x.2.2.2.2.1.vm.findClass own = some x.2.2.2.2.2.1.cls ∧ (∀ w ∈ TB, w.before x.2.2.2.2.2.2.1 x.2.2.2.2.1 = true) ∧
  x.2.2.2.2.2.2.2.2.1.sig.returnType = ret ∧ x.2.2.2.2.2.2.2.2.1.locks = false ∧ Kn D tys x.2.2.2.2.1 ∧ x.2.2.2.1 = rm
/-- what is known of a class of the worlds -/
def CI (ci : Nat) (C : String) (T : u_T) (ty : Nat → FieldType) (N : Nat) : Prop := vwCl[ci]? = some (C, T, N) ∧ (∀ w ∈ u_ws C T N, w ∈ TB) ∧ (∀ k, k < N → parseFieldDescriptor (T k).2.2.1 = some (ty k)) ∧ (∀ a, a < N → ∀ b, b < N → a ≠ b → (T a).2.1 ≠ (T b).2.1)
section VR
variable {x : Kx} {cc : ByteArray} {nL : Nat} {own : String} {ret : Option FieldType} {D : va_G} {tys : List (ClassId × FieldType)} {rm : Room} {A : Nat → Prop} {wr : Bool} {cells slots : Nat} {ws : va_W} {pc n : Nat} {lv lv' : List (Nat × Value)} {st : List Value}
theorem v_iconst (k : Kf x cc nL own ret D tys rm) {v : Int} (hd : decode cc pc = .ok (.iconst v, 1)) (hn : pc + 1 = n) (h : Vw x nL A D wr cells slots ws n lv (.int (iI v) :: st)) : Vw x nL A D wr cells slots ws pc lv (st) := by
  subst hn
  exact fun H locs ls a b c d => lv_iconst k.1 k.2.1 hd rfl (h H locs ls a b c d)
theorem v_bipush (k : Kf x cc nL own ret D tys rm) {v : Int} (hd : decode cc pc = .ok (.bipush v, 2)) (hv : (Int8.ofInt v).toInt32 = iI v) (hn : pc + 2 = n) (h : Vw x nL A D wr cells slots ws n lv (.int (iI v) :: st)) : Vw x nL A D wr cells slots ws pc lv (st) := by
  subst hn
  exact fun H locs ls a b c d => lv_bipush k.1 k.2.1 hd hv (h H locs ls a b c d)
theorem v_sipush (k : Kf x cc nL own ret D tys rm) {v : Int} (hd : decode cc pc = .ok (.sipush v, 3)) (hv : (Int16.ofInt v).toInt32 = iI v) (hn : pc + 3 = n) (h : Vw x nL A D wr cells slots ws n lv (.int (iI v) :: st)) : Vw x nL A D wr cells slots ws pc lv (st) := by
  subst hn
  exact fun H locs ls a b c d => lv_sipush k.1 k.2.1 hd hv (h H locs ls a b c d)
theorem v_ldc (k : Kf x cc nL own ret D tys rm) {i : Nat} {v : Int} (hc : Cond.constant own i (Int32.ofInt v) ∈ TB) (hd : decode cc pc = .ok (.ldc i, 2)) (hn : pc + 2 = n) (h : Vw x nL A D wr cells slots ws n lv (.int (iI v) :: st)) : Vw x nL A D wr cells slots ws pc lv (st) := by
  subst hn
  exact fun H locs ls a b c d => lv_ldc k.1 k.2.1 k.2.2.2.1 (k.2.2.2.2.1 _ hc) hd (h H locs ls a b c d)
theorem v_ldcw (k : Kf x cc nL own ret D tys rm) {i : Nat} {v : Int} (hc : Cond.constant own i (Int32.ofInt v) ∈ TB) (hd : decode cc pc = .ok (.ldc_w i, 3)) (hn : pc + 3 = n) (h : Vw x nL A D wr cells slots ws n lv (.int (iI v) :: st)) : Vw x nL A D wr cells slots ws pc lv (st) := by
  subst hn
  exact fun H locs ls a b c d => lv_ldcw k.1 k.2.1 k.2.2.2.1 (k.2.2.2.2.1 _ hc) hd (h H locs ls a b c d)
theorem v_iload_n (k : Kf x cc nL own ret D tys rm) {i : Fin 4} {v : Int32} (hd : decode cc pc = .ok (.iload_n i, 1)) (hn : pc + 1 = n) (hl : lvget i.val lv = some (.int v)) (h : Vw x nL A D wr cells slots ws n lv (.int v :: st)) : Vw x nL A D wr cells slots ws pc lv (st) := by
  subst hn
  exact fun H locs ls a b c d => lv_iload_n k.1 k.2.1 hd rfl (d.2.2 _ (lvget_mem hl)) (h H locs ls a b c d)
theorem v_iload (k : Kf x cc nL own ret D tys rm) {i : Nat} {v : Int32} (hd : decode cc pc = .ok (.iload i, 2)) (hn : pc + 2 = n) (hl : lvget i lv = some (.int v)) (h : Vw x nL A D wr cells slots ws n lv (.int v :: st)) : Vw x nL A D wr cells slots ws pc lv (st) := by
  subst hn
  exact fun H locs ls a b c d => lv_iload k.1 k.2.1 hd (d.2.2 _ (lvget_mem hl)) (h H locs ls a b c d)
theorem v_aload_n (k : Kf x cc nL own ret D tys rm) {i : Fin 4} {v : Nat} (hd : decode cc pc = .ok (.aload_n i, 1)) (hn : pc + 1 = n) (hl : lvget i.val lv = some (.ref v)) (h : Vw x nL A D wr cells slots ws n lv (.ref v :: st)) : Vw x nL A D wr cells slots ws pc lv (st) := by
  subst hn
  exact fun H locs ls a b c d => lv_aload_n k.1 k.2.1 hd rfl (d.2.2 _ (lvget_mem hl)) (h H locs ls a b c d)
theorem v_aload (k : Kf x cc nL own ret D tys rm) {i : Nat} {v : Nat} (hd : decode cc pc = .ok (.aload i, 2)) (hn : pc + 2 = n) (hl : lvget i lv = some (.ref v)) (h : Vw x nL A D wr cells slots ws n lv (.ref v :: st)) : Vw x nL A D wr cells slots ws pc lv (st) := by
  subst hn
  exact fun H locs ls a b c d => lv_aload k.1 k.2.1 hd (d.2.2 _ (lvget_mem hl)) (h H locs ls a b c d)
theorem v_lload_n (k : Kf x cc nL own ret D tys rm) {i : Fin 4} {v : Int64} (hd : decode cc pc = .ok (.lload_n i, 1)) (hn : pc + 1 = n) (hl : lvget i.val lv = some (.long v)) (h : Vw x nL A D wr cells slots ws n lv (.long v :: st)) : Vw x nL A D wr cells slots ws pc lv (st) := by
  subst hn
  exact fun H locs ls a b c d => lv_lload_n k.1 k.2.1 hd rfl (d.2.2 _ (lvget_mem hl)) (h H locs ls a b c d)
theorem v_lload (k : Kf x cc nL own ret D tys rm) {i : Nat} {v : Int64} (hd : decode cc pc = .ok (.lload i, 2)) (hn : pc + 2 = n) (hl : lvget i lv = some (.long v)) (h : Vw x nL A D wr cells slots ws n lv (.long v :: st)) : Vw x nL A D wr cells slots ws pc lv (st) := by
  subst hn
  exact fun H locs ls a b c d => lv_lload k.1 k.2.1 hd (d.2.2 _ (lvget_mem hl)) (h H locs ls a b c d)
theorem v_istore_n (k : Kf x cc nL own ret D tys rm) {i : Fin 4} {v : Int32} (hd : decode cc pc = .ok (.istore_n i, 1)) (hn : pc + 1 = n) (hi : i.val < nL) (hok : lvok lv = true) (h2 : lv.all (fun q => !(q.1 + 1 == i.val && q.2.category == 2)) = true) (h : Vw x nL A D wr cells slots ws n (lvput i.val (.int v) lv) (st)) : Vw x nL A D wr cells slots ws pc lv (.int v :: st) := by
  subst hn
  exact fun H locs ls a b c d => lv_istore_n k.1 k.2.1 hd rfl d hi rfl (fun ls' d' => h H locs ls' a b c (lvput_has hok h2 d'))
theorem v_istore (k : Kf x cc nL own ret D tys rm) {i : Nat} {v : Int32} (hd : decode cc pc = .ok (.istore i, 2)) (hn : pc + 2 = n) (hi : i < nL) (hok : lvok lv = true) (h2 : lv.all (fun q => !(q.1 + 1 == i && q.2.category == 2)) = true) (h : Vw x nL A D wr cells slots ws n (lvput i (.int v) lv) (st)) : Vw x nL A D wr cells slots ws pc lv (.int v :: st) := by
  subst hn
  exact fun H locs ls a b c d => lv_istore k.1 k.2.1 hd d hi rfl (fun ls' d' => h H locs ls' a b c (lvput_has hok h2 d'))
theorem v_astore_n (k : Kf x cc nL own ret D tys rm) {i : Fin 4} {v : Nat} (hd : decode cc pc = .ok (.astore_n i, 1)) (hn : pc + 1 = n) (hi : i.val < nL) (hok : lvok lv = true) (h2 : lv.all (fun q => !(q.1 + 1 == i.val && q.2.category == 2)) = true) (h : Vw x nL A D wr cells slots ws n (lvput i.val (.ref v) lv) (st)) : Vw x nL A D wr cells slots ws pc lv (.ref v :: st) := by
  subst hn
  exact fun H locs ls a b c d => lv_astore_n k.1 k.2.1 hd rfl d hi rfl (fun ls' d' => h H locs ls' a b c (lvput_has hok h2 d'))
theorem v_astore (k : Kf x cc nL own ret D tys rm) {i : Nat} {v : Nat} (hd : decode cc pc = .ok (.astore i, 2)) (hn : pc + 2 = n) (hi : i < nL) (hok : lvok lv = true) (h2 : lv.all (fun q => !(q.1 + 1 == i && q.2.category == 2)) = true) (h : Vw x nL A D wr cells slots ws n (lvput i (.ref v) lv) (st)) : Vw x nL A D wr cells slots ws pc lv (.ref v :: st) := by
  subst hn
  exact fun H locs ls a b c d => lv_astore k.1 k.2.1 hd d hi rfl (fun ls' d' => h H locs ls' a b c (lvput_has hok h2 d'))
theorem v_iinc (k : Kf x cc nL own ret D tys rm) {i : Nat} {a0 b0 : Int} (hd : decode cc pc = .ok (.iinc i b0, 3)) (hn : pc + 3 = n) (hi : i < nL) (hk : lvget i lv = some (.int (iI a0))) (hok : lvok lv = true) (h2 : lv.all (fun q => !(q.1 + 1 == i && q.2.category == 2)) = true) (h : Vw x nL A D wr cells slots ws n (lvput i (.int (iI (a0 + b0))) lv) (st)) : Vw x nL A D wr cells slots ws pc lv (st) := by
  subst hn
  intro H locs ls a b c d
  obtain ⟨j, hj⟩ := List.getElem?_of_mem (lvget_mem hk)
  exact lv_iinc k.1 k.2.1 hd d hj (iI_add a0 b0) hi rfl (fun ls' d' => h H locs ls' a b c (lvput_has hok h2 d'))
theorem v_iadd (k : Kf x cc nL own ret D tys rm) {a b : Int} (hd : decode cc pc = .ok (.iadd, 1)) (hn : pc + 1 = n) (h : Vw x nL A D wr cells slots ws n lv (.int (iI (a + b)) :: st)) : Vw x nL A D wr cells slots ws pc lv (.int (iI b) :: .int (iI a) :: st) := by
  subst hn
  exact fun H locs ls a' b' c d => lv_iadd k.1 k.2.1 hd (by rw [iI_add]; exact h H locs ls a' b' c d)
theorem v_isub (k : Kf x cc nL own ret D tys rm) {a b : Int} (hd : decode cc pc = .ok (.isub, 1)) (hn : pc + 1 = n) (h : Vw x nL A D wr cells slots ws n lv (.int (iI (a - b)) :: st)) : Vw x nL A D wr cells slots ws pc lv (.int (iI b) :: .int (iI a) :: st) := by
  subst hn
  exact fun H locs ls a' b' c d => lv_isub k.1 k.2.1 hd (by rw [iI_sub]; exact h H locs ls a' b' c d)
theorem v_imul (k : Kf x cc nL own ret D tys rm) {a b : Int} (hd : decode cc pc = .ok (.imul, 1)) (hn : pc + 1 = n) (h : Vw x nL A D wr cells slots ws n lv (.int (iI (a * b)) :: st)) : Vw x nL A D wr cells slots ws pc lv (.int (iI b) :: .int (iI a) :: st) := by
  subst hn
  exact fun H locs ls a' b' c d => lv_imul k.1 k.2.1 hd (by rw [iI_mul]; exact h H locs ls a' b' c d)
theorem v_ineg (k : Kf x cc nL own ret D tys rm) {a : Int} (hd : decode cc pc = .ok (.ineg, 1)) (hn : pc + 1 = n) (h : Vw x nL A D wr cells slots ws n lv (.int (iI (-a)) :: st)) : Vw x nL A D wr cells slots ws pc lv (.int (iI a) :: st) := by
  subst hn
  exact fun H locs ls a' b' c d => lv_ineg k.1 k.2.1 hd (by rw [iI_neg]; exact h H locs ls a' b' c d)
theorem v_iand (k : Kf x cc nL own ret D tys rm) {a b : Int} (r : Int) (he : iI a &&& iI b = iI r) (hd : decode cc pc = .ok (.iand, 1)) (hn : pc + 1 = n) (h : Vw x nL A D wr cells slots ws n lv (.int (iI r) :: st)) : Vw x nL A D wr cells slots ws pc lv (.int (iI b) :: .int (iI a) :: st) := by
  subst hn
  exact fun H locs ls a' b' c d => lv_iand k.1 k.2.1 hd (by rw [he]; exact h H locs ls a' b' c d)
theorem v_ior (k : Kf x cc nL own ret D tys rm) {a b : Int} (r : Int) (he : iI a ||| iI b = iI r) (hd : decode cc pc = .ok (.ior, 1)) (hn : pc + 1 = n) (h : Vw x nL A D wr cells slots ws n lv (.int (iI r) :: st)) : Vw x nL A D wr cells slots ws pc lv (.int (iI b) :: .int (iI a) :: st) := by
  subst hn
  exact fun H locs ls a' b' c d => lv_ior k.1 k.2.1 hd (by rw [he]; exact h H locs ls a' b' c d)
theorem v_ixor (k : Kf x cc nL own ret D tys rm) {a b : Int} (r : Int) (he : iI a ^^^ iI b = iI r) (hd : decode cc pc = .ok (.ixor, 1)) (hn : pc + 1 = n) (h : Vw x nL A D wr cells slots ws n lv (.int (iI r) :: st)) : Vw x nL A D wr cells slots ws pc lv (.int (iI b) :: .int (iI a) :: st) := by
  subst hn
  exact fun H locs ls a' b' c d => lv_ixor k.1 k.2.1 hd (by rw [he]; exact h H locs ls a' b' c d)
theorem v_ishl (k : Kf x cc nL own ret D tys rm) {a b : Int} (r : Int) (he : iI a <<< (iI b &&& 31) = iI r) (hd : decode cc pc = .ok (.ishl, 1)) (hn : pc + 1 = n) (h : Vw x nL A D wr cells slots ws n lv (.int (iI r) :: st)) : Vw x nL A D wr cells slots ws pc lv (.int (iI b) :: .int (iI a) :: st) := by
  subst hn
  exact fun H locs ls a' b' c d => lv_ishl k.1 k.2.1 hd (by rw [he]; exact h H locs ls a' b' c d)
theorem v_ishr (k : Kf x cc nL own ret D tys rm) {a b : Int} (r : Int) (he : iI a >>> (iI b &&& 31) = iI r) (hd : decode cc pc = .ok (.ishr, 1)) (hn : pc + 1 = n) (h : Vw x nL A D wr cells slots ws n lv (.int (iI r) :: st)) : Vw x nL A D wr cells slots ws pc lv (.int (iI b) :: .int (iI a) :: st) := by
  subst hn
  exact fun H locs ls a' b' c d => lv_ishr k.1 k.2.1 hd (by rw [he]; exact h H locs ls a' b' c d)
theorem v_idiv (k : Kf x cc nL own ret D tys rm) {a b : Int} (r : Int) (hb : ¬ iI b = 0) (he : iI a / iI b = iI r) (hd : decode cc pc = .ok (.idiv, 1)) (hn : pc + 1 = n) (h : Vw x nL A D wr cells slots ws n lv (.int (iI r) :: st)) : Vw x nL A D wr cells slots ws pc lv (.int (iI b) :: .int (iI a) :: st) := by
  subst hn
  exact fun H locs ls a' b' c d => lv_idiv k.1 k.2.1 hd hb (by rw [he]; exact h H locs ls a' b' c d)
theorem v_irem (k : Kf x cc nL own ret D tys rm) {a b : Int} (r : Int) (hb : ¬ iI b = 0) (he : iI a - iI a / iI b * iI b = iI r) (hd : decode cc pc = .ok (.irem, 1)) (hn : pc + 1 = n) (h : Vw x nL A D wr cells slots ws n lv (.int (iI r) :: st)) : Vw x nL A D wr cells slots ws pc lv (.int (iI b) :: .int (iI a) :: st) := by
  subst hn
  exact fun H locs ls a' b' c d => lv_irem k.1 k.2.1 hd hb (by rw [he]; exact h H locs ls a' b' c d)
theorem v_i2b (k : Kf x cc nL own ret D tys rm) {a : Int} (r : Int) (he : (iI a).toInt8.toInt32 = iI r) (hd : decode cc pc = .ok (.i2b, 1)) (hn : pc + 1 = n) (h : Vw x nL A D wr cells slots ws n lv (.int (iI r) :: st)) : Vw x nL A D wr cells slots ws pc lv (.int (iI a) :: st) := by
  subst hn
  exact fun H locs ls a' b' c d => lv_i2b k.1 k.2.1 hd he (h H locs ls a' b' c d)
theorem v_icmp_lt (k : Kf x cc nL own ret D tys rm) {a b : Int} {off : Int} {t : Nat} (ha : in32 a) (hb : in32 b) (hd : decode cc pc = .ok (.if_icmp .lt off, 3)) (ht : (pc : Int) + off = (t : Int)) (hn : pc + 3 = n) (h1 : a < b → Vw x nL A D wr cells slots ws t lv (st)) (h2 : ¬ a < b → Vw x nL A D wr cells slots ws n lv (st)) : Vw x nL A D wr cells slots ws pc lv (.int (iI b) :: .int (iI a) :: st) := by
  subst hn
  exact fun H locs ls a' b' c d => lv_icmp_lt k.1 k.2.1 hd ht (fun e => h1 ((iI_lt ha hb).mp e) H locs ls a' b' c d) (fun e => h2 (fun e2 => e ((iI_lt ha hb).mpr e2)) H locs ls a' b' c d)
theorem v_icmp_ge (k : Kf x cc nL own ret D tys rm) {a b : Int} {off : Int} {t : Nat} (ha : in32 a) (hb : in32 b) (hd : decode cc pc = .ok (.if_icmp .ge off, 3)) (ht : (pc : Int) + off = (t : Int)) (hn : pc + 3 = n) (h1 : b ≤ a → Vw x nL A D wr cells slots ws t lv (st)) (h2 : ¬ b ≤ a → Vw x nL A D wr cells slots ws n lv (st)) : Vw x nL A D wr cells slots ws pc lv (.int (iI b) :: .int (iI a) :: st) := by
  subst hn
  exact fun H locs ls a' b' c d => lv_icmp_ge k.1 k.2.1 hd ht (fun e => h1 ((iI_le hb ha).mp e) H locs ls a' b' c d) (fun e => h2 (fun e2 => e ((iI_le hb ha).mpr e2)) H locs ls a' b' c d)
theorem v_icmp_gt (k : Kf x cc nL own ret D tys rm) {a b : Int} {off : Int} {t : Nat} (ha : in32 a) (hb : in32 b) (hd : decode cc pc = .ok (.if_icmp .gt off, 3)) (ht : (pc : Int) + off = (t : Int)) (hn : pc + 3 = n) (h1 : b < a → Vw x nL A D wr cells slots ws t lv (st)) (h2 : ¬ b < a → Vw x nL A D wr cells slots ws n lv (st)) : Vw x nL A D wr cells slots ws pc lv (.int (iI b) :: .int (iI a) :: st) := by
  subst hn
  exact fun H locs ls a' b' c d => lv_icmp_gt k.1 k.2.1 hd ht (fun e => h1 ((iI_lt hb ha).mp e) H locs ls a' b' c d) (fun e => h2 (fun e2 => e ((iI_lt hb ha).mpr e2)) H locs ls a' b' c d)
theorem v_icmp_le (k : Kf x cc nL own ret D tys rm) {a b : Int} {off : Int} {t : Nat} (ha : in32 a) (hb : in32 b) (hd : decode cc pc = .ok (.if_icmp .le off, 3)) (ht : (pc : Int) + off = (t : Int)) (hn : pc + 3 = n) (h1 : a ≤ b → Vw x nL A D wr cells slots ws t lv (st)) (h2 : ¬ a ≤ b → Vw x nL A D wr cells slots ws n lv (st)) : Vw x nL A D wr cells slots ws pc lv (.int (iI b) :: .int (iI a) :: st) := by
  subst hn
  exact fun H locs ls a' b' c d => lv_icmp_le k.1 k.2.1 hd ht (fun e => h1 ((iI_le ha hb).mp e) H locs ls a' b' c d) (fun e => h2 (fun e2 => e ((iI_le ha hb).mpr e2)) H locs ls a' b' c d)
theorem v_icmp_eq (k : Kf x cc nL own ret D tys rm) {a b : Int} {off : Int} {t : Nat} (ha : in32 a) (hb : in32 b) (hd : decode cc pc = .ok (.if_icmp .eq off, 3)) (ht : (pc : Int) + off = (t : Int)) (hn : pc + 3 = n) (h1 : a = b → Vw x nL A D wr cells slots ws t lv (st)) (h2 : ¬ a = b → Vw x nL A D wr cells slots ws n lv (st)) : Vw x nL A D wr cells slots ws pc lv (.int (iI b) :: .int (iI a) :: st) := by
  subst hn
  exact fun H locs ls a' b' c d => lv_icmp_eq k.1 k.2.1 hd ht (fun e => h1 ((iI_eq ha hb).mp e) H locs ls a' b' c d) (fun e => h2 (fun e2 => e ((iI_eq ha hb).mpr e2)) H locs ls a' b' c d)
theorem v_icmp_ne (k : Kf x cc nL own ret D tys rm) {a b : Int} {off : Int} {t : Nat} (ha : in32 a) (hb : in32 b) (hd : decode cc pc = .ok (.if_icmp .ne off, 3)) (ht : (pc : Int) + off = (t : Int)) (hn : pc + 3 = n) (h1 : ¬ a = b → Vw x nL A D wr cells slots ws t lv (st)) (h2 : a = b → Vw x nL A D wr cells slots ws n lv (st)) : Vw x nL A D wr cells slots ws pc lv (.int (iI b) :: .int (iI a) :: st) := by
  subst hn
  exact fun H locs ls a' b' c d => lv_icmp_ne k.1 k.2.1 hd ht (fun e => h1 (fun e2 => e ((iI_eq ha hb).mpr e2)) H locs ls a' b' c d) (fun e => h2 ((iI_eq ha hb).mp e) H locs ls a' b' c d)
theorem v_if_lt (k : Kf x cc nL own ret D tys rm) {a : Int} {off : Int} {t : Nat} (ha : in32 a) (hd : decode cc pc = .ok (.ifCond .lt off, 3)) (ht : (pc : Int) + off = (t : Int)) (hn : pc + 3 = n) (h1 : a < 0 → Vw x nL A D wr cells slots ws t lv (st)) (h2 : ¬ a < 0 → Vw x nL A D wr cells slots ws n lv (st)) : Vw x nL A D wr cells slots ws pc lv (.int (iI a) :: st) := by
  subst hn
  have z : in32 0 := ⟨by omega, by omega⟩
  exact fun H locs ls a' b' c d => lv_if_lt k.1 k.2.1 hd ht (fun e => h1 ((iI_lt ha z).mp e) H locs ls a' b' c d) (fun e => h2 (fun e2 => e ((iI_lt ha z).mpr e2)) H locs ls a' b' c d)
theorem v_if_ge (k : Kf x cc nL own ret D tys rm) {a : Int} {off : Int} {t : Nat} (ha : in32 a) (hd : decode cc pc = .ok (.ifCond .ge off, 3)) (ht : (pc : Int) + off = (t : Int)) (hn : pc + 3 = n) (h1 : 0 ≤ a → Vw x nL A D wr cells slots ws t lv (st)) (h2 : ¬ 0 ≤ a → Vw x nL A D wr cells slots ws n lv (st)) : Vw x nL A D wr cells slots ws pc lv (.int (iI a) :: st) := by
  subst hn
  have z : in32 0 := ⟨by omega, by omega⟩
  exact fun H locs ls a' b' c d => lv_if_ge k.1 k.2.1 hd ht (fun e => h1 ((iI_le z ha).mp e) H locs ls a' b' c d) (fun e => h2 (fun e2 => e ((iI_le z ha).mpr e2)) H locs ls a' b' c d)
theorem v_if_gt (k : Kf x cc nL own ret D tys rm) {a : Int} {off : Int} {t : Nat} (ha : in32 a) (hd : decode cc pc = .ok (.ifCond .gt off, 3)) (ht : (pc : Int) + off = (t : Int)) (hn : pc + 3 = n) (h1 : 0 < a → Vw x nL A D wr cells slots ws t lv (st)) (h2 : ¬ 0 < a → Vw x nL A D wr cells slots ws n lv (st)) : Vw x nL A D wr cells slots ws pc lv (.int (iI a) :: st) := by
  subst hn
  have z : in32 0 := ⟨by omega, by omega⟩
  exact fun H locs ls a' b' c d => lv_if_gt k.1 k.2.1 hd ht (fun e => h1 ((iI_lt z ha).mp e) H locs ls a' b' c d) (fun e => h2 (fun e2 => e ((iI_lt z ha).mpr e2)) H locs ls a' b' c d)
theorem v_if_le (k : Kf x cc nL own ret D tys rm) {a : Int} {off : Int} {t : Nat} (ha : in32 a) (hd : decode cc pc = .ok (.ifCond .le off, 3)) (ht : (pc : Int) + off = (t : Int)) (hn : pc + 3 = n) (h1 : a ≤ 0 → Vw x nL A D wr cells slots ws t lv (st)) (h2 : ¬ a ≤ 0 → Vw x nL A D wr cells slots ws n lv (st)) : Vw x nL A D wr cells slots ws pc lv (.int (iI a) :: st) := by
  subst hn
  have z : in32 0 := ⟨by omega, by omega⟩
  exact fun H locs ls a' b' c d => lv_if_le k.1 k.2.1 hd ht (fun e => h1 ((iI_le ha z).mp e) H locs ls a' b' c d) (fun e => h2 (fun e2 => e ((iI_le ha z).mpr e2)) H locs ls a' b' c d)
theorem v_if_eq (k : Kf x cc nL own ret D tys rm) {a : Int} {off : Int} {t : Nat} (ha : in32 a) (hd : decode cc pc = .ok (.ifCond .eq off, 3)) (ht : (pc : Int) + off = (t : Int)) (hn : pc + 3 = n) (h1 : a = 0 → Vw x nL A D wr cells slots ws t lv (st)) (h2 : ¬ a = 0 → Vw x nL A D wr cells slots ws n lv (st)) : Vw x nL A D wr cells slots ws pc lv (.int (iI a) :: st) := by
  subst hn
  have z : in32 0 := ⟨by omega, by omega⟩
  exact fun H locs ls a' b' c d => lv_if_eq k.1 k.2.1 hd ht (fun e => h1 ((iI_eq ha z).mp e) H locs ls a' b' c d) (fun e => h2 (fun e2 => e ((iI_eq ha z).mpr e2)) H locs ls a' b' c d)
theorem v_if_ne (k : Kf x cc nL own ret D tys rm) {a : Int} {off : Int} {t : Nat} (ha : in32 a) (hd : decode cc pc = .ok (.ifCond .ne off, 3)) (ht : (pc : Int) + off = (t : Int)) (hn : pc + 3 = n) (h1 : ¬ a = 0 → Vw x nL A D wr cells slots ws t lv (st)) (h2 : a = 0 → Vw x nL A D wr cells slots ws n lv (st)) : Vw x nL A D wr cells slots ws pc lv (.int (iI a) :: st) := by
  subst hn
  have z : in32 0 := ⟨by omega, by omega⟩
  exact fun H locs ls a' b' c d => lv_if_ne k.1 k.2.1 hd ht (fun e => h1 (fun e2 => e ((iI_eq ha z).mpr e2)) H locs ls a' b' c d) (fun e => h2 ((iI_eq ha z).mp e) H locs ls a' b' c d)
theorem v_goto (k : Kf x cc nL own ret D tys rm) {off : Int} {t : Nat} (hd : decode cc pc = .ok (.goto off, 3)) (ht : (pc : Int) + off = (t : Int)) (h : Vw x nL A D wr cells slots ws t lv (st)) : Vw x nL A D wr cells slots ws pc lv (st) := by
  exact fun H locs ls a' b' c d => lv_goto k.1 k.2.1 hd ht (h H locs ls a' b' c d)
theorem v_dup (k : Kf x cc nL own ret D tys rm) {v : Value} (hv : v.category = 1) (hd : decode cc pc = .ok (.dup, 1)) (hn : pc + 1 = n) (h : Vw x nL A D wr cells slots ws n lv (v :: v :: st)) : Vw x nL A D wr cells slots ws pc lv (v :: st) := by
  subst hn
  exact fun H locs ls a' b' c d => lv_dup k.1 k.2.1 hd hv (h H locs ls a' b' c d)
theorem v_pop (k : Kf x cc nL own ret D tys rm) {v : Value} (hv : v.category = 1) (hd : decode cc pc = .ok (.pop, 1)) (hn : pc + 1 = n) (h : Vw x nL A D wr cells slots ws n lv (st)) : Vw x nL A D wr cells slots ws pc lv (v :: st) := by
  subst hn
  exact fun H locs ls a' b' c d => lv_pop k.1 k.2.1 hd hv (h H locs ls a' b' c d)
theorem v_dup2 (k : Kf x cc nL own ret D tys rm) {v u : Value} (hv : v.category = 1) (hu : u.category = 1) (hd : decode cc pc = .ok (.dup2, 1)) (hn : pc + 1 = n) (h : Vw x nL A D wr cells slots ws n lv (v :: u :: v :: u :: st)) : Vw x nL A D wr cells slots ws pc lv (v :: u :: st) := by
  subst hn
  exact fun H locs ls a' b' c d => lv_dup2_11 k.1 k.2.1 hd hv hu (h H locs ls a' b' c d)
theorem v_get (k : Kf x cc nL own ret D tys rm) {C : String} {T : u_T} {ty : Nat → FieldType} {N ci i a : Nat} {fs : List Value} {v : Value} (hc : CI ci C T ty N) (q0 f : Nat) (hf : f < N) (hl : Cond.fieldLink own i (T f).1 (T f).2.1 (T f).2.2.1 ∈ TB) (he : ws[q0]? = some (a, .inr (ci, fs))) (hv : fs[f]? = some v) (hd : decode cc pc = .ok (.getfield i, 3)) (hn : pc + 3 = n) (h : Vw x nL A D wr cells slots ws n lv (v :: st)) : Vw x nL A D wr cells slots ws pc lv (.ref a :: st) := by
  subst hn
  exact fun H locs ls a' b' c d => va_get k.1 k.2.1 k.2.2.2.2.1 hc.2.1 k.2.2.2.1 k.2.2.2.2.2.2.2.1.1 a' q0 he hc.1 f hf (k.2.2.2.2.1 _ hl) (fun _ h9 => h9) hv hd (h H locs ls a' b' c d)
theorem v_put (k : Kf x cc nL own ret D tys rm) {C : String} {T : u_T} {ty : Nat → FieldType} {N ci i a : Nat} {fs : List Value} {v : Value} (hc : CI ci C T ty N) (q0 f : Nat) (hf : f < N) (hl : Cond.fieldLink own i (T f).1 (T f).2.1 (T f).2.2.1 ∈ TB) (he : ws[q0]? = some (a, .inr (ci, fs))) (hfin : (T f).2.2.2 = false) (hnr : narrow (ty f) v = v) (hft : fits (ty f) v = true) (hlen : f < fs.length) (hd : decode cc pc = .ok (.putfield i, 3)) (hn : pc + 3 = n) (h : Vw x nL A D true cells slots (ws.set q0 (a, .inr (ci, fs.set f v))) n lv (st)) : Vw x nL A D true cells slots ws pc lv (v :: .ref a :: st) := by
  subst hn
  exact fun H locs ls a' b' c d => va_put k.1 k.2.1 k.2.2.2.2.1 hc.2.1 ty hc.2.2.1 hc.2.2.2 k.2.2.2.1 k.2.2.2.2.2.2.2.1.1 a' b' c.1 q0 he hc.1 f hf (k.2.2.2.2.1 _ hl) (fun _ h9 => h9) hfin (hc.2.2.1 f hf) hnr hft hlen hd (fun H1 l1 p1 d1 s1 => h H1 l1 ls p1 d1 ⟨s1, fun h9 => by cases h9⟩ d)
theorem v_iald (k : Kf x cc nL own ret D tys rm) (q0 t0 : Nat) {cA : ClassId} {N a : Nat} {g : Nat → Int} {i : Int} (ht : tys[t0]? = some (cA, .int)) (he : ws[q0]? = some (a, .inl (cA, N, .inl (fun j => iI (g j))))) (hin : 0 ≤ i ∧ i < N) (hN : N < 2147483648) (hd : decode cc pc = .ok (.iaload, 1)) (hn : pc + 1 = n) (h : Vw x nL A D wr cells slots ws n lv (.int (iI (g i.toNat)) :: st)) : Vw x nL A D wr cells slots ws pc lv (.int (iI i) :: .ref a :: st) := by
  subst hn
  have hc : (iI i).toNatClampNeg = i.toNat := iI_clamp ⟨by omega, by omega⟩
  exact fun H locs ls a' b' c d => va_iald k.1 k.2.1 k.2.2.2.2.2.2.2.1.1 a' q0 t0 he ht (iI_in hin hN) hd (by rw [hc]; exact h H locs ls a' b' c d)
theorem v_bald (k : Kf x cc nL own ret D tys rm) (q0 t0 : Nat) {cA : ClassId} {N a : Nat} {g : Nat → Int} {i : Int} (ht : tys[t0]? = some (cA, .byte)) (he : ws[q0]? = some (a, .inl (cA, N, .inl (fun j => iI (g j))))) (hin : 0 ≤ i ∧ i < N) (hN : N < 2147483648) (hd : decode cc pc = .ok (.baload, 1)) (hn : pc + 1 = n) (h : Vw x nL A D wr cells slots ws n lv (.int (iI (g i.toNat)) :: st)) : Vw x nL A D wr cells slots ws pc lv (.int (iI i) :: .ref a :: st) := by
  subst hn
  have hc : (iI i).toNatClampNeg = i.toNat := iI_clamp ⟨by omega, by omega⟩
  exact fun H locs ls a' b' c d => va_bald k.1 k.2.1 k.2.2.2.2.2.2.2.1.1 a' q0 t0 he ht (iI_in hin hN) hd (by rw [hc]; exact h H locs ls a' b' c d)
theorem v_zald (k : Kf x cc nL own ret D tys rm) (q0 t0 : Nat) {cA : ClassId} {N a : Nat} {g : Nat → Int} {i : Int} (ht : tys[t0]? = some (cA, .boolean)) (he : ws[q0]? = some (a, .inl (cA, N, .inl (fun j => iI (g j))))) (hin : 0 ≤ i ∧ i < N) (hN : N < 2147483648) (hd : decode cc pc = .ok (.baload, 1)) (hn : pc + 1 = n) (h : Vw x nL A D wr cells slots ws n lv (.int (iI (g i.toNat)) :: st)) : Vw x nL A D wr cells slots ws pc lv (.int (iI i) :: .ref a :: st) := by
  subst hn
  have hc : (iI i).toNatClampNeg = i.toNat := iI_clamp ⟨by omega, by omega⟩
  exact fun H locs ls a' b' c d => va_zald k.1 k.2.1 k.2.2.2.2.2.2.2.1.1 a' q0 t0 he ht (iI_in hin hN) hd (by rw [hc]; exact h H locs ls a' b' c d)
theorem v_iast (k : Kf x cc nL own ret D tys rm) (q0 t0 : Nat) {cA : ClassId} {N a : Nat} {g : Nat → Int} {i : Int} (ht : tys[t0]? = some (cA, .int)) (he : ws[q0]? = some (a, .inl (cA, N, .inl (fun j => iI (g j))))) (hin : 0 ≤ i ∧ i < N) (hN : N < 2147483648) {v : Int} (hd : decode cc pc = .ok (.iastore, 1)) (hn : pc + 1 = n) (h : Vw x nL A D true cells slots (ws.set q0 (a, .inl (cA, N, .inl (fun j => iI (upI g i.toNat v j))))) n lv (st)) : Vw x nL A D true cells slots ws pc lv (.int (iI v) :: .int (iI i) :: .ref a :: st) := by
  subst hn
  have hc : (iI i).toNatClampNeg = i.toNat := iI_clamp ⟨by omega, by omega⟩
  refine fun H locs ls a' b' c d => va_iast k.1 k.2.1 k.2.2.2.2.2.2.2.1.1 a' b' c.1 q0 t0 he ht (iI_in hin hN) hd (fun H1 l1 p1 d1 s1 => ?_)
  rw [hc, upI_eq] at p1 d1
  exact h H1 l1 ls p1 d1 ⟨s1, fun h9 => by cases h9⟩ d
theorem v_bast (k : Kf x cc nL own ret D tys rm) (q0 t0 : Nat) {cA : ClassId} {N a : Nat} {g : Nat → Int} {i : Int} (ht : tys[t0]? = some (cA, .byte)) (he : ws[q0]? = some (a, .inl (cA, N, .inl (fun j => iI (g j))))) (hin : 0 ≤ i ∧ i < N) (hN : N < 2147483648) {v : Int} (r : Int) (hr : vp_nar .byte (iI v) = iI r) (hd : decode cc pc = .ok (.bastore, 1)) (hn : pc + 1 = n) (h : Vw x nL A D true cells slots (ws.set q0 (a, .inl (cA, N, .inl (fun j => iI (upI g i.toNat r j))))) n lv (st)) : Vw x nL A D true cells slots ws pc lv (.int (iI v) :: .int (iI i) :: .ref a :: st) := by
  subst hn
  have hc : (iI i).toNatClampNeg = i.toNat := iI_clamp ⟨by omega, by omega⟩
  refine fun H locs ls a' b' c d => va_bast k.1 k.2.1 k.2.2.2.2.2.2.2.1.1 a' b' c.1 q0 t0 he ht (iI_in hin hN) hd (fun H1 l1 p1 d1 s1 => ?_)
  rw [hc, hr, upI_eq] at p1 d1
  exact h H1 l1 ls p1 d1 ⟨s1, fun h9 => by cases h9⟩ d
theorem v_zast (k : Kf x cc nL own ret D tys rm) (q0 t0 : Nat) {cA : ClassId} {N a : Nat} {g : Nat → Int} {i : Int} (ht : tys[t0]? = some (cA, .boolean)) (he : ws[q0]? = some (a, .inl (cA, N, .inl (fun j => iI (g j))))) (hin : 0 ≤ i ∧ i < N) (hN : N < 2147483648) {v : Int} (r : Int) (hr : vp_nar .boolean (iI v) = iI r) (hd : decode cc pc = .ok (.bastore, 1)) (hn : pc + 1 = n) (h : Vw x nL A D true cells slots (ws.set q0 (a, .inl (cA, N, .inl (fun j => iI (upI g i.toNat r j))))) n lv (st)) : Vw x nL A D true cells slots ws pc lv (.int (iI v) :: .int (iI i) :: .ref a :: st) := by
  subst hn
  have hc : (iI i).toNatClampNeg = i.toNat := iI_clamp ⟨by omega, by omega⟩
  refine fun H locs ls a' b' c d => va_zast k.1 k.2.1 k.2.2.2.2.2.2.2.1.1 a' b' c.1 q0 t0 he ht (iI_in hin hN) hd (fun H1 l1 p1 d1 s1 => ?_)
  rw [hc, hr, upI_eq] at p1 d1
  exact h H1 l1 ls p1 d1 ⟨s1, fun h9 => by cases h9⟩ d
theorem v_alen (k : Kf x cc nL own ret D tys rm) (q0 t0 : Nat) {cA : ClassId} {N : Nat} {Y : (Nat → Int32) ⊕ (Nat → Int64) ⊕ (Nat → UInt32) ⊕ (Nat → UInt64) ⊕ (Nat → Option Nat)} {a : Nat} {ty : FieldType} (ht : tys[t0]? = some (cA, ty)) (he : ws[q0]? = some (a, .inl (cA, (N, Y)))) (hd : decode cc pc = .ok (.arraylength, 1)) (hn : pc + 1 = n) (h : Vw x nL A D wr cells slots ws n lv (.int (iI (N : Int)) :: st)) : Vw x nL A D wr cells slots ws pc lv (.ref a :: st) := by
  subst hn
  exact fun H locs ls a' b' c d => va_alen k.1 k.2.1 k.2.2.2.2.2.2.2.1.1 a' q0 t0 he ht rfl hd (h H locs ls a' b' c d)
def upN (g : Nat → Nat) (k v : Nat) : Nat → Nat := fun j => if j = k then v else g j
theorem upI_N (g : Nat → Nat) (k v : Nat) : upI (fun j => (g j : Int)) k (v : Int) = fun j => ((upN g k v j : Nat) : Int) := by
  funext j
  simp only [upI, upN]
  split <;> rfl
theorem v_ialdN (k : Kf x cc nL own ret D tys rm) (q0 t0 j0 : Nat) {cA : ClassId} {N a : Nat} {g : Nat → Nat} {i : Int} (ht : tys[t0]? = some (cA, .int)) (he : ws[q0]? = some (a, .inl (cA, N, .inl (fun j => iI ((g j : Nat) : Int))))) (hi : i = (j0 : Int)) (hin : j0 < N) (hN : N < 2147483648) (hd : decode cc pc = .ok (.iaload, 1)) (hn : pc + 1 = n) (h : Vw x nL A D wr cells slots ws n lv (.int (iI ((g j0 : Nat) : Int)) :: st)) : Vw x nL A D wr cells slots ws pc lv (.int (iI i) :: .ref a :: st) := by
  subst hi
  exact v_iald k q0 t0 ht he ⟨by omega, by omega⟩ hN hd hn (by rw [Int.toNat_natCast]; exact h)
theorem v_iastN (k : Kf x cc nL own ret D tys rm) (q0 t0 j0 : Nat) {cA : ClassId} {N a : Nat} {g : Nat → Nat} {i : Int} (ht : tys[t0]? = some (cA, .int)) (he : ws[q0]? = some (a, .inl (cA, N, .inl (fun j => iI ((g j : Nat) : Int))))) (hi : i = (j0 : Int)) (hin : j0 < N) (hN : N < 2147483648) {v : Int} (b0 : Nat) (hv : v = (b0 : Int)) (hd : decode cc pc = .ok (.iastore, 1)) (hn : pc + 1 = n) (h : Vw x nL A D true cells slots (ws.set q0 (a, .inl (cA, N, .inl (fun j => iI ((upN g j0 b0 j : Nat) : Int))))) n lv (st)) : Vw x nL A D true cells slots ws pc lv (.int (iI v) :: .int (iI i) :: .ref a :: st) := by
  subst hi
  subst hv
  refine v_iast k q0 t0 ht he ⟨by omega, by omega⟩ hN hd hn ?_
  rw [Int.toNat_natCast, upI_N]
  exact h
theorem arrV_congr {cA : ClassId} {N : Nat} {f g : Nat → Int32} (h : ∀ j, j < N → f j = g j) : vp_cell cA (N, .inl f) = vp_cell cA (N, .inl g) := by
  show arrV cA N (fun j => .int (f j)) = arrV cA N (fun j => .int (g j))
  unfold arrV
  have e : (fun j : Fin N => Value.int (f j.val)) = fun j : Fin N => Value.int (g j.val) := funext fun j => by rw [h j.val j.isLt]
  rw [e]
theorem v_cg (q0 : Nat) {cA : ClassId} {N a : Nat} {f : Nat → Int32} (f' : Nat → Int32) (he : ws[q0]? = some (a, .inl (cA, N, .inl f))) (hf : ∀ j, j < N → f j = f' j) (h : Vw x nL A D wr cells slots (ws.set q0 (a, .inl (cA, N, .inl f'))) pc lv st) : Vw x nL A D wr cells slots ws pc lv st := by
  intro H locs ls p1 d1 s1 l1
  refine h H locs ls (p1.set d1 he ?_ (fun _ _ => rfl)) (d1.set he) s1 l1
  have h2 : H[a]? = some (vp_cell cA (N, .inl f)) := p1 q0 _ he
  show H[a]? = some (vp_cell cA (N, .inl f'))
  rw [h2, arrV_congr hf]
theorem v_top {a b : Int} (e : a = b) (h : Vw x nL A D wr cells slots ws pc lv (.int (iI b) :: st)) : Vw x nL A D wr cells slots ws pc lv (.int (iI a) :: st) := by rw [e]; exact h
theorem v_lvs (h0 : ∀ q ∈ lv', lvget q.1 lv = some q.2) (h : Vw x nL A D wr cells slots ws pc lv' (st)) : Vw x nL A D wr cells slots ws pc lv (st) := fun H locs ls a b c d => h H locs ls a b c ⟨d.1, d.2.1, fun q hq => d.2.2 _ (lvget_mem (h0 q hq))⟩
theorem v_ws {ws' : va_W} (h0 : ws = ws') (h : Vw x nL A D wr cells slots ws' pc lv (st)) : Vw x nL A D wr cells slots ws pc lv (st) := by rw [h0]; exact h
end VR
end
section
/-! contracts: Rd (reads alone), Up (writes its cells in place); how they are entered, left and called -/
theorem Kn.warm {D : va_G} {tys : List (ClassId × FieldType)} {s U : State} (hW : s.WarmedH U.vm) (h : Kn D tys s) : Kn D tys U := by
  refine ⟨va_K.moved hW.alike h.1, fun w hw => ?_⟩
  have h1 := h.2 w hw
  simp only [nestW, List.mem_cons, List.not_mem_nil, or_false] at hw
  rcases hw with rfl | rfl | rfl
  · exact va_Nw.warmM hW h1
  · exact va_Nw.warmM hW h1
  · exact va_Nw.warmM hW h1
theorem Kn.same {D : va_G} {tys : List (ClassId × FieldType)} {s U : State} (hv : s.vm = U.vm) (h : Kn D tys s) : Kn D tys U := by
  refine ⟨va_K.moved (by rw [hv]; exact Vm.Alike.refl _) h.1, fun w hw => ?_⟩
  have h1 := h.2 w hw
  simp only [nestW, List.mem_cons, List.not_mem_nil, or_false] at hw
  rcases hw with rfl | rfl | rfl
  · exact va_Nw.same rfl hv h1
  · exact va_Nw.same rfl hv h1
  · exact va_Nw.same rfl hv h1
def QR (post : Option Value → Prop) : Array Value → State → Outcome → State → Prop := fun _ st oc t => (∃ v, oc = .returned v ∧ post v) ∧ t.heap = st.heap
def QU (D : va_G) (ad : List Nat) (post : Option Value → va_W → Prop) : Array Value → State → Outcome → State → Prop := fun _ st oc t => (∃ v w1, oc = .returned v ∧ post v w1 ∧ w1.map Prod.fst = ad ∧ va_P D vwCl w1 t.heap) ∧ va_F (fun q => q ∈ ad) st t
/-- a method that reads the cells wc and changes nothing -/
def Rd (l : Launch) (y : MethodName) (b : ByteArray) (ml : Nat) (rt : Option FieldType) (rm : Room) (D : va_G) (tys : List (ClassId × FieldType)) (args : List Value) (wc : va_W) (post : Option Value → Prop) : Prop :=
  Met l y (Cond.code y b ml rt :: TB) rm (va_Pc args (fun U => va_P D vwCl wc U.heap ∧ Kn D tys U ∧ va_D (fun _ => True) wc)) (QR post) 0 0 (fun _ => False)
/-- a method that changes nothing but the cells wc, and makes none -/
def Up (l : Launch) (y : MethodName) (b : ByteArray) (ml : Nat) (rt : Option FieldType) (rm : Room) (D : va_G) (tys : List (ClassId × FieldType)) (args : List Value) (wc : va_W) (post : Option Value → va_W → Prop) : Prop :=
  Met l y (Cond.code y b ml rt :: TB) rm (va_Pc args (fun U => va_P D vwCl wc U.heap ∧ Kn D tys U ∧ va_D (fun _ => True) wc)) (QU D (wc.map Prod.fst) post) 0 0 (fun q => q ∈ wc.map Prod.fst)
def isR (x : Kx) (post : Option Value → Prop) : Prop := x.2.2.2.2.2.2.2.2.2.2 = MQ x.2.2.2.2.2.2.2.1 (QR post) x.2.2.2.2.2.2.1 x.2.2.2.2.1 0 0 (fun _ => False)
def isU (x : Kx) (D : va_G) (ad : List Nat) (post : Option Value → va_W → Prop) : Prop := x.2.2.2.2.2.2.2.2.2.2 = MQ x.2.2.2.2.2.2.2.1 (QU D ad post) x.2.2.2.2.2.2.1 x.2.2.2.2.1 0 0 (fun q => q ∈ ad)
def MI (y : MethodName) (b : ByteArray) (ml : Nat) (rt : Option FieldType) (np : Nat) : Prop := Cond.code y b ml rt ∈ TB ∧ Cond.initialized y.cls ∈ TB ∧ y.cls ≠ "java/lang/invoke/MethodHandle" ∧ y.cls ≠ "java/lang/invoke/VarHandle" ∧ (parseMethodDescriptor y.desc).map (fun d => d.parameters.length) = some np
def MIv (y : MethodName) (b : ByteArray) (ml : Nat) (rt : Option FieldType) (np : Nat) : Prop := MI y b ml rt np ∧ Cond.instanceMethod y ∈ TB ∧ Cond.selects y.cls y y ∈ TB
def MIs (y : MethodName) (b : ByteArray) (ml : Nat) (rt : Option FieldType) (np : Nat) : Prop := MI y b ml rt np ∧ Cond.static y ∈ TB
theorem TB_good {w : Cond} (h : w ∈ TB) : goodWord w = true := (List.mem_filter.mp h).2
theorem TB_in {y : MethodName} {b : ByteArray} {ml : Nat} {rt : Option FieldType} (h : Cond.code y b ml rt ∈ TB) : GoodIn TB (Cond.code y b ml rt :: TB) := by
  intro w hw
  rcases List.mem_cons.mp hw with rfl | hw
  · exact ⟨h, good_of_word (TB_good h)⟩
  · exact ⟨hw, good_of_word (TB_good hw)⟩
section VE
variable {l : Launch} {y : MethodName} {b : ByteArray} {ml : Nat} {rt : Option FieldType} {rm : Room} {D : va_G} {tys : List (ClassId × FieldType)} {args : List Value} {wc : va_W}
theorem Rd_of {post : Option Value → Prop}
    (hy : plainName y.cls = true) (hl : (lg_sl args).length ≤ ml) (h : ∀ x : Kx, Kf x b ml y.cls rt D tys rm → isR x post → Vw x ml (fun _ => True) D false 0 0 wc 0 (lv_args 0 args) []) : Rd l y b ml rt rm D tys args wc post := by
  refine Met.ofW (cc := b) (maxL := ml) (ret := rt) hy rfl ?_
  intro p e s m args' below meth c s₁ B hml hv
  obtain ⟨rfl, hP, hK, hD⟩ := hv
  have hts := atoms_spec (ws := Cond.code y b ml rt :: TB) B.pre
  have hown : s.vm.findClass y.cls = some m.cls := findClass_of_methodNamed B.named
  have hk : Kf (p, l, e, rm, s, m, args.toArray, below, meth, c, MQ below (QR post) args.toArray s 0 0 (fun _ => False)) b ml y.cls rt D tys rm :=
    ⟨B.exec, B.bytes, hml, hown, fun w hw => hts w (List.mem_cons_of_mem _ hw), B.returns, B.notSynchronized, hK, rfl⟩
  have hl := lv_entry args (n := ml) hl
  rw [lg_entry_eq]
  exact h _ hk rfl s.heap [] _ hP hD ⟨va_S.rf, fun _ => ⟨rfl, rfl⟩⟩ hl
theorem Up_of {post : Option Value → va_W → Prop}
    (hy : plainName y.cls = true) (hl : (lg_sl args).length ≤ ml) (h : ∀ x : Kx, Kf x b ml y.cls rt D tys rm → isU x D (wc.map Prod.fst) post → Vw x ml (fun q => q ∈ wc.map Prod.fst) D true 0 0 wc 0 (lv_args 0 args) []) : Up l y b ml rt rm D tys args wc post := by
  refine Met.ofW (cc := b) (maxL := ml) (ret := rt) hy rfl ?_
  intro p e s m args' below meth c s₁ B hml hv
  obtain ⟨rfl, hP, hK, hD⟩ := hv
  have hts := atoms_spec (ws := Cond.code y b ml rt :: TB) B.pre
  have hown : s.vm.findClass y.cls = some m.cls := findClass_of_methodNamed B.named
  have hk : Kf (p, l, e, rm, s, m, args.toArray, below, meth, c, MQ below (QU D (wc.map Prod.fst) post) args.toArray s 0 0 (fun q => q ∈ wc.map Prod.fst)) b ml y.cls rt D tys rm :=
    ⟨B.exec, B.bytes, hml, hown, fun w hw => hts w (List.mem_cons_of_mem _ hw), B.returns, B.notSynchronized, hK, rfl⟩
  have hl := lv_entry args (n := ml) hl
  have hD2 : va_D (fun q => q ∈ wc.map Prod.fst) wc := ⟨hD.1, fun k q hq => List.mem_map.mpr ⟨q, List.mem_of_getElem? hq, rfl⟩⟩
  rw [lg_entry_eq]
  exact h _ hk rfl s.heap [] _ hP hD2 ⟨va_S.rf, fun h9 => by cases h9⟩ hl
end VE
section VL
variable {x : Kx} {cc : ByteArray} {nL : Nat} {own : String} {ret : Option FieldType} {D : va_G} {tys : List (ClassId × FieldType)} {rm : Room} {A : Nat → Prop} {wr : Bool} {cells slots : Nat} {ws : va_W} {pc n : Nat} {lv lv' : List (Nat × Value)} {st : List Value}
theorem v_iretR (k : Kf x cc nL own (some .int) D tys rm) {post : Option Value → Prop} {v : Int32} (hq : isR x post) (hp : post (some (.int v))) (hd : decode cc pc = .ok (.ireturn, 1)) : Vw x nL A D false 0 0 ws pc lv [.int v] := by
  intro H locs ls a b c d
  obtain ⟨e1, e2⟩ := c.2 rfl
  rw [hq]
  exact W.iret k.1 k.2.1 k.2.2.2.2.2.1 (fun t ht hW => ⟨⟨_, rfl, hp⟩, by rw [ht, e1]⟩) (by rw [e2]; intro q h; cases h) hd k.2.2.2.2.2.2.1
theorem v_iretU (k : Kf x cc nL own (some .int) D tys rm) {ad : List Nat} {post : Option Value → va_W → Prop} {v : Int32} (hq : isU x D ad post) (hp : post (some (.int v)) ws) (had : ws.map Prod.fst = ad) (hd : decode cc pc = .ok (.ireturn, 1)) : Vw x nL (fun q => q ∈ ad) D wr 0 0 ws pc lv [.int v] := by
  intro H locs ls a b c d
  rw [hq]
  exact W.iret k.1 k.2.1 k.2.2.2.2.2.1 (fun t ht hW => ⟨⟨_, ws, rfl, hp, had, by rw [ht]; exact a⟩, c.1.F ht⟩) c.1.2.2 hd k.2.2.2.2.2.2.1
theorem v_zretR (k : Kf x cc nL own (some .boolean) D tys rm) {post : Option Value → Prop} {v : Int32} (hz : narrow .boolean (.int v) = .int v) (hq : isR x post) (hp : post (some (.int v))) (hd : decode cc pc = .ok (.ireturn, 1)) : Vw x nL A D false 0 0 ws pc lv [.int v] := by
  intro H locs ls a b c d
  obtain ⟨e1, e2⟩ := c.2 rfl
  rw [hq]
  exact W.zret k.1 k.2.1 k.2.2.2.2.2.1 hz (fun t ht hW => ⟨⟨_, rfl, hp⟩, by rw [ht, e1]⟩) (by rw [e2]; intro q h; cases h) hd k.2.2.2.2.2.2.1
theorem v_zretU (k : Kf x cc nL own (some .boolean) D tys rm) {ad : List Nat} {post : Option Value → va_W → Prop} {v : Int32} (hz : narrow .boolean (.int v) = .int v) (hq : isU x D ad post) (hp : post (some (.int v)) ws) (had : ws.map Prod.fst = ad) (hd : decode cc pc = .ok (.ireturn, 1)) : Vw x nL (fun q => q ∈ ad) D wr 0 0 ws pc lv [.int v] := by
  intro H locs ls a b c d
  rw [hq]
  exact W.zret k.1 k.2.1 k.2.2.2.2.2.1 hz (fun t ht hW => ⟨⟨_, ws, rfl, hp, had, by rw [ht]; exact a⟩, c.1.F ht⟩) c.1.2.2 hd k.2.2.2.2.2.2.1
theorem v_vretR (k : Kf x cc nL own (none) D tys rm) {post : Option Value → Prop}  (hq : isR x post) (hp : post none) (hd : decode cc pc = .ok (.return_, 1)) : Vw x nL A D false 0 0 ws pc lv [] := by
  intro H locs ls a b c d
  obtain ⟨e1, e2⟩ := c.2 rfl
  rw [hq]
  exact W.vret k.1 k.2.1 k.2.2.2.2.2.1 (fun t ht hW => ⟨⟨_, rfl, hp⟩, by rw [ht, e1]⟩) (by rw [e2]; intro q h; cases h) hd k.2.2.2.2.2.2.1
theorem v_vretU (k : Kf x cc nL own (none) D tys rm) {ad : List Nat} {post : Option Value → va_W → Prop}  (hq : isU x D ad post) (hp : post none ws) (had : ws.map Prod.fst = ad) (hd : decode cc pc = .ok (.return_, 1)) : Vw x nL (fun q => q ∈ ad) D wr 0 0 ws pc lv [] := by
  intro H locs ls a b c d
  rw [hq]
  exact W.vret k.1 k.2.1 k.2.2.2.2.2.1 (fun t ht hW => ⟨⟨_, ws, rfl, hp, had, by rw [ht]; exact a⟩, c.1.F ht⟩) c.1.2.2 hd k.2.2.2.2.2.2.1
theorem v_aretR (k : Kf x cc nL own (some (.array .int)) D tys rm) {post : Option Value → Prop} {v : Nat} (hq : isR x post) (hp : post (some (.ref v))) (hd : decode cc pc = .ok (.areturn, 1)) : Vw x nL A D false 0 0 ws pc lv [.ref v] := by
  intro H locs ls a b c d
  obtain ⟨e1, e2⟩ := c.2 rfl
  rw [hq]
  exact W.aret k.1 k.2.1 k.2.2.2.2.2.1 (Or.inr ⟨_, rfl⟩) (Or.inr ⟨_, rfl⟩) (fun t ht hW => ⟨⟨_, rfl, hp⟩, by rw [ht, e1]⟩) (by rw [e2]; intro q h; cases h) hd k.2.2.2.2.2.2.1
theorem v_aretU (k : Kf x cc nL own (some (.array .int)) D tys rm) {ad : List Nat} {post : Option Value → va_W → Prop} {v : Nat} (hq : isU x D ad post) (hp : post (some (.ref v)) ws) (had : ws.map Prod.fst = ad) (hd : decode cc pc = .ok (.areturn, 1)) : Vw x nL (fun q => q ∈ ad) D wr 0 0 ws pc lv [.ref v] := by
  intro H locs ls a b c d
  rw [hq]
  exact W.aret k.1 k.2.1 k.2.2.2.2.2.1 (Or.inr ⟨_, rfl⟩) (Or.inr ⟨_, rfl⟩) (fun t ht hW => ⟨⟨_, ws, rfl, hp, had, by rw [ht]; exact a⟩, c.1.F ht⟩) c.1.2.2 hd k.2.2.2.2.2.2.1
theorem wput_get : ∀ (is : List Nat) (ws w1 : va_W) (k : Nat) (q : Nat × va_E), (wput ws is w1)[k]? = some q → (∃ j : Nat, is[j]? = some k ∧ w1[j]? = some q) ∨ (k ∉ is.take w1.length ∧ ws[k]? = some q) := by
  intro is
  induction is with
  | nil => intro ws w1 k q h; exact Or.inr ⟨by simp, by simpa [wput] using h⟩
  | cons i is ih =>
    intro ws w1 k q h
    cases w1 with
    | nil => exact Or.inr ⟨by simp, by simpa [wput] using h⟩
    | cons c cs =>
      rcases ih (ws.set i c) cs k q h with ⟨j, h1, h2⟩ | ⟨h1, h2⟩
      · exact Or.inl ⟨j + 1, h1, h2⟩
      · by_cases e : k = i
        · subst e
          rw [List.getElem?_set] at h2
          simp only [if_true] at h2
          split at h2
          · exact Or.inl ⟨0, rfl, h2⟩
          · cases h2
        · refine Or.inr ⟨?_, ?_⟩
          · simp only [List.length_cons, List.take_succ_cons, List.mem_cons, not_or]
            exact ⟨e, h1⟩
          · rw [List.getElem?_set, if_neg (fun e2 => e e2.symm)] at h2
            exact h2
theorem at_places {ws wc : va_W} {is : List Nat} (his : is.map (fun i => ws[i]?) = wc.map some) {j k : Nat} (hj : is[j]? = some k) : ∃ q, wc[j]? = some q ∧ ws[k]? = some q := by
  have h1 : (is.map (fun i => ws[i]?))[j]? = some ws[k]? := by rw [List.getElem?_map, hj]; rfl
  rw [his, List.getElem?_map] at h1
  cases hq : wc[j]? with
  | none => rw [hq] at h1; cases h1
  | some q => rw [hq] at h1; exact ⟨q, rfl, by simpa using h1.symm⟩
theorem at_places' {ws wc : va_W} {is : List Nat} (his : is.map (fun i => ws[i]?) = wc.map some) {j : Nat} {q : Nat × va_E} (hj : wc[j]? = some q) : ∃ k, is[j]? = some k ∧ ws[k]? = some q := by
  have h1 : (wc.map some)[j]? = some (some q) := by rw [List.getElem?_map, hj]; rfl
  rw [← his, List.getElem?_map] at h1
  cases hk : is[j]? with
  | none => rw [hk] at h1; cases h1
  | some k => rw [hk] at h1; exact ⟨k, rfl, by simpa using h1⟩
/-- a world after an update of some of its cells in place -/
theorem world_up {ws wc w1 : va_W} {is : List Nat} {H H1 : Heap} (his : is.map (fun i => ws[i]?) = wc.map some) (hP : va_P D vwCl ws H) (hD : va_D A ws) (had : w1.map Prod.fst = wc.map Prod.fst) (hP1 : va_P D vwCl w1 H1)
    (hk : ∀ q, q < H.size → q ∉ wc.map Prod.fst → H1[q]? = H[q]?) : va_P D vwCl (wput ws is w1) H1 ∧ va_D A (wput ws is w1) := by
  have hlen : is.length = w1.length := by
    have e1 := congrArg List.length his
    have e2 := congrArg List.length had
    simp only [List.length_map] at e1 e2
    omega
  have adr : ∀ (k : Nat) (q : Nat × va_E), (wput ws is w1)[k]? = some q → ∃ q', ws[k]? = some q' ∧ q'.1 = q.1 := by
    intro k q h
    rcases wput_get is ws w1 k q h with ⟨j, h1, h2⟩ | ⟨-, h2⟩
    · obtain ⟨q', h3, h4⟩ := at_places his h1
      refine ⟨q', h4, ?_⟩
      have e1 : (w1.map Prod.fst)[j]? = some q.1 := by rw [List.getElem?_map, h2]; rfl
      rw [had, List.getElem?_map, h3] at e1
      simpa using e1
    · exact ⟨q, h2, rfl⟩
  refine ⟨fun k q h => ?_, fun i j p q h1 h2 e => ?_, fun k q h => ?_⟩
  · rcases wput_get is ws w1 k q h with ⟨j, h1, h2⟩ | ⟨h1, h2⟩
    · exact hP1 j q h2
    · refine (hP k q h2).kept (hk _ (hP k q h2).lt fun hm => h1 ?_)
      obtain ⟨c, hc, e⟩ := List.mem_map.mp hm
      obtain ⟨j, hj⟩ := List.getElem?_of_mem hc
      obtain ⟨k', h3, h4⟩ := at_places' his hj
      have : k' = k := hD.1 k' k c q h4 h2 e
      subst this
      rw [← hlen, List.take_length]
      exact List.mem_of_getElem? h3
  · obtain ⟨p', a1, a2⟩ := adr i p h1
    obtain ⟨q', b1, b2⟩ := adr j q h2
    exact hD.1 i j p' q' a1 b1 (by rw [a2, b2, e])
  · obtain ⟨q', a1, a2⟩ := adr k q h
    rw [← a2]
    exact hD.2 k q' a1
theorem sub_places {ws wc : va_W} {is : List Nat} {H : Heap} (his : is.map (fun i => ws[i]?) = wc.map some) (hP : va_P D vwCl ws H) : va_P D vwCl wc H := by
  intro k q hq
  obtain ⟨i, -, h⟩ := at_places' his hq
  exact hP i q h
theorem after_rd {y : MethodName} {stk : List Value} {As : Array Value} {post : Option Value → Prop} {H : Heap} {locs : List Loc} {ls : Array Slot}
    (hr : va_Run x.1 x.2.1 x.2.2.1 x.2.2.2.1 x.2.2.2.2.1 x.2.2.2.2.2.1 x.2.2.2.2.2.2.1 x.2.2.2.2.2.2.2.1 x.2.2.2.2.2.2.2.2.1 x.2.2.2.2.2.2.2.2.2.1 H locs cells slots 0 0 (F0 x.2.2.2.2.2.1 pc ls stk) st (QR post As) (fun _ => False))
    (a : va_P D vwCl ws H) (b : va_D A ws) (c : Sx wr A x.2.2.2.2.1.heap H locs) (d : lv_has ls nL lv) (h : ∀ v, post v → Vw x nL A D wr cells slots ws (pc + 3) lv (v.toList ++ st)) :
    W x.1 x.2.1 x.2.2.1 x.2.2.2.1 x.2.2.2.2.1 x.2.2.2.2.2.1 x.2.2.2.2.2.2.1 x.2.2.2.2.2.2.2.1 x.2.2.2.2.2.2.2.2.1 x.2.2.2.2.2.2.2.2.2.1 H locs cells slots x.2.2.2.2.2.2.2.2.2.2 (F0 x.2.2.2.2.2.1 pc ls stk) := by
  intro T hT X
  obtain ⟨v, st₀, t, T', L, h0, X', hL, e1, e2, ⟨⟨v', hv, hp⟩, hz⟩, go⟩ := hr T hT X
  cases hv
  have hL0 : L = [] := List.eq_nil_iff_forall_not_mem.mpr fun q hq => hL q hq
  subst hL0
  rw [List.append_nil] at X'
  obtain ⟨t2, a1, b1⟩ := h v hp H locs ls a b c d T' (by rw [e1, hz, h0]) X'
  exact ⟨t2, go t2 a1, b1⟩
theorem after_up {stk : List Value} {As : Array Value} {wc : va_W} {is : List Nat} {post : Option Value → va_W → Prop} {H : Heap} {locs : List Loc} {ls : Array Slot} (his : is.map (fun i => ws[i]?) = wc.map some)
    (hr : va_Run x.1 x.2.1 x.2.2.1 x.2.2.2.1 x.2.2.2.2.1 x.2.2.2.2.2.1 x.2.2.2.2.2.2.1 x.2.2.2.2.2.2.2.1 x.2.2.2.2.2.2.2.2.1 x.2.2.2.2.2.2.2.2.2.1 H locs cells slots 0 0 (F0 x.2.2.2.2.2.1 pc ls stk) st (QU D (wc.map Prod.fst) post As) (fun q => q ∈ wc.map Prod.fst))
    (a : va_P D vwCl ws H) (b : va_D A ws) (c : Sx true A x.2.2.2.2.1.heap H locs) (d : lv_has ls nL lv) (h : ∀ v w1, post v w1 → Vw x nL A D true cells slots (wput ws is w1) (pc + 3) lv (v.toList ++ st)) :
    W x.1 x.2.1 x.2.2.1 x.2.2.2.1 x.2.2.2.2.1 x.2.2.2.2.2.1 x.2.2.2.2.2.2.1 x.2.2.2.2.2.2.2.1 x.2.2.2.2.2.2.2.2.1 x.2.2.2.2.2.2.2.2.2.1 H locs cells slots x.2.2.2.2.2.2.2.2.2.2 (F0 x.2.2.2.2.2.1 pc ls stk) := by
  intro T hT X
  obtain ⟨v, st₀, t, T', L, h0, X', hL, e1, e2, ⟨⟨v', w1, hv, hp, had, hP1⟩, hz, hk⟩, go⟩ := hr T hT X
  cases hv
  have hA : ∀ q, q ∈ wc.map Prod.fst → A q := by
    intro q hq
    obtain ⟨c9, hc, e⟩ := List.mem_map.mp hq
    obtain ⟨j, hj⟩ := List.getElem?_of_mem hc
    obtain ⟨k', -, h4⟩ := at_places' his hj
    rw [← e]
    exact b.2 k' c9 h4
  rw [h0] at hz hk
  obtain ⟨a', b'⟩ := world_up (H := H) (H1 := t.heap) his a b had hP1 (fun q h1 h2 => hk q h1 h2)
  obtain ⟨t2, a1, b1⟩ := h v w1 hp t.heap (locs ++ L) ls a' b' ⟨⟨Nat.le_trans c.1.1 hz, fun q h1 h2 => by
      rw [hk q (Nat.lt_of_lt_of_le h1 c.1.1) (fun z => h2 (hA q z))]
      exact c.1.2.1 q h1 h2, fun q hq => by
      rcases List.mem_append.mp hq with h | h
      · exact c.1.2.2 q h
      · exact hA _ (hL q h)⟩, fun h9 => by cases h9⟩ d T' e1 X'
  exact ⟨t2, go t2 a1, b1⟩
/-- what a call asks of the words and of the room -/
theorem call_b (k : Kf x cc nL own ret D tys rm) {y : MethodName} {b : ByteArray} {ml np i : Nat} {rt : Option FieldType} {rmc : Room} (hi : MI y b ml rt np) (hl : Cond.methodLink own i y ∈ TB) (hR : rmc.frames + 1 ≤ rm.frames ∧ 8 + (ml + 11) + rmc.locals ≤ rm.locals) (hz : rmc.cells = 0 ∧ rmc.slots = 0) :
    CallB x.2.2.2.1 x.2.2.2.2.1 x.2.2.2.2.2.2.1 own i y b ml rt (Cond.code y b ml rt :: TB) rmc 0 0 np := by
  have hR' := hR
  rw [← k.2.2.2.2.2.2.2.2] at hR'
  exact callB_of np k.2.2.2.2.1 (TB_in hi.1) rfl hz.1 hz.2 (k.2.2.2.2.1 _ hi.2.1) (k.2.2.2.2.1 _ hl) hi.2.2 hR'
theorem pre_b {wc : va_W} {av : List Value} : FrameBlind (va_Pc av (fun U => va_P D vwCl wc U.heap ∧ Kn D tys U ∧ va_D (fun _ => True) wc)) := by
  intro a U g mk h
  obtain ⟨h1, h2, h3, h4⟩ := h
  exact ⟨h1, h2, Kn.same (s := U) (U := U.calling g mk a) rfl h3, h4⟩
theorem hD9 {wc : va_W} {is : List Nat} (b : va_D A ws) (hnd : va_nd is = true) (his : is.map (fun i => ws[i]?) = wc.map some) : va_D (fun _ => True) wc := (b.sub is hnd his).weaken (fun _ _ _ _ => trivial)
theorem pre_u (k : Kf x cc nL own ret D tys rm) {wc : va_W} {is : List Nat} {av : List Value} {H : Heap} (his : is.map (fun i => ws[i]?) = wc.map some) (hnd : va_nd is = true) (a : va_P D vwCl ws H) (b : va_D A ws) : ∀ U : State, U.heap = H → x.2.2.2.2.1.WarmedH U.vm → va_Pc av (fun U => va_P D vwCl wc U.heap ∧ Kn D tys U ∧ va_D (fun _ => True) wc) av.toArray U := by
  intro U hU hW
  exact ⟨rfl, by rw [hU]; exact sub_places his a, Kn.warm hW k.2.2.2.2.2.2.2.1, (hD9 b hnd his)⟩

theorem v_rdV (k : Kf x cc nL own ret D tys rm) {y : MethodName} {b : ByteArray} {ml np i a : Nat} {rt : Option FieldType} {rmc : Room} {As stk : List Value} {wc : va_W} {post : Option Value → Prop} {T : u_T} {N ci : Nat} {fs : List Value} (is : List Nat) (q0 : Nat) (hM : ∀ l, Rd l y b ml rt rmc D tys (.ref a :: As) wc post) (hi : MIv y b ml rt np) (hl : Cond.methodLink own i y ∈ TB) (hR : rmc.frames + 1 ≤ rm.frames ∧ 8 + (ml + 11) + rmc.locals ≤ rm.locals) (hz : rmc.cells = 0 ∧ rmc.slots = 0)
    (his : is.map (fun i => ws[i]?) = wc.map some) (hnd : va_nd is = true) (he : ws[q0]? = some (a, .inr (ci, fs))) (hc : vwCl[ci]? = some (y.cls, T, N)) (hnp : As.length = np) (hst : stk = As.reverse ++ .ref a :: st) (hW : (st.map fun v => v.category).sum ≤ 8) (hcs : cells + 0 ≤ x.2.2.2.1.cells ∧ slots + 0 ≤ x.2.2.2.1.slots) (hd : decode cc pc = .ok (.invokevirtual i, 3)) (hn : pc + 3 = n)
    (h : ∀ v, post v → Vw x nL A D wr cells slots ws n lv (v.toList ++ st)) : Vw x nL A D wr cells slots ws pc lv stk := by
  subst hn
  intro H locs ls a' b' c d
  have hK := k.2.2.2.2.2.2.2.1.1
  refine after_rd (y := y) (va_runV (b := a) (C := y.cls) (As := As) (rest := st) (Ts := TB) (own := own) ⟨k.1, k.2.1, k.2.2.1, k.2.2.2.1, k.2.2.2.2.1⟩ (hM x.2.1) ⟨call_b k hi.1 hl hR hz, k.2.2.2.2.1 _ hi.2.1, k.2.2.2.2.1 _ hi.2.2⟩ ⟨pre_b, va_recv hK a' hc he, pre_u k his hnd a' b'⟩ rfl hnp d.1 hst (lv_room hW) hd ⟨?_, ?_⟩) a' b' c d h
  · exact hcs.1
  · exact hcs.2
theorem v_rdS (k : Kf x cc nL own ret D tys rm) {y : MethodName} {b : ByteArray} {ml np i : Nat} {rt : Option FieldType} {rmc : Room} {As stk : List Value} {wc : va_W} {post : Option Value → Prop} (is : List Nat) (hM : ∀ l, Rd l y b ml rt rmc D tys As wc post) (hi : MIs y b ml rt np) (hl : Cond.methodLink own i y ∈ TB) (hR : rmc.frames + 1 ≤ rm.frames ∧ 8 + (ml + 11) + rmc.locals ≤ rm.locals) (hz : rmc.cells = 0 ∧ rmc.slots = 0)
    (his : is.map (fun i => ws[i]?) = wc.map some) (hnd : va_nd is = true) (hnp : As.length = np) (hst : stk = As.reverse ++ st) (hW : (st.map fun v => v.category).sum ≤ 8) (hcs : cells + 0 ≤ x.2.2.2.1.cells ∧ slots + 0 ≤ x.2.2.2.1.slots) (hd : decode cc pc = .ok (.invokestatic i, 3)) (hn : pc + 3 = n)
    (h : ∀ v, post v → Vw x nL A D wr cells slots ws n lv (v.toList ++ st)) : Vw x nL A D wr cells slots ws pc lv stk := by
  subst hn
  intro H locs ls a' b' c d
  refine after_rd (y := y) (va_runS (As := As) (rest := st) (Ts := TB) (own := own) ⟨k.1, k.2.1, k.2.2.1, k.2.2.2.1, k.2.2.2.2.1⟩ (hM x.2.1) ⟨call_b k hi.1 hl hR hz, k.2.2.2.2.1 _ hi.2⟩ ⟨pre_b, pre_u k his hnd a' b'⟩ rfl hnp d.1 hst (lv_room hW) hd ⟨?_, ?_⟩) a' b' c d h
  · exact hcs.1
  · exact hcs.2
theorem v_rdSN (k : Kf x cc nL own ret D tys rm) {y : MethodName} {b : ByteArray} {ml np i : Nat} {rt : Option FieldType} {rmc : Room} {As stk : List Value} {wc : va_W} {post : Option Value → Prop} {host : String} (is : List Nat) (hM : ∀ l, Rd l y b ml rt rmc D tys As wc post) (hi : MIs y b ml rt np) (hl : Cond.methodLinkNest own i y host ∈ nestW) (hR : rmc.frames + 1 ≤ rm.frames ∧ 8 + (ml + 11) + rmc.locals ≤ rm.locals) (hz : rmc.cells = 0 ∧ rmc.slots = 0)
    (his : is.map (fun i => ws[i]?) = wc.map some) (hnd : va_nd is = true) (hnp : As.length = np) (hst : stk = As.reverse ++ st) (hW : (st.map fun v => v.category).sum ≤ 8) (hcs : cells + 0 ≤ x.2.2.2.1.cells ∧ slots + 0 ≤ x.2.2.2.1.slots) (hd : decode cc pc = .ok (.invokestatic i, 3)) (hn : pc + 3 = n)
    (h : ∀ v, post v → Vw x nL A D wr cells slots ws n lv (v.toList ++ st)) : Vw x nL A D wr cells slots ws pc lv stk := by
  subst hn
  intro H locs ls a' b' c d
  have hR' := hR
  rw [← k.2.2.2.2.2.2.2.2] at hR'
  refine after_rd (y := y) (va_runSN (As := As) (rest := st) (Ts := TB) (own := own) (host := host) ⟨k.1, k.2.1, k.2.2.1, k.2.2.2.1, k.2.2.2.2.1⟩ (hM x.2.1) ⟨va_cnB np k.2.2.2.2.1 (TB_in hi.1.1) rfl hz.1 hz.2 (k.2.2.2.2.2.2.2.1.2 _ hl) (k.2.2.2.2.1 _ hi.1.2.1) hi.1.2.2 hR', k.2.2.2.2.1 _ hi.2, trivial⟩ ⟨pre_b, pre_u k his hnd a' b'⟩ rfl hnp d.1 hst (lv_room hW) hd ⟨?_, ?_⟩) a' b' c d h
  · exact hcs.1
  · exact hcs.2
theorem v_upV (k : Kf x cc nL own ret D tys rm) {y : MethodName} {b : ByteArray} {ml np i a : Nat} {rt : Option FieldType} {rmc : Room} {As stk : List Value} {wc : va_W} {post : Option Value → va_W → Prop} {T : u_T} {N ci : Nat} {fs : List Value} (is : List Nat) (q0 : Nat) (hM : ∀ l, Up l y b ml rt rmc D tys (.ref a :: As) wc post) (hi : MIv y b ml rt np) (hl : Cond.methodLink own i y ∈ TB) (hR : rmc.frames + 1 ≤ rm.frames ∧ 8 + (ml + 11) + rmc.locals ≤ rm.locals) (hz : rmc.cells = 0 ∧ rmc.slots = 0)
    (his : is.map (fun i => ws[i]?) = wc.map some) (hnd : va_nd is = true) (he : ws[q0]? = some (a, .inr (ci, fs))) (hc : vwCl[ci]? = some (y.cls, T, N)) (hnp : As.length = np) (hst : stk = As.reverse ++ .ref a :: st) (hW : (st.map fun v => v.category).sum ≤ 8) (hcs : cells + 0 ≤ x.2.2.2.1.cells ∧ slots + 0 ≤ x.2.2.2.1.slots) (hd : decode cc pc = .ok (.invokevirtual i, 3)) (hn : pc + 3 = n)
    (h : ∀ v w1, post v w1 → Vw x nL A D true cells slots (wput ws is w1) n lv (v.toList ++ st)) : Vw x nL A D true cells slots ws pc lv stk := by
  subst hn
  intro H locs ls a' b' c d
  have hK := k.2.2.2.2.2.2.2.1.1
  refine after_up his (va_runV (b := a) (C := y.cls) (As := As) (rest := st) (Ts := TB) (own := own) ⟨k.1, k.2.1, k.2.2.1, k.2.2.2.1, k.2.2.2.2.1⟩ (hM x.2.1) ⟨call_b k hi.1 hl hR hz, k.2.2.2.2.1 _ hi.2.1, k.2.2.2.2.1 _ hi.2.2⟩ ⟨pre_b, va_recv hK a' hc he, pre_u k his hnd a' b'⟩ rfl hnp d.1 hst (lv_room hW) hd ⟨?_, ?_⟩) a' b' c d h
  · exact hcs.1
  · exact hcs.2
theorem v_upS (k : Kf x cc nL own ret D tys rm) {y : MethodName} {b : ByteArray} {ml np i : Nat} {rt : Option FieldType} {rmc : Room} {As stk : List Value} {wc : va_W} {post : Option Value → va_W → Prop} (is : List Nat) (hM : ∀ l, Up l y b ml rt rmc D tys As wc post) (hi : MIs y b ml rt np) (hl : Cond.methodLink own i y ∈ TB) (hR : rmc.frames + 1 ≤ rm.frames ∧ 8 + (ml + 11) + rmc.locals ≤ rm.locals) (hz : rmc.cells = 0 ∧ rmc.slots = 0)
    (his : is.map (fun i => ws[i]?) = wc.map some) (hnd : va_nd is = true) (hnp : As.length = np) (hst : stk = As.reverse ++ st) (hW : (st.map fun v => v.category).sum ≤ 8) (hcs : cells + 0 ≤ x.2.2.2.1.cells ∧ slots + 0 ≤ x.2.2.2.1.slots) (hd : decode cc pc = .ok (.invokestatic i, 3)) (hn : pc + 3 = n)
    (h : ∀ v w1, post v w1 → Vw x nL A D true cells slots (wput ws is w1) n lv (v.toList ++ st)) : Vw x nL A D true cells slots ws pc lv stk := by
  subst hn
  intro H locs ls a' b' c d
  refine after_up his (va_runS (As := As) (rest := st) (Ts := TB) (own := own) ⟨k.1, k.2.1, k.2.2.1, k.2.2.2.1, k.2.2.2.2.1⟩ (hM x.2.1) ⟨call_b k hi.1 hl hR hz, k.2.2.2.2.1 _ hi.2⟩ ⟨pre_b, pre_u k his hnd a' b'⟩ rfl hnp d.1 hst (lv_room hW) hd ⟨?_, ?_⟩) a' b' c d h
  · exact hcs.1
  · exact hcs.2
theorem v_upSN (k : Kf x cc nL own ret D tys rm) {y : MethodName} {b : ByteArray} {ml np i : Nat} {rt : Option FieldType} {rmc : Room} {As stk : List Value} {wc : va_W} {post : Option Value → va_W → Prop} {host : String} (is : List Nat) (hM : ∀ l, Up l y b ml rt rmc D tys As wc post) (hi : MIs y b ml rt np) (hl : Cond.methodLinkNest own i y host ∈ nestW) (hR : rmc.frames + 1 ≤ rm.frames ∧ 8 + (ml + 11) + rmc.locals ≤ rm.locals) (hz : rmc.cells = 0 ∧ rmc.slots = 0)
    (his : is.map (fun i => ws[i]?) = wc.map some) (hnd : va_nd is = true) (hnp : As.length = np) (hst : stk = As.reverse ++ st) (hW : (st.map fun v => v.category).sum ≤ 8) (hcs : cells + 0 ≤ x.2.2.2.1.cells ∧ slots + 0 ≤ x.2.2.2.1.slots) (hd : decode cc pc = .ok (.invokestatic i, 3)) (hn : pc + 3 = n)
    (h : ∀ v w1, post v w1 → Vw x nL A D true cells slots (wput ws is w1) n lv (v.toList ++ st)) : Vw x nL A D true cells slots ws pc lv stk := by
  subst hn
  intro H locs ls a' b' c d
  have hR' := hR
  rw [← k.2.2.2.2.2.2.2.2] at hR'
  refine after_up his (va_runSN (As := As) (rest := st) (Ts := TB) (own := own) (host := host) ⟨k.1, k.2.1, k.2.2.1, k.2.2.2.1, k.2.2.2.2.1⟩ (hM x.2.1) ⟨va_cnB np k.2.2.2.2.1 (TB_in hi.1.1) rfl hz.1 hz.2 (k.2.2.2.2.2.2.2.1.2 _ hl) (k.2.2.2.2.1 _ hi.1.2.1) hi.1.2.2 hR', k.2.2.2.2.1 _ hi.2, trivial⟩ ⟨pre_b, pre_u k his hnd a' b'⟩ rfl hnp d.1 hst (lv_room hW) hd ⟨?_, ?_⟩) a' b' c d h
  · exact hcs.1
  · exact hcs.2
end VL
end
section
theorem ciX0 : CI 0 RX0 TX0 tyX0 3 := ⟨rfl, uTB0, tyX0_ok, nmX0⟩
theorem ciX1 : CI 1 RX1 TX1 tyX1 8 := ⟨rfl, uTB1, tyX1_ok, nmX1⟩
theorem ciX2 : CI 2 RX2 TX2 tyX2 1 := ⟨rfl, uTB2, tyX2_ok, nmX2⟩
theorem ciX3 : CI 3 RX3 TX3 tyX3 2 := ⟨rfl, uTB3, tyX3_ok, nmX3⟩
theorem ciX4 : CI 4 RX4 TX4 tyX4 7 := ⟨rfl, uTB4, tyX4_ok, nmX4⟩
theorem ciX5 : CI 5 RX5 TX5 tyX5 26 := ⟨rfl, uTB5, tyX5_ok, nmX5⟩
theorem miX0_begin : MIv yX0_begin cX0_begin 1 none 0 := ⟨⟨cd_yX0_begin, in_X0, by decide, by decide, by decide +kernel⟩, im_yX0_begin, se_yX0_begin⟩
theorem miX0_add : MIv yX0_add cX0_add 4 (some .boolean) 2 := ⟨⟨cd_yX0_add, in_X0, by decide, by decide, by decide +kernel⟩, im_yX0_add, se_yX0_add⟩
theorem miX0_finish : MIv yX0_finish cX0_finish 1 (some .boolean) 0 := ⟨⟨cd_yX0_finish, in_X0, by decide, by decide, by decide +kernel⟩, im_yX0_finish, se_yX0_finish⟩
theorem miX0_settle : MIv yX0_settle cX0_settle 3 (some .boolean) 0 := ⟨⟨cd_yX0_settle, in_X0, by decide, by decide, by decide +kernel⟩, im_yX0_settle, se_yX0_settle⟩
theorem miX1_wipe : MIv yX1_wipe cX1_wipe 5 none 3 := ⟨⟨cd_yX1_wipe, in_X1, by decide, by decide, by decide +kernel⟩, im_yX1_wipe, se_yX1_wipe⟩
theorem miX1_place : MIv yX1_place cX1_place 3 none 2 := ⟨⟨cd_yX1_place, in_X1, by decide, by decide, by decide +kernel⟩, im_yX1_place, se_yX1_place⟩
theorem miX1_lay : MIv yX1_lay cX1_lay 4 none 3 := ⟨⟨cd_yX1_lay, in_X1, by decide, by decide, by decide +kernel⟩, im_yX1_lay, se_yX1_lay⟩
theorem miX1_isPage : MIv yX1_isPage cX1_isPage 2 (some .boolean) 1 := ⟨⟨cd_yX1_isPage, in_X1, by decide, by decide, by decide +kernel⟩, im_yX1_isPage, se_yX1_isPage⟩
theorem miX1_pages : MIv yX1_pages cX1_pages 1 (some .int) 0 := ⟨⟨cd_yX1_pages, in_X1, by decide, by decide, by decide +kernel⟩, im_yX1_pages, se_yX1_pages⟩
theorem miX1_log : MIv yX1_log cX1_log 1 (some .int) 0 := ⟨⟨cd_yX1_log, in_X1, by decide, by decide, by decide +kernel⟩, im_yX1_log, se_yX1_log⟩
theorem miX1_writes : MIv yX1_writes cX1_writes 1 (some .int) 0 := ⟨⟨cd_yX1_writes, in_X1, by decide, by decide, by decide +kernel⟩, im_yX1_writes, se_yX1_writes⟩
theorem miX1_allowed : MIv yX1_allowed cX1_allowed 1 (some .int) 0 := ⟨⟨cd_yX1_allowed, in_X1, by decide, by decide, by decide +kernel⟩, im_yX1_allowed, se_yX1_allowed⟩
theorem miX1_isDown : MIv yX1_isDown cX1_isDown 1 (some .boolean) 0 := ⟨⟨cd_yX1_isDown, in_X1, by decide, by decide, by decide +kernel⟩, im_yX1_isDown, se_yX1_isDown⟩
theorem miX1_allow : MIv yX1_allow cX1_allow 2 none 1 := ⟨⟨cd_yX1_allow, in_X1, by decide, by decide, by decide +kernel⟩, im_yX1_allow, se_yX1_allow⟩
theorem miX1_write : MIv yX1_write cX1_write 3 (some .boolean) 2 := ⟨⟨cd_yX1_write, in_X1, by decide, by decide, by decide +kernel⟩, im_yX1_write, se_yX1_write⟩
theorem miX1_read : MIv yX1_read cX1_read 3 none 2 := ⟨⟨cd_yX1_read, in_X1, by decide, by decide, by decide +kernel⟩, im_yX1_read, se_yX1_read⟩
theorem miX1_at : MIv yX1_at cX1_at 3 (some .int) 2 := ⟨⟨cd_yX1_at, in_X1, by decide, by decide, by decide +kernel⟩, im_yX1_at, se_yX1_at⟩
theorem miX1_depth : MIv yX1_depth cX1_depth 1 (some .int) 0 := ⟨⟨cd_yX1_depth, in_X1, by decide, by decide, by decide +kernel⟩, im_yX1_depth, se_yX1_depth⟩
theorem miX1_directoryPage : MIv yX1_directoryPage cX1_directoryPage 2 (some .int) 1 := ⟨⟨cd_yX1_directoryPage, in_X1, by decide, by decide, by decide +kernel⟩, im_yX1_directoryPage, se_yX1_directoryPage⟩
theorem miX1_entryAt : MIv yX1_entryAt cX1_entryAt 2 (some .int) 1 := ⟨⟨cd_yX1_entryAt, in_X1, by decide, by decide, by decide +kernel⟩, im_yX1_entryAt, se_yX1_entryAt⟩
theorem miX1_indexOf : MIv yX1_indexOf cX1_indexOf 2 (some .int) 1 := ⟨⟨cd_yX1_indexOf, in_X1, by decide, by decide, by decide +kernel⟩, im_yX1_indexOf, se_yX1_indexOf⟩
theorem miX1_bucketOf : MIv yX1_bucketOf cX1_bucketOf 2 (some .int) 1 := ⟨⟨cd_yX1_bucketOf, in_X1, by decide, by decide, by decide +kernel⟩, im_yX1_bucketOf, se_yX1_bucketOf⟩
theorem miX1_kindOf : MIv yX1_kindOf cX1_kindOf 2 (some .int) 1 := ⟨⟨cd_yX1_kindOf, in_X1, by decide, by decide, by decide +kernel⟩, im_yX1_kindOf, se_yX1_kindOf⟩
theorem miX1_learnKinds : MIv yX1_learnKinds cX1_learnKinds 7 none 0 := ⟨⟨cd_yX1_learnKinds, in_X1, by decide, by decide, by decide +kernel⟩, im_yX1_learnKinds, se_yX1_learnKinds⟩
theorem miX1_mark : MIv yX1_mark cX1_mark 3 none 2 := ⟨⟨cd_yX1_mark, in_X1, by decide, by decide, by decide +kernel⟩, im_yX1_mark, se_yX1_mark⟩
theorem miX1_countKind : MIv yX1_countKind cX1_countKind 4 (some .int) 1 := ⟨⟨cd_yX1_countKind, in_X1, by decide, by decide, by decide +kernel⟩, im_yX1_countKind, se_yX1_countKind⟩
theorem miX1_freeBehind : MIv yX1_freeBehind cX1_freeBehind 3 (some .int) 1 := ⟨⟨cd_yX1_freeBehind, in_X1, by decide, by decide, by decide +kernel⟩, im_yX1_freeBehind, se_yX1_freeBehind⟩
theorem miX1_countRecords : MIv yX1_countRecords cX1_countRecords 3 (some .int) 0 := ⟨⟨cd_yX1_countRecords, in_X1, by decide, by decide, by decide +kernel⟩, im_yX1_countRecords, se_yX1_countRecords⟩
theorem miX1_hasBucketOfDepth : MIv yX1_hasBucketOfDepth cX1_hasBucketOfDepth 3 (some .boolean) 1 := ⟨⟨cd_yX1_hasBucketOfDepth, in_X1, by decide, by decide, by decide +kernel⟩, im_yX1_hasBucketOfDepth, se_yX1_hasBucketOfDepth⟩
theorem miX1_recordBytes : MIv yX1_recordBytes cX1_recordBytes 2 (some .int) 1 := ⟨⟨cd_yX1_recordBytes, in_X1, by decide, by decide, by decide +kernel⟩, im_yX1_recordBytes, se_yX1_recordBytes⟩
theorem miX1_recordSize : MIv yX1_recordSize cX1_recordSize 3 (some .int) 2 := ⟨⟨cd_yX1_recordSize, in_X1, by decide, by decide, by decide +kernel⟩, im_yX1_recordSize, se_yX1_recordSize⟩
theorem miX1_recordStart : MIv yX1_recordStart cX1_recordStart 5 (some .int) 2 := ⟨⟨cd_yX1_recordStart, in_X1, by decide, by decide, by decide +kernel⟩, im_yX1_recordStart, se_yX1_recordStart⟩
theorem miX1_recordHash : MIv yX1_recordHash cX1_recordHash 3 (some .int) 2 := ⟨⟨cd_yX1_recordHash, in_X1, by decide, by decide, by decide +kernel⟩, im_yX1_recordHash, se_yX1_recordHash⟩
theorem miX1_allHashesAre : MIv yX1_allHashesAre cX1_allHashesAre 6 (some .boolean) 2 := ⟨⟨cd_yX1_allHashesAre, in_X1, by decide, by decide, by decide +kernel⟩, im_yX1_allHashesAre, se_yX1_allHashesAre⟩
theorem miX1_find : MIv yX1_find cX1_find 7 (some .int) 3 := ⟨⟨cd_yX1_find, in_X1, by decide, by decide, by decide +kernel⟩, im_yX1_find, se_yX1_find⟩
theorem miX1_hasKey : MIv yX1_hasKey cX1_hasKey 6 (some .boolean) 4 := ⟨⟨cd_yX1_hasKey, in_X1, by decide, by decide, by decide +kernel⟩, im_yX1_hasKey, se_yX1_hasKey⟩
theorem miX2_bytes : MIv yX2_bytes cX2_bytes 1 (some (.array .int)) 0 := ⟨⟨cd_yX2_bytes, in_X2, by decide, by decide, by decide +kernel⟩, im_yX2_bytes, se_yX2_bytes⟩
theorem miX2_byteAt : MIv yX2_byteAt cX2_byteAt 2 (some .int) 1 := ⟨⟨cd_yX2_byteAt, in_X2, by decide, by decide, by decide +kernel⟩, im_yX2_byteAt, se_yX2_byteAt⟩
theorem miX2_set : MIv yX2_set cX2_set 3 none 2 := ⟨⟨cd_yX2_set, in_X2, by decide, by decide, by decide +kernel⟩, im_yX2_set, se_yX2_set⟩
theorem miX2_clear : MIv yX2_clear cX2_clear 1 none 0 := ⟨⟨cd_yX2_clear, in_X2, by decide, by decide, by decide +kernel⟩, im_yX2_clear, se_yX2_clear⟩
theorem miX2_startBucket : MIv yX2_startBucket cX2_startBucket 2 none 1 := ⟨⟨cd_yX2_startBucket, in_X2, by decide, by decide, by decide +kernel⟩, im_yX2_startBucket, se_yX2_startBucket⟩
theorem miX2_copyRecord : MIv yX2_copyRecord cX2_copyRecord 7 none 3 := ⟨⟨cd_yX2_copyRecord, in_X2, by decide, by decide, by decide +kernel⟩, im_yX2_copyRecord, se_yX2_copyRecord⟩
theorem miX2_addRecord : MIv yX2_addRecord cX2_addRecord 6 none 3 := ⟨⟨cd_yX2_addRecord, in_X2, by decide, by decide, by decide +kernel⟩, im_yX2_addRecord, se_yX2_addRecord⟩
theorem miX2_countRecord : MIv yX2_countRecord cX2_countRecord 3 (some .int) 1 := ⟨⟨cd_yX2_countRecord, in_X2, by decide, by decide, by decide +kernel⟩, im_yX2_countRecord, se_yX2_countRecord⟩
theorem miX3_size : MIv yX3_size cX3_size 1 (some .int) 0 := ⟨⟨cd_yX3_size, in_X3, by decide, by decide, by decide +kernel⟩, im_yX3_size, se_yX3_size⟩
theorem miX3_byteAt : MIv yX3_byteAt cX3_byteAt 2 (some .int) 1 := ⟨⟨cd_yX3_byteAt, in_X3, by decide, by decide, by decide +kernel⟩, im_yX3_byteAt, se_yX3_byteAt⟩
theorem miX3_append : MIv yX3_append cX3_append 2 none 1 := ⟨⟨cd_yX3_append, in_X3, by decide, by decide, by decide +kernel⟩, im_yX3_append, se_yX3_append⟩
theorem miX3_take : MIv yX3_take cX3_take 2 (some .int) 0 := ⟨⟨cd_yX3_take, in_X3, by decide, by decide, by decide +kernel⟩, im_yX3_take, se_yX3_take⟩
theorem miX3_keyHash : MIv yX3_keyHash cX3_keyHash 2 (some .int) 1 := ⟨⟨cd_yX3_keyHash, in_X3, by decide, by decide, by decide +kernel⟩, im_yX3_keyHash, se_yX3_keyHash⟩
theorem miX4_format : MIv yX4_format cX4_format 3 none 2 := ⟨⟨cd_yX4_format, in_X4, by decide, by decide, by decide +kernel⟩, im_yX4_format, se_yX4_format⟩
theorem miX4_feed : MIv yX4_feed cX4_feed 9 (some .int) 3 := ⟨⟨cd_yX4_feed, in_X4, by decide, by decide, by decide +kernel⟩, im_yX4_feed, se_yX4_feed⟩
theorem miX4_put : MIv yX4_put cX4_put 5 (some .int) 1 := ⟨⟨cd_yX4_put, in_X4, by decide, by decide, by decide +kernel⟩, im_yX4_put, se_yX4_put⟩
theorem miX4_remove : MIv yX4_remove cX4_remove 6 (some .int) 0 := ⟨⟨cd_yX4_remove, in_X4, by decide, by decide, by decide +kernel⟩, im_yX4_remove, se_yX4_remove⟩
theorem miX4_get : MIv yX4_get cX4_get 6 (some .int) 0 := ⟨⟨cd_yX4_get, in_X4, by decide, by decide, by decide +kernel⟩, im_yX4_get, se_yX4_get⟩
theorem miX4_answer : MIv yX4_answer cX4_answer 2 (some .int) 1 := ⟨⟨cd_yX4_answer, in_X4, by decide, by decide, by decide +kernel⟩, im_yX4_answer, se_yX4_answer⟩
theorem miX4_power : MIv yX4_power cX4_power 2 none 1 := ⟨⟨cd_yX4_power, in_X4, by decide, by decide, by decide +kernel⟩, im_yX4_power, se_yX4_power⟩
theorem miX4_recover : MIv yX4_recover cX4_recover 2 (some .int) 1 := ⟨⟨cd_yX4_recover, in_X4, by decide, by decide, by decide +kernel⟩, im_yX4_recover, se_yX4_recover⟩
theorem miX4_byteOf : MIv yX4_byteOf cX4_byteOf 3 (some .int) 2 := ⟨⟨cd_yX4_byteOf, in_X4, by decide, by decide, by decide +kernel⟩, im_yX4_byteOf, se_yX4_byteOf⟩
theorem miX4_kind : MIv yX4_kind cX4_kind 2 (some .int) 1 := ⟨⟨cd_yX4_kind, in_X4, by decide, by decide, by decide +kernel⟩, im_yX4_kind, se_yX4_kind⟩
theorem miX4_hash : MIv yX4_hash cX4_hash 2 (some .int) 0 := ⟨⟨cd_yX4_hash, in_X4, by decide, by decide, by decide +kernel⟩, im_yX4_hash, se_yX4_hash⟩
theorem miX4_entry : MIv yX4_entry cX4_entry 2 (some .int) 1 := ⟨⟨cd_yX4_entry, in_X4, by decide, by decide, by decide +kernel⟩, im_yX4_entry, se_yX4_entry⟩
theorem miX4_bucket : MIv yX4_bucket cX4_bucket 3 (some .int) 2 := ⟨⟨cd_yX4_bucket, in_X4, by decide, by decide, by decide +kernel⟩, im_yX4_bucket, se_yX4_bucket⟩
theorem miX4_record : MIv yX4_record cX4_record 7 (some .int) 4 := ⟨⟨cd_yX4_record, in_X4, by decide, by decide, by decide +kernel⟩, im_yX4_record, se_yX4_record⟩
theorem miX4_look : MIv yX4_look cX4_look 2 (some .int) 1 := ⟨⟨cd_yX4_look, in_X4, by decide, by decide, by decide +kernel⟩, im_yX4_look, se_yX4_look⟩
theorem miX4_makePlace : MIv yX4_makePlace cX4_makePlace 8 (some .int) 3 := ⟨⟨cd_yX4_makePlace, in_X4, by decide, by decide, by decide +kernel⟩, im_yX4_makePlace, se_yX4_makePlace⟩
theorem miX4_hasPlace : MIv yX4_hasPlace cX4_hasPlace 6 (some .boolean) 3 := ⟨⟨cd_yX4_hasPlace, in_X4, by decide, by decide, by decide +kernel⟩, im_yX4_hasPlace, se_yX4_hasPlace⟩
theorem miX4_storeRecord : MIv yX4_storeRecord cX4_storeRecord 4 (some .int) 3 := ⟨⟨cd_yX4_storeRecord, in_X4, by decide, by decide, by decide +kernel⟩, im_yX4_storeRecord, se_yX4_storeRecord⟩
theorem miX4_buildWithout : MIv yX4_buildWithout cX4_buildWithout 3 none 2 := ⟨⟨cd_yX4_buildWithout, in_X4, by decide, by decide, by decide +kernel⟩, im_yX4_buildWithout, se_yX4_buildWithout⟩
theorem miX4_addRecordsBut : MIv yX4_addRecordsBut cX4_addRecordsBut 6 none 2 := ⟨⟨cd_yX4_addRecordsBut, in_X4, by decide, by decide, by decide +kernel⟩, im_yX4_addRecordsBut, se_yX4_addRecordsBut⟩
theorem miX4_resizeDirectory : MIv yX4_resizeDirectory cX4_resizeDirectory 7 (some .int) 1 := ⟨⟨cd_yX4_resizeDirectory, in_X4, by decide, by decide, by decide +kernel⟩, im_yX4_resizeDirectory, se_yX4_resizeDirectory⟩
theorem miX4_buildDirectoryPage : MIv yX4_buildDirectoryPage cX4_buildDirectoryPage 8 none 2 := ⟨⟨cd_yX4_buildDirectoryPage, in_X4, by decide, by decide, by decide +kernel⟩, im_yX4_buildDirectoryPage, se_yX4_buildDirectoryPage⟩
theorem miX4_split : MIv yX4_split cX4_split 9 (some .int) 2 := ⟨⟨cd_yX4_split, in_X4, by decide, by decide, by decide +kernel⟩, im_yX4_split, se_yX4_split⟩
theorem miX4_buildHalf : MIv yX4_buildHalf cX4_buildHalf 8 none 3 := ⟨⟨cd_yX4_buildHalf, in_X4, by decide, by decide, by decide +kernel⟩, im_yX4_buildHalf, se_yX4_buildHalf⟩
theorem miX4_directoryPagesOf : MIs yX4_directoryPagesOf cX4_directoryPagesOf 2 (some .int) 2 := ⟨⟨cd_yX4_directoryPagesOf, in_X4, by decide, by decide, by decide +kernel⟩, sm_yX4_directoryPagesOf⟩
theorem miX4_retell : MIv yX4_retell cX4_retell 9 (some .boolean) 3 := ⟨⟨cd_yX4_retell, in_X4, by decide, by decide, by decide +kernel⟩, im_yX4_retell, se_yX4_retell⟩
theorem miX4_mergeAll : MIv yX4_mergeAll cX4_mergeAll 5 (some .int) 1 := ⟨⟨cd_yX4_mergeAll, in_X4, by decide, by decide, by decide +kernel⟩, im_yX4_mergeAll, se_yX4_mergeAll⟩
theorem miX4_mergePartner : MIv yX4_mergePartner cX4_mergePartner 5 (some .int) 1 := ⟨⟨cd_yX4_mergePartner, in_X4, by decide, by decide, by decide +kernel⟩, im_yX4_mergePartner, se_yX4_mergePartner⟩
theorem miX4_merge : MIv yX4_merge cX4_merge 11 (some .int) 2 := ⟨⟨cd_yX4_merge, in_X4, by decide, by decide, by decide +kernel⟩, im_yX4_merge, se_yX4_merge⟩
theorem miX4_halveAll : MIv yX4_halveAll cX4_halveAll 4 (some .int) 0 := ⟨⟨cd_yX4_halveAll, in_X4, by decide, by decide, by decide +kernel⟩, im_yX4_halveAll, se_yX4_halveAll⟩
theorem miX4_pagesFor : MIs yX4_pagesFor cX4_pagesFor 1 (some .int) 1 := ⟨⟨cd_yX4_pagesFor, in_X4, by decide, by decide, by decide +kernel⟩, sm_yX4_pagesFor⟩
theorem miX4_hashOf : MIs yX4_hashOf cX4_hashOf 5 (some .int) 3 := ⟨⟨cd_yX4_hashOf, in_X4, by decide, by decide, by decide +kernel⟩, sm_yX4_hashOf⟩
theorem miX5_thrown : MIv yX5_thrown cX5_thrown 1 (some .int) 0 := ⟨⟨cd_yX5_thrown, in_X5, by decide, by decide, by decide +kernel⟩, im_yX5_thrown, se_yX5_thrown⟩
theorem miX5_throwing : MIv yX5_throwing cX5_throwing 2 (some .int) 1 := ⟨⟨cd_yX5_throwing, in_X5, by decide, by decide, by decide +kernel⟩, im_yX5_throwing, se_yX5_throwing⟩
theorem miX5_anew : MIv yX5_anew cX5_anew 4 none 2 := ⟨⟨cd_yX5_anew, in_X5, by decide, by decide, by decide +kernel⟩, im_yX5_anew, se_yX5_anew⟩
theorem miX5_format : MIv yX5_format cX5_format 3 none 2 := ⟨⟨cd_yX5_format, in_X5, by decide, by decide, by decide +kernel⟩, im_yX5_format, se_yX5_format⟩
theorem miX5_at : MIv yX5_at cX5_at 3 (some .int) 2 := ⟨⟨cd_yX5_at, in_X5, by decide, by decide, by decide +kernel⟩, im_yX5_at, se_yX5_at⟩
theorem miX5_decode : MIv yX5_decode cX5_decode 4 none 0 := ⟨⟨cd_yX5_decode, in_X5, by decide, by decide, by decide +kernel⟩, im_yX5_decode, se_yX5_decode⟩
theorem miX5_isDirectory : MIv yX5_isDirectory cX5_isDirectory 3 (some .boolean) 1 := ⟨⟨cd_yX5_isDirectory, in_X5, by decide, by decide, by decide +kernel⟩, im_yX5_isDirectory, se_yX5_isDirectory⟩
theorem miX5_bucket : MIv yX5_bucket cX5_bucket 6 none 1 := ⟨⟨cd_yX5_bucket, in_X5, by decide, by decide, by decide +kernel⟩, im_yX5_bucket, se_yX5_bucket⟩
theorem miX5_keyByte : MIv yX5_keyByte cX5_keyByte 3 (some .int) 2 := ⟨⟨cd_yX5_keyByte, in_X5, by decide, by decide, by decide +kernel⟩, im_yX5_keyByte, se_yX5_keyByte⟩
theorem miX5_valueByte : MIv yX5_valueByte cX5_valueByte 3 (some .int) 2 := ⟨⟨cd_yX5_valueByte, in_X5, by decide, by decide, by decide +kernel⟩, im_yX5_valueByte, se_yX5_valueByte⟩
theorem miX5_bytesOf : MIv yX5_bytesOf cX5_bytesOf 4 (some .int) 1 := ⟨⟨cd_yX5_bytesOf, in_X5, by decide, by decide, by decide +kernel⟩, im_yX5_bytesOf, se_yX5_bytesOf⟩
theorem miX5_step : MIs yX5_step cX5_step 3 (some .int) 2 := ⟨⟨cd_yX5_step, in_X5, by decide, by decide, by decide +kernel⟩, sm_yX5_step⟩
theorem miX5_hashOf : MIv yX5_hashOf cX5_hashOf 4 (some .int) 1 := ⟨⟨cd_yX5_hashOf, in_X5, by decide, by decide, by decide +kernel⟩, im_yX5_hashOf, se_yX5_hashOf⟩
theorem miX5_tapeHash : MIv yX5_tapeHash cX5_tapeHash 4 (some .int) 1 := ⟨⟨cd_yX5_tapeHash, in_X5, by decide, by decide, by decide +kernel⟩, im_yX5_tapeHash, se_yX5_tapeHash⟩
theorem miX5_first : MIs yX5_first cX5_first 2 (some .int) 2 := ⟨⟨cd_yX5_first, in_X5, by decide, by decide, by decide +kernel⟩, sm_yX5_first⟩
theorem miX5_render : MIv yX5_render cX5_render 7 none 1 := ⟨⟨cd_yX5_render, in_X5, by decide, by decide, by decide +kernel⟩, im_yX5_render, se_yX5_render⟩
theorem miX5_writes : MIv yX5_writes cX5_writes 3 (some .boolean) 1 := ⟨⟨cd_yX5_writes, in_X5, by decide, by decide, by decide +kernel⟩, im_yX5_writes, se_yX5_writes⟩
theorem miX5_journal : MIv yX5_journal cX5_journal 3 none 1 := ⟨⟨cd_yX5_journal, in_X5, by decide, by decide, by decide +kernel⟩, im_yX5_journal, se_yX5_journal⟩
theorem miX5_allWritten : MIv yX5_allWritten cX5_allWritten 2 (some .boolean) 0 := ⟨⟨cd_yX5_allWritten, in_X5, by decide, by decide, by decide +kernel⟩, im_yX5_allWritten, se_yX5_allWritten⟩
theorem miX5_changed : MIv yX5_changed cX5_changed 1 (some .int) 0 := ⟨⟨cd_yX5_changed, in_X5, by decide, by decide, by decide +kernel⟩, im_yX5_changed, se_yX5_changed⟩
theorem miX5_wroteBucket : MIv yX5_wroteBucket cX5_wroteBucket 2 (some .int) 1 := ⟨⟨cd_yX5_wroteBucket, in_X5, by decide, by decide, by decide +kernel⟩, im_yX5_wroteBucket, se_yX5_wroteBucket⟩
theorem miX5_isKey : MIv yX5_isKey cX5_isKey 5 (some .boolean) 2 := ⟨⟨cd_yX5_isKey, in_X5, by decide, by decide, by decide +kernel⟩, im_yX5_isKey, se_yX5_isKey⟩
theorem miX5_bucketOf : MIv yX5_bucketOf cX5_bucketOf 2 (some .int) 1 := ⟨⟨cd_yX5_bucketOf, in_X5, by decide, by decide, by decide +kernel⟩, im_yX5_bucketOf, se_yX5_bucketOf⟩
theorem miX5_find : MIv yX5_find cX5_find 4 (some .int) 2 := ⟨⟨cd_yX5_find, in_X5, by decide, by decide, by decide +kernel⟩, im_yX5_find, se_yX5_find⟩
theorem miX5_free : MIv yX5_free cX5_free 3 (some .int) 1 := ⟨⟨cd_yX5_free, in_X5, by decide, by decide, by decide +kernel⟩, im_yX5_free, se_yX5_free⟩
theorem miX5_copyRecord : MIv yX5_copyRecord cX5_copyRecord 4 none 2 := ⟨⟨cd_yX5_copyRecord, in_X5, by decide, by decide, by decide +kernel⟩, im_yX5_copyRecord, se_yX5_copyRecord⟩
theorem miX5_drop : MIv yX5_drop cX5_drop 4 none 2 := ⟨⟨cd_yX5_drop, in_X5, by decide, by decide, by decide +kernel⟩, im_yX5_drop, se_yX5_drop⟩
theorem miX5_doubles : MIv yX5_doubles cX5_doubles 5 (some .int) 0 := ⟨⟨cd_yX5_doubles, in_X5, by decide, by decide, by decide +kernel⟩, im_yX5_doubles, se_yX5_doubles⟩
theorem miX5_unlike : MIv yX5_unlike cX5_unlike 6 (some .int) 1 := ⟨⟨cd_yX5_unlike, in_X5, by decide, by decide, by decide +kernel⟩, im_yX5_unlike, se_yX5_unlike⟩
theorem miX5_splits : MIv yX5_splits cX5_splits 6 (some .int) 1 := ⟨⟨cd_yX5_splits, in_X5, by decide, by decide, by decide +kernel⟩, im_yX5_splits, se_yX5_splits⟩
theorem miX5_isAlike : MIv yX5_isAlike cX5_isAlike 5 (some .boolean) 2 := ⟨⟨cd_yX5_isAlike, in_X5, by decide, by decide, by decide +kernel⟩, im_yX5_isAlike, se_yX5_isAlike⟩
theorem miX5_filled : MIv yX5_filled cX5_filled 6 (some .int) 3 := ⟨⟨cd_yX5_filled, in_X5, by decide, by decide, by decide +kernel⟩, im_yX5_filled, se_yX5_filled⟩
theorem miX5_put : MIv yX5_put cX5_put 8 (some .int) 1 := ⟨⟨cd_yX5_put, in_X5, by decide, by decide, by decide +kernel⟩, im_yX5_put, se_yX5_put⟩
theorem miX5_buddy : MIv yX5_buddy cX5_buddy 5 (some .int) 1 := ⟨⟨cd_yX5_buddy, in_X5, by decide, by decide, by decide +kernel⟩, im_yX5_buddy, se_yX5_buddy⟩
theorem miX5_merges : MIv yX5_merges cX5_merges 9 (some .int) 1 := ⟨⟨cd_yX5_merges, in_X5, by decide, by decide, by decide +kernel⟩, im_yX5_merges, se_yX5_merges⟩
theorem miX5_halves : MIv yX5_halves cX5_halves 3 (some .int) 0 := ⟨⟨cd_yX5_halves, in_X5, by decide, by decide, by decide +kernel⟩, im_yX5_halves, se_yX5_halves⟩
theorem miX5_remove : MIv yX5_remove cX5_remove 6 (some .int) 0 := ⟨⟨cd_yX5_remove, in_X5, by decide, by decide, by decide +kernel⟩, im_yX5_remove, se_yX5_remove⟩
theorem miX5_feed : MIv yX5_feed cX5_feed 7 (some .int) 3 := ⟨⟨cd_yX5_feed, in_X5, by decide, by decide, by decide +kernel⟩, im_yX5_feed, se_yX5_feed⟩
theorem miX5_get : MIv yX5_get cX5_get 6 (some .int) 0 := ⟨⟨cd_yX5_get, in_X5, by decide, by decide, by decide +kernel⟩, im_yX5_get, se_yX5_get⟩
theorem miX5_answer : MIv yX5_answer cX5_answer 2 (some .int) 1 := ⟨⟨cd_yX5_answer, in_X5, by decide, by decide, by decide +kernel⟩, im_yX5_answer, se_yX5_answer⟩
theorem miX5_power : MIv yX5_power cX5_power 2 none 1 := ⟨⟨cd_yX5_power, in_X5, by decide, by decide, by decide +kernel⟩, im_yX5_power, se_yX5_power⟩
theorem miX5_recover : MIv yX5_recover cX5_recover 5 (some .int) 1 := ⟨⟨cd_yX5_recover, in_X5, by decide, by decide, by decide +kernel⟩, im_yX5_recover, se_yX5_recover⟩
theorem miX5_isPage : MIv yX5_isPage cX5_isPage 2 (some .boolean) 1 := ⟨⟨cd_yX5_isPage, in_X5, by decide, by decide, by decide +kernel⟩, im_yX5_isPage, se_yX5_isPage⟩
theorem miX5_byteOf : MIv yX5_byteOf cX5_byteOf 3 (some .int) 2 := ⟨⟨cd_yX5_byteOf, in_X5, by decide, by decide, by decide +kernel⟩, im_yX5_byteOf, se_yX5_byteOf⟩
theorem miX5_kindOf : MIv yX5_kindOf cX5_kindOf 2 (some .int) 1 := ⟨⟨cd_yX5_kindOf, in_X5, by decide, by decide, by decide +kernel⟩, im_yX5_kindOf, se_yX5_kindOf⟩
theorem miX5_kind : MIv yX5_kind cX5_kind 2 (some .int) 1 := ⟨⟨cd_yX5_kind, in_X5, by decide, by decide, by decide +kernel⟩, im_yX5_kind, se_yX5_kind⟩
theorem miX5_hash : MIv yX5_hash cX5_hash 1 (some .int) 0 := ⟨⟨cd_yX5_hash, in_X5, by decide, by decide, by decide +kernel⟩, im_yX5_hash, se_yX5_hash⟩
theorem miX5_entry : MIv yX5_entry cX5_entry 2 (some .int) 1 := ⟨⟨cd_yX5_entry, in_X5, by decide, by decide, by decide +kernel⟩, im_yX5_entry, se_yX5_entry⟩
theorem miX5_bucket_ : MIv yX5_bucket_ cX5_bucket_ 3 (some .int) 2 := ⟨⟨cd_yX5_bucket_, in_X5, by decide, by decide, by decide +kernel⟩, im_yX5_bucket_, se_yX5_bucket_⟩
theorem miX5_record : MIv yX5_record cX5_record 6 (some .int) 4 := ⟨⟨cd_yX5_record, in_X5, by decide, by decide, by decide +kernel⟩, im_yX5_record, se_yX5_record⟩
theorem miX5_manyOf : MIv yX5_manyOf cX5_manyOf 4 (some .int) 1 := ⟨⟨cd_yX5_manyOf, in_X5, by decide, by decide, by decide +kernel⟩, im_yX5_manyOf, se_yX5_manyOf⟩
theorem miX5_look : MIv yX5_look cX5_look 4 (some .int) 1 := ⟨⟨cd_yX5_look, in_X5, by decide, by decide, by decide +kernel⟩, im_yX5_look, se_yX5_look⟩
theorem miJ9_min_7cf53 : MIs yJ9_min_7cf53 cJ9_min_7cf53 2 (some .int) 2 := ⟨⟨cd_yJ9_min_7cf53, in_J9, by decide, by decide, by decide +kernel⟩, sm_yJ9_min_7cf53⟩
theorem miJ7_fill_53178 : MIs yJ7_fill_53178 cJ7_fill_53178 4 none 2 := ⟨⟨cd_yJ7_fill_53178, in_J7, by decide, by decide, by decide +kernel⟩, sm_yJ7_fill_53178⟩
abbrev TY (cI cB cJ cZ : ClassId) : List (ClassId × FieldType) := [(cI, .int), (cB, .byte), (cJ, .long), (cZ, .boolean)]
theorem nl_X1_97 : Cond.methodLinkNest RX1 97 yX4_pagesFor RX4 ∈ nestW := by simp [nestW]
theorem nl_X3_19 : Cond.methodLinkNest RX3 19 yX4_hashOf RX4 ∈ nestW := by simp [nestW]
theorem nl_X1_115 : Cond.methodLinkNest RX1 115 yX4_hashOf RX4 ∈ nestW := by simp [nestW]
theorem v_rdVi {x : Kx} {cc : ByteArray} {nL : Nat} {own : String} {ret : Option FieldType} {D : va_G} {tys : List (ClassId × FieldType)} {rm : Room} {A : Nat → Prop} {wr : Bool} {cells slots : Nat} {ws : va_W} {pc n : Nat} {lv : List (Nat × Value)} {st : List Value} (k : Kf x cc nL own ret D tys rm) {y : MethodName} {b : ByteArray} {ml np i a : Nat} {rt : Option FieldType} {rmc : Room} {As stk : List Value} {wc : va_W} {r : Value} {T : u_T} {N ci : Nat} {fs : List Value} (is : List Nat) (q0 : Nat) (hM : ∀ l, Rd l y b ml rt rmc D tys (.ref a :: As) wc (fun v => v = some r)) (hi : MIv y b ml rt np) (hl : Cond.methodLink own i y ∈ TB) (hR : rmc.frames + 1 ≤ rm.frames ∧ 8 + (ml + 11) + rmc.locals ≤ rm.locals) (hz : rmc.cells = 0 ∧ rmc.slots = 0)
    (his : is.map (fun i => ws[i]?) = wc.map some) (hnd : va_nd is = true) (he : ws[q0]? = some (a, .inr (ci, fs))) (hc : vwCl[ci]? = some (y.cls, T, N)) (hnp : As.length = np) (hst : stk = As.reverse ++ .ref a :: st) (hW : (st.map fun v => v.category).sum ≤ 8) (hcs : cells + 0 ≤ x.2.2.2.1.cells ∧ slots + 0 ≤ x.2.2.2.1.slots) (hd : decode cc pc = .ok (.invokevirtual i, 3)) (hn : pc + 3 = n)
    (h : Vw x nL A D wr cells slots ws n lv (r :: st)) : Vw x nL A D wr cells slots ws pc lv stk :=
  v_rdV k is q0 hM hi hl hR hz his hnd he hc hnp hst hW hcs hd hn (fun _ e => by subst e; exact h)
theorem v_rdSi {x : Kx} {cc : ByteArray} {nL : Nat} {own : String} {ret : Option FieldType} {D : va_G} {tys : List (ClassId × FieldType)} {rm : Room} {A : Nat → Prop} {wr : Bool} {cells slots : Nat} {ws : va_W} {pc n : Nat} {lv : List (Nat × Value)} {st : List Value} (k : Kf x cc nL own ret D tys rm) {y : MethodName} {b : ByteArray} {ml np i : Nat} {rt : Option FieldType} {rmc : Room} {As stk : List Value} {wc : va_W} {r : Value} (is : List Nat) (hM : ∀ l, Rd l y b ml rt rmc D tys As wc (fun v => v = some r)) (hi : MIs y b ml rt np) (hl : Cond.methodLink own i y ∈ TB) (hR : rmc.frames + 1 ≤ rm.frames ∧ 8 + (ml + 11) + rmc.locals ≤ rm.locals) (hz : rmc.cells = 0 ∧ rmc.slots = 0)
    (his : is.map (fun i => ws[i]?) = wc.map some) (hnd : va_nd is = true) (hnp : As.length = np) (hst : stk = As.reverse ++ st) (hW : (st.map fun v => v.category).sum ≤ 8) (hcs : cells + 0 ≤ x.2.2.2.1.cells ∧ slots + 0 ≤ x.2.2.2.1.slots) (hd : decode cc pc = .ok (.invokestatic i, 3)) (hn : pc + 3 = n)
    (h : Vw x nL A D wr cells slots ws n lv (r :: st)) : Vw x nL A D wr cells slots ws pc lv stk :=
  v_rdS k is hM hi hl hR hz his hnd hnp hst hW hcs hd hn (fun _ e => by subst e; exact h)
theorem v_rdSNi {x : Kx} {cc : ByteArray} {nL : Nat} {own : String} {ret : Option FieldType} {D : va_G} {tys : List (ClassId × FieldType)} {rm : Room} {A : Nat → Prop} {wr : Bool} {cells slots : Nat} {ws : va_W} {pc n : Nat} {lv : List (Nat × Value)} {st : List Value} (k : Kf x cc nL own ret D tys rm) {y : MethodName} {b : ByteArray} {ml np i : Nat} {rt : Option FieldType} {rmc : Room} {As stk : List Value} {wc : va_W} {r : Value} {host : String} (is : List Nat) (hM : ∀ l, Rd l y b ml rt rmc D tys As wc (fun v => v = some r)) (hi : MIs y b ml rt np) (hl : Cond.methodLinkNest own i y host ∈ nestW) (hR : rmc.frames + 1 ≤ rm.frames ∧ 8 + (ml + 11) + rmc.locals ≤ rm.locals) (hz : rmc.cells = 0 ∧ rmc.slots = 0)
    (his : is.map (fun i => ws[i]?) = wc.map some) (hnd : va_nd is = true) (hnp : As.length = np) (hst : stk = As.reverse ++ st) (hW : (st.map fun v => v.category).sum ≤ 8) (hcs : cells + 0 ≤ x.2.2.2.1.cells ∧ slots + 0 ≤ x.2.2.2.1.slots) (hd : decode cc pc = .ok (.invokestatic i, 3)) (hn : pc + 3 = n)
    (h : Vw x nL A D wr cells slots ws n lv (r :: st)) : Vw x nL A D wr cells slots ws pc lv stk :=
  v_rdSN k is hM hi hl hR hz his hnd hnp hst hW hcs hd hn (fun _ e => by subst e; exact h)
end
section
/-! ints of naturals: bits, shifts, quotients; the hash -/
theorem ax_and (a b : Nat) : iI a &&& iI b = iI ((a &&& b : Nat) : Int) := by
  apply Int32.toBitVec_inj.1
  show BitVec.ofNat 32 a &&& BitVec.ofNat 32 b = BitVec.ofNat 32 (a &&& b)
  apply BitVec.eq_of_getLsbD_eq
  intro i hi
  simp [hi]
theorem ax_xor (a b : Nat) : iI a ^^^ iI b = iI ((a ^^^ b : Nat) : Int) := by
  apply Int32.toBitVec_inj.1
  show BitVec.ofNat 32 a ^^^ BitVec.ofNat 32 b = BitVec.ofNat 32 (a ^^^ b)
  apply BitVec.eq_of_getLsbD_eq
  intro i hi
  simp [hi]
theorem ax_or (a b : Nat) : iI a ||| iI b = iI ((a ||| b : Nat) : Int) := by
  apply Int32.toBitVec_inj.1
  show BitVec.ofNat 32 a ||| BitVec.ofNat 32 b = BitVec.ofNat 32 (a ||| b)
  apply BitVec.eq_of_getLsbD_eq
  intro i hi
  simp [hi]
theorem ax_m16 {z : Int} {a : Nat} (h : z = a) : iI z &&& iI 65535 = iI ((a % 65536 : Nat) : Int) := by
  subst h
  have := ax_and a 65535
  rw [show (65535 : Nat) = 2 ^ 16 - 1 from rfl, Nat.and_two_pow_sub_one_eq_mod] at this
  exact this
theorem ax_m8 {z : Int} {a : Nat} (h : z = a) : iI z &&& iI 255 = iI ((a % 256 : Nat) : Int) := by
  subst h
  have := ax_and a 255
  rw [show (255 : Nat) = 2 ^ 8 - 1 from rfl, Nat.and_two_pow_sub_one_eq_mod] at this
  exact this
theorem ax_m3 {z : Int} {a : Nat} (h : z = a) : iI z &&& iI 7 = iI ((a % 8 : Nat) : Int) := by
  subst h
  have := ax_and a 7
  rw [show (7 : Nat) = 2 ^ 3 - 1 from rfl, Nat.and_two_pow_sub_one_eq_mod] at this
  exact this
theorem ax_m1 {z : Int} {a : Nat} (h : z = a) : iI z &&& iI 1 = iI ((a % 2 : Nat) : Int) := by
  subst h
  have := ax_and a 1
  rw [show (1 : Nat) = 2 ^ 1 - 1 from rfl, Nat.and_two_pow_sub_one_eq_mod] at this
  exact this
theorem ax_div {z y : Int} {a d : Nat} (h : z = a) (hy : y = d) (ha : a < 2147483648) (h0 : 0 < d) (hd : d < 2147483648) : iI z / iI y = iI ((a / d : Nat) : Int) := by
  subst h; subst hy
  exact pk_div (by omega) h0 (by omega)
theorem ax_rem {z y : Int} {a d : Nat} (h : z = a) (hy : y = d) (ha : a < 2147483648) (h0 : 0 < d) (hd : d < 2147483648) : iI z - iI z / iI y * iI y = iI ((a % d : Nat) : Int) := by
  subst h; subst hy
  exact pk_rem (by omega) h0 (by omega)
theorem ax_s : ∀ n, n < 32 → ((nI n &&& 31).toBitVec.smod 32).toNat = n := by decide +kernel
theorem ax_shl {z y : Int} {a d : Nat} (h : z = a) (hy : y = d) (hd : d < 32) (hb : a * 2 ^ d < 4294967296) : iI z <<< (iI y &&& 31) = iI ((a * 2 ^ d : Nat) : Int) := by
  subst h; subst hy
  exact pk_shlN (nI d &&& 31) d (ax_s d hd) (by omega)
theorem ax_shr {z y : Int} {a d : Nat} (h : z = a) (hy : y = d) (hd : d < 32) (ha : a < 2147483648) : iI z >>> (iI y &&& 31) = iI ((a / 2 ^ d : Nat) : Int) := by
  subst h; subst hy
  exact pk_shrN (by omega) (nI d &&& 31) d (ax_s d hd)
theorem ax_ne0 {y : Int} (h0 : 0 < y) (hd : y < 2147483648) : ¬ iI y = 0 := iI_ne0 ⟨by omega, by omega⟩ (by omega)
/-- one step of the hash -/
def hst (h b : Nat) : Nat := (((h ^^^ b) * 40503) % 65536) ^^^ ((((h ^^^ b) * 40503) % 65536) / 32)
/-- the hash of n bytes of f from a on -/
def hsh (f : Nat → Nat) (a : Nat) : Nat → Nat
  | 0 => 40503
  | n + 1 => hst (hsh f a n) (f (a + n))
theorem hst_lt (h b : Nat) : hst h b < 65536 := by
  unfold hst
  have h1 : ((h ^^^ b) * 40503) % 65536 < 2 ^ 16 := Nat.mod_lt _ (by decide)
  have h2 : (((h ^^^ b) * 40503) % 65536) / 32 < 2 ^ 16 := Nat.lt_of_le_of_lt (Nat.div_le_self _ _) h1
  exact Nat.xor_lt_two_pow h1 h2
theorem hsh_lt (f : Nat → Nat) (a n : Nat) : hsh f a n < 65536 := by
  cases n with
  | zero => show 40503 < 65536; decide
  | succ n => exact hst_lt _ _
theorem xor_lt16 {a b : Nat} (ha : a < 65536) (hb : b < 65536) : a ^^^ b < 65536 := Nat.xor_lt_two_pow (n := 16) ha hb
abbrev aN (cI : ClassId) (h n : Nat) (g : Nat → Nat) : Nat × va_E := (h, .inl (cI, n, .inl (fun j => iI ((g j : Nat) : Int))))
abbrev oDisk (hd hc hk : Nat) (ko : Int) (pg lg : Nat) (wt al dn : Int) : Nat × va_E := (hd, .inr (1, [.ref hc, .ref hk, .int (iI ko), .int (iI (pg : Int)), .int (iI (lg : Int)), .int (iI wt), .int (iI al), .int (iI dn)]))
abbrev oPage (h hb : Nat) : Nat × va_E := (h, .inr (2, [.ref hb]))
abbrev oTape (h hb : Nat) (sz : Int) : Nat × va_E := (h, .inr (3, [.ref hb, .int (iI sz)]))
abbrev oChange (h hd hj hi : Nat) : Nat × va_E := (h, .inr (0, [.ref hd, .ref hj, .ref hi]))
abbrev oHash (h hd hc hb hh ht ha : Nat) (an : Int) : Nat × va_E := (h, .inr (4, [.ref hd, .ref hc, .ref hb, .ref hh, .ref ht, .ref ha, .int (iI an)]))
/-- byte i of page p -/
def pb (C : Nat → Nat) (p i : Nat) : Nat := C (p * 256 + i)
end
section
/-! System.arraycopy between two rows of naturals; Math.min -/
def cpN (f g : Nat → Nat) (sp dp n : Nat) : Nat → Nat := fun k => if dp ≤ k ∧ k < dp + n then f (sp + (k - dp)) else g k
theorem cpN_eq (f g : Nat → Nat) (sp dp n : Nat) : va_cpy (fun j => iI ((f j : Nat) : Int)) (fun j => iI ((g j : Nat) : Int)) sp dp n = fun j => iI ((cpN f g sp dp n j : Nat) : Int) := by
  funext k
  simp only [va_cpy, cpN]
  split <;> rfl
theorem iI_min {a b : Int} (ha : in32 a) (hb : in32 b) : (if iI b < iI a then iI b else iI a) = iI (min a b) := by
  by_cases h : b < a
  · rw [if_pos ((iI_lt hb ha).mpr h), Int.min_def, if_neg (by omega)]
  · rw [if_neg (fun e => h ((iI_lt hb ha).mp e)), Int.min_def, if_pos (by omega)]
section VCP
variable {x : Kx} {cc : ByteArray} {nL : Nat} {own : String} {ret : Option FieldType} {D : va_G} {tys : List (ClassId × FieldType)} {rm : Room} {A : Nat → Prop} {wr : Bool} {cells slots : Nat} {ws : va_W} {pc n : Nat} {lv lv' : List (Nat × Value)} {st : List Value}
theorem v_copyN (k : Kf x cc nL own ret D tys rm) {i : Nat} (hl : Cond.methodLink own i arraycopyName ∈ TB) (q0 q1 t0 : Nat) {a0 a1 : Nat} {cA : ClassId} {n0 n1 : Nat} {f g : Nat → Nat} (ht : tys[t0]? = some (cA, .int)) (he0 : ws[q0]? = some (a0, .inl (cA, n0, .inl (fun j => iI ((f j : Nat) : Int))))) (he1 : ws[q1]? = some (a1, .inl (cA, n1, .inl (fun j => iI ((g j : Nat) : Int)))))
    {SP DP NN : Int} (sp dp nn : Nat) (h1 : SP = (sp : Int)) (h2 : DP = (dp : Int)) (h3 : NN = (nn : Int)) (h4 : sp + nn ≤ n0) (h5 : dp + nn ≤ n1) (hn0 : n0 < 2147483648) (hn1 : n1 < 2147483648) (hfr : 1 ≤ rm.frames) (hlo : (st.map fun v => v.category).sum + (nativeFrameWords "java/lang/System" "arraycopy" 5 + 11) ≤ rm.locals) (hd : decode cc pc = .ok (.invokestatic i, 3)) (hn : pc + 3 = n)
    (h : Vw x nL A D true cells slots (ws.set q1 (a1, .inl (cA, n1, .inl (fun j => iI ((cpN f g sp dp nn j : Nat) : Int))))) n lv st) : Vw x nL A D true cells slots ws pc lv (.int (iI NN) :: .int (iI DP) :: .ref a1 :: .int (iI SP) :: .ref a0 :: st) := by
  subst hn; subst h1; subst h2; subst h3
  intro H locs ls a' b' c d
  have e1 : (iI (sp : Int)).toNatClampNeg = sp := by rw [iI_clamp ⟨by omega, by omega⟩, Int.toNat_natCast]
  have e2 : (iI (dp : Int)).toNatClampNeg = dp := by rw [iI_clamp ⟨by omega, by omega⟩, Int.toNat_natCast]
  have e3 : (iI (nn : Int)).toNatClampNeg = nn := by rw [iI_clamp ⟨by omega, by omega⟩, Int.toNat_natCast]
  have z : in32 0 := ⟨by omega, by omega⟩
  have nn0 : ∀ y : Nat, y < 2147483648 → ¬ iI (y : Int) < 0 := fun y hy e => by
    have := (iI_lt (a := (y : Int)) ⟨by omega, by omega⟩ z).mp e
    omega
  have hfr' := hfr
  have hlo' := hlo
  rw [← k.2.2.2.2.2.2.2.2] at hfr' hlo'
  refine va_copyi k.1 k.2.1 (k.2.2.1.trans d.1.symm) k.2.2.2.1 (k.2.2.2.2.1 _ hl) (k.2.2.2.2.1 _ nm_arraycopyName) (k.2.2.2.2.1 _ sm_arraycopyName) (k.2.2.2.2.1 _ in_J10) k.2.2.2.2.2.2.2.1.1 a' b' c.1 q0 q1 t0 t0 he0 he1 ht ht rfl (nn0 sp (by omega)) (nn0 dp (by omega)) (nn0 nn (by omega)) (by rw [e1, e3]; exact h4) (by rw [e2, e3]; exact h5) (fun _ _ => rfl) hfr' hlo' hd (fun H1 l1 p1 d1 s1 => ?_)
  rw [e1, e2, e3, cpN_eq] at p1 d1
  exact h H1 l1 ls p1 d1 ⟨s1, fun h9 => by cases h9⟩ d
theorem v_min (k : Kf x cc nL own ret D tys rm) {i : Nat} (hl : Cond.methodLink own i Lib.Math.min.name ∈ TB) {a b : Int} (ha : in32 a) (hb : in32 b) (hfr : 1 ≤ rm.frames) (hlo : (st.map fun v => v.category).sum + 13 ≤ rm.locals) (hc : cells ≤ rm.cells) (hs : slots ≤ rm.slots) (hd : decode cc pc = .ok (.invokestatic i, 3)) (hn : pc + 3 = n)
    (h : Vw x nL A D wr cells slots ws n lv (.int (iI (min a b)) :: st)) : Vw x nL A D wr cells slots ws pc lv (.int (iI b) :: .int (iI a) :: st) := by
  subst hn
  intro H locs ls a' b' c d
  rw [← k.2.2.2.2.2.2.2.2] at hfr hlo hc hs
  refine va_mmin k.1 k.2.1 (k.2.2.1.trans d.1.symm) k.2.2.2.1 (k.2.2.2.2.1 _ hl) (k.2.2.2.2.1 _ sm_yJ9_min_7cf53) (k.2.2.2.2.1 _ in_J9) (k.2.2.2.2.1 _ cd_yJ9_min_7cf53) hfr hlo hc hs hd ?_
  rw [iI_min ha hb]
  exact h H locs ls a' b' c d
end VCP
end
section
theorem p2_le {d : Nat} (h : d ≤ 16) : 2 ^ d ≤ 65536 := Nat.le_trans (Nat.pow_le_pow_right (n := 2) (by decide) h) (by decide)
set_option maxHeartbeats 1000000 in
set_option maxRecDepth 20000 in
theorem lp_X4_hashOf {D : va_G} {cI cB cJ cZ : ClassId} {x : Kx} {h0 N : Nat} {f : Nat → Nat} {s z : Nat} {S Z : Int} (k : Kf x cX4_hashOf 5 yX4_hashOf.cls (some .int) D (TY cI cB cJ cZ) ({ frames := 0, cells := 0, slots := 0, locals := 0 })) (hq : isR x (fun v => v = some (.int (iI ((hsh f s z : Nat) : Int))))) (hS : S = (s : Int)) (hZ : Z = (z : Int)) (hb : s + z ≤ N) (hN : N < 1000000) : ∀ (m : Nat) (i : Nat) (I Hh : Int), z < i + m → i ≤ z → I = ((s + i : Nat) : Int) → Hh = ((hsh f s i : Nat) : Int) → Vw x 5 (fun _ => True) D false 0 0 [aN cI h0 N f] 7 [(0, .ref h0), (1, .int (iI S)), (2, .int (iI Z)), (3, .int (iI Hh)), (4, .int (iI I))] [] := by
  intro m
  induction m with
  | zero => intro i I Hh hm hi e2 e3; omega
  | succ m ih =>
    intro i I Hh hm hi e2 e3
    refine v_iload (n := 9) k dX4_hashOf_7 rfl rfl ?_
    refine v_iload_n (n := 10) k dX4_hashOf_9 rfl rfl ?_
    refine v_iload_n (n := 11) k dX4_hashOf_10 rfl rfl ?_
    refine v_iadd (n := 12) k dX4_hashOf_11 rfl ?_
    refine v_icmp_ge (n := 15) (t := 55) k (⟨by omega, by omega⟩) (⟨by omega, by omega⟩) dX4_hashOf_12 (by decide) rfl (fun c_12 => ?_) (fun c_12 => ?_)
    · refine v_iload_n (n := 56) k dX4_hashOf_55 rfl rfl ?_
      refine v_iretR k hq ?_ dX4_hashOf_56
      have hz : i = z := by omega
      rw [e3, hz]
    · refine v_iload (n := 17) k dX4_hashOf_15 rfl rfl ?_
      refine v_if_lt (n := 20) (t := 49) k (⟨by omega, by omega⟩) dX4_hashOf_17 (by decide) rfl (fun c_17 => ?_) (fun c_17 => ?_)
      · exfalso; omega
      · refine v_iload (n := 22) k dX4_hashOf_20 rfl rfl ?_
        refine v_aload_n (n := 23) k dX4_hashOf_22 rfl rfl ?_
        refine v_alen (n := 24) k 0 0 rfl rfl dX4_hashOf_23 rfl ?_
        refine v_icmp_ge (n := 27) (t := 49) k (⟨by omega, by omega⟩) (⟨by omega, by omega⟩) dX4_hashOf_24 (by decide) rfl (fun c_24 => ?_) (fun c_24 => ?_)
        · exfalso; omega
        · refine v_iload_n (n := 28) k dX4_hashOf_27 rfl rfl ?_
          refine v_aload_n (n := 29) k dX4_hashOf_28 rfl rfl ?_
          refine v_iload (n := 31) k dX4_hashOf_29 rfl rfl ?_
          refine v_ialdN (n := 32) k 0 0 (s + i) rfl rfl (by omega) (by omega) (by omega) dX4_hashOf_31 rfl ?_
          refine v_ixor (n := 33) k (((hsh f s i ^^^ f (s + i) : Nat) : Int)) (by rw [e3]; exact ax_xor _ _) dX4_hashOf_32 rfl ?_
          refine v_ldcw (n := 36) k co_X4_264 dX4_hashOf_33 rfl ?_
          refine v_imul (n := 37) k dX4_hashOf_36 rfl ?_
          refine v_ldcw (n := 40) k co_X4_265 dX4_hashOf_37 rfl ?_
          refine v_iand (n := 41) k ((((hsh f s i ^^^ f (s + i)) * 40503 % 65536 : Nat) : Int)) (ax_m16 (by omega)) dX4_hashOf_40 rfl ?_
          refine v_istore_n (n := 42) k dX4_hashOf_41 rfl (by decide) rfl rfl ?_
          refine v_iload_n (n := 43) k dX4_hashOf_42 rfl rfl ?_
          refine v_iload_n (n := 44) k dX4_hashOf_43 rfl rfl ?_
          refine v_bipush (n := 46) k dX4_hashOf_44 (by decide) rfl ?_
          refine v_idiv (n := 47) k ((((hsh f s i ^^^ f (s + i)) * 40503 % 65536 / 32 : Nat) : Int)) (ax_ne0 (by omega) (by omega)) (ax_div rfl rfl (by omega) (by omega) (by omega)) dX4_hashOf_46 rfl ?_
          refine v_ixor (n := 48) k (((((hsh f s i ^^^ f (s + i)) * 40503 % 65536) ^^^ ((hsh f s i ^^^ f (s + i)) * 40503 % 65536 / 32) : Nat) : Int)) (ax_xor _ _) dX4_hashOf_47 rfl ?_
          refine v_istore_n (n := 49) k dX4_hashOf_48 rfl (by decide) rfl rfl ?_
          refine v_iinc (n := 52) k dX4_hashOf_49 rfl (by decide) rfl rfl rfl ?_
          refine v_goto (t := 7) k dX4_hashOf_52 (by decide) ?_
          exact ih (i + 1) _ _ (by omega) (by omega) (by omega) rfl
set_option maxHeartbeats 1000000 in
set_option maxRecDepth 20000 in
theorem z_X4_hashOf {D : va_G} {cI cB cJ cZ : ClassId} {h0 N : Nat} {f : Nat → Nat} {s z : Nat} {S Z : Int} (hS : S = (s : Int)) (hZ : Z = (z : Int)) (hb : s + z ≤ N) (hN : N < 1000000) : ∀ l, Rd l yX4_hashOf cX4_hashOf 5 (some .int) ({ frames := 0, cells := 0, slots := 0, locals := 0 }) D (TY cI cB cJ cZ) [.ref h0, .int (iI S), .int (iI Z)] [aN cI h0 N f] (fun v => v = some (.int (iI ((hsh f s z : Nat) : Int)))) := by
  intro l
  refine Rd_of (by decide) (Nat.le_of_ble_eq_true rfl) (fun x k hq => ?_)
  refine v_ldcw (n := 3) k co_X4_264 dX4_hashOf_0 rfl ?_
  refine v_istore_n (n := 4) k dX4_hashOf_3 rfl (by decide) rfl rfl ?_
  refine v_iload_n (n := 5) k dX4_hashOf_4 rfl rfl ?_
  refine v_istore (n := 7) k dX4_hashOf_5 rfl (by decide) rfl rfl ?_
  exact lp_X4_hashOf k hq hS hZ hb hN (z + 1) 0 _ _ (by omega) (by omega) (by omega) rfl
def pF (d : Nat) : Nat := if d ≤ 8 then 1 else 2 ^ (d - 8)
theorem pF_le {d : Nat} (h : d ≤ 16) : pF d ≤ 256 := by
  unfold pF
  split
  · decide
  · exact Nat.le_trans (Nat.pow_le_pow_right (n := 2) (j := 8) (by decide) (by omega)) (by decide)
theorem pF_pos (d : Nat) : 0 < pF d := by
  unfold pF
  split
  · decide
  · exact Nat.two_pow_pos _
set_option maxHeartbeats 1000000 in
set_option maxRecDepth 20000 in
theorem z_X4_pagesFor {D : va_G} {cI cB cJ cZ : ClassId} {d : Nat} {Q : Int} (hQ : Q = (d : Int)) (hd : d ≤ 16) : ∀ l, Rd l yX4_pagesFor cX4_pagesFor 1 (some .int) ({ frames := 0, cells := 0, slots := 0, locals := 0 }) D (TY cI cB cJ cZ) [.int (iI Q)] [] (fun v => v = some (.int (iI ((pF d : Nat) : Int)))) := by
  intro l
  refine Rd_of (by decide) (Nat.le_of_ble_eq_true rfl) (fun x k hq => ?_)
  refine v_iload_n (n := 1) k dX4_pagesFor_0 rfl rfl ?_
  refine v_bipush (n := 3) k dX4_pagesFor_1 (by decide) rfl ?_
  refine v_icmp_gt (n := 6) (t := 10) k (⟨by omega, by omega⟩) (⟨by omega, by omega⟩) dX4_pagesFor_3 (by decide) rfl (fun c_3 => ?_) (fun c_3 => ?_)
  · refine v_iconst (n := 11) k dX4_pagesFor_10 rfl ?_
    refine v_iload_n (n := 12) k dX4_pagesFor_11 rfl rfl ?_
    refine v_bipush (n := 14) k dX4_pagesFor_12 (by decide) rfl ?_
    refine v_isub (n := 15) k dX4_pagesFor_14 rfl ?_
    refine v_ishl (n := 16) k (((1 * 2 ^ (d - 8) : Nat) : Int)) (ax_shl rfl (by omega) (by omega) (by have := p2_le (d := d - 8) (by omega); omega)) dX4_pagesFor_15 rfl ?_
    refine v_iretR k hq ?_ dX4_pagesFor_16
    first | rw [pF, if_pos (by omega)]; rfl | rw [pF, if_neg (by omega), Nat.one_mul]
  · refine v_iconst (n := 7) k dX4_pagesFor_6 rfl ?_
    refine v_goto (t := 16) k dX4_pagesFor_7 (by decide) ?_
    refine v_iretR k hq ?_ dX4_pagesFor_16
    first | rw [pF, if_pos (by omega)]; rfl | rw [pF, if_neg (by omega), Nat.one_mul]
set_option maxHeartbeats 1000000 in
set_option maxRecDepth 20000 in
theorem lp_J7_fill {D : va_G} {cI cB cJ cZ : ClassId} {x : Kx} {h0 N : Nat} {V : Int} {v : Nat} (k : Kf x cJ7_fill_53178 4 yJ7_fill_53178.cls none D (TY cI cB cJ cZ) ({ frames := 0, cells := 0, slots := 0, locals := 0 })) (hq : isU x D [h0] (fun r w1 => r = none ∧ w1 = [aN cI h0 N (fun _ => v)])) (hV : V = (v : Int)) (hN : N < 1000000) : ∀ (m : Nat) (i : Nat) (I : Int) (f : Nat → Nat), N < i + m → i ≤ N → I = (i : Int) → (∀ j, j < i → f j = v) → Vw x 4 (fun q => q ∈ [h0]) D true 0 0 [aN cI h0 N f] 5 [(0, .ref h0), (1, .int (iI V)), (2, .int (iI I)), (3, .int (iI (N : Int)))] [] := by
  intro m
  induction m with
  | zero => intro i I f hm hi e2 hf; omega
  | succ m ih =>
    intro i I f hm hi e2 hf
    refine v_iload_n (n := 6) k dJ7_fill_53178_5 rfl rfl ?_
    refine v_iload_n (n := 7) k dJ7_fill_53178_6 rfl rfl ?_
    refine v_icmp_ge (n := 10) (t := 20) k (⟨by omega, by omega⟩) (⟨by omega, by omega⟩) dJ7_fill_53178_7 (by decide) rfl (fun c_7 => ?_) (fun c_7 => ?_)
    · refine v_cg 0 (fun _ => iI ((v : Nat) : Int)) rfl (fun j hj => by rw [hf j (by omega)]) ?_
      refine v_vretU k hq ?_ rfl dJ7_fill_53178_20
      exact ⟨rfl, rfl⟩
    · refine v_aload_n (n := 11) k dJ7_fill_53178_10 rfl rfl ?_
      refine v_iload_n (n := 12) k dJ7_fill_53178_11 rfl rfl ?_
      refine v_iload_n (n := 13) k dJ7_fill_53178_12 rfl rfl ?_
      refine v_iastN (n := 14) k 0 0 (i) rfl rfl (by omega) (by omega) (by omega) (v) (by omega) dJ7_fill_53178_13 rfl ?_
      refine v_iinc (n := 17) k dJ7_fill_53178_14 rfl (by decide) rfl rfl rfl ?_
      refine v_goto (t := 5) k dJ7_fill_53178_17 (by decide) ?_
      exact ih (i + 1) _ (upN f i v) (by omega) (by omega) (by omega) (fun j hj => by
        unfold upN
        split
        · rfl
        · exact hf j (by omega))
set_option maxHeartbeats 1000000 in
set_option maxRecDepth 20000 in
theorem z_J7_fill {D : va_G} {cI cB cJ cZ : ClassId} {h0 N : Nat} {f : Nat → Nat} {V : Int} {v : Nat} (hV : V = (v : Int)) (hN : N < 1000000) : ∀ l, Up l yJ7_fill_53178 cJ7_fill_53178 4 none ({ frames := 0, cells := 0, slots := 0, locals := 0 }) D (TY cI cB cJ cZ) [.ref h0, .int (iI V)] [aN cI h0 N f] (fun r w1 => r = none ∧ w1 = [aN cI h0 N (fun _ => v)]) := by
  intro l
  refine Up_of (by decide) (Nat.le_of_ble_eq_true rfl) (fun x k hq => ?_)
  refine v_iconst (n := 1) k dJ7_fill_53178_0 rfl ?_
  refine v_istore_n (n := 2) k dJ7_fill_53178_1 rfl (by decide) rfl rfl ?_
  refine v_aload_n (n := 3) k dJ7_fill_53178_2 rfl rfl ?_
  refine v_alen (n := 4) k 0 0 rfl rfl dJ7_fill_53178_3 rfl ?_
  refine v_istore_n (n := 5) k dJ7_fill_53178_4 rfl (by decide) rfl rfl ?_
  exact lp_J7_fill k hq hV hN (N + 1) 0 _ f (by omega) (by omega) (by omega) (fun j hj => absurd hj (by omega))
end
section
set_option maxHeartbeats 1000000 in
set_option maxRecDepth 20000 in
theorem z_X3_size {D : va_G} {cI cB cJ cZ : ClassId} {ht hb : Nat} {sz : Int}  : ∀ l, Rd l yX3_size cX3_size 1 (some .int) ({ frames := 0, cells := 0, slots := 0, locals := 0 }) D (TY cI cB cJ cZ) [.ref ht] [oTape ht hb sz] (fun v => v = some (.int (iI sz))) := by
  intro l
  refine Rd_of (by decide) (Nat.le_of_ble_eq_true rfl) (fun x k hq => ?_)
  refine v_aload_n (n := 1) k dX3_size_0 rfl rfl ?_
  refine v_get (n := 4) k ciX3 0 1 (by decide) fl_X3_15 rfl rfl dX3_size_1 rfl ?_
  refine v_iretR k hq ?_ dX3_size_4
  rfl
set_option maxHeartbeats 1000000 in
set_option maxRecDepth 20000 in
theorem z_X3_byteAt {D : va_G} {cI cB cJ cZ : ClassId} {ht hb : Nat} {sz : Int} {T : Nat → Nat} {I : Int} {i : Nat} (hI : I = (i : Int)) (hi : i < 48) : ∀ l, Rd l yX3_byteAt cX3_byteAt 2 (some .int) ({ frames := 0, cells := 0, slots := 0, locals := 0 }) D (TY cI cB cJ cZ) [.ref ht, .int (iI I)] [oTape ht hb sz, aN cI hb 48 T] (fun v => v = some (.int (iI ((T i : Nat) : Int)))) := by
  intro l
  refine Rd_of (by decide) (Nat.le_of_ble_eq_true rfl) (fun x k hq => ?_)
  refine v_iload_n (n := 1) k dX3_byteAt_0 rfl rfl ?_
  refine v_if_lt (n := 4) (t := 22) k (⟨by omega, by omega⟩) dX3_byteAt_1 (by decide) rfl (fun c_1 => ?_) (fun c_1 => ?_)
  · exfalso; omega
  · refine v_iload_n (n := 5) k dX3_byteAt_4 rfl rfl ?_
    refine v_aload_n (n := 6) k dX3_byteAt_5 rfl rfl ?_
    refine v_get (n := 9) k ciX3 0 0 (by decide) fl_X3_9 rfl rfl dX3_byteAt_6 rfl ?_
    refine v_alen (n := 10) k 1 0 rfl rfl dX3_byteAt_9 rfl ?_
    refine v_icmp_ge (n := 13) (t := 22) k (⟨by omega, by omega⟩) (⟨by omega, by omega⟩) dX3_byteAt_10 (by decide) rfl (fun c_10 => ?_) (fun c_10 => ?_)
    · exfalso; omega
    · refine v_aload_n (n := 14) k dX3_byteAt_13 rfl rfl ?_
      refine v_get (n := 17) k ciX3 0 0 (by decide) fl_X3_9 rfl rfl dX3_byteAt_14 rfl ?_
      refine v_iload_n (n := 18) k dX3_byteAt_17 rfl rfl ?_
      refine v_ialdN (n := 19) k 1 0 (i) rfl rfl (by omega) (by omega) (by omega) dX3_byteAt_18 rfl ?_
      refine v_goto (t := 23) k dX3_byteAt_19 (by decide) ?_
      refine v_iretR k hq ?_ dX3_byteAt_23
      rfl
set_option maxHeartbeats 1000000 in
set_option maxRecDepth 20000 in
theorem z_X3_append {D : va_G} {cI cB cJ cZ : ClassId} {ht hb : Nat} {sz : Int} {T : Nat → Nat} {V : Int} {v n : Nat} (hV : V = (v : Int)) (hs : sz = (n : Int)) (hn : n < 48) : ∀ l, Up l yX3_append cX3_append 2 none ({ frames := 0, cells := 0, slots := 0, locals := 0 }) D (TY cI cB cJ cZ) [.ref ht, .int (iI V)] [oTape ht hb sz, aN cI hb 48 T] (fun r w1 => r = none ∧ w1 = [oTape ht hb (sz + 1), aN cI hb 48 (upN T n v)]) := by
  intro l
  refine Up_of (by decide) (Nat.le_of_ble_eq_true rfl) (fun x k hq => ?_)
  refine v_aload_n (n := 1) k dX3_append_0 rfl rfl ?_
  refine v_get (n := 4) k ciX3 0 1 (by decide) fl_X3_15 rfl rfl dX3_append_1 rfl ?_
  refine v_if_lt (n := 7) (t := 39) k (⟨by omega, by omega⟩) dX3_append_4 (by decide) rfl (fun c_4 => ?_) (fun c_4 => ?_)
  · exfalso; omega
  · refine v_aload_n (n := 8) k dX3_append_7 rfl rfl ?_
    refine v_get (n := 11) k ciX3 0 1 (by decide) fl_X3_15 rfl rfl dX3_append_8 rfl ?_
    refine v_aload_n (n := 12) k dX3_append_11 rfl rfl ?_
    refine v_get (n := 15) k ciX3 0 0 (by decide) fl_X3_9 rfl rfl dX3_append_12 rfl ?_
    refine v_alen (n := 16) k 1 0 rfl rfl dX3_append_15 rfl ?_
    refine v_icmp_ge (n := 19) (t := 39) k (⟨by omega, by omega⟩) (⟨by omega, by omega⟩) dX3_append_16 (by decide) rfl (fun c_16 => ?_) (fun c_16 => ?_)
    · exfalso; omega
    · refine v_aload_n (n := 20) k dX3_append_19 rfl rfl ?_
      refine v_get (n := 23) k ciX3 0 0 (by decide) fl_X3_9 rfl rfl dX3_append_20 rfl ?_
      refine v_aload_n (n := 24) k dX3_append_23 rfl rfl ?_
      refine v_get (n := 27) k ciX3 0 1 (by decide) fl_X3_15 rfl rfl dX3_append_24 rfl ?_
      refine v_iload_n (n := 28) k dX3_append_27 rfl rfl ?_
      refine v_iastN (n := 29) k 1 0 (n) rfl rfl (by omega) (by omega) (by omega) (v) (by omega) dX3_append_28 rfl ?_
      refine v_aload_n (n := 30) k dX3_append_29 rfl rfl ?_
      refine v_dup (n := 31) k rfl dX3_append_30 rfl ?_
      refine v_get (n := 34) k ciX3 0 1 (by decide) fl_X3_15 rfl rfl dX3_append_31 rfl ?_
      refine v_iconst (n := 35) k dX3_append_34 rfl ?_
      refine v_iadd (n := 36) k dX3_append_35 rfl ?_
      refine v_put (n := 39) k ciX3 0 1 (by decide) fl_X3_15 rfl rfl (rfl) (rfl) (Nat.le_of_ble_eq_true rfl) dX3_append_36 rfl ?_
      refine v_vretU k hq ?_ rfl dX3_append_39
      exact ⟨rfl, rfl⟩
set_option maxHeartbeats 1000000 in
set_option maxRecDepth 20000 in
theorem z_X3_take {D : va_G} {cI cB cJ cZ : ClassId} {ht hb : Nat} {sz : Int}  : ∀ l, Up l yX3_take cX3_take 2 (some .int) ({ frames := 0, cells := 0, slots := 0, locals := 0 }) D (TY cI cB cJ cZ) [.ref ht] [oTape ht hb sz] (fun r w1 => r = some (.int (iI sz)) ∧ w1 = [oTape ht hb 0]) := by
  intro l
  refine Up_of (by decide) (Nat.le_of_ble_eq_true rfl) (fun x k hq => ?_)
  refine v_aload_n (n := 1) k dX3_take_0 rfl rfl ?_
  refine v_get (n := 4) k ciX3 0 1 (by decide) fl_X3_15 rfl rfl dX3_take_1 rfl ?_
  refine v_istore_n (n := 5) k dX3_take_4 rfl (by decide) rfl rfl ?_
  refine v_aload_n (n := 6) k dX3_take_5 rfl rfl ?_
  refine v_iconst (n := 7) k dX3_take_6 rfl ?_
  refine v_put (n := 10) k ciX3 0 1 (by decide) fl_X3_15 rfl rfl (rfl) (rfl) (Nat.le_of_ble_eq_true rfl) dX3_take_7 rfl ?_
  refine v_iload_n (n := 11) k dX3_take_10 rfl rfl ?_
  refine v_iretU k hq ?_ rfl dX3_take_11
  exact ⟨rfl, rfl⟩
set_option maxHeartbeats 1000000 in
set_option maxRecDepth 20000 in
theorem z_X3_keyHash {D : va_G} {cI cB cJ cZ : ClassId} {ht hb : Nat} {sz : Int} {T : Nat → Nat} {Z : Int} {z : Nat} (hZ : Z = (z : Int)) (hz : z ≤ 48) : ∀ l, Rd l yX3_keyHash cX3_keyHash 2 (some .int) ({ frames := 1, cells := 0, slots := 0, locals := 24 }) D (TY cI cB cJ cZ) [.ref ht, .int (iI Z)] [oTape ht hb sz, aN cI hb 48 T] (fun v => v = some (.int (iI ((hsh T 0 z : Nat) : Int)))) := by
  intro l
  refine Rd_of (by decide) (Nat.le_of_ble_eq_true rfl) (fun x k hq => ?_)
  refine v_aload_n (n := 1) k dX3_keyHash_0 rfl rfl ?_
  refine v_get (n := 4) k ciX3 0 0 (by decide) fl_X3_9 rfl rfl dX3_keyHash_1 rfl ?_
  refine v_iconst (n := 5) k dX3_keyHash_4 rfl ?_
  refine v_iload_n (n := 6) k dX3_keyHash_5 rfl rfl ?_
  refine v_rdSNi (n := 9) k [1] (z_X4_hashOf (s := 0) (z := z) rfl hZ (by omega) (by decide)) miX4_hashOf nl_X3_19 (by decide) (by decide) rfl (by decide) rfl rfl (Nat.le_of_ble_eq_true rfl) ⟨Nat.zero_le _, Nat.zero_le _⟩ dX3_keyHash_6 rfl ?_
  refine v_iretR k hq ?_ dX3_keyHash_9
  rfl
set_option maxHeartbeats 1000000 in
set_option maxRecDepth 20000 in
theorem z_X2_bytes {D : va_G} {cI cB cJ cZ : ClassId} {hp hb : Nat}  : ∀ l, Rd l yX2_bytes cX2_bytes 1 (some (.array .int)) ({ frames := 0, cells := 0, slots := 0, locals := 0 }) D (TY cI cB cJ cZ) [.ref hp] [oPage hp hb] (fun v => v = some (.ref hb)) := by
  intro l
  refine Rd_of (by decide) (Nat.le_of_ble_eq_true rfl) (fun x k hq => ?_)
  refine v_aload_n (n := 1) k dX2_bytes_0 rfl rfl ?_
  refine v_get (n := 4) k ciX2 0 0 (by decide) fl_X2_9 rfl rfl dX2_bytes_1 rfl ?_
  refine v_aretR k hq ?_ dX2_bytes_4
  rfl
set_option maxHeartbeats 1000000 in
set_option maxRecDepth 20000 in
theorem z_X2_byteAt {D : va_G} {cI cB cJ cZ : ClassId} {hp hb : Nat} {f : Nat → Nat} {I : Int} {i : Nat} (hI : I = (i : Int)) (hi : i < 256) : ∀ l, Rd l yX2_byteAt cX2_byteAt 2 (some .int) ({ frames := 0, cells := 0, slots := 0, locals := 0 }) D (TY cI cB cJ cZ) [.ref hp, .int (iI I)] [oPage hp hb, aN cI hb 256 f] (fun v => v = some (.int (iI ((f i : Nat) : Int)))) := by
  intro l
  refine Rd_of (by decide) (Nat.le_of_ble_eq_true rfl) (fun x k hq => ?_)
  refine v_iload_n (n := 1) k dX2_byteAt_0 rfl rfl ?_
  refine v_if_lt (n := 4) (t := 22) k (⟨by omega, by omega⟩) dX2_byteAt_1 (by decide) rfl (fun c_1 => ?_) (fun c_1 => ?_)
  · exfalso; omega
  · refine v_iload_n (n := 5) k dX2_byteAt_4 rfl rfl ?_
    refine v_aload_n (n := 6) k dX2_byteAt_5 rfl rfl ?_
    refine v_get (n := 9) k ciX2 0 0 (by decide) fl_X2_9 rfl rfl dX2_byteAt_6 rfl ?_
    refine v_alen (n := 10) k 1 0 rfl rfl dX2_byteAt_9 rfl ?_
    refine v_icmp_ge (n := 13) (t := 22) k (⟨by omega, by omega⟩) (⟨by omega, by omega⟩) dX2_byteAt_10 (by decide) rfl (fun c_10 => ?_) (fun c_10 => ?_)
    · exfalso; omega
    · refine v_aload_n (n := 14) k dX2_byteAt_13 rfl rfl ?_
      refine v_get (n := 17) k ciX2 0 0 (by decide) fl_X2_9 rfl rfl dX2_byteAt_14 rfl ?_
      refine v_iload_n (n := 18) k dX2_byteAt_17 rfl rfl ?_
      refine v_ialdN (n := 19) k 1 0 (i) rfl rfl (by omega) (by omega) (by omega) dX2_byteAt_18 rfl ?_
      refine v_goto (t := 23) k dX2_byteAt_19 (by decide) ?_
      refine v_iretR k hq ?_ dX2_byteAt_23
      rfl
set_option maxHeartbeats 1000000 in
set_option maxRecDepth 20000 in
theorem z_X2_set {D : va_G} {cI cB cJ cZ : ClassId} {hp hb : Nat} {f : Nat → Nat} {I V : Int} {i v : Nat} (hI : I = (i : Int)) (hV : V = (v : Int)) (hi : i < 256) : ∀ l, Up l yX2_set cX2_set 3 none ({ frames := 0, cells := 0, slots := 0, locals := 0 }) D (TY cI cB cJ cZ) [.ref hp, .int (iI I), .int (iI V)] [oPage hp hb, aN cI hb 256 f] (fun r w1 => r = none ∧ w1 = [oPage hp hb, aN cI hb 256 (upN f i (v % 256))]) := by
  intro l
  refine Up_of (by decide) (Nat.le_of_ble_eq_true rfl) (fun x k hq => ?_)
  refine v_iload_n (n := 1) k dX2_set_0 rfl rfl ?_
  refine v_if_lt (n := 4) (t := 24) k (⟨by omega, by omega⟩) dX2_set_1 (by decide) rfl (fun c_1 => ?_) (fun c_1 => ?_)
  · exfalso; omega
  · refine v_iload_n (n := 5) k dX2_set_4 rfl rfl ?_
    refine v_aload_n (n := 6) k dX2_set_5 rfl rfl ?_
    refine v_get (n := 9) k ciX2 0 0 (by decide) fl_X2_9 rfl rfl dX2_set_6 rfl ?_
    refine v_alen (n := 10) k 1 0 rfl rfl dX2_set_9 rfl ?_
    refine v_icmp_ge (n := 13) (t := 24) k (⟨by omega, by omega⟩) (⟨by omega, by omega⟩) dX2_set_10 (by decide) rfl (fun c_10 => ?_) (fun c_10 => ?_)
    · exfalso; omega
    · refine v_aload_n (n := 14) k dX2_set_13 rfl rfl ?_
      refine v_get (n := 17) k ciX2 0 0 (by decide) fl_X2_9 rfl rfl dX2_set_14 rfl ?_
      refine v_iload_n (n := 18) k dX2_set_17 rfl rfl ?_
      refine v_iload_n (n := 19) k dX2_set_18 rfl rfl ?_
      refine v_sipush (n := 22) k dX2_set_19 (by decide) rfl ?_
      refine v_iand (n := 23) k (((v % 256 : Nat) : Int)) (ax_m8 hV) dX2_set_22 rfl ?_
      refine v_iastN (n := 24) k 1 0 (i) rfl rfl (by omega) (by omega) (by omega) (v % 256) (by omega) dX2_set_23 rfl ?_
      refine v_vretU k hq ?_ rfl dX2_set_24
      exact ⟨rfl, rfl⟩
set_option maxHeartbeats 1000000 in
set_option maxRecDepth 20000 in
theorem z_X2_clear {D : va_G} {cI cB cJ cZ : ClassId} {hp hb : Nat} {f : Nat → Nat}  : ∀ l, Up l yX2_clear cX2_clear 1 none ({ frames := 1, cells := 0, slots := 0, locals := 23 }) D (TY cI cB cJ cZ) [.ref hp] [oPage hp hb, aN cI hb 256 f] (fun r w1 => r = none ∧ w1 = [oPage hp hb, aN cI hb 256 (fun _ => 0)]) := by
  intro l
  refine Up_of (by decide) (Nat.le_of_ble_eq_true rfl) (fun x k hq => ?_)
  refine v_aload_n (n := 1) k dX2_clear_0 rfl rfl ?_
  refine v_get (n := 4) k ciX2 0 0 (by decide) fl_X2_9 rfl rfl dX2_clear_1 rfl ?_
  refine v_iconst (n := 5) k dX2_clear_4 rfl ?_
  refine v_upS (n := 8) k [1] (z_J7_fill (v := 0) rfl (by decide)) miJ7_fill_53178 ml_X2_15 (by decide) (by decide) rfl (by decide) rfl rfl (Nat.le_of_ble_eq_true rfl) ⟨Nat.zero_le _, Nat.zero_le _⟩ dX2_clear_5 rfl ?_
  rintro _ _ ⟨rfl, rfl⟩
  dsimp only [wput, List.set, Option.toList, List.nil_append, List.cons_append]
  refine v_vretU k hq ?_ rfl dX2_clear_8
  exact ⟨rfl, rfl⟩
set_option maxHeartbeats 1000000 in
set_option maxRecDepth 20000 in
theorem z_X2_startBucket {D : va_G} {cI cB cJ cZ : ClassId} {hp hb : Nat} {f : Nat → Nat} {V : Int} {v : Nat} (hV : V = (v : Int)) : ∀ l, Up l yX2_startBucket cX2_startBucket 2 none ({ frames := 2, cells := 0, slots := 0, locals := 43 }) D (TY cI cB cJ cZ) [.ref hp, .int (iI V)] [oPage hp hb, aN cI hb 256 f] (fun r w1 => r = none ∧ w1 = [oPage hp hb, aN cI hb 256 (upN (fun _ => 0) 0 (v % 256))]) := by
  intro l
  refine Up_of (by decide) (Nat.le_of_ble_eq_true rfl) (fun x k hq => ?_)
  refine v_aload_n (n := 1) k dX2_startBucket_0 rfl rfl ?_
  refine v_upV (n := 4) k [0, 1] 0 (z_X2_clear) miX2_clear ml_X2_21 (by decide) (by decide) rfl (by decide) rfl rfl rfl rfl (Nat.le_of_ble_eq_true rfl) ⟨Nat.zero_le _, Nat.zero_le _⟩ dX2_startBucket_1 rfl ?_
  rintro _ _ ⟨rfl, rfl⟩
  dsimp only [wput, List.set, Option.toList, List.nil_append, List.cons_append]
  refine v_aload_n (n := 5) k dX2_startBucket_4 rfl rfl ?_
  refine v_iconst (n := 6) k dX2_startBucket_5 rfl ?_
  refine v_iload_n (n := 7) k dX2_startBucket_6 rfl rfl ?_
  refine v_upV (n := 10) k [0, 1] 0 (z_X2_set (i := 0) (v := v) rfl hV (by decide)) miX2_set ml_X2_24 (by decide) (by decide) rfl (by decide) rfl rfl rfl rfl (Nat.le_of_ble_eq_true rfl) ⟨Nat.zero_le _, Nat.zero_le _⟩ dX2_startBucket_7 rfl ?_
  rintro _ _ ⟨rfl, rfl⟩
  dsimp only [wput, List.set, Option.toList, List.nil_append, List.cons_append]
  refine v_vretU k hq ?_ rfl dX2_startBucket_10
  exact ⟨rfl, rfl⟩
set_option maxHeartbeats 1000000 in
set_option maxRecDepth 20000 in
theorem z_X2_countRecord {D : va_G} {cI cB cJ cZ : ClassId} {hp hb : Nat} {f : Nat → Nat} {V : Int} {v : Nat} (hV : V = (v : Int)) (h2 : f 2 < 256) (h3 : f 3 < 256) (h1 : f 1 < 256) (hv : v < 1000) : ∀ l, Up l yX2_countRecord cX2_countRecord 3 (some .int) ({ frames := 1, cells := 0, slots := 0, locals := 22 }) D (TY cI cB cJ cZ) [.ref hp, .int (iI V)] [oPage hp hb, aN cI hb 256 f] (fun r w1 => r = some (.int (iI ((4 + (f 2 * 256 + f 3) : Nat) : Int))) ∧ w1 = [oPage hp hb, aN cI hb 256 (upN (upN (upN f 1 ((f 1 + 1) % 256)) 2 ((f 2 * 256 + f 3 + v) / 256 % 256)) 3 ((f 2 * 256 + f 3 + v) % 256 % 256))]) := by
  intro l
  refine Up_of (by decide) (Nat.le_of_ble_eq_true rfl) (fun x k hq => ?_)
  refine v_aload_n (n := 1) k dX2_countRecord_0 rfl rfl ?_
  refine v_iconst (n := 2) k dX2_countRecord_1 rfl ?_
  refine v_rdVi (n := 5) k [0, 1] 0 (z_X2_byteAt (i := 2) rfl (by decide)) miX2_byteAt ml_X2_46 (by decide) (by decide) rfl (by decide) rfl rfl rfl rfl (Nat.le_of_ble_eq_true rfl) ⟨Nat.zero_le _, Nat.zero_le _⟩ dX2_countRecord_2 rfl ?_
  refine v_sipush (n := 8) k dX2_countRecord_5 (by decide) rfl ?_
  refine v_imul (n := 9) k dX2_countRecord_8 rfl ?_
  refine v_aload_n (n := 10) k dX2_countRecord_9 rfl rfl ?_
  refine v_iconst (n := 11) k dX2_countRecord_10 rfl ?_
  refine v_rdVi (n := 14) k [0, 1] 0 (z_X2_byteAt (i := 3) rfl (by decide)) miX2_byteAt ml_X2_46 (by decide) (by decide) rfl (by decide) rfl rfl rfl rfl (Nat.le_of_ble_eq_true rfl) ⟨Nat.zero_le _, Nat.zero_le _⟩ dX2_countRecord_11 rfl ?_
  refine v_iadd (n := 15) k dX2_countRecord_14 rfl ?_
  refine v_istore_n (n := 16) k dX2_countRecord_15 rfl (by decide) rfl rfl ?_
  refine v_aload_n (n := 17) k dX2_countRecord_16 rfl rfl ?_
  refine v_iconst (n := 18) k dX2_countRecord_17 rfl ?_
  refine v_aload_n (n := 19) k dX2_countRecord_18 rfl rfl ?_
  refine v_iconst (n := 20) k dX2_countRecord_19 rfl ?_
  refine v_rdVi (n := 23) k [0, 1] 0 (z_X2_byteAt (i := 1) rfl (by decide)) miX2_byteAt ml_X2_46 (by decide) (by decide) rfl (by decide) rfl rfl rfl rfl (Nat.le_of_ble_eq_true rfl) ⟨Nat.zero_le _, Nat.zero_le _⟩ dX2_countRecord_20 rfl ?_
  refine v_iconst (n := 24) k dX2_countRecord_23 rfl ?_
  refine v_iadd (n := 25) k dX2_countRecord_24 rfl ?_
  refine v_upV (n := 28) k [0, 1] 0 (z_X2_set (i := 1) (v := f 1 + 1) rfl rfl (by decide)) miX2_set ml_X2_24 (by decide) (by decide) rfl (by decide) rfl rfl rfl rfl (Nat.le_of_ble_eq_true rfl) ⟨Nat.zero_le _, Nat.zero_le _⟩ dX2_countRecord_25 rfl ?_
  rintro _ _ ⟨rfl, rfl⟩
  dsimp only [wput, List.set, Option.toList, List.nil_append, List.cons_append]
  refine v_aload_n (n := 29) k dX2_countRecord_28 rfl rfl ?_
  refine v_iconst (n := 30) k dX2_countRecord_29 rfl ?_
  refine v_iload_n (n := 31) k dX2_countRecord_30 rfl rfl ?_
  refine v_iload_n (n := 32) k dX2_countRecord_31 rfl rfl ?_
  refine v_iadd (n := 33) k dX2_countRecord_32 rfl ?_
  refine v_sipush (n := 36) k dX2_countRecord_33 (by decide) rfl ?_
  refine v_idiv (n := 37) k ((((f 2 * 256 + f 3 + v) / 256 : Nat) : Int)) (ax_ne0 (by omega) (by omega)) (ax_div (by omega) rfl (by omega) (by omega) (by omega)) dX2_countRecord_36 rfl ?_
  refine v_upV (n := 40) k [0, 1] 0 (z_X2_set (i := 2) (v := (f 2 * 256 + f 3 + v) / 256) rfl rfl (by decide)) miX2_set ml_X2_24 (by decide) (by decide) rfl (by decide) rfl rfl rfl rfl (Nat.le_of_ble_eq_true rfl) ⟨Nat.zero_le _, Nat.zero_le _⟩ dX2_countRecord_37 rfl ?_
  rintro _ _ ⟨rfl, rfl⟩
  dsimp only [wput, List.set, Option.toList, List.nil_append, List.cons_append]
  refine v_aload_n (n := 41) k dX2_countRecord_40 rfl rfl ?_
  refine v_iconst (n := 42) k dX2_countRecord_41 rfl ?_
  refine v_iload_n (n := 43) k dX2_countRecord_42 rfl rfl ?_
  refine v_iload_n (n := 44) k dX2_countRecord_43 rfl rfl ?_
  refine v_iadd (n := 45) k dX2_countRecord_44 rfl ?_
  refine v_sipush (n := 48) k dX2_countRecord_45 (by decide) rfl ?_
  refine v_irem (n := 49) k ((((f 2 * 256 + f 3 + v) % 256 : Nat) : Int)) (ax_ne0 (by omega) (by omega)) (ax_rem (by omega) rfl (by omega) (by omega) (by omega)) dX2_countRecord_48 rfl ?_
  refine v_upV (n := 52) k [0, 1] 0 (z_X2_set (i := 3) (v := (f 2 * 256 + f 3 + v) % 256) rfl rfl (by decide)) miX2_set ml_X2_24 (by decide) (by decide) rfl (by decide) rfl rfl rfl rfl (Nat.le_of_ble_eq_true rfl) ⟨Nat.zero_le _, Nat.zero_le _⟩ dX2_countRecord_49 rfl ?_
  rintro _ _ ⟨rfl, rfl⟩
  dsimp only [wput, List.set, Option.toList, List.nil_append, List.cons_append]
  refine v_iconst (n := 53) k dX2_countRecord_52 rfl ?_
  refine v_iload_n (n := 54) k dX2_countRecord_53 rfl rfl ?_
  refine v_iadd (n := 55) k dX2_countRecord_54 rfl ?_
  refine v_iretU k hq ?_ rfl dX2_countRecord_55
  exact ⟨congrArg (fun z => some (Value.int (iI z))) (by omega), rfl⟩
end
section
/-- the disk's bytes are bytes, its size and depth are in their bounds, the HEAD tells pages behind the images -/
def DW (C : Nat → Nat) (pg lg : Nat) : Prop := 8 ≤ pg ∧ pg ≤ 255 ∧ (∀ j, C j < 256) ∧ C 0 ≤ 15 ∧ (∀ k, k < pF (C 0) → C (1 + k) < pg) ∧ (∀ k, k < pF (C 0) → lg + 2 ≤ C (1 + k)) ∧ lg ≤ 100
def bL (C : Nat → Nat) (p : Nat) : Nat := pb C p 2 * 256 + pb C p 3
def rsz (C : Nat → Nat) (p s : Nat) : Nat := 2 + pb C p s + pb C p (s + 1)
/-- where record r of page p begins -/
def rst (C : Nat → Nat) (p : Nat) : Nat → Nat
  | 0 => 4
  | r + 1 => rst C p r + rsz C p (rst C p r)
/-- page p is a bucket's -/
def WB (C : Nat → Nat) (p : Nat) : Prop := (∀ r, r < pb C p 1 → 1 ≤ pb C p (rst C p r) ∧ pb C p (rst C p r) ≤ 16 ∧ pb C p (rst C p r + 1) ≤ 32) ∧ rst C p (pb C p 1) = 4 + bL C p ∧ bL C p ≤ 252
theorem rst_mono {C : Nat → Nat} {p a b : Nat} (h : a ≤ b) : rst C p a ≤ rst C p b := by
  induction h with
  | refl => exact Nat.le_refl _
  | step _ ih => exact Nat.le_trans ih (Nat.le_add_right _ _)
theorem rst_ge (C : Nat → Nat) (p r : Nat) : 4 ≤ rst C p r := rst_mono (a := 0) (Nat.zero_le r)
/-- a record lies in its page -/
theorem WB.fit {C : Nat → Nat} {p r : Nat} (h : WB C p) (hr : r < pb C p 1) : rst C p r + rsz C p (rst C p r) ≤ 4 + bL C p ∧ rst C p r + rsz C p (rst C p r) ≤ 256 := by
  obtain ⟨-, h2, h3⟩ := h
  have h1 : rst C p (r + 1) ≤ rst C p (pb C p 1) := rst_mono hr
  rw [h2] at h1
  have h4 : rst C p (r + 1) = rst C p r + rsz C p (rst C p r) := rfl
  omega
theorem rsz_ge (C : Nat → Nat) (p s : Nat) : 2 + pb C p s + pb C p (s + 1) = rsz C p s := rfl
theorem pF_idx {d i : Nat} (h : i < 2 ^ d) : i / 256 < pF d := by
  unfold pF
  split
  · rename_i h8
    have : 2 ^ d ≤ 2 ^ 8 := Nat.pow_le_pow_right (by decide) h8
    have : (2 : Nat) ^ 8 = 256 := by decide
    omega
  · rename_i h8
    have e : 2 ^ d = 256 * 2 ^ (d - 8) := by
      rw [show (256 : Nat) = 2 ^ 8 from rfl, ← Nat.pow_add]
      congr 1
      omega
    rw [e] at h
    exact Nat.div_lt_of_lt_mul h
def entN (C : Nat → Nat) (i : Nat) : Nat := pb C (pb C 0 (1 + i / 256)) (i % 256)
def entF (C : Nat → Nat) (I : Int) : Int := if 0 ≤ I ∧ I < ((2 ^ C 0 : Nat) : Int) then ((entN C I.toNat : Nat) : Int) else -1
def atF (C : Nat → Nat) (pg : Nat) (P I : Int) : Int := if 0 ≤ P ∧ P < (pg : Int) ∧ 0 ≤ I ∧ I < 256 then ((C (P * 256 + I).toNat : Nat) : Int) else -1
def idx (C : Nat → Nat) (h : Nat) : Nat := h / 2 ^ (16 - C 0)
theorem idx_lt {C : Nat → Nat} {h : Nat} (hh : h < 65536) (hd : C 0 ≤ 15) : idx C h < 2 ^ C 0 := by
  unfold idx
  apply Nat.div_lt_of_lt_mul
  rw [← Nat.pow_add, show 16 - C 0 + C 0 = 16 by omega]
  exact hh
theorem pF_lt {d : Nat} (h : d ≤ 15) : pF d ≤ 128 := by
  unfold pF
  split
  · decide
  · exact Nat.le_trans (Nat.pow_le_pow_right (n := 2) (j := 7) (by decide) (by omega)) (by decide)
theorem all_range {n : Nat} {P : Nat → Bool} (h : ∀ r, r < n → P r = true) : (List.range n).all P = true := List.all_eq_true.mpr fun r hr => h r (List.mem_range.mp hr)
theorem all_range_f {n i : Nat} {P : Nat → Bool} (hi : i < n) (h : P i = false) : (List.range n).all P = false := by
  rw [List.all_eq_false]
  exact ⟨i, List.mem_range.mpr hi, by rw [h]; decide⟩
theorem find_range {n i : Nat} {P : Nat → Bool} (hi : i < n) (h : P i = true) (h0 : ∀ r, r < i → P r = false) : (List.range n).find? P = some i := by
  rw [List.find?_range_eq_some]
  exact ⟨h, List.mem_range.mpr hi, fun j hj => by rw [h0 j hj]; rfl⟩
theorem find_range_n {n : Nat} {P : Nat → Bool} (h0 : ∀ r, r < n → P r = false) : (List.range n).find? P = none := by
  rw [List.find?_eq_none]
  intro x hx
  rw [h0 x (List.mem_range.mp hx)]
  decide
/-- the hash of record r's key -/
def rh (C : Nat → Nat) (p r : Nat) : Nat := hsh C (p * 256 + rst C p r + 2) (pb C p (rst C p r))
def allH (C : Nat → Nat) (p h : Nat) : Bool := (List.range (pb C p 1)).all (fun r => rh C p r == h)
def keq (C : Nat → Nat) (p a : Nat) (T : Nat → Nat) (z : Nat) : Bool := (List.range z).all (fun i => pb C p (a + i) == T i)
def isK (C : Nat → Nat) (p : Nat) (T : Nat → Nat) (z r : Nat) : Bool := pb C p (rst C p r) == z && keq C p (rst C p r + 2) T z
def fnd (C : Nat → Nat) (p : Nat) (T : Nat → Nat) (z : Nat) : Option Nat := (List.range (pb C p 1)).find? (isK C p T z)
def fndI (C : Nat → Nat) (p : Nat) (T : Nat → Nat) (z : Nat) : Int := match fnd C p T z with
  | some r => ((rst C p r : Nat) : Int)
  | none => -1
def bI (b : Bool) : Int := if b then 1 else 0
theorem bI_t {b : Bool} (h : b = true) : bI b = 1 := by rw [h]; rfl
theorem bI_f {b : Bool} (h : b = false) : bI b = 0 := by rw [h]; rfl
theorem bI_z (b : Bool) : narrow .boolean (.int (iI (bI b))) = .int (iI (bI b)) := by cases b <;> rfl
set_option maxHeartbeats 1000000 in
set_option maxRecDepth 20000 in
theorem z_X1_at {D : va_G} {cI cB cJ cZ : ClassId} {hd hc hk : Nat} {ko : Int} {pg lg : Nat} {wt al dn : Int} {C : Nat → Nat} {P I : Int} {p i : Nat} (hP : P = (p : Int)) (hI : I = (i : Int)) (hp : p < pg) (hi : i < 256) (hg : pg ≤ 255) : ∀ l, Rd l yX1_at cX1_at 3 (some .int) ({ frames := 0, cells := 0, slots := 0, locals := 0 }) D (TY cI cB cJ cZ) [.ref hd, .int (iI P), .int (iI I)] [oDisk hd hc hk ko pg lg wt al dn, aN cI hc 65280 C] (fun v => v = some (.int (iI ((pb C p i : Nat) : Int)))) := by
  intro l
  refine Rd_of (by decide) (Nat.le_of_ble_eq_true rfl) (fun x k hq => ?_)
  refine v_iload_n (n := 1) k dX1_at_0 rfl rfl ?_
  refine v_if_lt (n := 4) (t := 30) k (⟨by omega, by omega⟩) dX1_at_1 (by decide) rfl (fun c_1 => ?_) (fun c_1 => ?_)
  · exfalso; omega
  · refine v_iload_n (n := 5) k dX1_at_4 rfl rfl ?_
    refine v_aload_n (n := 6) k dX1_at_5 rfl rfl ?_
    refine v_get (n := 9) k ciX1 0 3 (by decide) fl_X1_19 rfl rfl dX1_at_6 rfl ?_
    refine v_icmp_ge (n := 12) (t := 30) k (⟨by omega, by omega⟩) (⟨by omega, by omega⟩) dX1_at_9 (by decide) rfl (fun c_9 => ?_) (fun c_9 => ?_)
    · exfalso; omega
    · refine v_iload_n (n := 13) k dX1_at_12 rfl rfl ?_
      refine v_sipush (n := 16) k dX1_at_13 (by decide) rfl ?_
      refine v_icmp_ge (n := 19) (t := 30) k (⟨by omega, by omega⟩) (⟨by omega, by omega⟩) dX1_at_16 (by decide) rfl (fun c_16 => ?_) (fun c_16 => ?_)
      · exfalso; omega
      · refine v_iload_n (n := 20) k dX1_at_19 rfl rfl ?_
        refine v_if_lt (n := 23) (t := 30) k (⟨by omega, by omega⟩) dX1_at_20 (by decide) rfl (fun c_20 => ?_) (fun c_20 => ?_)
        · exfalso; omega
        · refine v_iload_n (n := 24) k dX1_at_23 rfl rfl ?_
          refine v_sipush (n := 27) k dX1_at_24 (by decide) rfl ?_
          refine v_icmp_lt (n := 30) (t := 32) k (⟨by omega, by omega⟩) (⟨by omega, by omega⟩) dX1_at_27 (by decide) rfl (fun c_27 => ?_) (fun c_27 => ?_)
          · refine v_aload_n (n := 33) k dX1_at_32 rfl rfl ?_
            refine v_get (n := 36) k ciX1 0 0 (by decide) fl_X1_10 rfl rfl dX1_at_33 rfl ?_
            refine v_iload_n (n := 37) k dX1_at_36 rfl rfl ?_
            refine v_sipush (n := 40) k dX1_at_37 (by decide) rfl ?_
            refine v_imul (n := 41) k dX1_at_40 rfl ?_
            refine v_iload_n (n := 42) k dX1_at_41 rfl rfl ?_
            refine v_iadd (n := 43) k dX1_at_42 rfl ?_
            refine v_ialdN (n := 44) k 1 0 (p * 256 + i) rfl rfl (by omega) (by omega) (by omega) dX1_at_43 rfl ?_
            refine v_iretR k hq ?_ dX1_at_44
            rfl
          · exfalso; omega
set_option maxHeartbeats 1000000 in
set_option maxRecDepth 20000 in
theorem z_X1_atG {D : va_G} {cI cB cJ cZ : ClassId} {hd hc hk : Nat} {ko : Int} {pg lg : Nat} {wt al dn : Int} {C : Nat → Nat} {P I : Int} (hP : in32 P) (hI : in32 I) (hg : pg ≤ 255) : ∀ l, Rd l yX1_at cX1_at 3 (some .int) ({ frames := 0, cells := 0, slots := 0, locals := 0 }) D (TY cI cB cJ cZ) [.ref hd, .int (iI P), .int (iI I)] [oDisk hd hc hk ko pg lg wt al dn, aN cI hc 65280 C] (fun v => v = some (.int (iI (atF C pg P I)))) := by
  intro l
  refine Rd_of (by decide) (Nat.le_of_ble_eq_true rfl) (fun x k hq => ?_)
  obtain ⟨hp1, hp2⟩ := hP
  obtain ⟨hi1, hi2⟩ := hI
  refine v_iload_n (n := 1) k dX1_at_0 rfl rfl ?_
  refine v_if_lt (n := 4) (t := 30) k (⟨by omega, by omega⟩) dX1_at_1 (by decide) rfl (fun c_1 => ?_) (fun c_1 => ?_)
  · refine v_iconst (n := 31) k dX1_at_30 rfl ?_
    refine v_iretR k hq ?_ dX1_at_31
    rw [atF, if_neg (by omega)]
  · refine v_iload_n (n := 5) k dX1_at_4 rfl rfl ?_
    refine v_aload_n (n := 6) k dX1_at_5 rfl rfl ?_
    refine v_get (n := 9) k ciX1 0 3 (by decide) fl_X1_19 rfl rfl dX1_at_6 rfl ?_
    refine v_icmp_ge (n := 12) (t := 30) k (⟨by omega, by omega⟩) (⟨by omega, by omega⟩) dX1_at_9 (by decide) rfl (fun c_9 => ?_) (fun c_9 => ?_)
    · refine v_iconst (n := 31) k dX1_at_30 rfl ?_
      refine v_iretR k hq ?_ dX1_at_31
      rw [atF, if_neg (by omega)]
    · refine v_iload_n (n := 13) k dX1_at_12 rfl rfl ?_
      refine v_sipush (n := 16) k dX1_at_13 (by decide) rfl ?_
      refine v_icmp_ge (n := 19) (t := 30) k (⟨by omega, by omega⟩) (⟨by omega, by omega⟩) dX1_at_16 (by decide) rfl (fun c_16 => ?_) (fun c_16 => ?_)
      · refine v_iconst (n := 31) k dX1_at_30 rfl ?_
        refine v_iretR k hq ?_ dX1_at_31
        rw [atF, if_neg (by omega)]
      · refine v_iload_n (n := 20) k dX1_at_19 rfl rfl ?_
        refine v_if_lt (n := 23) (t := 30) k (⟨by omega, by omega⟩) dX1_at_20 (by decide) rfl (fun c_20 => ?_) (fun c_20 => ?_)
        · refine v_iconst (n := 31) k dX1_at_30 rfl ?_
          refine v_iretR k hq ?_ dX1_at_31
          rw [atF, if_neg (by omega)]
        · refine v_iload_n (n := 24) k dX1_at_23 rfl rfl ?_
          refine v_sipush (n := 27) k dX1_at_24 (by decide) rfl ?_
          refine v_icmp_lt (n := 30) (t := 32) k (⟨by omega, by omega⟩) (⟨by omega, by omega⟩) dX1_at_27 (by decide) rfl (fun c_27 => ?_) (fun c_27 => ?_)
          · refine v_aload_n (n := 33) k dX1_at_32 rfl rfl ?_
            refine v_get (n := 36) k ciX1 0 0 (by decide) fl_X1_10 rfl rfl dX1_at_33 rfl ?_
            refine v_iload_n (n := 37) k dX1_at_36 rfl rfl ?_
            refine v_sipush (n := 40) k dX1_at_37 (by decide) rfl ?_
            refine v_imul (n := 41) k dX1_at_40 rfl ?_
            refine v_iload_n (n := 42) k dX1_at_41 rfl rfl ?_
            refine v_iadd (n := 43) k dX1_at_42 rfl ?_
            refine v_ialdN (n := 44) k 1 0 ((P * 256 + I).toNat) rfl rfl (by omega) (by omega) (by omega) dX1_at_43 rfl ?_
            refine v_iretR k hq ?_ dX1_at_44
            rw [atF, if_pos ⟨by omega, by omega, by omega, by omega⟩]
          · refine v_iconst (n := 31) k dX1_at_30 rfl ?_
            refine v_iretR k hq ?_ dX1_at_31
            rw [atF, if_neg (by omega)]
def pgF (pg : Nat) (P : Int) : Bool := decide (0 ≤ P ∧ P < (pg : Int))
set_option maxHeartbeats 1000000 in
set_option maxRecDepth 20000 in
theorem z_X1_isPage {D : va_G} {cI cB cJ cZ : ClassId} {hd hc hk : Nat} {ko : Int} {pg lg : Nat} {wt al dn : Int} {P : Int} (hp : in32 P) (hg : pg ≤ 255) : ∀ l, Rd l yX1_isPage cX1_isPage 2 (some .boolean) ({ frames := 0, cells := 0, slots := 0, locals := 0 }) D (TY cI cB cJ cZ) [.ref hd, .int (iI P)] [oDisk hd hc hk ko pg lg wt al dn] (fun v => v = some (.int (iI (bI (pgF pg P))))) := by
  intro l
  refine Rd_of (by decide) (Nat.le_of_ble_eq_true rfl) (fun x k hq => ?_)
  obtain ⟨hp1, hp2⟩ := hp
  refine v_iload_n (n := 1) k dX1_isPage_0 rfl rfl ?_
  refine v_if_lt (n := 4) (t := 23) k (⟨by omega, by omega⟩) dX1_isPage_1 (by decide) rfl (fun c_1 => ?_) (fun c_1 => ?_)
  · refine v_iconst (n := 24) k dX1_isPage_23 rfl ?_
    refine v_zretR k (by decide) hq ?_ dX1_isPage_24
    first | rw [bI_f (by unfold pgF; exact decide_eq_false (by omega))] | rw [bI_t (by unfold pgF; exact decide_eq_true (by omega))]
  · refine v_iload_n (n := 5) k dX1_isPage_4 rfl rfl ?_
    refine v_aload_n (n := 6) k dX1_isPage_5 rfl rfl ?_
    refine v_get (n := 9) k ciX1 0 3 (by decide) fl_X1_19 rfl rfl dX1_isPage_6 rfl ?_
    refine v_icmp_ge (n := 12) (t := 23) k (⟨by omega, by omega⟩) (⟨by omega, by omega⟩) dX1_isPage_9 (by decide) rfl (fun c_9 => ?_) (fun c_9 => ?_)
    · refine v_iconst (n := 24) k dX1_isPage_23 rfl ?_
      refine v_zretR k (by decide) hq ?_ dX1_isPage_24
      first | rw [bI_f (by unfold pgF; exact decide_eq_false (by omega))] | rw [bI_t (by unfold pgF; exact decide_eq_true (by omega))]
    · refine v_iload_n (n := 13) k dX1_isPage_12 rfl rfl ?_
      refine v_sipush (n := 16) k dX1_isPage_13 (by decide) rfl ?_
      refine v_icmp_ge (n := 19) (t := 23) k (⟨by omega, by omega⟩) (⟨by omega, by omega⟩) dX1_isPage_16 (by decide) rfl (fun c_16 => ?_) (fun c_16 => ?_)
      · refine v_iconst (n := 24) k dX1_isPage_23 rfl ?_
        refine v_zretR k (by decide) hq ?_ dX1_isPage_24
        first | rw [bI_f (by unfold pgF; exact decide_eq_false (by omega))] | rw [bI_t (by unfold pgF; exact decide_eq_true (by omega))]
      · refine v_iconst (n := 20) k dX1_isPage_19 rfl ?_
        refine v_goto (t := 24) k dX1_isPage_20 (by decide) ?_
        refine v_zretR k (by decide) hq ?_ dX1_isPage_24
        first | rw [bI_f (by unfold pgF; exact decide_eq_false (by omega))] | rw [bI_t (by unfold pgF; exact decide_eq_true (by omega))]
set_option maxHeartbeats 1000000 in
set_option maxRecDepth 20000 in
theorem z_X1_pages {D : va_G} {cI cB cJ cZ : ClassId} {hd hc hk : Nat} {ko : Int} {pg lg : Nat} {wt al dn : Int}  : ∀ l, Rd l yX1_pages cX1_pages 1 (some .int) ({ frames := 0, cells := 0, slots := 0, locals := 0 }) D (TY cI cB cJ cZ) [.ref hd] [oDisk hd hc hk ko pg lg wt al dn] (fun v => v = some (.int (iI (pg : Int)))) := by
  intro l
  refine Rd_of (by decide) (Nat.le_of_ble_eq_true rfl) (fun x k hq => ?_)
  refine v_aload_n (n := 1) k dX1_pages_0 rfl rfl ?_
  refine v_get (n := 4) k ciX1 0 3 (by decide) fl_X1_19 rfl rfl dX1_pages_1 rfl ?_
  refine v_iretR k hq ?_ dX1_pages_4
  rfl
set_option maxHeartbeats 1000000 in
set_option maxRecDepth 20000 in
theorem z_X1_log {D : va_G} {cI cB cJ cZ : ClassId} {hd hc hk : Nat} {ko : Int} {pg lg : Nat} {wt al dn : Int}  : ∀ l, Rd l yX1_log cX1_log 1 (some .int) ({ frames := 0, cells := 0, slots := 0, locals := 0 }) D (TY cI cB cJ cZ) [.ref hd] [oDisk hd hc hk ko pg lg wt al dn] (fun v => v = some (.int (iI (lg : Int)))) := by
  intro l
  refine Rd_of (by decide) (Nat.le_of_ble_eq_true rfl) (fun x k hq => ?_)
  refine v_aload_n (n := 1) k dX1_log_0 rfl rfl ?_
  refine v_get (n := 4) k ciX1 0 4 (by decide) fl_X1_23 rfl rfl dX1_log_1 rfl ?_
  refine v_iretR k hq ?_ dX1_log_4
  rfl
set_option maxHeartbeats 1000000 in
set_option maxRecDepth 20000 in
theorem z_X1_writes {D : va_G} {cI cB cJ cZ : ClassId} {hd hc hk : Nat} {ko : Int} {pg lg : Nat} {wt al dn : Int}  : ∀ l, Rd l yX1_writes cX1_writes 1 (some .int) ({ frames := 0, cells := 0, slots := 0, locals := 0 }) D (TY cI cB cJ cZ) [.ref hd] [oDisk hd hc hk ko pg lg wt al dn] (fun v => v = some (.int (iI wt))) := by
  intro l
  refine Rd_of (by decide) (Nat.le_of_ble_eq_true rfl) (fun x k hq => ?_)
  refine v_aload_n (n := 1) k dX1_writes_0 rfl rfl ?_
  refine v_get (n := 4) k ciX1 0 5 (by decide) fl_X1_26 rfl rfl dX1_writes_1 rfl ?_
  refine v_iretR k hq ?_ dX1_writes_4
  rfl
set_option maxHeartbeats 1000000 in
set_option maxRecDepth 20000 in
theorem z_X1_allowed {D : va_G} {cI cB cJ cZ : ClassId} {hd hc hk : Nat} {ko : Int} {pg lg : Nat} {wt al dn : Int}  : ∀ l, Rd l yX1_allowed cX1_allowed 1 (some .int) ({ frames := 0, cells := 0, slots := 0, locals := 0 }) D (TY cI cB cJ cZ) [.ref hd] [oDisk hd hc hk ko pg lg wt al dn] (fun v => v = some (.int (iI al))) := by
  intro l
  refine Rd_of (by decide) (Nat.le_of_ble_eq_true rfl) (fun x k hq => ?_)
  refine v_aload_n (n := 1) k dX1_allowed_0 rfl rfl ?_
  refine v_get (n := 4) k ciX1 0 6 (by decide) fl_X1_64 rfl rfl dX1_allowed_1 rfl ?_
  refine v_iretR k hq ?_ dX1_allowed_4
  rfl
set_option maxHeartbeats 1000000 in
set_option maxRecDepth 20000 in
theorem z_X1_isDown {D : va_G} {cI cB cJ cZ : ClassId} {hd hc hk : Nat} {ko : Int} {pg lg : Nat} {wt al dn : Int} (hdn : dn = 0 ∨ dn = 1) : ∀ l, Rd l yX1_isDown cX1_isDown 1 (some .boolean) ({ frames := 0, cells := 0, slots := 0, locals := 0 }) D (TY cI cB cJ cZ) [.ref hd] [oDisk hd hc hk ko pg lg wt al dn] (fun v => v = some (.int (iI dn))) := by
  intro l
  refine Rd_of (by decide) (Nat.le_of_ble_eq_true rfl) (fun x k hq => ?_)
  refine v_aload_n (n := 1) k dX1_isDown_0 rfl rfl ?_
  refine v_get (n := 4) k ciX1 0 7 (by decide) fl_X1_67 rfl rfl dX1_isDown_1 rfl ?_
  refine v_zretR k (by rcases hdn with rfl | rfl <;> rfl) hq ?_ dX1_isDown_4
  rfl
set_option maxHeartbeats 1000000 in
set_option maxRecDepth 20000 in
theorem z_X1_allow {D : va_G} {cI cB cJ cZ : ClassId} {hd hc hk : Nat} {ko : Int} {pg lg : Nat} {wt al dn : Int} {n : Int}  : ∀ l, Up l yX1_allow cX1_allow 2 none ({ frames := 0, cells := 0, slots := 0, locals := 0 }) D (TY cI cB cJ cZ) [.ref hd, .int (iI n)] [oDisk hd hc hk ko pg lg wt al dn] (fun r w1 => r = none ∧ w1 = [oDisk hd hc hk ko pg lg wt n 0]) := by
  intro l
  refine Up_of (by decide) (Nat.le_of_ble_eq_true rfl) (fun x k hq => ?_)
  refine v_aload_n (n := 1) k dX1_allow_0 rfl rfl ?_
  refine v_iconst (n := 2) k dX1_allow_1 rfl ?_
  refine v_put (n := 5) k ciX1 0 7 (by decide) fl_X1_67 rfl rfl (rfl) (rfl) (Nat.le_of_ble_eq_true rfl) dX1_allow_2 rfl ?_
  refine v_aload_n (n := 6) k dX1_allow_5 rfl rfl ?_
  refine v_iload_n (n := 7) k dX1_allow_6 rfl rfl ?_
  refine v_put (n := 10) k ciX1 0 6 (by decide) fl_X1_64 rfl rfl (rfl) (rfl) (Nat.le_of_ble_eq_true rfl) dX1_allow_7 rfl ?_
  refine v_vretU k hq ?_ rfl dX1_allow_10
  exact ⟨rfl, rfl⟩
set_option maxHeartbeats 1000000 in
set_option maxRecDepth 20000 in
theorem z_X1_depth {D : va_G} {cI cB cJ cZ : ClassId} {hd hc hk : Nat} {ko : Int} {pg lg : Nat} {wt al dn : Int} {C : Nat → Nat} (hw : DW C pg lg) : ∀ l, Rd l yX1_depth cX1_depth 1 (some .int) ({ frames := 1, cells := 0, slots := 0, locals := 22 }) D (TY cI cB cJ cZ) [.ref hd] [oDisk hd hc hk ko pg lg wt al dn, aN cI hc 65280 C] (fun v => v = some (.int (iI ((C 0 : Nat) : Int)))) := by
  intro l
  refine Rd_of (by decide) (Nat.le_of_ble_eq_true rfl) (fun x k hq => ?_)
  obtain ⟨w1, w2, w3, w4, w5, w6, w7⟩ := id hw
  refine v_aload_n (n := 1) k dX1_depth_0 rfl rfl ?_
  refine v_iconst (n := 2) k dX1_depth_1 rfl ?_
  refine v_iconst (n := 3) k dX1_depth_2 rfl ?_
  refine v_rdVi (n := 6) k [0, 1] 0 (z_X1_at (p := 0) (i := 0) rfl rfl (by omega) (by omega) w2) miX1_at ml_X1_70 (by decide) (by decide) rfl (by decide) rfl rfl rfl rfl (Nat.le_of_ble_eq_true rfl) ⟨Nat.zero_le _, Nat.zero_le _⟩ dX1_depth_3 rfl ?_
  refine v_iretR k hq ?_ dX1_depth_6
  rfl
set_option maxHeartbeats 1000000 in
set_option maxRecDepth 20000 in
theorem z_X1_directoryPage {D : va_G} {cI cB cJ cZ : ClassId} {hd hc hk : Nat} {ko : Int} {pg lg : Nat} {wt al dn : Int} {C : Nat → Nat} {K : Int} {kk : Nat} (hw : DW C pg lg) (hK : K = (kk : Int)) (hkk : kk < 255) : ∀ l, Rd l yX1_directoryPage cX1_directoryPage 2 (some .int) ({ frames := 1, cells := 0, slots := 0, locals := 22 }) D (TY cI cB cJ cZ) [.ref hd, .int (iI K)] [oDisk hd hc hk ko pg lg wt al dn, aN cI hc 65280 C] (fun v => v = some (.int (iI ((pb C 0 (1 + kk) : Nat) : Int)))) := by
  intro l
  refine Rd_of (by decide) (Nat.le_of_ble_eq_true rfl) (fun x k hq => ?_)
  obtain ⟨w1, w2, w3, w4, w5, w6, w7⟩ := id hw
  refine v_aload_n (n := 1) k dX1_directoryPage_0 rfl rfl ?_
  refine v_iconst (n := 2) k dX1_directoryPage_1 rfl ?_
  refine v_iconst (n := 3) k dX1_directoryPage_2 rfl ?_
  refine v_iload_n (n := 4) k dX1_directoryPage_3 rfl rfl ?_
  refine v_iadd (n := 5) k dX1_directoryPage_4 rfl ?_
  refine v_rdVi (n := 8) k [0, 1] 0 (z_X1_at (p := 0) (i := 1 + kk) rfl (by omega) (by omega) (by omega) w2) miX1_at ml_X1_70 (by decide) (by decide) rfl (by decide) rfl rfl rfl rfl (Nat.le_of_ble_eq_true rfl) ⟨Nat.zero_le _, Nat.zero_le _⟩ dX1_directoryPage_5 rfl ?_
  refine v_iretR k hq ?_ dX1_directoryPage_8
  rfl
set_option maxHeartbeats 1000000 in
set_option maxRecDepth 20000 in
theorem z_X1_entryAt {D : va_G} {cI cB cJ cZ : ClassId} {hd hc hk : Nat} {ko : Int} {pg lg : Nat} {wt al dn : Int} {C : Nat → Nat} {I : Int} {i : Nat} (hw : DW C pg lg) (hI : I = (i : Int)) (hi : i < 2 ^ C 0) : ∀ l, Rd l yX1_entryAt cX1_entryAt 2 (some .int) ({ frames := 2, cells := 0, slots := 0, locals := 43 }) D (TY cI cB cJ cZ) [.ref hd, .int (iI I)] [oDisk hd hc hk ko pg lg wt al dn, aN cI hc 65280 C] (fun v => v = some (.int (iI ((entN C i : Nat) : Int)))) := by
  intro l
  refine Rd_of (by decide) (Nat.le_of_ble_eq_true rfl) (fun x k hq => ?_)
  obtain ⟨w1, w2, w3, w4, w5, w6, w7⟩ := id hw
  have hd16 : 2 ^ C 0 ≤ 32768 := Nat.le_trans (Nat.pow_le_pow_right (n := 2) (j := 15) (by decide) w4) (by decide)
  refine v_iload_n (n := 1) k dX1_entryAt_0 rfl rfl ?_
  refine v_if_lt (n := 4) (t := 14) k (⟨by omega, by omega⟩) dX1_entryAt_1 (by decide) rfl (fun c_1 => ?_) (fun c_1 => ?_)
  · exfalso; omega
  · refine v_iload_n (n := 5) k dX1_entryAt_4 rfl rfl ?_
    refine v_iconst (n := 6) k dX1_entryAt_5 rfl ?_
    refine v_aload_n (n := 7) k dX1_entryAt_6 rfl rfl ?_
    refine v_rdVi (n := 10) k [0, 1] 0 (z_X1_depth hw) miX1_depth ml_X1_74 (by decide) (by decide) rfl (by decide) rfl rfl rfl rfl (Nat.le_of_ble_eq_true rfl) ⟨Nat.zero_le _, Nat.zero_le _⟩ dX1_entryAt_7 rfl ?_
    refine v_ishl (n := 11) k (((1 * 2 ^ C 0 : Nat) : Int)) (ax_shl rfl rfl (by omega) (by omega)) dX1_entryAt_10 rfl ?_
    refine v_icmp_lt (n := 14) (t := 16) k (⟨by omega, by omega⟩) (⟨by omega, by omega⟩) dX1_entryAt_11 (by decide) rfl (fun c_11 => ?_) (fun c_11 => ?_)
    · refine v_aload_n (n := 17) k dX1_entryAt_16 rfl rfl ?_
      refine v_aload_n (n := 18) k dX1_entryAt_17 rfl rfl ?_
      refine v_iload_n (n := 19) k dX1_entryAt_18 rfl rfl ?_
      refine v_sipush (n := 22) k dX1_entryAt_19 (by decide) rfl ?_
      refine v_idiv (n := 23) k (((i / 256 : Nat) : Int)) (ax_ne0 (by omega) (by omega)) (ax_div (by omega) rfl (by omega) (by omega) (by omega)) dX1_entryAt_22 rfl ?_
      refine v_rdVi (n := 26) k [0, 1] 0 (z_X1_directoryPage hw (kk := i / 256) rfl (by omega)) miX1_directoryPage ml_X1_78 (by decide) (by decide) rfl (by decide) rfl rfl rfl rfl (Nat.le_of_ble_eq_true rfl) ⟨Nat.zero_le _, Nat.zero_le _⟩ dX1_entryAt_23 rfl ?_
      refine v_iload_n (n := 27) k dX1_entryAt_26 rfl rfl ?_
      refine v_sipush (n := 30) k dX1_entryAt_27 (by decide) rfl ?_
      refine v_irem (n := 31) k (((i % 256 : Nat) : Int)) (ax_ne0 (by omega) (by omega)) (ax_rem (by omega) rfl (by omega) (by omega) (by omega)) dX1_entryAt_30 rfl ?_
      refine v_rdVi (n := 34) k [0, 1] 0 (z_X1_at (p := pb C 0 (1 + i / 256)) (i := i % 256) rfl rfl (by have := w5 (i / 256) (pF_idx (by omega)); unfold pb; rw [Nat.zero_mul, Nat.zero_add]; exact this) (by omega) w2) miX1_at ml_X1_70 (by decide) (by decide) rfl (by decide) rfl rfl rfl rfl (Nat.le_of_ble_eq_true rfl) ⟨Nat.zero_le _, Nat.zero_le _⟩ dX1_entryAt_31 rfl ?_
      refine v_iretR k hq ?_ dX1_entryAt_34
      rfl
    · exfalso; omega
set_option maxHeartbeats 1000000 in
set_option maxRecDepth 20000 in
theorem z_X1_entryAtG {D : va_G} {cI cB cJ cZ : ClassId} {hd hc hk : Nat} {ko : Int} {pg lg : Nat} {wt al dn : Int} {C : Nat → Nat} {I : Int} (hw : DW C pg lg) (hI : in32 I) : ∀ l, Rd l yX1_entryAt cX1_entryAt 2 (some .int) ({ frames := 2, cells := 0, slots := 0, locals := 43 }) D (TY cI cB cJ cZ) [.ref hd, .int (iI I)] [oDisk hd hc hk ko pg lg wt al dn, aN cI hc 65280 C] (fun v => v = some (.int (iI (entF C I)))) := by
  intro l
  refine Rd_of (by decide) (Nat.le_of_ble_eq_true rfl) (fun x k hq => ?_)
  obtain ⟨w1, w2, w3, w4, w5, w6, w7⟩ := id hw
  have hd16 : 2 ^ C 0 ≤ 32768 := Nat.le_trans (Nat.pow_le_pow_right (n := 2) (j := 15) (by decide) w4) (by decide)
  obtain ⟨hi1, hi2⟩ := hI
  refine v_iload_n (n := 1) k dX1_entryAt_0 rfl rfl ?_
  refine v_if_lt (n := 4) (t := 14) k (⟨by omega, by omega⟩) dX1_entryAt_1 (by decide) rfl (fun c_1 => ?_) (fun c_1 => ?_)
  · refine v_iconst (n := 15) k dX1_entryAt_14 rfl ?_
    refine v_iretR k hq ?_ dX1_entryAt_15
    rw [entF, if_neg (by omega)]
  · refine v_iload_n (n := 5) k dX1_entryAt_4 rfl rfl ?_
    refine v_iconst (n := 6) k dX1_entryAt_5 rfl ?_
    refine v_aload_n (n := 7) k dX1_entryAt_6 rfl rfl ?_
    refine v_rdVi (n := 10) k [0, 1] 0 (z_X1_depth hw) miX1_depth ml_X1_74 (by decide) (by decide) rfl (by decide) rfl rfl rfl rfl (Nat.le_of_ble_eq_true rfl) ⟨Nat.zero_le _, Nat.zero_le _⟩ dX1_entryAt_7 rfl ?_
    refine v_ishl (n := 11) k (((1 * 2 ^ C 0 : Nat) : Int)) (ax_shl rfl rfl (by omega) (by omega)) dX1_entryAt_10 rfl ?_
    refine v_icmp_lt (n := 14) (t := 16) k (⟨by omega, by omega⟩) (⟨by omega, by omega⟩) dX1_entryAt_11 (by decide) rfl (fun c_11 => ?_) (fun c_11 => ?_)
    · refine v_aload_n (n := 17) k dX1_entryAt_16 rfl rfl ?_
      refine v_aload_n (n := 18) k dX1_entryAt_17 rfl rfl ?_
      refine v_iload_n (n := 19) k dX1_entryAt_18 rfl rfl ?_
      refine v_sipush (n := 22) k dX1_entryAt_19 (by decide) rfl ?_
      refine v_idiv (n := 23) k (((I.toNat / 256 : Nat) : Int)) (ax_ne0 (by omega) (by omega)) (ax_div (by omega) rfl (by omega) (by omega) (by omega)) dX1_entryAt_22 rfl ?_
      refine v_rdVi (n := 26) k [0, 1] 0 (z_X1_directoryPage hw (kk := I.toNat / 256) rfl (by omega)) miX1_directoryPage ml_X1_78 (by decide) (by decide) rfl (by decide) rfl rfl rfl rfl (Nat.le_of_ble_eq_true rfl) ⟨Nat.zero_le _, Nat.zero_le _⟩ dX1_entryAt_23 rfl ?_
      refine v_iload_n (n := 27) k dX1_entryAt_26 rfl rfl ?_
      refine v_sipush (n := 30) k dX1_entryAt_27 (by decide) rfl ?_
      refine v_irem (n := 31) k (((I.toNat % 256 : Nat) : Int)) (ax_ne0 (by omega) (by omega)) (ax_rem (by omega) rfl (by omega) (by omega) (by omega)) dX1_entryAt_30 rfl ?_
      refine v_rdVi (n := 34) k [0, 1] 0 (z_X1_at (p := pb C 0 (1 + I.toNat / 256)) (i := I.toNat % 256) rfl rfl (by have := w5 (I.toNat / 256) (pF_idx (by omega)); unfold pb; rw [Nat.zero_mul, Nat.zero_add]; exact this) (by omega) w2) miX1_at ml_X1_70 (by decide) (by decide) rfl (by decide) rfl rfl rfl rfl (Nat.le_of_ble_eq_true rfl) ⟨Nat.zero_le _, Nat.zero_le _⟩ dX1_entryAt_31 rfl ?_
      refine v_iretR k hq ?_ dX1_entryAt_34
      rw [entF, if_pos ⟨by omega, by omega⟩]; rfl
    · refine v_iconst (n := 15) k dX1_entryAt_14 rfl ?_
      refine v_iretR k hq ?_ dX1_entryAt_15
      rw [entF, if_neg (by omega)]
set_option maxHeartbeats 1000000 in
set_option maxRecDepth 20000 in
theorem z_X1_indexOf {D : va_G} {cI cB cJ cZ : ClassId} {hd hc hk : Nat} {ko : Int} {pg lg : Nat} {wt al dn : Int} {C : Nat → Nat} {H : Int} {h : Nat} (hw : DW C pg lg) (hH : H = (h : Int)) (hh : h < 65536) : ∀ l, Rd l yX1_indexOf cX1_indexOf 2 (some .int) ({ frames := 2, cells := 0, slots := 0, locals := 42 }) D (TY cI cB cJ cZ) [.ref hd, .int (iI H)] [oDisk hd hc hk ko pg lg wt al dn, aN cI hc 65280 C] (fun v => v = some (.int (iI ((idx C h : Nat) : Int)))) := by
  intro l
  refine Rd_of (by decide) (Nat.le_of_ble_eq_true rfl) (fun x k hq => ?_)
  obtain ⟨w1, w2, w3, w4, w5, w6, w7⟩ := id hw
  refine v_iload_n (n := 1) k dX1_indexOf_0 rfl rfl ?_
  refine v_bipush (n := 3) k dX1_indexOf_1 (by decide) rfl ?_
  refine v_aload_n (n := 4) k dX1_indexOf_3 rfl rfl ?_
  refine v_rdVi (n := 7) k [0, 1] 0 (z_X1_depth hw) miX1_depth ml_X1_74 (by decide) (by decide) rfl (by decide) rfl rfl rfl rfl (Nat.le_of_ble_eq_true rfl) ⟨Nat.zero_le _, Nat.zero_le _⟩ dX1_indexOf_4 rfl ?_
  refine v_isub (n := 8) k dX1_indexOf_7 rfl ?_
  refine v_ishr (n := 9) k (((h / 2 ^ (16 - C 0) : Nat) : Int)) (ax_shr (by omega) (by omega) (by omega) (by omega)) dX1_indexOf_8 rfl ?_
  refine v_iretR k hq ?_ dX1_indexOf_9
  rfl
set_option maxHeartbeats 1000000 in
set_option maxRecDepth 20000 in
theorem z_X1_bucketOf {D : va_G} {cI cB cJ cZ : ClassId} {hd hc hk : Nat} {ko : Int} {pg lg : Nat} {wt al dn : Int} {C : Nat → Nat} {H : Int} {h : Nat} (hw : DW C pg lg) (hH : H = (h : Int)) (hh : h < 65536) : ∀ l, Rd l yX1_bucketOf cX1_bucketOf 2 (some .int) ({ frames := 3, cells := 0, slots := 0, locals := 64 }) D (TY cI cB cJ cZ) [.ref hd, .int (iI H)] [oDisk hd hc hk ko pg lg wt al dn, aN cI hc 65280 C] (fun v => v = some (.int (iI ((entN C (idx C h) : Nat) : Int)))) := by
  intro l
  refine Rd_of (by decide) (Nat.le_of_ble_eq_true rfl) (fun x k hq => ?_)
  obtain ⟨w1, w2, w3, w4, w5, w6, w7⟩ := id hw
  refine v_aload_n (n := 1) k dX1_bucketOf_0 rfl rfl ?_
  refine v_aload_n (n := 2) k dX1_bucketOf_1 rfl rfl ?_
  refine v_iload_n (n := 3) k dX1_bucketOf_2 rfl rfl ?_
  refine v_rdVi (n := 6) k [0, 1] 0 (z_X1_indexOf hw (h := h) hH hh) miX1_indexOf ml_X1_82 (by decide) (by decide) rfl (by decide) rfl rfl rfl rfl (Nat.le_of_ble_eq_true rfl) ⟨Nat.zero_le _, Nat.zero_le _⟩ dX1_bucketOf_3 rfl ?_
  refine v_rdVi (n := 9) k [0, 1] 0 (z_X1_entryAt hw (i := idx C h) rfl (idx_lt hh w4)) miX1_entryAt ml_X1_85 (by decide) (by decide) rfl (by decide) rfl rfl rfl rfl (Nat.le_of_ble_eq_true rfl) ⟨Nat.zero_le _, Nat.zero_le _⟩ dX1_bucketOf_6 rfl ?_
  refine v_iretR k hq ?_ dX1_bucketOf_9
  rfl
set_option maxHeartbeats 1000000 in
set_option maxRecDepth 20000 in
theorem z_X1_recordBytes {D : va_G} {cI cB cJ cZ : ClassId} {hd hc hk : Nat} {ko : Int} {pg lg : Nat} {wt al dn : Int} {C : Nat → Nat} {P : Int} {p : Nat} (hP : P = (p : Int)) (hp : p < pg) (hg : pg ≤ 255) : ∀ l, Rd l yX1_recordBytes cX1_recordBytes 2 (some .int) ({ frames := 1, cells := 0, slots := 0, locals := 22 }) D (TY cI cB cJ cZ) [.ref hd, .int (iI P)] [oDisk hd hc hk ko pg lg wt al dn, aN cI hc 65280 C] (fun v => v = some (.int (iI ((bL C p : Nat) : Int)))) := by
  intro l
  refine Rd_of (by decide) (Nat.le_of_ble_eq_true rfl) (fun x k hq => ?_)
  refine v_aload_n (n := 1) k dX1_recordBytes_0 rfl rfl ?_
  refine v_iload_n (n := 2) k dX1_recordBytes_1 rfl rfl ?_
  refine v_iconst (n := 3) k dX1_recordBytes_2 rfl ?_
  refine v_rdVi (n := 6) k [0, 1] 0 (z_X1_at (p := p) (i := 2) hP rfl hp (by omega) hg) miX1_at ml_X1_70 (by decide) (by decide) rfl (by decide) rfl rfl rfl rfl (Nat.le_of_ble_eq_true rfl) ⟨Nat.zero_le _, Nat.zero_le _⟩ dX1_recordBytes_3 rfl ?_
  refine v_sipush (n := 9) k dX1_recordBytes_6 (by decide) rfl ?_
  refine v_imul (n := 10) k dX1_recordBytes_9 rfl ?_
  refine v_aload_n (n := 11) k dX1_recordBytes_10 rfl rfl ?_
  refine v_iload_n (n := 12) k dX1_recordBytes_11 rfl rfl ?_
  refine v_iconst (n := 13) k dX1_recordBytes_12 rfl ?_
  refine v_rdVi (n := 16) k [0, 1] 0 (z_X1_at (p := p) (i := 3) hP rfl hp (by omega) hg) miX1_at ml_X1_70 (by decide) (by decide) rfl (by decide) rfl rfl rfl rfl (Nat.le_of_ble_eq_true rfl) ⟨Nat.zero_le _, Nat.zero_le _⟩ dX1_recordBytes_13 rfl ?_
  refine v_iadd (n := 17) k dX1_recordBytes_16 rfl ?_
  refine v_iretR k hq ?_ dX1_recordBytes_17
  rfl
set_option maxHeartbeats 1000000 in
set_option maxRecDepth 20000 in
theorem z_X1_recordSize {D : va_G} {cI cB cJ cZ : ClassId} {hd hc hk : Nat} {ko : Int} {pg lg : Nat} {wt al dn : Int} {C : Nat → Nat} {P S : Int} {p s : Nat} (hP : P = (p : Int)) (hp : p < pg) (hg : pg ≤ 255) (hS : S = (s : Int)) (hs : s + 1 < 256) : ∀ l, Rd l yX1_recordSize cX1_recordSize 3 (some .int) ({ frames := 1, cells := 0, slots := 0, locals := 22 }) D (TY cI cB cJ cZ) [.ref hd, .int (iI P), .int (iI S)] [oDisk hd hc hk ko pg lg wt al dn, aN cI hc 65280 C] (fun v => v = some (.int (iI ((rsz C p s : Nat) : Int)))) := by
  intro l
  refine Rd_of (by decide) (Nat.le_of_ble_eq_true rfl) (fun x k hq => ?_)
  refine v_iconst (n := 1) k dX1_recordSize_0 rfl ?_
  refine v_aload_n (n := 2) k dX1_recordSize_1 rfl rfl ?_
  refine v_iload_n (n := 3) k dX1_recordSize_2 rfl rfl ?_
  refine v_iload_n (n := 4) k dX1_recordSize_3 rfl rfl ?_
  refine v_rdVi (n := 7) k [0, 1] 0 (z_X1_at (p := p) (i := s) hP hS hp (by omega) hg) miX1_at ml_X1_70 (by decide) (by decide) rfl (by decide) rfl rfl rfl rfl (Nat.le_of_ble_eq_true rfl) ⟨Nat.zero_le _, Nat.zero_le _⟩ dX1_recordSize_4 rfl ?_
  refine v_iadd (n := 8) k dX1_recordSize_7 rfl ?_
  refine v_aload_n (n := 9) k dX1_recordSize_8 rfl rfl ?_
  refine v_iload_n (n := 10) k dX1_recordSize_9 rfl rfl ?_
  refine v_iload_n (n := 11) k dX1_recordSize_10 rfl rfl ?_
  refine v_iconst (n := 12) k dX1_recordSize_11 rfl ?_
  refine v_iadd (n := 13) k dX1_recordSize_12 rfl ?_
  refine v_rdVi (n := 16) k [0, 1] 0 (z_X1_at (p := p) (i := s + 1) hP (by omega) hp (by omega) hg) miX1_at ml_X1_70 (by decide) (by decide) rfl (by decide) rfl rfl rfl rfl (Nat.le_of_ble_eq_true rfl) ⟨Nat.zero_le _, Nat.zero_le _⟩ dX1_recordSize_13 rfl ?_
  refine v_iadd (n := 17) k dX1_recordSize_16 rfl ?_
  refine v_iretR k hq ?_ dX1_recordSize_17
  rfl
set_option maxHeartbeats 1000000 in
set_option maxRecDepth 20000 in
theorem lp_X1_recordStart {D : va_G} {cI cB cJ cZ : ClassId} {x : Kx} {hd hc hk : Nat} {ko : Int} {pg lg : Nat} {wt al dn : Int} {C : Nat → Nat} {P N : Int} {p n : Nat} (k : Kf x cX1_recordStart 5 yX1_recordStart.cls (some .int) D (TY cI cB cJ cZ) ({ frames := 2, cells := 0, slots := 0, locals := 44 })) (hq : isR x (fun v => v = some (.int (iI ((rst C p n : Nat) : Int))))) (hP : P = (p : Int)) (hp : p < pg) (hg : pg ≤ 255) (hN : N = (n : Int)) (hb : WB C p) (hn : n ≤ pb C p 1) (hC : ∀ j, C j < 256) : ∀ (m : Nat) (i : Nat) (S I : Int), n < i + m → i ≤ n → I = (i : Int) → S = ((rst C p i : Nat) : Int) → Vw x 5 (fun _ => True) D false 0 0 [oDisk hd hc hk ko pg lg wt al dn, aN cI hc 65280 C] 5 [(0, .ref hd), (1, .int (iI P)), (2, .int (iI N)), (3, .int (iI S)), (4, .int (iI I))] [] := by
  intro m
  induction m with
  | zero => intro i S I hm hi e1 e2; omega
  | succ m ih =>
    intro i S I hm hi e1 e2
    have hpb : pb C p 1 < 256 := hC _
    refine v_iload (n := 7) k dX1_recordStart_5 rfl rfl ?_
    refine v_iload_n (n := 8) k dX1_recordStart_7 rfl rfl ?_
    refine v_icmp_ge (n := 11) (t := 26) k (⟨by omega, by omega⟩) (⟨by omega, by omega⟩) dX1_recordStart_8 (by decide) rfl (fun c_8 => ?_) (fun c_8 => ?_)
    · refine v_iload_n (n := 27) k dX1_recordStart_26 rfl rfl ?_
      refine v_iretR k hq ?_ dX1_recordStart_27
      have e : i = n := by omega
      rw [e2, e]
    · have hf := hb.fit (r := i) (by omega)
      have hz9 := rsz_ge C p (rst C p i)
      refine v_iload_n (n := 12) k dX1_recordStart_11 rfl rfl ?_
      refine v_aload_n (n := 13) k dX1_recordStart_12 rfl rfl ?_
      refine v_iload_n (n := 14) k dX1_recordStart_13 rfl rfl ?_
      refine v_iload_n (n := 15) k dX1_recordStart_14 rfl rfl ?_
      refine v_rdVi (n := 18) k [0, 1] 0 (z_X1_recordSize (s := rst C p i) hP hp hg e2 (by omega)) miX1_recordSize ml_X1_112 (by decide) (by decide) rfl (by decide) rfl rfl rfl rfl (Nat.le_of_ble_eq_true rfl) ⟨Nat.zero_le _, Nat.zero_le _⟩ dX1_recordStart_15 rfl ?_
      refine v_iadd (n := 19) k dX1_recordStart_18 rfl ?_
      refine v_istore_n (n := 20) k dX1_recordStart_19 rfl (by decide) rfl rfl ?_
      refine v_iinc (n := 23) k dX1_recordStart_20 rfl (by decide) rfl rfl rfl ?_
      refine v_goto (t := 5) k dX1_recordStart_23 (by decide) ?_
      exact ih (i + 1) _ _ (by omega) (by omega) (by omega) (by show S + _ = _; rw [e2]; rfl)
set_option maxHeartbeats 1000000 in
set_option maxRecDepth 20000 in
theorem z_X1_recordStart {D : va_G} {cI cB cJ cZ : ClassId} {hd hc hk : Nat} {ko : Int} {pg lg : Nat} {wt al dn : Int} {C : Nat → Nat} {P N : Int} {p n : Nat} (hP : P = (p : Int)) (hp : p < pg) (hg : pg ≤ 255) (hN : N = (n : Int)) (hb : WB C p) (hn : n ≤ pb C p 1) (hC : ∀ j, C j < 256) : ∀ l, Rd l yX1_recordStart cX1_recordStart 5 (some .int) ({ frames := 2, cells := 0, slots := 0, locals := 44 }) D (TY cI cB cJ cZ) [.ref hd, .int (iI P), .int (iI N)] [oDisk hd hc hk ko pg lg wt al dn, aN cI hc 65280 C] (fun v => v = some (.int (iI ((rst C p n : Nat) : Int)))) := by
  intro l
  refine Rd_of (by decide) (Nat.le_of_ble_eq_true rfl) (fun x k hq => ?_)
  refine v_iconst (n := 1) k dX1_recordStart_0 rfl ?_
  refine v_istore_n (n := 2) k dX1_recordStart_1 rfl (by decide) rfl rfl ?_
  refine v_iconst (n := 3) k dX1_recordStart_2 rfl ?_
  refine v_istore (n := 5) k dX1_recordStart_3 rfl (by decide) rfl rfl ?_
  exact lp_X1_recordStart k hq hP hp hg hN hb hn hC (n + 1) 0 _ _ (by omega) (by omega) rfl rfl
set_option maxHeartbeats 1000000 in
set_option maxRecDepth 20000 in
theorem z_X1_recordHash {D : va_G} {cI cB cJ cZ : ClassId} {hd hc hk : Nat} {ko : Int} {pg lg : Nat} {wt al dn : Int} {C : Nat → Nat} {P S : Int} {p s : Nat} (hP : P = (p : Int)) (hp : p < pg) (hg : pg ≤ 255) (hS : S = (s : Int)) (hs : s + 2 + pb C p s ≤ 256) : ∀ l, Rd l yX1_recordHash cX1_recordHash 3 (some .int) ({ frames := 1, cells := 0, slots := 0, locals := 24 }) D (TY cI cB cJ cZ) [.ref hd, .int (iI P), .int (iI S)] [oDisk hd hc hk ko pg lg wt al dn, aN cI hc 65280 C] (fun v => v = some (.int (iI ((hsh C (p * 256 + s + 2) (pb C p s) : Nat) : Int)))) := by
  intro l
  refine Rd_of (by decide) (Nat.le_of_ble_eq_true rfl) (fun x k hq => ?_)
  refine v_aload_n (n := 1) k dX1_recordHash_0 rfl rfl ?_
  refine v_get (n := 4) k ciX1 0 0 (by decide) fl_X1_10 rfl rfl dX1_recordHash_1 rfl ?_
  refine v_iload_n (n := 5) k dX1_recordHash_4 rfl rfl ?_
  refine v_sipush (n := 8) k dX1_recordHash_5 (by decide) rfl ?_
  refine v_imul (n := 9) k dX1_recordHash_8 rfl ?_
  refine v_iload_n (n := 10) k dX1_recordHash_9 rfl rfl ?_
  refine v_iadd (n := 11) k dX1_recordHash_10 rfl ?_
  refine v_iconst (n := 12) k dX1_recordHash_11 rfl ?_
  refine v_iadd (n := 13) k dX1_recordHash_12 rfl ?_
  refine v_aload_n (n := 14) k dX1_recordHash_13 rfl rfl ?_
  refine v_iload_n (n := 15) k dX1_recordHash_14 rfl rfl ?_
  refine v_iload_n (n := 16) k dX1_recordHash_15 rfl rfl ?_
  refine v_rdVi (n := 19) k [0, 1] 0 (z_X1_at (p := p) (i := s) hP hS hp (by omega) hg) miX1_at ml_X1_70 (by decide) (by decide) rfl (by decide) rfl rfl rfl rfl (Nat.le_of_ble_eq_true rfl) ⟨Nat.zero_le _, Nat.zero_le _⟩ dX1_recordHash_16 rfl ?_
  refine v_rdSNi (n := 22) k [1] (z_X4_hashOf (s := p * 256 + s + 2) (z := pb C p s) (by omega) rfl (by omega) (by decide)) miX4_hashOf nl_X1_115 (by decide) (by decide) rfl (by decide) rfl rfl (Nat.le_of_ble_eq_true rfl) ⟨Nat.zero_le _, Nat.zero_le _⟩ dX1_recordHash_19 rfl ?_
  refine v_iretR k hq ?_ dX1_recordHash_22
  rfl
set_option maxHeartbeats 1000000 in
set_option maxRecDepth 20000 in
theorem lp_X1_allHashesAre {D : va_G} {cI cB cJ cZ : ClassId} {x : Kx} {hd hc hk : Nat} {ko : Int} {pg lg : Nat} {wt al dn : Int} {C : Nat → Nat} {P H : Int} {p h : Nat} (k : Kf x cX1_allHashesAre 6 yX1_allHashesAre.cls (some .boolean) D (TY cI cB cJ cZ) ({ frames := 2, cells := 0, slots := 0, locals := 46 })) (hq : isR x (fun v => v = some (.int (iI (bI (allH C p h)))))) (hP : P = (p : Int)) (hp : p < pg) (hg : pg ≤ 255) (hH : H = (h : Int)) (hh : h < 65536) (hb : WB C p) (hC : ∀ j, C j < 256) : ∀ (m : Nat) (i : Nat) (S I : Int), pb C p 1 < i + m → i ≤ pb C p 1 → I = (i : Int) → S = ((rst C p i : Nat) : Int) → (∀ r, r < i → rh C p r = h) → Vw x 6 (fun _ => True) D false 0 0 [oDisk hd hc hk ko pg lg wt al dn, aN cI hc 65280 C] 13 [(0, .ref hd), (1, .int (iI P)), (2, .int (iI H)), (3, .int (iI ((pb C p 1 : Nat) : Int))), (4, .int (iI S)), (5, .int (iI I))] [] := by
  intro m
  induction m with
  | zero => intro i S I hm hi e1 e2 e3; omega
  | succ m ih =>
    intro i S I hm hi e1 e2 e3
    have hpb : pb C p 1 < 256 := hC _
    refine v_iload (n := 15) k dX1_allHashesAre_13 rfl rfl ?_
    refine v_iload_n (n := 16) k dX1_allHashesAre_15 rfl rfl ?_
    refine v_icmp_ge (n := 19) (t := 50) k (⟨by omega, by omega⟩) (⟨by omega, by omega⟩) dX1_allHashesAre_16 (by decide) rfl (fun c_16 => ?_) (fun c_16 => ?_)
    · refine v_iconst (n := 51) k dX1_allHashesAre_50 rfl ?_
      refine v_zretR k (by decide) hq ?_ dX1_allHashesAre_51
      rw [bI_t (show allH C p h = true from all_range (fun r hr => by simpa using e3 r (by omega)))]
    · have hf := hb.fit (r := i) (by omega)
      have hz9 := rsz_ge C p (rst C p i)
      have h4 := rst_ge C p i
      have hl := hsh_lt C (p * 256 + rst C p i + 2) (pb C p (rst C p i))
      refine v_aload_n (n := 20) k dX1_allHashesAre_19 rfl rfl ?_
      refine v_iload_n (n := 21) k dX1_allHashesAre_20 rfl rfl ?_
      refine v_iload (n := 23) k dX1_allHashesAre_21 rfl rfl ?_
      refine v_rdVi (n := 26) k [0, 1] 0 (z_X1_recordHash (s := rst C p i) hP hp hg e2 (by omega)) miX1_recordHash ml_X1_119 (by decide) (by decide) rfl (by decide) rfl rfl rfl rfl (Nat.le_of_ble_eq_true rfl) ⟨Nat.zero_le _, Nat.zero_le _⟩ dX1_allHashesAre_23 rfl ?_
      refine v_iload_n (n := 27) k dX1_allHashesAre_26 rfl rfl ?_
      refine v_icmp_eq (n := 30) (t := 32) k (⟨by omega, by omega⟩) (⟨by omega, by omega⟩) dX1_allHashesAre_27 (by decide) rfl (fun c_27 => ?_) (fun c_27 => ?_)
      · refine v_iload (n := 34) k dX1_allHashesAre_32 rfl rfl ?_
        refine v_aload_n (n := 35) k dX1_allHashesAre_34 rfl rfl ?_
        refine v_iload_n (n := 36) k dX1_allHashesAre_35 rfl rfl ?_
        refine v_iload (n := 38) k dX1_allHashesAre_36 rfl rfl ?_
        refine v_rdVi (n := 41) k [0, 1] 0 (z_X1_recordSize (s := rst C p i) hP hp hg e2 (by omega)) miX1_recordSize ml_X1_112 (by decide) (by decide) rfl (by decide) rfl rfl rfl rfl (Nat.le_of_ble_eq_true rfl) ⟨Nat.zero_le _, Nat.zero_le _⟩ dX1_allHashesAre_38 rfl ?_
        refine v_iadd (n := 42) k dX1_allHashesAre_41 rfl ?_
        refine v_istore (n := 44) k dX1_allHashesAre_42 rfl (by decide) rfl rfl ?_
        refine v_iinc (n := 47) k dX1_allHashesAre_44 rfl (by decide) rfl rfl rfl ?_
        refine v_goto (t := 13) k dX1_allHashesAre_47 (by decide) ?_
        exact ih (i + 1) _ _ (by omega) (by omega) (by omega) (by show S + _ = _; rw [e2]; rfl) (fun r hr => by
          rcases Nat.lt_or_ge r i with q | q
          · exact e3 r q
          · have : r = i := by omega
            rw [this]
            unfold rh
            omega)
      · refine v_iconst (n := 31) k dX1_allHashesAre_30 rfl ?_
        refine v_zretR k (by decide) hq ?_ dX1_allHashesAre_31
        rw [bI_f (show allH C p h = false from all_range_f (i := i) (by omega) (by
          have : rh C p i ≠ h := by unfold rh; omega
          simpa using this))]
set_option maxHeartbeats 1000000 in
set_option maxRecDepth 20000 in
theorem z_X1_allHashesAre {D : va_G} {cI cB cJ cZ : ClassId} {hd hc hk : Nat} {ko : Int} {pg lg : Nat} {wt al dn : Int} {C : Nat → Nat} {P H : Int} {p h : Nat} (hP : P = (p : Int)) (hp : p < pg) (hg : pg ≤ 255) (hH : H = (h : Int)) (hh : h < 65536) (hb : WB C p) (hC : ∀ j, C j < 256) : ∀ l, Rd l yX1_allHashesAre cX1_allHashesAre 6 (some .boolean) ({ frames := 2, cells := 0, slots := 0, locals := 46 }) D (TY cI cB cJ cZ) [.ref hd, .int (iI P), .int (iI H)] [oDisk hd hc hk ko pg lg wt al dn, aN cI hc 65280 C] (fun v => v = some (.int (iI (bI (allH C p h))))) := by
  intro l
  refine Rd_of (by decide) (Nat.le_of_ble_eq_true rfl) (fun x k hq => ?_)
  refine v_aload_n (n := 1) k dX1_allHashesAre_0 rfl rfl ?_
  refine v_iload_n (n := 2) k dX1_allHashesAre_1 rfl rfl ?_
  refine v_iconst (n := 3) k dX1_allHashesAre_2 rfl ?_
  refine v_rdVi (n := 6) k [0, 1] 0 (z_X1_at (p := p) (i := 1) hP rfl hp (by omega) hg) miX1_at ml_X1_70 (by decide) (by decide) rfl (by decide) rfl rfl rfl rfl (Nat.le_of_ble_eq_true rfl) ⟨Nat.zero_le _, Nat.zero_le _⟩ dX1_allHashesAre_3 rfl ?_
  refine v_istore_n (n := 7) k dX1_allHashesAre_6 rfl (by decide) rfl rfl ?_
  refine v_iconst (n := 8) k dX1_allHashesAre_7 rfl ?_
  refine v_istore (n := 10) k dX1_allHashesAre_8 rfl (by decide) rfl rfl ?_
  refine v_iconst (n := 11) k dX1_allHashesAre_10 rfl ?_
  refine v_istore (n := 13) k dX1_allHashesAre_11 rfl (by decide) rfl rfl ?_
  exact lp_X1_allHashesAre k hq hP hp hg hH hh hb hC (pb C p 1 + 1) 0 _ _ (by omega) (by omega) rfl rfl (fun r hr => absurd hr (by omega))
set_option maxHeartbeats 1000000 in
set_option maxRecDepth 20000 in
theorem lp_X1_hasKey {D : va_G} {cI cB cJ cZ : ClassId} {x : Kx} {hd hc hk : Nat} {ko : Int} {pg lg : Nat} {wt al dn : Int} {C : Nat → Nat} {ht hb : Nat} {sz : Int} {T : Nat → Nat} {P S Z : Int} {p s z : Nat} (k : Kf x cX1_hasKey 6 yX1_hasKey.cls (some .boolean) D (TY cI cB cJ cZ) ({ frames := 1, cells := 0, slots := 0, locals := 22 })) (hq : isR x (fun v => v = some (.int (iI (bI (keq C p s T z)))))) (hP : P = (p : Int)) (hp : p < pg) (hg : pg ≤ 255) (hS : S = (s : Int)) (hZ : Z = (z : Int)) (hs : s + z ≤ 256) (hz : z ≤ 48) (hC : ∀ j, C j < 256) (hT : ∀ j, T j < 256) : ∀ (m : Nat) (i : Nat) (I : Int), z < i + m → i ≤ z → I = (i : Int) → (∀ r, r < i → pb C p (s + r) = T r) → Vw x 6 (fun _ => True) D false 0 0 [oDisk hd hc hk ko pg lg wt al dn, aN cI hc 65280 C, oTape ht hb sz, aN cI hb 48 T] 3 [(0, .ref hd), (1, .int (iI P)), (2, .int (iI S)), (3, .ref ht), (4, .int (iI Z)), (5, .int (iI I))] [] := by
  intro m
  induction m with
  | zero => intro i I hm hi e1 e3; omega
  | succ m ih =>
    intro i I hm hi e1 e3
    refine v_iload (n := 5) k dX1_hasKey_3 rfl rfl ?_
    refine v_iload (n := 7) k dX1_hasKey_5 rfl rfl ?_
    refine v_icmp_ge (n := 10) (t := 36) k (⟨by omega, by omega⟩) (⟨by omega, by omega⟩) dX1_hasKey_7 (by decide) rfl (fun c_7 => ?_) (fun c_7 => ?_)
    · refine v_iconst (n := 37) k dX1_hasKey_36 rfl ?_
      refine v_zretR k (by decide) hq ?_ dX1_hasKey_37
      rw [bI_t (show keq C p s T z = true from all_range (fun r hr => by simpa using e3 r (by omega)))]
    · have hc1 := hC (p * 256 + (s + i))
      have hc2 : pb C p (s + i) < 256 := hc1
      have hc3 := hT i
      refine v_aload_n (n := 11) k dX1_hasKey_10 rfl rfl ?_
      refine v_iload_n (n := 12) k dX1_hasKey_11 rfl rfl ?_
      refine v_iload_n (n := 13) k dX1_hasKey_12 rfl rfl ?_
      refine v_iload (n := 15) k dX1_hasKey_13 rfl rfl ?_
      refine v_iadd (n := 16) k dX1_hasKey_15 rfl ?_
      refine v_rdVi (n := 19) k [0, 1] 0 (z_X1_at (p := p) (i := s + i) hP (by omega) hp (by omega) hg) miX1_at ml_X1_70 (by decide) (by decide) rfl (by decide) rfl rfl rfl rfl (Nat.le_of_ble_eq_true rfl) ⟨Nat.zero_le _, Nat.zero_le _⟩ dX1_hasKey_16 rfl ?_
      refine v_aload_n (n := 20) k dX1_hasKey_19 rfl rfl ?_
      refine v_iload (n := 22) k dX1_hasKey_20 rfl rfl ?_
      refine v_rdVi (n := 25) k [2, 3] 2 (z_X3_byteAt (i := i) e1 (by omega)) miX3_byteAt ml_X1_126 (by decide) (by decide) rfl (by decide) rfl rfl rfl rfl (Nat.le_of_ble_eq_true rfl) ⟨Nat.zero_le _, Nat.zero_le _⟩ dX1_hasKey_22 rfl ?_
      refine v_icmp_eq (n := 28) (t := 30) k (⟨by omega, by omega⟩) (⟨by omega, by omega⟩) dX1_hasKey_25 (by decide) rfl (fun c_25 => ?_) (fun c_25 => ?_)
      · refine v_iinc (n := 33) k dX1_hasKey_30 rfl (by decide) rfl rfl rfl ?_
        refine v_goto (t := 3) k dX1_hasKey_33 (by decide) ?_
        exact ih (i + 1) _ (by omega) (by omega) (by omega) (fun r hr => by
          rcases Nat.lt_or_ge r i with q | q
          · exact e3 r q
          · have : r = i := by omega
            rw [this]
            omega)
      · refine v_iconst (n := 29) k dX1_hasKey_28 rfl ?_
        refine v_zretR k (by decide) hq ?_ dX1_hasKey_29
        rw [bI_f (show keq C p s T z = false from all_range_f (i := i) (by omega) (by
          have : pb C p (s + i) ≠ T i := by omega
          simpa using this))]
set_option maxHeartbeats 1000000 in
set_option maxRecDepth 20000 in
theorem z_X1_hasKey {D : va_G} {cI cB cJ cZ : ClassId} {hd hc hk : Nat} {ko : Int} {pg lg : Nat} {wt al dn : Int} {C : Nat → Nat} {ht hb : Nat} {sz : Int} {T : Nat → Nat} {P S Z : Int} {p s z : Nat} (hP : P = (p : Int)) (hp : p < pg) (hg : pg ≤ 255) (hS : S = (s : Int)) (hZ : Z = (z : Int)) (hs : s + z ≤ 256) (hz : z ≤ 48) (hC : ∀ j, C j < 256) (hT : ∀ j, T j < 256) : ∀ l, Rd l yX1_hasKey cX1_hasKey 6 (some .boolean) ({ frames := 1, cells := 0, slots := 0, locals := 22 }) D (TY cI cB cJ cZ) [.ref hd, .int (iI P), .int (iI S), .ref ht, .int (iI Z)] [oDisk hd hc hk ko pg lg wt al dn, aN cI hc 65280 C, oTape ht hb sz, aN cI hb 48 T] (fun v => v = some (.int (iI (bI (keq C p s T z))))) := by
  intro l
  refine Rd_of (by decide) (Nat.le_of_ble_eq_true rfl) (fun x k hq => ?_)
  refine v_iconst (n := 1) k dX1_hasKey_0 rfl ?_
  refine v_istore (n := 3) k dX1_hasKey_1 rfl (by decide) rfl rfl ?_
  exact lp_X1_hasKey k hq hP hp hg hS hZ hs hz hC hT (z + 1) 0 _ (by omega) (by omega) rfl (fun r hr => absurd hr (by omega))
set_option maxHeartbeats 1000000 in
set_option maxRecDepth 20000 in
theorem lp_X1_find {D : va_G} {cI cB cJ cZ : ClassId} {x : Kx} {hd hc hk : Nat} {ko : Int} {pg lg : Nat} {wt al dn : Int} {C : Nat → Nat} {ht hb : Nat} {sz : Int} {T : Nat → Nat} {P Z : Int} {p z : Nat} (k : Kf x cX1_find 7 yX1_find.cls (some .int) D (TY cI cB cJ cZ) ({ frames := 2, cells := 0, slots := 0, locals := 47 })) (hq : isR x (fun v => v = some (.int (iI (fndI C p T z))))) (hP : P = (p : Int)) (hp : p < pg) (hg : pg ≤ 255) (hZ : Z = (z : Int)) (hz : z ≤ 48) (hb9 : WB C p) (hC : ∀ j, C j < 256) (hT : ∀ j, T j < 256) : ∀ (m : Nat) (i : Nat) (S I : Int), pb C p 1 < i + m → i ≤ pb C p 1 → I = (i : Int) → S = ((rst C p i : Nat) : Int) → (∀ r, r < i → isK C p T z r = false) → Vw x 7 (fun _ => True) D false 0 0 [oDisk hd hc hk ko pg lg wt al dn, aN cI hc 65280 C, oTape ht hb sz, aN cI hb 48 T] 14 [(0, .ref hd), (1, .int (iI P)), (2, .ref ht), (3, .int (iI Z)), (4, .int (iI ((pb C p 1 : Nat) : Int))), (5, .int (iI S)), (6, .int (iI I))] [] := by
  intro m
  induction m with
  | zero => intro i S I hm hi e1 e2 e3; omega
  | succ m ih =>
    intro i S I hm hi e1 e2 e3
    have hpb : pb C p 1 < 256 := hC _
    refine v_iload (n := 16) k dX1_find_14 rfl rfl ?_
    refine v_iload (n := 18) k dX1_find_16 rfl rfl ?_
    refine v_icmp_ge (n := 21) (t := 67) k (⟨by omega, by omega⟩) (⟨by omega, by omega⟩) dX1_find_18 (by decide) rfl (fun c_18 => ?_) (fun c_18 => ?_)
    · refine v_iconst (n := 68) k dX1_find_67 rfl ?_
      refine v_iretR k hq ?_ dX1_find_68
      rw [fndI, show fnd C p T z = none from find_range_n (fun r hr => e3 r (by omega))]
    · have hf := hb9.fit (r := i) (by omega)
      have hz9 := rsz_ge C p (rst C p i)
      have h4 := rst_ge C p i
      have hc9 : pb C p (rst C p i) < 256 := hC _
      refine v_aload_n (n := 22) k dX1_find_21 rfl rfl ?_
      refine v_iload_n (n := 23) k dX1_find_22 rfl rfl ?_
      refine v_iload (n := 25) k dX1_find_23 rfl rfl ?_
      refine v_rdVi (n := 28) k [0, 1] 0 (z_X1_at (p := p) (i := rst C p i) hP e2 hp (by omega) hg) miX1_at ml_X1_70 (by decide) (by decide) rfl (by decide) rfl rfl rfl rfl (Nat.le_of_ble_eq_true rfl) ⟨Nat.zero_le _, Nat.zero_le _⟩ dX1_find_25 rfl ?_
      refine v_iload_n (n := 29) k dX1_find_28 rfl rfl ?_
      refine v_icmp_ne (n := 32) (t := 49) k (⟨by omega, by omega⟩) (⟨by omega, by omega⟩) dX1_find_29 (by decide) rfl (fun c_29 => ?_) (fun c_29 => ?_)
      · have hno : isK C p T z i = false := by
          unfold isK
          first
          | (have : pb C p (rst C p i) ≠ z := by omega
             simp [this]; done)
          | (have : keq C p (rst C p i + 2) T z = false := by
              cases hq9 : keq C p (rst C p i + 2) T z with
              | false => rfl
              | true => rw [bI_t hq9] at c_43; omega
             rw [this]; simp)
        refine v_iload (n := 51) k dX1_find_49 rfl rfl ?_
        refine v_aload_n (n := 52) k dX1_find_51 rfl rfl ?_
        refine v_iload_n (n := 53) k dX1_find_52 rfl rfl ?_
        refine v_iload (n := 55) k dX1_find_53 rfl rfl ?_
        refine v_rdVi (n := 58) k [0, 1] 0 (z_X1_recordSize (s := rst C p i) hP hp hg e2 (by omega)) miX1_recordSize ml_X1_112 (by decide) (by decide) rfl (by decide) rfl rfl rfl rfl (Nat.le_of_ble_eq_true rfl) ⟨Nat.zero_le _, Nat.zero_le _⟩ dX1_find_55 rfl ?_
        refine v_iadd (n := 59) k dX1_find_58 rfl ?_
        refine v_istore (n := 61) k dX1_find_59 rfl (by decide) rfl rfl ?_
        refine v_iinc (n := 64) k dX1_find_61 rfl (by decide) rfl rfl rfl ?_
        refine v_goto (t := 14) k dX1_find_64 (by decide) ?_
        exact ih (i + 1) _ _ (by omega) (by omega) (by omega) (by show S + _ = _; rw [e2]; rfl) (fun r hr => by
          rcases Nat.lt_or_ge r i with q | q
          · exact e3 r q
          · have : r = i := by omega
            rw [this]
            exact hno)
      · refine v_aload_n (n := 33) k dX1_find_32 rfl rfl ?_
        refine v_iload_n (n := 34) k dX1_find_33 rfl rfl ?_
        refine v_iload (n := 36) k dX1_find_34 rfl rfl ?_
        refine v_iconst (n := 37) k dX1_find_36 rfl ?_
        refine v_iadd (n := 38) k dX1_find_37 rfl ?_
        refine v_aload_n (n := 39) k dX1_find_38 rfl rfl ?_
        refine v_iload_n (n := 40) k dX1_find_39 rfl rfl ?_
        refine v_rdVi (n := 43) k [0, 1, 2, 3] 0 (z_X1_hasKey (s := rst C p i + 2) (z := z) hP hp hg (by omega) hZ (by omega) hz hC hT) miX1_hasKey ml_X1_122 (by decide) (by decide) rfl (by decide) rfl rfl rfl rfl (Nat.le_of_ble_eq_true rfl) ⟨Nat.zero_le _, Nat.zero_le _⟩ dX1_find_40 rfl ?_
        refine v_if_eq (n := 46) (t := 49) k (⟨by cases keq C p (rst C p i + 2) T z <;> decide, by cases keq C p (rst C p i + 2) T z <;> decide⟩) dX1_find_43 (by decide) rfl (fun c_43 => ?_) (fun c_43 => ?_)
        · have hno : isK C p T z i = false := by
            unfold isK
            first
            | (have : pb C p (rst C p i) ≠ z := by omega
               simp [this]; done)
            | (have : keq C p (rst C p i + 2) T z = false := by
                cases hq9 : keq C p (rst C p i + 2) T z with
                | false => rfl
                | true => rw [bI_t hq9] at c_43; omega
               rw [this]; simp)
          refine v_iload (n := 51) k dX1_find_49 rfl rfl ?_
          refine v_aload_n (n := 52) k dX1_find_51 rfl rfl ?_
          refine v_iload_n (n := 53) k dX1_find_52 rfl rfl ?_
          refine v_iload (n := 55) k dX1_find_53 rfl rfl ?_
          refine v_rdVi (n := 58) k [0, 1] 0 (z_X1_recordSize (s := rst C p i) hP hp hg e2 (by omega)) miX1_recordSize ml_X1_112 (by decide) (by decide) rfl (by decide) rfl rfl rfl rfl (Nat.le_of_ble_eq_true rfl) ⟨Nat.zero_le _, Nat.zero_le _⟩ dX1_find_55 rfl ?_
          refine v_iadd (n := 59) k dX1_find_58 rfl ?_
          refine v_istore (n := 61) k dX1_find_59 rfl (by decide) rfl rfl ?_
          refine v_iinc (n := 64) k dX1_find_61 rfl (by decide) rfl rfl rfl ?_
          refine v_goto (t := 14) k dX1_find_64 (by decide) ?_
          exact ih (i + 1) _ _ (by omega) (by omega) (by omega) (by show S + _ = _; rw [e2]; rfl) (fun r hr => by
            rcases Nat.lt_or_ge r i with q | q
            · exact e3 r q
            · have : r = i := by omega
              rw [this]
              exact hno)
        · refine v_iload (n := 48) k dX1_find_46 rfl rfl ?_
          refine v_iretR k hq ?_ dX1_find_48
          have hy : isK C p T z i = true := by
            have h1 : keq C p (rst C p i + 2) T z = true := by
              cases hq9 : keq C p (rst C p i + 2) T z with
              | true => rfl
              | false => rw [bI_f hq9] at c_43; omega
            have h2 : pb C p (rst C p i) = z := by omega
            unfold isK
            rw [h1, h2]
            simp
          rw [fndI, show fnd C p T z = some i from find_range (by omega) hy e3, e2]
set_option maxHeartbeats 1000000 in
set_option maxRecDepth 20000 in
theorem z_X1_find {D : va_G} {cI cB cJ cZ : ClassId} {hd hc hk : Nat} {ko : Int} {pg lg : Nat} {wt al dn : Int} {C : Nat → Nat} {ht hb : Nat} {sz : Int} {T : Nat → Nat} {P Z : Int} {p z : Nat} (hP : P = (p : Int)) (hp : p < pg) (hg : pg ≤ 255) (hZ : Z = (z : Int)) (hz : z ≤ 48) (hb9 : WB C p) (hC : ∀ j, C j < 256) (hT : ∀ j, T j < 256) : ∀ l, Rd l yX1_find cX1_find 7 (some .int) ({ frames := 2, cells := 0, slots := 0, locals := 47 }) D (TY cI cB cJ cZ) [.ref hd, .int (iI P), .ref ht, .int (iI Z)] [oDisk hd hc hk ko pg lg wt al dn, aN cI hc 65280 C, oTape ht hb sz, aN cI hb 48 T] (fun v => v = some (.int (iI (fndI C p T z)))) := by
  intro l
  refine Rd_of (by decide) (Nat.le_of_ble_eq_true rfl) (fun x k hq => ?_)
  refine v_aload_n (n := 1) k dX1_find_0 rfl rfl ?_
  refine v_iload_n (n := 2) k dX1_find_1 rfl rfl ?_
  refine v_iconst (n := 3) k dX1_find_2 rfl ?_
  refine v_rdVi (n := 6) k [0, 1] 0 (z_X1_at (p := p) (i := 1) hP rfl hp (by omega) hg) miX1_at ml_X1_70 (by decide) (by decide) rfl (by decide) rfl rfl rfl rfl (Nat.le_of_ble_eq_true rfl) ⟨Nat.zero_le _, Nat.zero_le _⟩ dX1_find_3 rfl ?_
  refine v_istore (n := 8) k dX1_find_6 rfl (by decide) rfl rfl ?_
  refine v_iconst (n := 9) k dX1_find_8 rfl ?_
  refine v_istore (n := 11) k dX1_find_9 rfl (by decide) rfl rfl ?_
  refine v_iconst (n := 12) k dX1_find_11 rfl ?_
  refine v_istore (n := 14) k dX1_find_12 rfl (by decide) rfl rfl ?_
  exact lp_X1_find k hq hP hp hg hZ hz hb9 hC hT (pb C p 1 + 1) 0 _ _ (by omega) (by omega) rfl rfl (fun r hr => absurd hr (by omega))
end
section
/-- the disk with page p written -/
def wrp (C : Nat → Nat) (p : Nat) (f : Nat → Nat) : Nat → Nat := cpN f C 0 (p * 256) 256
def alW (al : Int) : Int := if 0 < al then al - 1 else al
def koW (ko : Int) (p : Nat) (K : Nat → Nat) : Int := if p = 0 ∨ K p = 4 then 1 else ko
def mkN (K : Nat → Nat) (pg p v : Nat) : Nat → Nat := if p < pg then upN K p v else K
set_option maxHeartbeats 1000000 in
set_option maxRecDepth 20000 in
theorem z_X1_place {D : va_G} {cI cB cJ cZ : ClassId} {hd hc hk : Nat} {ko : Int} {pg lg : Nat} {wt al dn : Int} {C : Nat → Nat} {hp hb : Nat} {f : Nat → Nat} {P : Int} {p : Nat} (hP : P = (p : Int)) (hp9 : p < pg) (hg : pg ≤ 255) : ∀ l, Up l yX1_place cX1_place 3 none ({ frames := 1, cells := 0, slots := 0, locals := 40 }) D (TY cI cB cJ cZ) [.ref hd, .int (iI P), .ref hp] [oDisk hd hc hk ko pg lg wt al dn, aN cI hc 65280 C, oPage hp hb, aN cI hb 256 f] (fun r w1 => r = none ∧ w1 = [oDisk hd hc hk ko pg lg wt al dn, aN cI hc 65280 (wrp C p f), oPage hp hb, aN cI hb 256 f]) := by
  intro l
  refine Up_of (by decide) (Nat.le_of_ble_eq_true rfl) (fun x k hq => ?_)
  have hpI : in32 P := ⟨by omega, by omega⟩
  have hpg : pgF pg P = true := decide_eq_true (by omega)
  refine v_aload_n (n := 1) k dX1_place_0 rfl rfl ?_
  refine v_iload_n (n := 2) k dX1_place_1 rfl rfl ?_
  refine v_rdVi (n := 5) k [0] 0 (z_X1_isPage hpI hg) miX1_isPage ml_X1_50 (by decide) (by decide) rfl (by decide) rfl rfl rfl rfl (Nat.le_of_ble_eq_true rfl) ⟨Nat.zero_le _, Nat.zero_le _⟩ dX1_place_2 rfl ?_
  refine v_if_eq (n := 8) (t := 28) k (⟨by rw [bI_t hpg]; omega, by rw [bI_t hpg]; omega⟩) dX1_place_5 (by decide) rfl (fun c_5 => ?_) (fun c_5 => ?_)
  · exfalso; rw [bI_t hpg] at c_5; omega
  · refine v_aload_n (n := 9) k dX1_place_8 rfl rfl ?_
    refine v_rdVi (n := 12) k [2] 2 (z_X2_bytes) miX2_bytes ml_X1_54 (by decide) (by decide) rfl (by decide) rfl rfl rfl rfl (Nat.le_of_ble_eq_true rfl) ⟨Nat.zero_le _, Nat.zero_le _⟩ dX1_place_9 rfl ?_
    refine v_iconst (n := 13) k dX1_place_12 rfl ?_
    refine v_aload_n (n := 14) k dX1_place_13 rfl rfl ?_
    refine v_get (n := 17) k ciX1 0 0 (by decide) fl_X1_10 rfl rfl dX1_place_14 rfl ?_
    refine v_iload_n (n := 18) k dX1_place_17 rfl rfl ?_
    refine v_sipush (n := 21) k dX1_place_18 (by decide) rfl ?_
    refine v_imul (n := 22) k dX1_place_21 rfl ?_
    refine v_sipush (n := 25) k dX1_place_22 (by decide) rfl ?_
    refine v_copyN (n := 28) k ml_X1_58 3 1 0 rfl rfl rfl (0) (p * 256) (256) (by omega) (by omega) (by omega) (by omega) (by omega) (by decide) (by decide) (by decide) (by decide) dX1_place_25 rfl ?_
    refine v_vretU k hq ?_ rfl dX1_place_28
    exact ⟨rfl, rfl⟩
set_option maxHeartbeats 1000000 in
set_option maxRecDepth 20000 in
theorem z_X1_read {D : va_G} {cI cB cJ cZ : ClassId} {hd hc hk : Nat} {ko : Int} {pg lg : Nat} {wt al dn : Int} {C : Nat → Nat} {hp hb : Nat} {f : Nat → Nat} {P : Int} {p : Nat} (hP : P = (p : Int)) (hp9 : p < pg) (hg : pg ≤ 255) : ∀ l, Up l yX1_read cX1_read 3 none ({ frames := 1, cells := 0, slots := 0, locals := 40 }) D (TY cI cB cJ cZ) [.ref hd, .int (iI P), .ref hp] [oDisk hd hc hk ko pg lg wt al dn, aN cI hc 65280 C, oPage hp hb, aN cI hb 256 f] (fun r w1 => r = none ∧ w1 = [oDisk hd hc hk ko pg lg wt al dn, aN cI hc 65280 C, oPage hp hb, aN cI hb 256 (pb C p)]) := by
  intro l
  refine Up_of (by decide) (Nat.le_of_ble_eq_true rfl) (fun x k hq => ?_)
  have hpI : in32 P := ⟨by omega, by omega⟩
  have hpg : pgF pg P = true := decide_eq_true (by omega)
  refine v_aload_n (n := 1) k dX1_read_0 rfl rfl ?_
  refine v_iload_n (n := 2) k dX1_read_1 rfl rfl ?_
  refine v_rdVi (n := 5) k [0] 0 (z_X1_isPage hpI hg) miX1_isPage ml_X1_50 (by decide) (by decide) rfl (by decide) rfl rfl rfl rfl (Nat.le_of_ble_eq_true rfl) ⟨Nat.zero_le _, Nat.zero_le _⟩ dX1_read_2 rfl ?_
  refine v_if_eq (n := 8) (t := 28) k (⟨by rw [bI_t hpg]; omega, by rw [bI_t hpg]; omega⟩) dX1_read_5 (by decide) rfl (fun c_5 => ?_) (fun c_5 => ?_)
  · exfalso; rw [bI_t hpg] at c_5; omega
  · refine v_aload_n (n := 9) k dX1_read_8 rfl rfl ?_
    refine v_get (n := 12) k ciX1 0 0 (by decide) fl_X1_10 rfl rfl dX1_read_9 rfl ?_
    refine v_iload_n (n := 13) k dX1_read_12 rfl rfl ?_
    refine v_sipush (n := 16) k dX1_read_13 (by decide) rfl ?_
    refine v_imul (n := 17) k dX1_read_16 rfl ?_
    refine v_aload_n (n := 18) k dX1_read_17 rfl rfl ?_
    refine v_rdVi (n := 21) k [2] 2 (z_X2_bytes) miX2_bytes ml_X1_54 (by decide) (by decide) rfl (by decide) rfl rfl rfl rfl (Nat.le_of_ble_eq_true rfl) ⟨Nat.zero_le _, Nat.zero_le _⟩ dX1_read_18 rfl ?_
    refine v_iconst (n := 22) k dX1_read_21 rfl ?_
    refine v_sipush (n := 25) k dX1_read_22 (by decide) rfl ?_
    refine v_copyN (n := 28) k ml_X1_58 1 3 0 rfl rfl rfl (p * 256) (0) (256) (by omega) (by omega) (by omega) (by omega) (by omega) (by decide) (by decide) (by decide) (by decide) dX1_read_25 rfl ?_
    refine v_cg 3 (fun j => iI ((pb C p j : Nat) : Int)) rfl (fun j hj => by rw [cpN, if_pos ⟨by omega, by omega⟩]; rfl) ?_
    refine v_vretU k hq ?_ rfl dX1_read_28
    exact ⟨rfl, rfl⟩
set_option maxHeartbeats 1000000 in
set_option maxRecDepth 20000 in
theorem z_X1_write {D : va_G} {cI cB cJ cZ : ClassId} {hd hc hk : Nat} {ko : Int} {pg lg : Nat} {wt al dn : Int} {C : Nat → Nat} {K : Nat → Nat} {hp hb : Nat} {f : Nat → Nat} {P : Int} {p : Nat} (hP : P = (p : Int)) (hp9 : p < pg) (hg : pg ≤ 255) (hK : ∀ j, K j < 256) (ha : in32 al) : ∀ l, Up l yX1_write cX1_write 3 (some .boolean) ({ frames := 2, cells := 0, slots := 0, locals := 62 }) D (TY cI cB cJ cZ) [.ref hd, .int (iI P), .ref hp] [oDisk hd hc hk ko pg lg wt al dn, aN cI hc 65280 C, aN cI hk 255 K, oPage hp hb, aN cI hb 256 f] (fun r w1 => (al = 0 → r = some (.int (iI 0)) ∧ w1 = [oDisk hd hc hk ko pg lg wt al 1, aN cI hc 65280 C, aN cI hk 255 K, oPage hp hb, aN cI hb 256 f]) ∧ (al ≠ 0 → r = some (.int (iI 1)) ∧ w1 = [oDisk hd hc hk (koW ko p K) pg lg (wt + 1) (alW al) dn, aN cI hc 65280 (wrp C p f), aN cI hk 255 K, oPage hp hb, aN cI hb 256 f])) := by
  intro l
  refine Up_of (by decide) (Nat.le_of_ble_eq_true rfl) (fun x k hq => ?_)
  have hpI : in32 P := ⟨by omega, by omega⟩
  have hpg : pgF pg P = true := decide_eq_true (by omega)
  obtain ⟨ha1, ha2⟩ := ha
  refine v_aload_n (n := 1) k dX1_write_0 rfl rfl ?_
  refine v_get (n := 4) k ciX1 0 6 (by decide) fl_X1_64 rfl rfl dX1_write_1 rfl ?_
  refine v_if_ne (n := 7) (t := 14) k (⟨by omega, by omega⟩) dX1_write_4 (by decide) rfl (fun c_4 => ?_) (fun c_4 => ?_)
  · refine v_aload_n (n := 15) k dX1_write_14 rfl rfl ?_
    refine v_get (n := 18) k ciX1 0 6 (by decide) fl_X1_64 rfl rfl dX1_write_15 rfl ?_
    refine v_if_le (n := 21) (t := 31) k (⟨by omega, by omega⟩) dX1_write_18 (by decide) rfl (fun c_18 => ?_) (fun c_18 => ?_)
    · refine v_aload_n (n := 32) k dX1_write_31 rfl rfl ?_
      refine v_dup (n := 33) k rfl dX1_write_32 rfl ?_
      refine v_get (n := 36) k ciX1 0 5 (by decide) fl_X1_26 rfl rfl dX1_write_33 rfl ?_
      refine v_iconst (n := 37) k dX1_write_36 rfl ?_
      refine v_iadd (n := 38) k dX1_write_37 rfl ?_
      refine v_put (n := 41) k ciX1 0 5 (by decide) fl_X1_26 rfl rfl (rfl) (rfl) (Nat.le_of_ble_eq_true rfl) dX1_write_38 rfl ?_
      refine v_iload_n (n := 42) k dX1_write_41 rfl rfl ?_
      refine v_if_eq (n := 45) (t := 63) k (⟨by omega, by omega⟩) dX1_write_42 (by decide) rfl (fun c_42 => ?_) (fun c_42 => ?_)
      · refine v_aload_n (n := 64) k dX1_write_63 rfl rfl ?_
        refine v_iconst (n := 65) k dX1_write_64 rfl ?_
        refine v_put (n := 68) k ciX1 0 2 (by decide) fl_X1_33 rfl rfl (rfl) (rfl) (Nat.le_of_ble_eq_true rfl) dX1_write_65 rfl ?_
        refine v_aload_n (n := 69) k dX1_write_68 rfl rfl ?_
        refine v_iload_n (n := 70) k dX1_write_69 rfl rfl ?_
        refine v_aload_n (n := 71) k dX1_write_70 rfl rfl ?_
        refine v_upV (n := 74) k [0, 1, 3, 4] 0 (z_X1_place (p := p) hP hp9 hg) miX1_place ml_X1_42 (by decide) (by decide) rfl (by decide) rfl rfl rfl rfl (Nat.le_of_ble_eq_true rfl) ⟨Nat.zero_le _, Nat.zero_le _⟩ dX1_write_71 rfl ?_
        rintro _ _ ⟨rfl, rfl⟩
        dsimp only [wput, List.set, Option.toList, List.nil_append, List.cons_append]
        refine v_iconst (n := 75) k dX1_write_74 rfl ?_
        refine v_zretU k (by decide) hq ?_ rfl dX1_write_75
        refine ⟨fun h => absurd h (by omega), fun _ => ⟨rfl, ?_⟩⟩
        first | rw [alW, if_pos (by omega)] | rw [alW, if_neg (by omega)]
        first | rw [koW, if_pos (by omega)] | rw [koW, if_neg (by omega)]
        try rfl
      · refine v_aload_n (n := 46) k dX1_write_45 rfl rfl ?_
        refine v_iload_n (n := 47) k dX1_write_46 rfl rfl ?_
        refine v_rdVi (n := 50) k [0] 0 (z_X1_isPage hpI hg) miX1_isPage ml_X1_50 (by decide) (by decide) rfl (by decide) rfl rfl rfl rfl (Nat.le_of_ble_eq_true rfl) ⟨Nat.zero_le _, Nat.zero_le _⟩ dX1_write_47 rfl ?_
        refine v_if_eq (n := 53) (t := 68) k (⟨by rw [bI_t hpg]; omega, by rw [bI_t hpg]; omega⟩) dX1_write_50 (by decide) rfl (fun c_50 => ?_) (fun c_50 => ?_)
        · exfalso; rw [bI_t hpg] at c_50; omega
        · have hk9 := hK p
          refine v_aload_n (n := 54) k dX1_write_53 rfl rfl ?_
          refine v_get (n := 57) k ciX1 0 1 (by decide) fl_X1_16 rfl rfl dX1_write_54 rfl ?_
          refine v_iload_n (n := 58) k dX1_write_57 rfl rfl ?_
          refine v_ialdN (n := 59) k 2 0 (p) rfl rfl (by omega) (by omega) (by omega) dX1_write_58 rfl ?_
          refine v_iconst (n := 60) k dX1_write_59 rfl ?_
          refine v_icmp_ne (n := 63) (t := 68) k (⟨by omega, by omega⟩) (⟨by omega, by omega⟩) dX1_write_60 (by decide) rfl (fun c_60 => ?_) (fun c_60 => ?_)
          · refine v_aload_n (n := 69) k dX1_write_68 rfl rfl ?_
            refine v_iload_n (n := 70) k dX1_write_69 rfl rfl ?_
            refine v_aload_n (n := 71) k dX1_write_70 rfl rfl ?_
            refine v_upV (n := 74) k [0, 1, 3, 4] 0 (z_X1_place (p := p) hP hp9 hg) miX1_place ml_X1_42 (by decide) (by decide) rfl (by decide) rfl rfl rfl rfl (Nat.le_of_ble_eq_true rfl) ⟨Nat.zero_le _, Nat.zero_le _⟩ dX1_write_71 rfl ?_
            rintro _ _ ⟨rfl, rfl⟩
            dsimp only [wput, List.set, Option.toList, List.nil_append, List.cons_append]
            refine v_iconst (n := 75) k dX1_write_74 rfl ?_
            refine v_zretU k (by decide) hq ?_ rfl dX1_write_75
            refine ⟨fun h => absurd h (by omega), fun _ => ⟨rfl, ?_⟩⟩
            first | rw [alW, if_pos (by omega)] | rw [alW, if_neg (by omega)]
            first | rw [koW, if_pos (by omega)] | rw [koW, if_neg (by omega)]
            try rfl
          · refine v_aload_n (n := 64) k dX1_write_63 rfl rfl ?_
            refine v_iconst (n := 65) k dX1_write_64 rfl ?_
            refine v_put (n := 68) k ciX1 0 2 (by decide) fl_X1_33 rfl rfl (rfl) (rfl) (Nat.le_of_ble_eq_true rfl) dX1_write_65 rfl ?_
            refine v_aload_n (n := 69) k dX1_write_68 rfl rfl ?_
            refine v_iload_n (n := 70) k dX1_write_69 rfl rfl ?_
            refine v_aload_n (n := 71) k dX1_write_70 rfl rfl ?_
            refine v_upV (n := 74) k [0, 1, 3, 4] 0 (z_X1_place (p := p) hP hp9 hg) miX1_place ml_X1_42 (by decide) (by decide) rfl (by decide) rfl rfl rfl rfl (Nat.le_of_ble_eq_true rfl) ⟨Nat.zero_le _, Nat.zero_le _⟩ dX1_write_71 rfl ?_
            rintro _ _ ⟨rfl, rfl⟩
            dsimp only [wput, List.set, Option.toList, List.nil_append, List.cons_append]
            refine v_iconst (n := 75) k dX1_write_74 rfl ?_
            refine v_zretU k (by decide) hq ?_ rfl dX1_write_75
            refine ⟨fun h => absurd h (by omega), fun _ => ⟨rfl, ?_⟩⟩
            first | rw [alW, if_pos (by omega)] | rw [alW, if_neg (by omega)]
            first | rw [koW, if_pos (by omega)] | rw [koW, if_neg (by omega)]
            try rfl
    · refine v_aload_n (n := 22) k dX1_write_21 rfl rfl ?_
      refine v_dup (n := 23) k rfl dX1_write_22 rfl ?_
      refine v_get (n := 26) k ciX1 0 6 (by decide) fl_X1_64 rfl rfl dX1_write_23 rfl ?_
      refine v_iconst (n := 27) k dX1_write_26 rfl ?_
      refine v_isub (n := 28) k dX1_write_27 rfl ?_
      refine v_put (n := 31) k ciX1 0 6 (by decide) fl_X1_64 rfl rfl (rfl) (rfl) (Nat.le_of_ble_eq_true rfl) dX1_write_28 rfl ?_
      refine v_aload_n (n := 32) k dX1_write_31 rfl rfl ?_
      refine v_dup (n := 33) k rfl dX1_write_32 rfl ?_
      refine v_get (n := 36) k ciX1 0 5 (by decide) fl_X1_26 rfl rfl dX1_write_33 rfl ?_
      refine v_iconst (n := 37) k dX1_write_36 rfl ?_
      refine v_iadd (n := 38) k dX1_write_37 rfl ?_
      refine v_put (n := 41) k ciX1 0 5 (by decide) fl_X1_26 rfl rfl (rfl) (rfl) (Nat.le_of_ble_eq_true rfl) dX1_write_38 rfl ?_
      refine v_iload_n (n := 42) k dX1_write_41 rfl rfl ?_
      refine v_if_eq (n := 45) (t := 63) k (⟨by omega, by omega⟩) dX1_write_42 (by decide) rfl (fun c_42 => ?_) (fun c_42 => ?_)
      · refine v_aload_n (n := 64) k dX1_write_63 rfl rfl ?_
        refine v_iconst (n := 65) k dX1_write_64 rfl ?_
        refine v_put (n := 68) k ciX1 0 2 (by decide) fl_X1_33 rfl rfl (rfl) (rfl) (Nat.le_of_ble_eq_true rfl) dX1_write_65 rfl ?_
        refine v_aload_n (n := 69) k dX1_write_68 rfl rfl ?_
        refine v_iload_n (n := 70) k dX1_write_69 rfl rfl ?_
        refine v_aload_n (n := 71) k dX1_write_70 rfl rfl ?_
        refine v_upV (n := 74) k [0, 1, 3, 4] 0 (z_X1_place (p := p) hP hp9 hg) miX1_place ml_X1_42 (by decide) (by decide) rfl (by decide) rfl rfl rfl rfl (Nat.le_of_ble_eq_true rfl) ⟨Nat.zero_le _, Nat.zero_le _⟩ dX1_write_71 rfl ?_
        rintro _ _ ⟨rfl, rfl⟩
        dsimp only [wput, List.set, Option.toList, List.nil_append, List.cons_append]
        refine v_iconst (n := 75) k dX1_write_74 rfl ?_
        refine v_zretU k (by decide) hq ?_ rfl dX1_write_75
        refine ⟨fun h => absurd h (by omega), fun _ => ⟨rfl, ?_⟩⟩
        first | rw [alW, if_pos (by omega)] | rw [alW, if_neg (by omega)]
        first | rw [koW, if_pos (by omega)] | rw [koW, if_neg (by omega)]
        try rfl
      · refine v_aload_n (n := 46) k dX1_write_45 rfl rfl ?_
        refine v_iload_n (n := 47) k dX1_write_46 rfl rfl ?_
        refine v_rdVi (n := 50) k [0] 0 (z_X1_isPage hpI hg) miX1_isPage ml_X1_50 (by decide) (by decide) rfl (by decide) rfl rfl rfl rfl (Nat.le_of_ble_eq_true rfl) ⟨Nat.zero_le _, Nat.zero_le _⟩ dX1_write_47 rfl ?_
        refine v_if_eq (n := 53) (t := 68) k (⟨by rw [bI_t hpg]; omega, by rw [bI_t hpg]; omega⟩) dX1_write_50 (by decide) rfl (fun c_50 => ?_) (fun c_50 => ?_)
        · exfalso; rw [bI_t hpg] at c_50; omega
        · have hk9 := hK p
          refine v_aload_n (n := 54) k dX1_write_53 rfl rfl ?_
          refine v_get (n := 57) k ciX1 0 1 (by decide) fl_X1_16 rfl rfl dX1_write_54 rfl ?_
          refine v_iload_n (n := 58) k dX1_write_57 rfl rfl ?_
          refine v_ialdN (n := 59) k 2 0 (p) rfl rfl (by omega) (by omega) (by omega) dX1_write_58 rfl ?_
          refine v_iconst (n := 60) k dX1_write_59 rfl ?_
          refine v_icmp_ne (n := 63) (t := 68) k (⟨by omega, by omega⟩) (⟨by omega, by omega⟩) dX1_write_60 (by decide) rfl (fun c_60 => ?_) (fun c_60 => ?_)
          · refine v_aload_n (n := 69) k dX1_write_68 rfl rfl ?_
            refine v_iload_n (n := 70) k dX1_write_69 rfl rfl ?_
            refine v_aload_n (n := 71) k dX1_write_70 rfl rfl ?_
            refine v_upV (n := 74) k [0, 1, 3, 4] 0 (z_X1_place (p := p) hP hp9 hg) miX1_place ml_X1_42 (by decide) (by decide) rfl (by decide) rfl rfl rfl rfl (Nat.le_of_ble_eq_true rfl) ⟨Nat.zero_le _, Nat.zero_le _⟩ dX1_write_71 rfl ?_
            rintro _ _ ⟨rfl, rfl⟩
            dsimp only [wput, List.set, Option.toList, List.nil_append, List.cons_append]
            refine v_iconst (n := 75) k dX1_write_74 rfl ?_
            refine v_zretU k (by decide) hq ?_ rfl dX1_write_75
            refine ⟨fun h => absurd h (by omega), fun _ => ⟨rfl, ?_⟩⟩
            first | rw [alW, if_pos (by omega)] | rw [alW, if_neg (by omega)]
            first | rw [koW, if_pos (by omega)] | rw [koW, if_neg (by omega)]
            try rfl
          · refine v_aload_n (n := 64) k dX1_write_63 rfl rfl ?_
            refine v_iconst (n := 65) k dX1_write_64 rfl ?_
            refine v_put (n := 68) k ciX1 0 2 (by decide) fl_X1_33 rfl rfl (rfl) (rfl) (Nat.le_of_ble_eq_true rfl) dX1_write_65 rfl ?_
            refine v_aload_n (n := 69) k dX1_write_68 rfl rfl ?_
            refine v_iload_n (n := 70) k dX1_write_69 rfl rfl ?_
            refine v_aload_n (n := 71) k dX1_write_70 rfl rfl ?_
            refine v_upV (n := 74) k [0, 1, 3, 4] 0 (z_X1_place (p := p) hP hp9 hg) miX1_place ml_X1_42 (by decide) (by decide) rfl (by decide) rfl rfl rfl rfl (Nat.le_of_ble_eq_true rfl) ⟨Nat.zero_le _, Nat.zero_le _⟩ dX1_write_71 rfl ?_
            rintro _ _ ⟨rfl, rfl⟩
            dsimp only [wput, List.set, Option.toList, List.nil_append, List.cons_append]
            refine v_iconst (n := 75) k dX1_write_74 rfl ?_
            refine v_zretU k (by decide) hq ?_ rfl dX1_write_75
            refine ⟨fun h => absurd h (by omega), fun _ => ⟨rfl, ?_⟩⟩
            first | rw [alW, if_pos (by omega)] | rw [alW, if_neg (by omega)]
            first | rw [koW, if_pos (by omega)] | rw [koW, if_neg (by omega)]
            try rfl
  · refine v_aload_n (n := 8) k dX1_write_7 rfl rfl ?_
    refine v_iconst (n := 9) k dX1_write_8 rfl ?_
    refine v_put (n := 12) k ciX1 0 7 (by decide) fl_X1_67 rfl rfl (rfl) (rfl) (Nat.le_of_ble_eq_true rfl) dX1_write_9 rfl ?_
    refine v_iconst (n := 13) k dX1_write_12 rfl ?_
    refine v_zretU k (by decide) hq ?_ rfl dX1_write_13
    exact ⟨fun _ => ⟨rfl, rfl⟩, fun h => absurd c_4 h⟩
set_option maxHeartbeats 1000000 in
set_option maxRecDepth 20000 in
theorem z_X1_lay {D : va_G} {cI cB cJ cZ : ClassId} {hd hc hk : Nat} {ko : Int} {pg lg : Nat} {wt al dn : Int} {C : Nat → Nat} {P I V : Int} {p i v : Nat} (hP : P = (p : Int)) (hI : I = (i : Int)) (hV : V = (v : Int)) (hp9 : p < pg) (hi : i < 256) (hg : pg ≤ 255) : ∀ l, Up l yX1_lay cX1_lay 4 none ({ frames := 1, cells := 0, slots := 0, locals := 21 }) D (TY cI cB cJ cZ) [.ref hd, .int (iI P), .int (iI I), .int (iI V)] [oDisk hd hc hk ko pg lg wt al dn, aN cI hc 65280 C] (fun r w1 => r = none ∧ w1 = [oDisk hd hc hk ko pg lg wt al dn, aN cI hc 65280 (upN C (p * 256 + i) v)]) := by
  intro l
  refine Up_of (by decide) (Nat.le_of_ble_eq_true rfl) (fun x k hq => ?_)
  have hpI : in32 P := ⟨by omega, by omega⟩
  have hpg : pgF pg P = true := decide_eq_true (by omega)
  refine v_aload_n (n := 1) k dX1_lay_0 rfl rfl ?_
  refine v_iload_n (n := 2) k dX1_lay_1 rfl rfl ?_
  refine v_rdVi (n := 5) k [0] 0 (z_X1_isPage hpI hg) miX1_isPage ml_X1_50 (by decide) (by decide) rfl (by decide) rfl rfl rfl rfl (Nat.le_of_ble_eq_true rfl) ⟨Nat.zero_le _, Nat.zero_le _⟩ dX1_lay_2 rfl ?_
  refine v_if_eq (n := 8) (t := 32) k (⟨by rw [bI_t hpg]; omega, by rw [bI_t hpg]; omega⟩) dX1_lay_5 (by decide) rfl (fun c_5 => ?_) (fun c_5 => ?_)
  · exfalso; rw [bI_t hpg] at c_5; omega
  · refine v_iload_n (n := 9) k dX1_lay_8 rfl rfl ?_
    refine v_if_lt (n := 12) (t := 32) k (⟨by omega, by omega⟩) dX1_lay_9 (by decide) rfl (fun c_9 => ?_) (fun c_9 => ?_)
    · exfalso; omega
    · refine v_iload_n (n := 13) k dX1_lay_12 rfl rfl ?_
      refine v_sipush (n := 16) k dX1_lay_13 (by decide) rfl ?_
      refine v_icmp_ge (n := 19) (t := 32) k (⟨by omega, by omega⟩) (⟨by omega, by omega⟩) dX1_lay_16 (by decide) rfl (fun c_16 => ?_) (fun c_16 => ?_)
      · exfalso; omega
      · refine v_aload_n (n := 20) k dX1_lay_19 rfl rfl ?_
        refine v_get (n := 23) k ciX1 0 0 (by decide) fl_X1_10 rfl rfl dX1_lay_20 rfl ?_
        refine v_iload_n (n := 24) k dX1_lay_23 rfl rfl ?_
        refine v_sipush (n := 27) k dX1_lay_24 (by decide) rfl ?_
        refine v_imul (n := 28) k dX1_lay_27 rfl ?_
        refine v_iload_n (n := 29) k dX1_lay_28 rfl rfl ?_
        refine v_iadd (n := 30) k dX1_lay_29 rfl ?_
        refine v_iload_n (n := 31) k dX1_lay_30 rfl rfl ?_
        refine v_iastN (n := 32) k 1 0 (p * 256 + i) rfl rfl (by omega) (by omega) (by omega) (v) (by omega) dX1_lay_31 rfl ?_
        refine v_vretU k hq ?_ rfl dX1_lay_32
        exact ⟨rfl, rfl⟩
set_option maxHeartbeats 1000000 in
set_option maxRecDepth 20000 in
theorem z_X1_mark {D : va_G} {cI cB cJ cZ : ClassId} {hd hc hk : Nat} {ko : Int} {pg lg : Nat} {wt al dn : Int} {K : Nat → Nat} {P V : Int} {p v : Nat} (hP : P = (p : Int)) (hV : V = (v : Int)) (hp9 : p < 256) (hg : pg ≤ 255) : ∀ l, Up l yX1_mark cX1_mark 3 none ({ frames := 1, cells := 0, slots := 0, locals := 21 }) D (TY cI cB cJ cZ) [.ref hd, .int (iI P), .int (iI V)] [oDisk hd hc hk ko pg lg wt al dn, aN cI hk 255 K] (fun r w1 => r = none ∧ w1 = [oDisk hd hc hk ko pg lg wt al dn, aN cI hk 255 (mkN K pg p v)]) := by
  intro l
  refine Up_of (by decide) (Nat.le_of_ble_eq_true rfl) (fun x k hq => ?_)
  have hpI : in32 P := ⟨by omega, by omega⟩
  refine v_aload_n (n := 1) k dX1_mark_0 rfl rfl ?_
  refine v_iload_n (n := 2) k dX1_mark_1 rfl rfl ?_
  refine v_rdVi (n := 5) k [0] 0 (z_X1_isPage hpI hg) miX1_isPage ml_X1_50 (by decide) (by decide) rfl (by decide) rfl rfl rfl rfl (Nat.le_of_ble_eq_true rfl) ⟨Nat.zero_le _, Nat.zero_le _⟩ dX1_mark_2 rfl ?_
  refine v_if_eq (n := 8) (t := 15) k (⟨by cases pgF pg P <;> decide, by cases pgF pg P <;> decide⟩) dX1_mark_5 (by decide) rfl (fun c_5 => ?_) (fun c_5 => ?_)
  · refine v_vretU k hq ?_ rfl dX1_mark_15
    refine ⟨rfl, ?_⟩
    first
    | (rw [mkN, if_pos hlt]; rfl)
    | (have hnl : ¬ p < pg := fun h => by
        have h9 : pgF pg P = true := decide_eq_true (by omega)
        rw [bI_t h9] at c_5
        omega
       rw [mkN, if_neg hnl])
  · have hlt : p < pg := by
      have h9 : pgF pg P = true := by
        cases h8 : pgF pg P with
        | true => rfl
        | false => exact absurd (bI_f h8) c_5
      have := of_decide_eq_true h9
      omega
    refine v_aload_n (n := 9) k dX1_mark_8 rfl rfl ?_
    refine v_get (n := 12) k ciX1 0 1 (by decide) fl_X1_16 rfl rfl dX1_mark_9 rfl ?_
    refine v_iload_n (n := 13) k dX1_mark_12 rfl rfl ?_
    refine v_iload_n (n := 14) k dX1_mark_13 rfl rfl ?_
    refine v_iastN (n := 15) k 1 0 (p) rfl rfl (by omega) (by omega) (by omega) (v) (by omega) dX1_mark_14 rfl ?_
    refine v_vretU k hq ?_ rfl dX1_mark_15
    refine ⟨rfl, ?_⟩
    first
    | (rw [mkN, if_pos hlt]; rfl)
    | (have hnl : ¬ p < pg := fun h => by
        have h9 : pgF pg P = true := decide_eq_true (by omega)
        rw [bI_t h9] at c_5
        omega
       rw [mkN, if_neg hnl])
def wpC (C : Nat → Nat) (n : Nat) : Nat → Nat := fun j => if j < n * 256 then 0 else C j
set_option maxRecDepth 20000 in
theorem wpC_step (C : Nat → Nat) (n : Nat) : wrp (wpC C n) n (fun _ => 0) = wpC C (n + 1) := by
  funext j
  unfold wrp cpN wpC
  by_cases h1 : n * 256 ≤ j ∧ j < n * 256 + 256
  · rw [if_pos h1, if_pos (by omega)]
  · rw [if_neg h1]
    by_cases h2 : j < n * 256
    · have h3 : j < (n + 1) * 256 := by omega
      simp only [if_pos h2, if_pos h3]
    · have h3 : ¬ j < (n + 1) * 256 := by omega
      simp only [if_neg h2, if_neg h3]
theorem wpC_0 (C : Nat → Nat) : wpC C 0 = C := by
  funext j
  simp [wpC]
/-- the cells behind format(n, g) -/
def fmC (C : Nat → Nat) (n g : Nat) : Nat → Nat := upN (upN (wpC C n) (0 * 256 + 1) (g + 2)) ((g + 2) * 256 + 0) (g + 3)
set_option maxHeartbeats 1000000 in
set_option maxRecDepth 20000 in
theorem lp_X1_wipe {D : va_G} {cI cB cJ cZ : ClassId} {x : Kx} {hd hc hk : Nat} {C : Nat → Nat} {hp hb n g : Nat} (k : Kf x cX1_wipe 5 yX1_wipe.cls none D (TY cI cB cJ cZ) ({ frames := 2, cells := 0, slots := 0, locals := 62 })) (hq : isU x D [hd, hc, hp, hb] (fun r w1 => r = none ∧ w1 = [oDisk hd hc hk 1 n g 0 (-1) 0, aN cI hc 65280 (fmC C n g), oPage hp hb, aN cI hb 256 (fun _ => 0)])) (hn : 8 ≤ n ∧ n ≤ 255) (hg : 2 ≤ g ∧ g ≤ 100) (hng : g + 4 ≤ n) : ∀ (m : Nat) (i : Nat) (I : Int), n < i + m → i ≤ n → I = (i : Int) → Vw x 5 (fun q => q ∈ [hd, hc, hp, hb]) D true 0 0 [oDisk hd hc hk 1 n g 0 (-1) 0, aN cI hc 65280 (wpC C i), oPage hp hb, aN cI hb 256 (fun _ => 0)] 32 [(0, .ref hd), (1, .int (iI (n : Int))), (2, .int (iI (g : Int))), (3, .ref hp), (4, .int (iI I))] [] := by
  intro m
  induction m with
  | zero => intro i I hm hi e1; omega
  | succ m ih =>
    intro i I hm hi e1
    refine v_iload (n := 34) k dX1_wipe_32 rfl rfl ?_
    refine v_aload_n (n := 35) k dX1_wipe_34 rfl rfl ?_
    refine v_get (n := 38) k ciX1 0 3 (by decide) fl_X1_19 rfl rfl dX1_wipe_35 rfl ?_
    refine v_icmp_ge (n := 41) (t := 54) k (⟨by omega, by omega⟩) (⟨by omega, by omega⟩) dX1_wipe_38 (by decide) rfl (fun c_38 => ?_) (fun c_38 => ?_)
    · have hin : i = n := by omega
      subst hin
      refine v_aload_n (n := 55) k dX1_wipe_54 rfl rfl ?_
      refine v_iconst (n := 56) k dX1_wipe_55 rfl ?_
      refine v_iconst (n := 57) k dX1_wipe_56 rfl ?_
      refine v_aload_n (n := 58) k dX1_wipe_57 rfl rfl ?_
      refine v_get (n := 61) k ciX1 0 4 (by decide) fl_X1_23 rfl rfl dX1_wipe_58 rfl ?_
      refine v_iconst (n := 62) k dX1_wipe_61 rfl ?_
      refine v_iadd (n := 63) k dX1_wipe_62 rfl ?_
      refine v_upV (n := 66) k [0, 1] 0 (z_X1_lay (p := 0) (i := 1) (v := g + 2) rfl rfl (by omega) (by omega) (by omega) (by omega)) miX1_lay ml_X1_46 (by decide) (by decide) rfl (by decide) rfl rfl rfl rfl (Nat.le_of_ble_eq_true rfl) ⟨Nat.zero_le _, Nat.zero_le _⟩ dX1_wipe_63 rfl ?_
      rintro _ _ ⟨rfl, rfl⟩
      dsimp only [wput, List.set, Option.toList, List.nil_append, List.cons_append]
      refine v_aload_n (n := 67) k dX1_wipe_66 rfl rfl ?_
      refine v_aload_n (n := 68) k dX1_wipe_67 rfl rfl ?_
      refine v_get (n := 71) k ciX1 0 4 (by decide) fl_X1_23 rfl rfl dX1_wipe_68 rfl ?_
      refine v_iconst (n := 72) k dX1_wipe_71 rfl ?_
      refine v_iadd (n := 73) k dX1_wipe_72 rfl ?_
      refine v_iconst (n := 74) k dX1_wipe_73 rfl ?_
      refine v_aload_n (n := 75) k dX1_wipe_74 rfl rfl ?_
      refine v_get (n := 78) k ciX1 0 4 (by decide) fl_X1_23 rfl rfl dX1_wipe_75 rfl ?_
      refine v_iconst (n := 79) k dX1_wipe_78 rfl ?_
      refine v_iadd (n := 80) k dX1_wipe_79 rfl ?_
      refine v_upV (n := 83) k [0, 1] 0 (z_X1_lay (p := g + 2) (i := 0) (v := g + 3) (by omega) rfl (by omega) (by omega) (by omega) (by omega)) miX1_lay ml_X1_46 (by decide) (by decide) rfl (by decide) rfl rfl rfl rfl (Nat.le_of_ble_eq_true rfl) ⟨Nat.zero_le _, Nat.zero_le _⟩ dX1_wipe_80 rfl ?_
      rintro _ _ ⟨rfl, rfl⟩
      dsimp only [wput, List.set, Option.toList, List.nil_append, List.cons_append]
      refine v_vretU k hq ?_ rfl dX1_wipe_83
      exact ⟨rfl, rfl⟩
    · refine v_aload_n (n := 42) k dX1_wipe_41 rfl rfl ?_
      refine v_iload (n := 44) k dX1_wipe_42 rfl rfl ?_
      refine v_aload_n (n := 45) k dX1_wipe_44 rfl rfl ?_
      refine v_upV (n := 48) k [0, 1, 2, 3] 0 (z_X1_place (p := i) e1 (by omega) (by omega)) miX1_place ml_X1_42 (by decide) (by decide) rfl (by decide) rfl rfl rfl rfl (Nat.le_of_ble_eq_true rfl) ⟨Nat.zero_le _, Nat.zero_le _⟩ dX1_wipe_45 rfl ?_
      rw [wpC_step]
      rintro _ _ ⟨rfl, rfl⟩
      dsimp only [wput, List.set, Option.toList, List.nil_append, List.cons_append]
      refine v_iinc (n := 51) k dX1_wipe_48 rfl (by decide) rfl rfl rfl ?_
      refine v_goto (t := 32) k dX1_wipe_51 (by decide) ?_
      exact ih (i + 1) _ (by omega) (by omega) (by omega)
set_option maxHeartbeats 1000000 in
set_option maxRecDepth 20000 in
theorem z_X1_wipe {D : va_G} {cI cB cJ cZ : ClassId} {hd hc hk : Nat} {ko : Int} {pg lg : Nat} {wt al dn : Int} {C : Nat → Nat} {hp hb : Nat} {f : Nat → Nat} {n g : Nat} (hn : 8 ≤ n ∧ n ≤ 255) (hg : 2 ≤ g ∧ g ≤ 100) (hng : g + 4 ≤ n) : ∀ l, Up l yX1_wipe cX1_wipe 5 none ({ frames := 2, cells := 0, slots := 0, locals := 62 }) D (TY cI cB cJ cZ) [.ref hd, .int (iI (n : Int)), .int (iI (g : Int)), .ref hp] [oDisk hd hc hk ko pg lg wt al dn, aN cI hc 65280 C, oPage hp hb, aN cI hb 256 f] (fun r w1 => r = none ∧ w1 = [oDisk hd hc hk 1 n g 0 (-1) 0, aN cI hc 65280 (fmC C n g), oPage hp hb, aN cI hb 256 (fun _ => 0)]) := by
  intro l
  refine Up_of (by decide) (Nat.le_of_ble_eq_true rfl) (fun x k hq => ?_)
  refine v_aload_n (n := 1) k dX1_wipe_0 rfl rfl ?_
  refine v_iload_n (n := 2) k dX1_wipe_1 rfl rfl ?_
  refine v_put (n := 5) k ciX1 0 3 (by decide) fl_X1_19 rfl rfl (rfl) (rfl) (Nat.le_of_ble_eq_true rfl) dX1_wipe_2 rfl ?_
  refine v_aload_n (n := 6) k dX1_wipe_5 rfl rfl ?_
  refine v_iload_n (n := 7) k dX1_wipe_6 rfl rfl ?_
  refine v_put (n := 10) k ciX1 0 4 (by decide) fl_X1_23 rfl rfl (rfl) (rfl) (Nat.le_of_ble_eq_true rfl) dX1_wipe_7 rfl ?_
  refine v_aload_n (n := 11) k dX1_wipe_10 rfl rfl ?_
  refine v_iconst (n := 12) k dX1_wipe_11 rfl ?_
  refine v_put (n := 15) k ciX1 0 5 (by decide) fl_X1_26 rfl rfl (rfl) (rfl) (Nat.le_of_ble_eq_true rfl) dX1_wipe_12 rfl ?_
  refine v_aload_n (n := 16) k dX1_wipe_15 rfl rfl ?_
  refine v_iconst (n := 17) k dX1_wipe_16 rfl ?_
  refine v_upV (n := 20) k [0] 0 (z_X1_allow) miX1_allow ml_X1_29 (by decide) (by decide) rfl (by decide) rfl rfl rfl rfl (Nat.le_of_ble_eq_true rfl) ⟨Nat.zero_le _, Nat.zero_le _⟩ dX1_wipe_17 rfl ?_
  rintro _ _ ⟨rfl, rfl⟩
  dsimp only [wput, List.set, Option.toList, List.nil_append, List.cons_append]
  refine v_aload_n (n := 21) k dX1_wipe_20 rfl rfl ?_
  refine v_iconst (n := 22) k dX1_wipe_21 rfl ?_
  refine v_put (n := 25) k ciX1 0 2 (by decide) fl_X1_33 rfl rfl (rfl) (rfl) (Nat.le_of_ble_eq_true rfl) dX1_wipe_22 rfl ?_
  refine v_aload_n (n := 26) k dX1_wipe_25 rfl rfl ?_
  refine v_upV (n := 29) k [2, 3] 2 (z_X2_clear) miX2_clear ml_X1_37 (by decide) (by decide) rfl (by decide) rfl rfl rfl rfl (Nat.le_of_ble_eq_true rfl) ⟨Nat.zero_le _, Nat.zero_le _⟩ dX1_wipe_26 rfl ?_
  rintro _ _ ⟨rfl, rfl⟩
  dsimp only [wput, List.set, Option.toList, List.nil_append, List.cons_append]
  refine v_iconst (n := 30) k dX1_wipe_29 rfl ?_
  refine v_istore (n := 32) k dX1_wipe_30 rfl (by decide) rfl rfl ?_
  have h0 := lp_X1_wipe (C := C) k hq hn hg hng (n + 1) 0 0 (by omega) (by omega) rfl
  rw [wpC_0] at h0
  exact h0
end
section
def lvsub (lv : List (Nat × Value)) : List (Nat × Value) → Prop
  | [] => True
  | q :: l => lvget q.1 lv = some q.2 ∧ lvsub lv l
theorem lvsub_all {lv : List (Nat × Value)} : ∀ {l : List (Nat × Value)}, lvsub lv l → ∀ q ∈ l, lvget q.1 lv = some q.2 := by
  intro l
  induction l with
  | nil => intro _ q h; cases h
  | cons r l ih =>
    intro h q hq
    rcases List.mem_cons.mp hq with e | hq
    · rw [e]; exact h.1
    · exact ih h.2 q hq
theorem v_lvf {x : Kx} {nL : Nat} {A : Nat → Prop} {D : va_G} {wr : Bool} {cells slots : Nat} {ws : va_W} {pc : Nat} {lv : List (Nat × Value)} {st : List Value} (lv' : List (Nat × Value)) (h0 : lvsub lv lv') (h : Vw x nL A D wr cells slots ws pc lv' st) : Vw x nL A D wr cells slots ws pc lv st := v_lvs (lvsub_all h0) h
def dirB (C : Nat → Nat) (n p : Nat) : Bool := (List.range n).any (fun k => pb C 0 (1 + k) == p)
def visB (C : Nat → Nat) (n p : Nat) : Bool := (List.range n).any (fun i => entN C i == p)
/-- the kind of a page, by the bytes -/
def kdN (C : Nat → Nat) (lg p : Nat) : Nat := if p = 0 then 1 else if p = 1 then 2 else if p < lg + 2 then 3 else if dirB C (pF (C 0)) p then 4 else if visB C (2 ^ C 0) p then 5 else 0
def KOK (K C : Nat → Nat) (pg lg : Nat) : Prop := (∀ j, K j < 256) ∧ ∀ p, p < pg → K p = kdN C lg p
/-- the kinds that are kept are those of the bytes, or known to be old -/
def KS (ko : Int) (K C : Nat → Nat) (pg lg : Nat) : Prop := (∀ j, K j < 256) ∧ (ko = 1 ∨ (ko = 0 ∧ KOK K C pg lg ∧ (∀ k, k < pF (C 0) → lg + 2 ≤ C (1 + k)) ∧ C 0 ≤ 15))
theorem any_succ (n : Nat) (P : Nat → Bool) : (List.range (n + 1)).any P = ((List.range n).any P || P n) := by
  rw [List.range_succ, List.any_append]
  simp
def I1 (C : Nat → Nat) (pg n : Nat) (K : Nat → Nat) : Prop := (∀ j, K j < 256) ∧ ∀ p, p < pg → K p = if visB C n p then 5 else 0
def I2 (C : Nat → Nat) (pg n : Nat) (K : Nat → Nat) : Prop := (∀ j, K j < 256) ∧ ∀ p, p < pg → K p = if dirB C n p then 4 else if visB C (2 ^ C 0) p then 5 else 0
def I3 (C : Nat → Nat) (pg n : Nat) (K : Nat → Nat) : Prop := (∀ j, K j < 256) ∧ ∀ p, p < pg → K p = if 2 ≤ p ∧ p < 2 + n then 3 else if dirB C (pF (C 0)) p then 4 else if visB C (2 ^ C 0) p then 5 else 0
theorem mkN_lt {K : Nat → Nat} {pg q v : Nat} (h : ∀ j, K j < 256) (hv : v < 256) : ∀ j, mkN K pg q v j < 256 := by
  intro j
  unfold mkN
  split
  · unfold upN
    split
    · exact hv
    · exact h j
  · exact h j
theorem mkN_at {K : Nat → Nat} {pg q v p : Nat} (hp : p < pg) : mkN K pg q v p = if q = p then v else K p := by
  unfold mkN
  by_cases h : q = p
  · subst h
    rw [if_pos hp, if_pos rfl]
    simp [upN]
  · rw [if_neg h]
    split
    · simp only [upN]
      rw [if_neg (fun e => h e.symm)]
    · rfl
theorem I1.step {C K : Nat → Nat} {pg n : Nat} (h : I1 C pg n K) : I1 C pg (n + 1) (mkN K pg (entN C n) 5) := by
  refine ⟨mkN_lt h.1 (by decide), fun p hp => ?_⟩
  rw [mkN_at hp, h.2 p hp]
  unfold visB
  rw [any_succ]
  by_cases e : entN C n = p
  · rw [if_pos e]
    simp [e]
  · rw [if_neg e]
    have : (entN C n == p) = false := beq_false_of_ne e
    rw [this, Bool.or_false]
theorem I2.step {C K : Nat → Nat} {pg n : Nat} (h : I2 C pg n K) : I2 C pg (n + 1) (mkN K pg (pb C 0 (1 + n)) 4) := by
  refine ⟨mkN_lt h.1 (by decide), fun p hp => ?_⟩
  rw [mkN_at hp, h.2 p hp]
  unfold dirB
  rw [any_succ]
  by_cases e : pb C 0 (1 + n) = p
  · rw [if_pos e]
    simp [e]
  · rw [if_neg e]
    have : (pb C 0 (1 + n) == p) = false := beq_false_of_ne e
    rw [this, Bool.or_false]
theorem I3.step {C K : Nat → Nat} {pg n : Nat} (h : I3 C pg n K) : I3 C pg (n + 1) (mkN K pg (2 + n) 3) := by
  refine ⟨mkN_lt h.1 (by decide), fun p hp => ?_⟩
  rw [mkN_at hp, h.2 p hp]
  by_cases e : 2 + n = p
  · rw [if_pos e, if_pos (by omega)]
  · rw [if_neg e]
    by_cases e2 : 2 ≤ p ∧ p < 2 + n
    · rw [if_pos e2, if_pos (show 2 ≤ p ∧ p < 2 + (n + 1) by omega)]
    · rw [if_neg e2, if_neg (show ¬ (2 ≤ p ∧ p < 2 + (n + 1)) by omega)]
theorem I3.done {C K : Nat → Nat} {pg lg : Nat} (h : I3 C pg lg K) : KOK (mkN (mkN K pg 1 2) pg 0 1) C pg lg := by
  refine ⟨mkN_lt (mkN_lt h.1 (by decide)) (by decide), fun p hp => ?_⟩
  rw [mkN_at hp, mkN_at hp, h.2 p hp]
  unfold kdN
  by_cases e0 : p = 0
  · rw [if_pos e0.symm, if_pos e0]
  · rw [if_neg (fun e => e0 e.symm), if_neg e0]
    by_cases e1 : p = 1
    · rw [if_pos e1.symm, if_pos e1]
    · rw [if_neg (fun e => e1 e.symm), if_neg e1]
      by_cases e2 : p < lg + 2
      · rw [if_pos (by omega), if_pos e2]
      · rw [if_neg (by omega), if_neg e2]
theorem pF_mul {d k : Nat} (h : k < pF d) : k * 256 + min (2 ^ d) 256 = min ((k + 1) * 256) (2 ^ d) := by
  unfold pF at h
  split at h
  · rename_i h8
    have h1 : 2 ^ d ≤ 2 ^ 8 := Nat.pow_le_pow_right (by decide) h8
    have h2 : (2 : Nat) ^ 8 = 256 := by decide
    omega
  · rename_i h8
    have e : 2 ^ d = 256 * 2 ^ (d - 8) := by
      rw [show (256 : Nat) = 2 ^ 8 from rfl, ← Nat.pow_add]
      congr 1
      omega
    omega
theorem pF_all (d : Nat) : min (pF d * 256) (2 ^ d) = 2 ^ d := by
  unfold pF
  split
  · rename_i h8
    have h1 : 2 ^ d ≤ 2 ^ 8 := Nat.pow_le_pow_right (by decide) h8
    have h2 : (2 : Nat) ^ 8 = 256 := by decide
    omega
  · rename_i h8
    have e : 2 ^ d = 256 * 2 ^ (d - 8) := by
      rw [show (256 : Nat) = 2 ^ 8 from rfl, ← Nat.pow_add]
      congr 1
      omega
    omega
theorem entN_kj (C : Nat → Nat) {k j : Nat} (h : j < 256) : entN C (k * 256 + j) = pb C (pb C 0 (1 + k)) j := by
  unfold entN
  rw [show (k * 256 + j) / 256 = k by omega, show (k * 256 + j) % 256 = j by omega]
theorem dirp_lt {C : Nat → Nat} {pg lg k : Nat} (h : DW C pg lg) (hk : k < pF (C 0)) : pb C 0 (1 + k) < pg := by
  have := h.2.2.2.2.1 k hk
  unfold pb
  rw [Nat.zero_mul, Nat.zero_add]
  exact this
set_option maxHeartbeats 1000000 in
set_option maxRecDepth 20000 in
theorem lp_learn3 {D : va_G} {cI cB cJ cZ : ClassId} {x : Kx} {hd hc hk : Nat} {pg lg : Nat} {wt al dn : Int} {C : Nat → Nat} {E : Int} (k : Kf x cX1_learnKinds 7 yX1_learnKinds.cls none D (TY cI cB cJ cZ) ({ frames := 2, cells := 0, slots := 0, locals := 43 })) (hq : isU x D [hd, hc, hk] (fun r w1 => r = none ∧ ∃ K, KOK K C pg lg ∧ w1 = [oDisk hd hc hk 0 pg lg wt al dn, aN cI hc 65280 C, aN cI hk 255 K])) (hw : DW C pg lg) (hl : lg ≤ 100) : ∀ (m : Nat) (i : Nat) (I : Int) (K : Nat → Nat), lg < i + m → i ≤ lg → I = (i : Int) → I3 C pg i K → Vw x 7 (fun q => q ∈ [hd, hc, hk]) D true 0 0 [oDisk hd hc hk 0 pg lg wt al dn, aN cI hc 65280 C, aN cI hk 255 K] 121 [(0, .ref hd), (1, .int (iI ((C 0 : Nat) : Int))), (2, .int (iI ((pF (C 0) : Nat) : Int))), (3, .int (iI E)), (4, .int (iI I))] [] := by
  intro m
  induction m with
  | zero => intro i I K hm hi e1 hI; omega
  | succ m ih =>
    intro i I K hm hi e1 hI
    obtain ⟨w1, w2, w3, w4, w5, w6, w7⟩ := id hw
    have hpF := pF_lt w4
    have h2p := Nat.two_pow_pos (C 0)
    refine v_iload (n := 123) k dX1_learnKinds_121 rfl rfl ?_
    refine v_aload_n (n := 124) k dX1_learnKinds_123 rfl rfl ?_
    refine v_get (n := 127) k ciX1 0 4 (by decide) fl_X1_23 rfl rfl dX1_learnKinds_124 rfl ?_
    refine v_icmp_ge (n := 130) (t := 145) k (⟨by omega, by omega⟩) (⟨by omega, by omega⟩) dX1_learnKinds_127 (by decide) rfl (fun c_127 => ?_) (fun c_127 => ?_)
    · have e9 : i = lg := by omega
      subst e9
      refine v_aload_n (n := 146) k dX1_learnKinds_145 rfl rfl ?_
      refine v_iconst (n := 147) k dX1_learnKinds_146 rfl ?_
      refine v_iconst (n := 148) k dX1_learnKinds_147 rfl ?_
      refine v_upV (n := 151) k [0, 2] 0 (z_X1_mark (p := 1) (v := 2) rfl rfl (by omega) w2) miX1_mark ml_X1_105 (by decide) (by decide) rfl (by decide) rfl rfl rfl rfl (Nat.le_of_ble_eq_true rfl) ⟨Nat.zero_le _, Nat.zero_le _⟩ dX1_learnKinds_148 rfl ?_
      rintro _ _ ⟨rfl, rfl⟩
      dsimp only [wput, List.set, Option.toList, List.nil_append, List.cons_append]
      refine v_aload_n (n := 152) k dX1_learnKinds_151 rfl rfl ?_
      refine v_iconst (n := 153) k dX1_learnKinds_152 rfl ?_
      refine v_iconst (n := 154) k dX1_learnKinds_153 rfl ?_
      refine v_upV (n := 157) k [0, 2] 0 (z_X1_mark (p := 0) (v := 1) rfl rfl (by omega) w2) miX1_mark ml_X1_105 (by decide) (by decide) rfl (by decide) rfl rfl rfl rfl (Nat.le_of_ble_eq_true rfl) ⟨Nat.zero_le _, Nat.zero_le _⟩ dX1_learnKinds_154 rfl ?_
      rintro _ _ ⟨rfl, rfl⟩
      dsimp only [wput, List.set, Option.toList, List.nil_append, List.cons_append]
      refine v_vretU k hq ?_ rfl dX1_learnKinds_157
      exact ⟨rfl, _, hI.done, rfl⟩
    · refine v_aload_n (n := 131) k dX1_learnKinds_130 rfl rfl ?_
      refine v_iconst (n := 132) k dX1_learnKinds_131 rfl ?_
      refine v_iload (n := 134) k dX1_learnKinds_132 rfl rfl ?_
      refine v_iadd (n := 135) k dX1_learnKinds_134 rfl ?_
      refine v_iconst (n := 136) k dX1_learnKinds_135 rfl ?_
      refine v_upV (n := 139) k [0, 2] 0 (z_X1_mark (p := 2 + i) (v := 3) (by omega) rfl (by omega) w2) miX1_mark ml_X1_105 (by decide) (by decide) rfl (by decide) rfl rfl rfl rfl (Nat.le_of_ble_eq_true rfl) ⟨Nat.zero_le _, Nat.zero_le _⟩ dX1_learnKinds_136 rfl ?_
      rintro _ _ ⟨rfl, rfl⟩
      dsimp only [wput, List.set, Option.toList, List.nil_append, List.cons_append]
      refine v_iinc (n := 142) k dX1_learnKinds_139 rfl (by decide) rfl rfl rfl ?_
      refine v_goto (t := 121) k dX1_learnKinds_142 (by decide) ?_
      exact ih (i + 1) _ _ (by omega) (by omega) (by omega) hI.step
set_option maxHeartbeats 1000000 in
set_option maxRecDepth 20000 in
theorem lp_learn2 {D : va_G} {cI cB cJ cZ : ClassId} {x : Kx} {hd hc hk : Nat} {pg lg : Nat} {wt al dn : Int} {C : Nat → Nat} {E : Int} (k : Kf x cX1_learnKinds 7 yX1_learnKinds.cls none D (TY cI cB cJ cZ) ({ frames := 2, cells := 0, slots := 0, locals := 43 })) (hq : isU x D [hd, hc, hk] (fun r w1 => r = none ∧ ∃ K, KOK K C pg lg ∧ w1 = [oDisk hd hc hk 0 pg lg wt al dn, aN cI hc 65280 C, aN cI hk 255 K])) (hw : DW C pg lg) (hl : lg ≤ 100) : ∀ (m : Nat) (i : Nat) (I : Int) (K : Nat → Nat), pF (C 0) < i + m → i ≤ pF (C 0) → I = (i : Int) → I2 C pg i K → Vw x 7 (fun q => q ∈ [hd, hc, hk]) D true 0 0 [oDisk hd hc hk 0 pg lg wt al dn, aN cI hc 65280 C, aN cI hk 255 K] 92 [(0, .ref hd), (1, .int (iI ((C 0 : Nat) : Int))), (2, .int (iI ((pF (C 0) : Nat) : Int))), (3, .int (iI E)), (4, .int (iI I))] [] := by
  intro m
  induction m with
  | zero => intro i I K hm hi e1 hI; omega
  | succ m ih =>
    intro i I K hm hi e1 hI
    obtain ⟨w1, w2, w3, w4, w5, w6, w7⟩ := id hw
    have hpF := pF_lt w4
    have h2p := Nat.two_pow_pos (C 0)
    refine v_iload (n := 94) k dX1_learnKinds_92 rfl rfl ?_
    refine v_iload_n (n := 95) k dX1_learnKinds_94 rfl rfl ?_
    refine v_icmp_ge (n := 98) (t := 118) k (⟨by omega, by omega⟩) (⟨by omega, by omega⟩) dX1_learnKinds_95 (by decide) rfl (fun c_95 => ?_) (fun c_95 => ?_)
    · refine v_iconst (n := 119) k dX1_learnKinds_118 rfl ?_
      refine v_istore (n := 121) k dX1_learnKinds_119 rfl (by decide) rfl rfl ?_
      have e9 : i = pF (C 0) := by omega
      subst e9
      exact lp_learn3 k hq hw hl (lg + 1) 0 _ _ (by omega) (by omega) rfl ⟨hI.1, fun p hp => by rw [hI.2 p hp, if_neg (show ¬ (2 ≤ p ∧ p < 2 + 0) by omega)]⟩
    · refine v_aload_n (n := 99) k dX1_learnKinds_98 rfl rfl ?_
      refine v_aload_n (n := 100) k dX1_learnKinds_99 rfl rfl ?_
      refine v_iconst (n := 101) k dX1_learnKinds_100 rfl ?_
      refine v_iconst (n := 102) k dX1_learnKinds_101 rfl ?_
      refine v_iload (n := 104) k dX1_learnKinds_102 rfl rfl ?_
      refine v_iadd (n := 105) k dX1_learnKinds_104 rfl ?_
      refine v_rdVi (n := 108) k [0, 1] 0 (z_X1_at (p := 0) (i := 1 + i) rfl (by omega) (by omega) (by omega) w2) miX1_at ml_X1_70 (by decide) (by decide) rfl (by decide) rfl rfl rfl rfl (Nat.le_of_ble_eq_true rfl) ⟨Nat.zero_le _, Nat.zero_le _⟩ dX1_learnKinds_105 rfl ?_
      refine v_iconst (n := 109) k dX1_learnKinds_108 rfl ?_
      refine v_upV (n := 112) k [0, 2] 0 (z_X1_mark (p := pb C 0 (1 + i)) (v := 4) rfl rfl (by have : pb C 0 (1 + i) < 256 := w3 _; exact this) w2) miX1_mark ml_X1_105 (by decide) (by decide) rfl (by decide) rfl rfl rfl rfl (Nat.le_of_ble_eq_true rfl) ⟨Nat.zero_le _, Nat.zero_le _⟩ dX1_learnKinds_109 rfl ?_
      rintro _ _ ⟨rfl, rfl⟩
      dsimp only [wput, List.set, Option.toList, List.nil_append, List.cons_append]
      refine v_iinc (n := 115) k dX1_learnKinds_112 rfl (by decide) rfl rfl rfl ?_
      refine v_goto (t := 92) k dX1_learnKinds_115 (by decide) ?_
      exact ih (i + 1) _ _ (by omega) (by omega) (by omega) hI.step
set_option maxHeartbeats 1000000 in
set_option maxRecDepth 20000 in
theorem lp_learn1i {D : va_G} {cI cB cJ cZ : ClassId} {x : Kx} {hd hc hk : Nat} {pg lg : Nat} {wt al dn : Int} {C : Nat → Nat} {E KI : Int} {kk : Nat} (k : Kf x cX1_learnKinds 7 yX1_learnKinds.cls none D (TY cI cB cJ cZ) ({ frames := 2, cells := 0, slots := 0, locals := 43 })) (hq : isU x D [hd, hc, hk] (fun r w1 => r = none ∧ ∃ K, KOK K C pg lg ∧ w1 = [oDisk hd hc hk 0 pg lg wt al dn, aN cI hc 65280 C, aN cI hk 255 K])) (hw : DW C pg lg) (hl : lg ≤ 100) (hE : E = ((min (2 ^ C 0) 256 : Nat) : Int)) (hkk : kk < pF (C 0)) (hc9 : ∀ K : Nat → Nat, I1 C pg (min ((kk + 1) * 256) (2 ^ C 0)) K → Vw x 7 (fun q => q ∈ [hd, hc, hk]) D true 0 0 [oDisk hd hc hk 0 pg lg wt al dn, aN cI hc 65280 C, aN cI hk 255 K] 38 [(0, .ref hd), (1, .int (iI ((C 0 : Nat) : Int))), (2, .int (iI ((pF (C 0) : Nat) : Int))), (3, .int (iI E)), (4, .int (iI (KI + 1)))] []) : ∀ (m : Nat) (j : Nat) (J : Int) (K : Nat → Nat), min (2 ^ C 0) 256 < j + m → j ≤ min (2 ^ C 0) 256 → J = (j : Int) → I1 C pg (kk * 256 + j) K → Vw x 7 (fun q => q ∈ [hd, hc, hk]) D true 0 0 [oDisk hd hc hk 0 pg lg wt al dn, aN cI hc 65280 C, aN cI hk 255 K] 58 [(0, .ref hd), (1, .int (iI ((C 0 : Nat) : Int))), (2, .int (iI ((pF (C 0) : Nat) : Int))), (3, .int (iI E)), (4, .int (iI KI)), (5, .int (iI ((pb C 0 (1 + kk) : Nat) : Int))), (6, .int (iI J))] [] := by
  intro m
  induction m with
  | zero => intro j J K hm hj e1 hI; omega
  | succ m ih =>
    intro j J K hm hj e1 hI
    obtain ⟨w1, w2, w3, w4, w5, w6, w7⟩ := id hw
    have hpF := pF_lt w4
    have h2p := Nat.two_pow_pos (C 0)
    refine v_iload (n := 60) k dX1_learnKinds_58 rfl rfl ?_
    refine v_iload_n (n := 61) k dX1_learnKinds_60 rfl rfl ?_
    refine v_icmp_ge (n := 64) (t := 83) k (⟨by omega, by omega⟩) (⟨by omega, by omega⟩) dX1_learnKinds_61 (by decide) rfl (fun c_61 => ?_) (fun c_61 => ?_)
    · refine v_iinc (n := 86) k dX1_learnKinds_83 rfl (by decide) rfl rfl rfl ?_
      refine v_goto (t := 38) k dX1_learnKinds_86 (by decide) ?_
      refine v_lvf [(0, .ref hd), (1, .int (iI ((C 0 : Nat) : Int))), (2, .int (iI ((pF (C 0) : Nat) : Int))), (3, .int (iI E)), (4, .int (iI (KI + 1)))] ⟨rfl, rfl, rfl, rfl, rfl, trivial⟩ ?_
      refine hc9 _ ?_
      have e9 : j = min (2 ^ C 0) 256 := by omega
      rw [← pF_mul hkk, ← e9]
      exact hI
    · refine v_aload_n (n := 65) k dX1_learnKinds_64 rfl rfl ?_
      refine v_aload_n (n := 66) k dX1_learnKinds_65 rfl rfl ?_
      refine v_iload (n := 68) k dX1_learnKinds_66 rfl rfl ?_
      refine v_iload (n := 70) k dX1_learnKinds_68 rfl rfl ?_
      refine v_rdVi (n := 73) k [0, 1] 0 (z_X1_at (p := pb C 0 (1 + kk)) (i := j) rfl e1 (dirp_lt hw hkk) (by omega) w2) miX1_at ml_X1_70 (by decide) (by decide) rfl (by decide) rfl rfl rfl rfl (Nat.le_of_ble_eq_true rfl) ⟨Nat.zero_le _, Nat.zero_le _⟩ dX1_learnKinds_70 rfl ?_
      refine v_iconst (n := 74) k dX1_learnKinds_73 rfl ?_
      refine v_upV (n := 77) k [0, 2] 0 (z_X1_mark (p := pb C (pb C 0 (1 + kk)) j) (v := 5) rfl rfl (w3 _) w2) miX1_mark ml_X1_105 (by decide) (by decide) rfl (by decide) rfl rfl rfl rfl (Nat.le_of_ble_eq_true rfl) ⟨Nat.zero_le _, Nat.zero_le _⟩ dX1_learnKinds_74 rfl ?_
      rintro _ _ ⟨rfl, rfl⟩
      dsimp only [wput, List.set, Option.toList, List.nil_append, List.cons_append]
      refine v_iinc (n := 80) k dX1_learnKinds_77 rfl (by decide) rfl rfl rfl ?_
      refine v_goto (t := 58) k dX1_learnKinds_80 (by decide) ?_
      exact ih (j + 1) _ _ (by omega) (by omega) (by omega) (by
        have h9 := hI.step
        rw [entN_kj C (by omega)] at h9
        exact h9)
set_option maxHeartbeats 1000000 in
set_option maxRecDepth 20000 in
theorem lp_learn1 {D : va_G} {cI cB cJ cZ : ClassId} {x : Kx} {hd hc hk : Nat} {pg lg : Nat} {wt al dn : Int} {C : Nat → Nat} {E : Int} (k : Kf x cX1_learnKinds 7 yX1_learnKinds.cls none D (TY cI cB cJ cZ) ({ frames := 2, cells := 0, slots := 0, locals := 43 })) (hq : isU x D [hd, hc, hk] (fun r w1 => r = none ∧ ∃ K, KOK K C pg lg ∧ w1 = [oDisk hd hc hk 0 pg lg wt al dn, aN cI hc 65280 C, aN cI hk 255 K])) (hw : DW C pg lg) (hl : lg ≤ 100) (hE : E = ((min (2 ^ C 0) 256 : Nat) : Int)) : ∀ (m : Nat) (i : Nat) (I : Int) (K : Nat → Nat), pF (C 0) < i + m → i ≤ pF (C 0) → I = (i : Int) → I1 C pg (min (i * 256) (2 ^ C 0)) K → Vw x 7 (fun q => q ∈ [hd, hc, hk]) D true 0 0 [oDisk hd hc hk 0 pg lg wt al dn, aN cI hc 65280 C, aN cI hk 255 K] 38 [(0, .ref hd), (1, .int (iI ((C 0 : Nat) : Int))), (2, .int (iI ((pF (C 0) : Nat) : Int))), (3, .int (iI E)), (4, .int (iI I))] [] := by
  intro m
  induction m with
  | zero => intro i I K hm hi e1 hI; omega
  | succ m ih =>
    intro i I K hm hi e1 hI
    obtain ⟨w1, w2, w3, w4, w5, w6, w7⟩ := id hw
    have hpF := pF_lt w4
    have h2p := Nat.two_pow_pos (C 0)
    refine v_iload (n := 40) k dX1_learnKinds_38 rfl rfl ?_
    refine v_iload_n (n := 41) k dX1_learnKinds_40 rfl rfl ?_
    refine v_icmp_ge (n := 44) (t := 89) k (⟨by omega, by omega⟩) (⟨by omega, by omega⟩) dX1_learnKinds_41 (by decide) rfl (fun c_41 => ?_) (fun c_41 => ?_)
    · refine v_iconst (n := 90) k dX1_learnKinds_89 rfl ?_
      refine v_istore (n := 92) k dX1_learnKinds_90 rfl (by decide) rfl rfl ?_
      have e9 : i = pF (C 0) := by omega
      subst e9
      rw [pF_all] at hI
      exact lp_learn2 k hq hw hl (pF (C 0) + 1) 0 _ _ (by omega) (by omega) rfl ⟨hI.1, fun p hp => by rw [hI.2 p hp]; simp [dirB]⟩
    · refine v_aload_n (n := 45) k dX1_learnKinds_44 rfl rfl ?_
      refine v_iconst (n := 46) k dX1_learnKinds_45 rfl ?_
      refine v_iconst (n := 47) k dX1_learnKinds_46 rfl ?_
      refine v_iload (n := 49) k dX1_learnKinds_47 rfl rfl ?_
      refine v_iadd (n := 50) k dX1_learnKinds_49 rfl ?_
      refine v_rdVi (n := 53) k [0, 1] 0 (z_X1_at (p := 0) (i := 1 + i) rfl (by omega) (by omega) (by omega) w2) miX1_at ml_X1_70 (by decide) (by decide) rfl (by decide) rfl rfl rfl rfl (Nat.le_of_ble_eq_true rfl) ⟨Nat.zero_le _, Nat.zero_le _⟩ dX1_learnKinds_50 rfl ?_
      refine v_istore (n := 55) k dX1_learnKinds_53 rfl (by decide) rfl rfl ?_
      refine v_iconst (n := 56) k dX1_learnKinds_55 rfl ?_
      refine v_istore (n := 58) k dX1_learnKinds_56 rfl (by decide) rfl rfl ?_
      refine lp_learn1i k hq hw hl hE (kk := i) (by omega) (fun K9 h9 => ih (i + 1) _ K9 (by omega) (by omega) (by omega) h9) 257 0 _ _ (by omega) (by omega) rfl ?_
      have e9 : min (i * 256) (2 ^ C 0) = i * 256 + 0 := by
        have := pF_mul (d := C 0) (k := i) (by omega)
        omega
      rw [e9] at hI
      exact hI
set_option maxHeartbeats 1000000 in
set_option maxRecDepth 20000 in
theorem z_X1_learnKinds {D : va_G} {cI cB cJ cZ : ClassId} {hd hc hk : Nat} {ko : Int} {pg lg : Nat} {wt al dn : Int} {C : Nat → Nat} {K : Nat → Nat} (hw : DW C pg lg) (hl : lg ≤ 100) : ∀ l, Up l yX1_learnKinds cX1_learnKinds 7 none ({ frames := 2, cells := 0, slots := 0, locals := 43 }) D (TY cI cB cJ cZ) [.ref hd] [oDisk hd hc hk ko pg lg wt al dn, aN cI hc 65280 C, aN cI hk 255 K] (fun r w1 => r = none ∧ ∃ K, KOK K C pg lg ∧ w1 = [oDisk hd hc hk 0 pg lg wt al dn, aN cI hc 65280 C, aN cI hk 255 K]) := by
  intro l
  refine Up_of (by decide) (Nat.le_of_ble_eq_true rfl) (fun x k hq => ?_)
  obtain ⟨w1, w2, w3, w4, w5, w6, w7⟩ := id hw
  have hpF := pF_lt w4
  have h2p := Nat.two_pow_pos (C 0)
  have h15 : 2 ^ C 0 ≤ 32768 := Nat.le_trans (Nat.pow_le_pow_right (n := 2) (j := 15) (by decide) w4) (by decide)
  refine v_aload_n (n := 1) k dX1_learnKinds_0 rfl rfl ?_
  refine v_iconst (n := 2) k dX1_learnKinds_1 rfl ?_
  refine v_put (n := 5) k ciX1 0 2 (by decide) fl_X1_33 rfl rfl (rfl) (rfl) (Nat.le_of_ble_eq_true rfl) dX1_learnKinds_2 rfl ?_
  refine v_aload_n (n := 6) k dX1_learnKinds_5 rfl rfl ?_
  refine v_get (n := 9) k ciX1 0 1 (by decide) fl_X1_16 rfl rfl dX1_learnKinds_6 rfl ?_
  refine v_iconst (n := 10) k dX1_learnKinds_9 rfl ?_
  refine v_upS (n := 13) k [2] (z_J7_fill (v := 0) rfl (by decide)) miJ7_fill_53178 ml_X1_91 (by decide) (by decide) rfl (by decide) rfl rfl (Nat.le_of_ble_eq_true rfl) ⟨Nat.zero_le _, Nat.zero_le _⟩ dX1_learnKinds_10 rfl ?_
  rintro _ _ ⟨rfl, rfl⟩
  dsimp only [wput, List.set, Option.toList, List.nil_append, List.cons_append]
  refine v_aload_n (n := 14) k dX1_learnKinds_13 rfl rfl ?_
  refine v_iconst (n := 15) k dX1_learnKinds_14 rfl ?_
  refine v_iconst (n := 16) k dX1_learnKinds_15 rfl ?_
  refine v_rdVi (n := 19) k [0, 1] 0 (z_X1_at (p := 0) (i := 0) rfl rfl (by omega) (by omega) w2) miX1_at ml_X1_70 (by decide) (by decide) rfl (by decide) rfl rfl rfl rfl (Nat.le_of_ble_eq_true rfl) ⟨Nat.zero_le _, Nat.zero_le _⟩ dX1_learnKinds_16 rfl ?_
  refine v_istore_n (n := 20) k dX1_learnKinds_19 rfl (by decide) rfl rfl ?_
  refine v_iload_n (n := 21) k dX1_learnKinds_20 rfl rfl ?_
  refine v_rdSNi (n := 24) k [] (z_X4_pagesFor (d := C 0) rfl (by omega)) miX4_pagesFor nl_X1_97 (by decide) (by decide) rfl (by decide) rfl rfl (Nat.le_of_ble_eq_true rfl) ⟨Nat.zero_le _, Nat.zero_le _⟩ dX1_learnKinds_21 rfl ?_
  refine v_istore_n (n := 25) k dX1_learnKinds_24 rfl (by decide) rfl rfl ?_
  refine v_iconst (n := 26) k dX1_learnKinds_25 rfl ?_
  refine v_iload_n (n := 27) k dX1_learnKinds_26 rfl rfl ?_
  refine v_ishl (n := 28) k (((1 * 2 ^ C 0 : Nat) : Int)) (ax_shl rfl rfl (by omega) (by omega)) dX1_learnKinds_27 rfl ?_
  refine v_sipush (n := 31) k dX1_learnKinds_28 (by decide) rfl ?_
  refine v_min (n := 34) k ml_X1_100 (⟨by omega, by omega⟩) (⟨by omega, by omega⟩) (by decide) (Nat.le_of_ble_eq_true rfl) (Nat.zero_le _) (Nat.zero_le _) dX1_learnKinds_31 rfl ?_
  refine v_istore_n (n := 35) k dX1_learnKinds_34 rfl (by decide) rfl rfl ?_
  refine v_iconst (n := 36) k dX1_learnKinds_35 rfl ?_
  refine v_istore (n := 38) k dX1_learnKinds_36 rfl (by decide) rfl rfl ?_
  exact lp_learn1 k hq hw hl (by rw [Nat.one_mul]; omega) (pF (C 0) + 1) 0 _ _ (by omega) (by omega) rfl ⟨fun _ => (by decide : 0 < 256), fun p hp => by simp [visB]⟩
def kdF (C : Nat → Nat) (pg lg : Nat) (P : Int) : Int := if 0 ≤ P ∧ P < (pg : Int) then ((kdN C lg P.toNat : Nat) : Int) else -1
theorem KS.in {ko : Int} {K C : Nat → Nat} {pg lg : Nat} (h : KS ko K C pg lg) : in32 ko := by
  rcases h.2 with h | h
  · exact ⟨by omega, by omega⟩
  · exact ⟨by omega, by omega⟩
set_option maxHeartbeats 1000000 in
set_option maxRecDepth 20000 in
theorem z_X1_kindOf {D : va_G} {cI cB cJ cZ : ClassId} {hd hc hk : Nat} {ko : Int} {pg lg : Nat} {wt al dn : Int} {C : Nat → Nat} {K : Nat → Nat} {P : Int} (hw : DW C pg lg) (hl : lg ≤ 100) (hp9 : in32 P) (hks : KS ko K C pg lg) : ∀ l, Up l yX1_kindOf cX1_kindOf 2 (some .int) ({ frames := 3, cells := 0, slots := 0, locals := 69 }) D (TY cI cB cJ cZ) [.ref hd, .int (iI P)] [oDisk hd hc hk ko pg lg wt al dn, aN cI hc 65280 C, aN cI hk 255 K] (fun r w1 => r = some (.int (iI (kdF C pg lg P))) ∧ ∃ ko2 K2, KS ko2 K2 C pg lg ∧ w1 = [oDisk hd hc hk ko2 pg lg wt al dn, aN cI hc 65280 C, aN cI hk 255 K2]) := by
  intro l
  refine Up_of (by decide) (Nat.le_of_ble_eq_true rfl) (fun x k hq => ?_)
  obtain ⟨w1, w2, w3, w4, w5, w6, w7⟩ := id hw
  obtain ⟨hp1, hp2⟩ := id hp9
  refine v_aload_n (n := 1) k dX1_kindOf_0 rfl rfl ?_
  refine v_iload_n (n := 2) k dX1_kindOf_1 rfl rfl ?_
  refine v_rdVi (n := 5) k [0] 0 (z_X1_isPage hp9 w2) miX1_isPage ml_X1_50 (by decide) (by decide) rfl (by decide) rfl rfl rfl rfl (Nat.le_of_ble_eq_true rfl) ⟨Nat.zero_le _, Nat.zero_le _⟩ dX1_kindOf_2 rfl ?_
  refine v_if_ne (n := 8) (t := 10) k (⟨by cases pgF pg P <;> decide, by cases pgF pg P <;> decide⟩) dX1_kindOf_5 (by decide) rfl (fun c_5 => ?_) (fun c_5 => ?_)
  · have hyes : 0 ≤ P ∧ P < (pg : Int) := by
      have h9 : pgF pg P = true := by
        cases h8 : pgF pg P with
        | true => rfl
        | false => exact absurd (bI_f h8) c_5
      exact of_decide_eq_true h9
    refine v_aload_n (n := 11) k dX1_kindOf_10 rfl rfl ?_
    refine v_get (n := 14) k ciX1 0 2 (by decide) fl_X1_33 rfl rfl dX1_kindOf_11 rfl ?_
    refine v_if_eq (n := 17) (t := 21) k (hks.in) dX1_kindOf_14 (by decide) rfl (fun c_14 => ?_) (fun c_14 => ?_)
    · refine v_aload_n (n := 22) k dX1_kindOf_21 rfl rfl ?_
      refine v_get (n := 25) k ciX1 0 1 (by decide) fl_X1_16 rfl rfl dX1_kindOf_22 rfl ?_
      refine v_iload_n (n := 26) k dX1_kindOf_25 rfl rfl ?_
      refine v_ialdN (n := 27) k 2 0 (P.toNat) rfl rfl (by omega) (by omega) (by omega) dX1_kindOf_26 rfl ?_
      refine v_iretU k hq ?_ rfl dX1_kindOf_27
      first
      | exact ⟨by rw [kdF, if_pos hyes, hK1.2 _ (by omega)], 0, K1, ⟨hK1.1, Or.inr ⟨rfl, hK1, w6, w4⟩⟩, rfl⟩
      | (have hk9 : KOK K C pg lg := by
          rcases hks.2 with h | h
          · omega
          · exact h.2.1
         exact ⟨by rw [kdF, if_pos hyes, hk9.2 _ (by omega)], ko, K, hks, rfl⟩)
    · refine v_aload_n (n := 18) k dX1_kindOf_17 rfl rfl ?_
      refine v_upV (n := 21) k [0, 1, 2] 0 (z_X1_learnKinds hw hl) miX1_learnKinds ml_X1_88 (by decide) (by decide) rfl (by decide) rfl rfl rfl rfl (Nat.le_of_ble_eq_true rfl) ⟨Nat.zero_le _, Nat.zero_le _⟩ dX1_kindOf_18 rfl ?_
      rintro _ _ ⟨rfl, K1, hK1, rfl⟩
      dsimp only [wput, List.set, Option.toList, List.nil_append, List.cons_append]
      refine v_aload_n (n := 22) k dX1_kindOf_21 rfl rfl ?_
      refine v_get (n := 25) k ciX1 0 1 (by decide) fl_X1_16 rfl rfl dX1_kindOf_22 rfl ?_
      refine v_iload_n (n := 26) k dX1_kindOf_25 rfl rfl ?_
      refine v_ialdN (n := 27) k 2 0 (P.toNat) rfl rfl (by omega) (by omega) (by omega) dX1_kindOf_26 rfl ?_
      refine v_iretU k hq ?_ rfl dX1_kindOf_27
      first
      | exact ⟨by rw [kdF, if_pos hyes, hK1.2 _ (by omega)], 0, K1, ⟨hK1.1, Or.inr ⟨rfl, hK1, w6, w4⟩⟩, rfl⟩
      | (have hk9 : KOK K C pg lg := by
          rcases hks.2 with h | h
          · omega
          · exact h.2.1
         exact ⟨by rw [kdF, if_pos hyes, hk9.2 _ (by omega)], ko, K, hks, rfl⟩)
  · have hno : ¬ (0 ≤ P ∧ P < (pg : Int)) := fun h => by
      rw [bI_t (show pgF pg P = true from decide_eq_true h)] at c_5
      omega
    refine v_iconst (n := 9) k dX1_kindOf_8 rfl ?_
    refine v_iretU k hq ?_ rfl dX1_kindOf_9
    exact ⟨by rw [kdF, if_neg hno], ko, K, hks, rfl⟩
end
section
theorem kdN_le (C : Nat → Nat) (lg p : Nat) : kdN C lg p ≤ 5 := by
  unfold kdN
  repeat' split
  all_goals decide
theorem kdF_nat {C : Nat → Nat} {pg lg i : Nat} {I : Int} (e : I = (i : Int)) (h : i < pg) : kdF C pg lg I = ((kdN C lg i : Nat) : Int) := by
  subst e
  rw [kdF, if_pos ⟨by omega, by omega⟩, Int.toNat_natCast]
def cntK (C : Nat → Nat) (lg kd : Nat) : Nat → Nat
  | 0 => 0
  | n + 1 => cntK C lg kd n + (if kdN C lg n = kd then 1 else 0)
def cntR (C : Nat → Nat) (lg : Nat) : Nat → Nat
  | 0 => 0
  | n + 1 => cntR C lg n + (if kdN C lg n = 5 then pb C n 1 else 0)
theorem cntK_le (C : Nat → Nat) (lg kd n : Nat) : cntK C lg kd n ≤ n := by
  induction n with
  | zero => exact Nat.le_refl _
  | succ n ih => unfold cntK; split <;> omega
def frN (C : Nat → Nat) (pg lg a : Nat) : Option Nat := (List.range pg).find? (fun q => decide (a ≤ q) && kdN C lg q == 0)
def frI (C : Nat → Nat) (pg lg a : Nat) : Int := match frN C pg lg a with
  | some q => (q : Int)
  | none => -1
def hbD (C : Nat → Nat) (pg lg d : Nat) : Bool := (List.range pg).any (fun q => kdN C lg q == 5 && pb C q 0 == d)
theorem any_range {n i : Nat} {P : Nat → Bool} (hi : i < n) (h : P i = true) : (List.range n).any P = true := List.any_eq_true.mpr ⟨i, List.mem_range.mpr hi, h⟩
theorem any_range_f {n : Nat} {P : Nat → Bool} (h : ∀ r, r < n → P r = false) : (List.range n).any P = false := by
  rw [List.any_eq_false]
  intro x hx
  rw [h x (List.mem_range.mp hx)]
  decide
set_option maxHeartbeats 1000000 in
set_option maxRecDepth 20000 in
theorem lp_X1_countKind {D : va_G} {cI cB cJ cZ : ClassId} {x : Kx} {hd hc hk : Nat} {pg lg : Nat} {wt al dn : Int} {C : Nat → Nat} {Q : Int} {kd : Nat} (k : Kf x cX1_countKind 4 yX1_countKind.cls (some .int) D (TY cI cB cJ cZ) ({ frames := 4, cells := 0, slots := 0, locals := 90 })) (hq : isU x D [hd, hc, hk] (fun r w1 => r = some (.int (iI (((cntK C lg kd pg : Nat) : Int)))) ∧ ∃ ko2 K2, KS ko2 K2 C pg lg ∧ w1 = [oDisk hd hc hk ko2 pg lg wt al dn, aN cI hc 65280 C, aN cI hk 255 K2])) (hw : DW C pg lg) (hl : lg ≤ 100) (hQ : Q = (kd : Int)) (hkd : kd ≤ 5) : ∀ (m : Nat) (i : Nat) (N I ko : Int) (K : Nat → Nat), pg < i + m → i ≤ pg → I = (i : Int) → N = ((cntK C lg kd i : Nat) : Int) → KS ko K C pg lg → Vw x 4 (fun q => q ∈ [hd, hc, hk]) D true 0 0 [oDisk hd hc hk ko pg lg wt al dn, aN cI hc 65280 C, aN cI hk 255 K] 4 [(0, .ref hd), (1, .int (iI Q)), (2, .int (iI N)), (3, .int (iI I))] [] := by
  intro m
  induction m with
  | zero => intro i N I ko K hm hi e1 e2 hks; omega
  | succ m ih =>
    intro i N I ko K hm hi e1 e2 hks
    obtain ⟨w1, w2, w3, w4, w5, w6, w7⟩ := id hw
    refine v_iload_n (n := 5) k dX1_countKind_4 rfl rfl ?_
    refine v_aload_n (n := 6) k dX1_countKind_5 rfl rfl ?_
    refine v_get (n := 9) k ciX1 0 3 (by decide) fl_X1_19 rfl rfl dX1_countKind_6 rfl ?_
    refine v_icmp_ge (n := 12) (t := 30) k (⟨by omega, by omega⟩) (⟨by omega, by omega⟩) dX1_countKind_9 (by decide) rfl (fun c_9 => ?_) (fun c_9 => ?_)
    · have e9 : i = pg := by omega
      subst e9
      refine v_iload_n (n := 31) k dX1_countKind_30 rfl rfl ?_
      refine v_iretU k hq ?_ rfl dX1_countKind_31
      exact ⟨by rw [e2], ko, K, hks, rfl⟩
    · refine v_aload_n (n := 13) k dX1_countKind_12 rfl rfl ?_
      refine v_iload_n (n := 14) k dX1_countKind_13 rfl rfl ?_
      refine v_upV (n := 17) k [0, 1, 2] 0 (z_X1_kindOf hw hl ⟨by omega, by omega⟩ hks) miX1_kindOf ml_X1_109 (by decide) (by decide) rfl (by decide) rfl rfl rfl rfl (Nat.le_of_ble_eq_true rfl) ⟨Nat.zero_le _, Nat.zero_le _⟩ dX1_countKind_14 rfl ?_
      rintro _ _ ⟨rfl, ko2, K2, hks2, rfl⟩
      rw [kdF_nat e1 (by omega)]
      have hk9 := kdN_le C lg i
      dsimp only [wput, List.set, Option.toList, List.nil_append, List.cons_append]
      refine v_iload_n (n := 18) k dX1_countKind_17 rfl rfl ?_
      refine v_icmp_ne (n := 21) (t := 24) k (⟨by omega, by omega⟩) (⟨by omega, by omega⟩) dX1_countKind_18 (by decide) rfl (fun c_18 => ?_) (fun c_18 => ?_)
      · refine v_iinc (n := 27) k dX1_countKind_24 rfl (by decide) rfl rfl rfl ?_
        refine v_goto (t := 4) k dX1_countKind_27 (by decide) ?_
        refine ih (i + 1) _ _ _ _ (by omega) (by omega) (by omega) ?_ hks2
        unfold cntK
        first
        | (rw [if_pos (by omega)]; omega)
        | (rw [if_neg (by omega)]; omega)
      · refine v_iinc (n := 24) k dX1_countKind_21 rfl (by decide) rfl rfl rfl ?_
        refine v_iinc (n := 27) k dX1_countKind_24 rfl (by decide) rfl rfl rfl ?_
        refine v_goto (t := 4) k dX1_countKind_27 (by decide) ?_
        refine ih (i + 1) _ _ _ _ (by omega) (by omega) (by omega) ?_ hks2
        unfold cntK
        first
        | (rw [if_pos (by omega)]; omega)
        | (rw [if_neg (by omega)]; omega)
set_option maxHeartbeats 1000000 in
set_option maxRecDepth 20000 in
theorem z_X1_countKind {D : va_G} {cI cB cJ cZ : ClassId} {hd hc hk : Nat} {ko : Int} {pg lg : Nat} {wt al dn : Int} {C : Nat → Nat} {K : Nat → Nat} {Q : Int} {kd : Nat} (hw : DW C pg lg) (hl : lg ≤ 100) (hQ : Q = (kd : Int)) (hkd : kd ≤ 5) (hks : KS ko K C pg lg) : ∀ l, Up l yX1_countKind cX1_countKind 4 (some .int) ({ frames := 4, cells := 0, slots := 0, locals := 90 }) D (TY cI cB cJ cZ) [.ref hd, .int (iI Q)] [oDisk hd hc hk ko pg lg wt al dn, aN cI hc 65280 C, aN cI hk 255 K] (fun r w1 => r = some (.int (iI (((cntK C lg kd pg : Nat) : Int)))) ∧ ∃ ko2 K2, KS ko2 K2 C pg lg ∧ w1 = [oDisk hd hc hk ko2 pg lg wt al dn, aN cI hc 65280 C, aN cI hk 255 K2]) := by
  intro l
  refine Up_of (by decide) (Nat.le_of_ble_eq_true rfl) (fun x k hq => ?_)
  refine v_iconst (n := 1) k dX1_countKind_0 rfl ?_
  refine v_istore_n (n := 2) k dX1_countKind_1 rfl (by decide) rfl rfl ?_
  refine v_iconst (n := 3) k dX1_countKind_2 rfl ?_
  refine v_istore_n (n := 4) k dX1_countKind_3 rfl (by decide) rfl rfl ?_
  exact lp_X1_countKind k hq hw hl hQ hkd (pg + 1) 0 _ _ _ _ (by omega) (by omega) rfl rfl hks
set_option maxHeartbeats 1000000 in
set_option maxRecDepth 20000 in
theorem lp_X1_freeBehind {D : va_G} {cI cB cJ cZ : ClassId} {x : Kx} {hd hc hk : Nat} {pg lg : Nat} {wt al dn : Int} {C : Nat → Nat} {P : Int} {a : Nat} (k : Kf x cX1_freeBehind 3 yX1_freeBehind.cls (some .int) D (TY cI cB cJ cZ) ({ frames := 4, cells := 0, slots := 0, locals := 90 })) (hq : isU x D [hd, hc, hk] (fun r w1 => r = some (.int (iI (frI C pg lg a))) ∧ ∃ ko2 K2, KS ko2 K2 C pg lg ∧ w1 = [oDisk hd hc hk ko2 pg lg wt al dn, aN cI hc 65280 C, aN cI hk 255 K2])) (hw : DW C pg lg) (hl : lg ≤ 100) (hP : P + 1 = (a : Int)) : ∀ (m : Nat) (i : Nat) (I ko : Int) (K : Nat → Nat), pg < i + m → (a ≤ i ∧ i ≤ pg) → I = (i : Int) → KS ko K C pg lg → (∀ q, a ≤ q → q < i → kdN C lg q ≠ 0) → Vw x 3 (fun q => q ∈ [hd, hc, hk]) D true 0 0 [oDisk hd hc hk ko pg lg wt al dn, aN cI hc 65280 C, aN cI hk 255 K] 4 [(0, .ref hd), (1, .int (iI P)), (2, .int (iI I))] [] := by
  intro m
  induction m with
  | zero => intro i I ko K hm hi e1 hks e3; omega
  | succ m ih =>
    intro i I ko K hm hi e1 hks e3
    obtain ⟨w1, w2, w3, w4, w5, w6, w7⟩ := id hw
    refine v_iload_n (n := 5) k dX1_freeBehind_4 rfl rfl ?_
    refine v_aload_n (n := 6) k dX1_freeBehind_5 rfl rfl ?_
    refine v_get (n := 9) k ciX1 0 3 (by decide) fl_X1_19 rfl rfl dX1_freeBehind_6 rfl ?_
    refine v_icmp_ge (n := 12) (t := 28) k (⟨by omega, by omega⟩) (⟨by omega, by omega⟩) dX1_freeBehind_9 (by decide) rfl (fun c_9 => ?_) (fun c_9 => ?_)
    · refine v_iconst (n := 29) k dX1_freeBehind_28 rfl ?_
      refine v_iretU k hq ?_ rfl dX1_freeBehind_29
      refine ⟨?_, ko, K, hks, rfl⟩
      rw [frI, show frN C pg lg a = none from find_range_n (fun r hr => by
        rcases Nat.lt_or_ge r a with g | g
        · have : ¬ a ≤ r := by omega
          simp [this]
        · have h1 := e3 r g (by omega)
          simp [h1])]
    · refine v_aload_n (n := 13) k dX1_freeBehind_12 rfl rfl ?_
      refine v_iload_n (n := 14) k dX1_freeBehind_13 rfl rfl ?_
      refine v_upV (n := 17) k [0, 1, 2] 0 (z_X1_kindOf hw hl ⟨by omega, by omega⟩ hks) miX1_kindOf ml_X1_109 (by decide) (by decide) rfl (by decide) rfl rfl rfl rfl (Nat.le_of_ble_eq_true rfl) ⟨Nat.zero_le _, Nat.zero_le _⟩ dX1_freeBehind_14 rfl ?_
      rintro _ _ ⟨rfl, ko2, K2, hks2, rfl⟩
      rw [kdF_nat e1 (by omega)]
      have hk9 := kdN_le C lg i
      dsimp only [wput, List.set, Option.toList, List.nil_append, List.cons_append]
      refine v_if_ne (n := 20) (t := 22) k (⟨by omega, by omega⟩) dX1_freeBehind_17 (by decide) rfl (fun c_17 => ?_) (fun c_17 => ?_)
      · refine v_iinc (n := 25) k dX1_freeBehind_22 rfl (by decide) rfl rfl rfl ?_
        refine v_goto (t := 4) k dX1_freeBehind_25 (by decide) ?_
        exact ih (i + 1) _ _ _ (by omega) (by omega) (by omega) hks2 (fun q h1 h2 => by
          rcases Nat.lt_or_ge q i with g | g
          · exact e3 q h1 g
          · have : q = i := by omega
            subst this
            omega)
      · refine v_iload_n (n := 21) k dX1_freeBehind_20 rfl rfl ?_
        refine v_iretU k hq ?_ rfl dX1_freeBehind_21
        refine ⟨?_, ko2, K2, hks2, rfl⟩
        rw [frI, show frN C pg lg a = some i from find_range (by omega) (by
          have h1 : kdN C lg i = 0 := by omega
          simp [h1, hi.1]) (fun r hr => by
          rcases Nat.lt_or_ge r a with g | g
          · have : ¬ a ≤ r := by omega
            simp [this]
          · have h1 := e3 r g hr
            simp [h1]), e1]
set_option maxHeartbeats 1000000 in
set_option maxRecDepth 20000 in
theorem z_X1_freeBehind {D : va_G} {cI cB cJ cZ : ClassId} {hd hc hk : Nat} {ko : Int} {pg lg : Nat} {wt al dn : Int} {C : Nat → Nat} {K : Nat → Nat} {P : Int} {a : Nat} (hw : DW C pg lg) (hl : lg ≤ 100) (hP : P + 1 = (a : Int)) (ha : a ≤ pg) (hks : KS ko K C pg lg) : ∀ l, Up l yX1_freeBehind cX1_freeBehind 3 (some .int) ({ frames := 4, cells := 0, slots := 0, locals := 90 }) D (TY cI cB cJ cZ) [.ref hd, .int (iI P)] [oDisk hd hc hk ko pg lg wt al dn, aN cI hc 65280 C, aN cI hk 255 K] (fun r w1 => r = some (.int (iI (frI C pg lg a))) ∧ ∃ ko2 K2, KS ko2 K2 C pg lg ∧ w1 = [oDisk hd hc hk ko2 pg lg wt al dn, aN cI hc 65280 C, aN cI hk 255 K2]) := by
  intro l
  refine Up_of (by decide) (Nat.le_of_ble_eq_true rfl) (fun x k hq => ?_)
  refine v_iload_n (n := 1) k dX1_freeBehind_0 rfl rfl ?_
  refine v_iconst (n := 2) k dX1_freeBehind_1 rfl ?_
  refine v_iadd (n := 3) k dX1_freeBehind_2 rfl ?_
  refine v_istore_n (n := 4) k dX1_freeBehind_3 rfl (by decide) rfl rfl ?_
  exact lp_X1_freeBehind k hq hw hl hP (pg + 1) a _ _ _ (by omega) (by omega) hP hks (fun q h1 h2 => absurd h1 (by omega))
set_option maxHeartbeats 1000000 in
set_option maxRecDepth 20000 in
theorem lp_X1_countRecords {D : va_G} {cI cB cJ cZ : ClassId} {x : Kx} {hd hc hk : Nat} {pg lg : Nat} {wt al dn : Int} {C : Nat → Nat} (k : Kf x cX1_countRecords 3 yX1_countRecords.cls (some .int) D (TY cI cB cJ cZ) ({ frames := 4, cells := 0, slots := 0, locals := 90 })) (hq : isU x D [hd, hc, hk] (fun r w1 => r = some (.int (iI (((cntR C lg pg : Nat) : Int)))) ∧ ∃ ko2 K2, KS ko2 K2 C pg lg ∧ w1 = [oDisk hd hc hk ko2 pg lg wt al dn, aN cI hc 65280 C, aN cI hk 255 K2])) (hw : DW C pg lg) (hl : lg ≤ 100) : ∀ (m : Nat) (i : Nat) (N I ko : Int) (K : Nat → Nat), pg < i + m → i ≤ pg → I = (i : Int) → N = ((cntR C lg i : Nat) : Int) → KS ko K C pg lg → Vw x 3 (fun q => q ∈ [hd, hc, hk]) D true 0 0 [oDisk hd hc hk ko pg lg wt al dn, aN cI hc 65280 C, aN cI hk 255 K] 4 [(0, .ref hd), (1, .int (iI N)), (2, .int (iI I))] [] := by
  intro m
  induction m with
  | zero => intro i N I ko K hm hi e1 e2 hks; omega
  | succ m ih =>
    intro i N I ko K hm hi e1 e2 hks
    obtain ⟨w1, w2, w3, w4, w5, w6, w7⟩ := id hw
    refine v_iload_n (n := 5) k dX1_countRecords_4 rfl rfl ?_
    refine v_aload_n (n := 6) k dX1_countRecords_5 rfl rfl ?_
    refine v_get (n := 9) k ciX1 0 3 (by decide) fl_X1_19 rfl rfl dX1_countRecords_6 rfl ?_
    refine v_icmp_ge (n := 12) (t := 36) k (⟨by omega, by omega⟩) (⟨by omega, by omega⟩) dX1_countRecords_9 (by decide) rfl (fun c_9 => ?_) (fun c_9 => ?_)
    · have e9 : i = pg := by omega
      subst e9
      refine v_iload_n (n := 37) k dX1_countRecords_36 rfl rfl ?_
      refine v_iretU k hq ?_ rfl dX1_countRecords_37
      exact ⟨by rw [e2], ko, K, hks, rfl⟩
    · refine v_aload_n (n := 13) k dX1_countRecords_12 rfl rfl ?_
      refine v_iload_n (n := 14) k dX1_countRecords_13 rfl rfl ?_
      refine v_upV (n := 17) k [0, 1, 2] 0 (z_X1_kindOf hw hl ⟨by omega, by omega⟩ hks) miX1_kindOf ml_X1_109 (by decide) (by decide) rfl (by decide) rfl rfl rfl rfl (Nat.le_of_ble_eq_true rfl) ⟨Nat.zero_le _, Nat.zero_le _⟩ dX1_countRecords_14 rfl ?_
      rintro _ _ ⟨rfl, ko2, K2, hks2, rfl⟩
      rw [kdF_nat e1 (by omega)]
      have hk9 := kdN_le C lg i
      dsimp only [wput, List.set, Option.toList, List.nil_append, List.cons_append]
      refine v_iconst (n := 18) k dX1_countRecords_17 rfl ?_
      refine v_icmp_ne (n := 21) (t := 30) k (⟨by omega, by omega⟩) (⟨by omega, by omega⟩) dX1_countRecords_18 (by decide) rfl (fun c_18 => ?_) (fun c_18 => ?_)
      · refine v_iinc (n := 33) k dX1_countRecords_30 rfl (by decide) rfl rfl rfl ?_
        refine v_goto (t := 4) k dX1_countRecords_33 (by decide) ?_
        refine ih (i + 1) _ _ _ _ (by omega) (by omega) (by omega) ?_ hks2
        unfold cntR
        first
        | (rw [if_pos (by omega)]; omega)
        | (rw [if_neg (by omega)]; omega)
      · refine v_iload_n (n := 22) k dX1_countRecords_21 rfl rfl ?_
        refine v_aload_n (n := 23) k dX1_countRecords_22 rfl rfl ?_
        refine v_iload_n (n := 24) k dX1_countRecords_23 rfl rfl ?_
        refine v_iconst (n := 25) k dX1_countRecords_24 rfl ?_
        refine v_rdVi (n := 28) k [0, 1] 0 (z_X1_at (p := i) (i := 1) e1 rfl (by omega) (by omega) w2) miX1_at ml_X1_70 (by decide) (by decide) rfl (by decide) rfl rfl rfl rfl (Nat.le_of_ble_eq_true rfl) ⟨Nat.zero_le _, Nat.zero_le _⟩ dX1_countRecords_25 rfl ?_
        refine v_iadd (n := 29) k dX1_countRecords_28 rfl ?_
        refine v_istore_n (n := 30) k dX1_countRecords_29 rfl (by decide) rfl rfl ?_
        refine v_iinc (n := 33) k dX1_countRecords_30 rfl (by decide) rfl rfl rfl ?_
        refine v_goto (t := 4) k dX1_countRecords_33 (by decide) ?_
        refine ih (i + 1) _ _ _ _ (by omega) (by omega) (by omega) ?_ hks2
        unfold cntR
        first
        | (rw [if_pos (by omega)]; omega)
        | (rw [if_neg (by omega)]; omega)
set_option maxHeartbeats 1000000 in
set_option maxRecDepth 20000 in
theorem z_X1_countRecords {D : va_G} {cI cB cJ cZ : ClassId} {hd hc hk : Nat} {ko : Int} {pg lg : Nat} {wt al dn : Int} {C : Nat → Nat} {K : Nat → Nat} (hw : DW C pg lg) (hl : lg ≤ 100) (hks : KS ko K C pg lg) : ∀ l, Up l yX1_countRecords cX1_countRecords 3 (some .int) ({ frames := 4, cells := 0, slots := 0, locals := 90 }) D (TY cI cB cJ cZ) [.ref hd] [oDisk hd hc hk ko pg lg wt al dn, aN cI hc 65280 C, aN cI hk 255 K] (fun r w1 => r = some (.int (iI (((cntR C lg pg : Nat) : Int)))) ∧ ∃ ko2 K2, KS ko2 K2 C pg lg ∧ w1 = [oDisk hd hc hk ko2 pg lg wt al dn, aN cI hc 65280 C, aN cI hk 255 K2]) := by
  intro l
  refine Up_of (by decide) (Nat.le_of_ble_eq_true rfl) (fun x k hq => ?_)
  refine v_iconst (n := 1) k dX1_countRecords_0 rfl ?_
  refine v_istore_n (n := 2) k dX1_countRecords_1 rfl (by decide) rfl rfl ?_
  refine v_iconst (n := 3) k dX1_countRecords_2 rfl ?_
  refine v_istore_n (n := 4) k dX1_countRecords_3 rfl (by decide) rfl rfl ?_
  exact lp_X1_countRecords k hq hw hl (pg + 1) 0 _ _ _ _ (by omega) (by omega) rfl rfl hks
set_option maxHeartbeats 1000000 in
set_option maxRecDepth 20000 in
theorem lp_X1_hasBucketOfDepth {D : va_G} {cI cB cJ cZ : ClassId} {x : Kx} {hd hc hk : Nat} {pg lg : Nat} {wt al dn : Int} {C : Nat → Nat} {Q : Int} {d : Nat} (k : Kf x cX1_hasBucketOfDepth 3 yX1_hasBucketOfDepth.cls (some .boolean) D (TY cI cB cJ cZ) ({ frames := 4, cells := 0, slots := 0, locals := 90 })) (hq : isU x D [hd, hc, hk] (fun r w1 => r = some (.int (iI (bI (hbD C pg lg d)))) ∧ ∃ ko2 K2, KS ko2 K2 C pg lg ∧ w1 = [oDisk hd hc hk ko2 pg lg wt al dn, aN cI hc 65280 C, aN cI hk 255 K2])) (hw : DW C pg lg) (hl : lg ≤ 100) (hQ : Q = (d : Int)) (hd9 : d ≤ 100) : ∀ (m : Nat) (i : Nat) (I ko : Int) (K : Nat → Nat), pg < i + m → i ≤ pg → I = (i : Int) → KS ko K C pg lg → (∀ q, q < i → (kdN C lg q == 5 && pb C q 0 == d) = false) → Vw x 3 (fun q => q ∈ [hd, hc, hk]) D true 0 0 [oDisk hd hc hk ko pg lg wt al dn, aN cI hc 65280 C, aN cI hk 255 K] 2 [(0, .ref hd), (1, .int (iI Q)), (2, .int (iI I))] [] := by
  intro m
  induction m with
  | zero => intro i I ko K hm hi e1 hks e3; omega
  | succ m ih =>
    intro i I ko K hm hi e1 hks e3
    obtain ⟨w1, w2, w3, w4, w5, w6, w7⟩ := id hw
    refine v_iload_n (n := 3) k dX1_hasBucketOfDepth_2 rfl rfl ?_
    refine v_aload_n (n := 4) k dX1_hasBucketOfDepth_3 rfl rfl ?_
    refine v_get (n := 7) k ciX1 0 3 (by decide) fl_X1_19 rfl rfl dX1_hasBucketOfDepth_4 rfl ?_
    refine v_icmp_ge (n := 10) (t := 37) k (⟨by omega, by omega⟩) (⟨by omega, by omega⟩) dX1_hasBucketOfDepth_7 (by decide) rfl (fun c_7 => ?_) (fun c_7 => ?_)
    · refine v_iconst (n := 38) k dX1_hasBucketOfDepth_37 rfl ?_
      refine v_zretU k (by decide) hq ?_ rfl dX1_hasBucketOfDepth_38
      refine ⟨?_, ko, K, hks, rfl⟩
      rw [bI_f (show hbD C pg lg d = false from any_range_f (fun r hr => e3 r (by omega)))]
    · refine v_aload_n (n := 11) k dX1_hasBucketOfDepth_10 rfl rfl ?_
      refine v_iload_n (n := 12) k dX1_hasBucketOfDepth_11 rfl rfl ?_
      refine v_upV (n := 15) k [0, 1, 2] 0 (z_X1_kindOf hw hl ⟨by omega, by omega⟩ hks) miX1_kindOf ml_X1_109 (by decide) (by decide) rfl (by decide) rfl rfl rfl rfl (Nat.le_of_ble_eq_true rfl) ⟨Nat.zero_le _, Nat.zero_le _⟩ dX1_hasBucketOfDepth_12 rfl ?_
      rintro _ _ ⟨rfl, ko2, K2, hks2, rfl⟩
      rw [kdF_nat e1 (by omega)]
      have hk9 := kdN_le C lg i
      dsimp only [wput, List.set, Option.toList, List.nil_append, List.cons_append]
      refine v_iconst (n := 16) k dX1_hasBucketOfDepth_15 rfl ?_
      refine v_icmp_ne (n := 19) (t := 31) k (⟨by omega, by omega⟩) (⟨by omega, by omega⟩) dX1_hasBucketOfDepth_16 (by decide) rfl (fun c_16 => ?_) (fun c_16 => ?_)
      · refine v_iinc (n := 34) k dX1_hasBucketOfDepth_31 rfl (by decide) rfl rfl rfl ?_
        refine v_goto (t := 2) k dX1_hasBucketOfDepth_34 (by decide) ?_
        exact ih (i + 1) _ _ _ (by omega) (by omega) (by omega) hks2 (fun q h1 => by
          rcases Nat.lt_or_ge q i with g | g
          · exact e3 q g
          · have : q = i := by omega
            subst this
            first
            | (have h9 : kdN C lg q ≠ 5 := by omega
               simp [h9]; done)
            | (have h9 : pb C q 0 ≠ d := by omega
               simp [h9]; done))
      · refine v_aload_n (n := 20) k dX1_hasBucketOfDepth_19 rfl rfl ?_
        refine v_iload_n (n := 21) k dX1_hasBucketOfDepth_20 rfl rfl ?_
        refine v_iconst (n := 22) k dX1_hasBucketOfDepth_21 rfl ?_
        refine v_rdVi (n := 25) k [0, 1] 0 (z_X1_at (p := i) (i := 0) e1 rfl (by omega) (by omega) w2) miX1_at ml_X1_70 (by decide) (by decide) rfl (by decide) rfl rfl rfl rfl (Nat.le_of_ble_eq_true rfl) ⟨Nat.zero_le _, Nat.zero_le _⟩ dX1_hasBucketOfDepth_22 rfl ?_
        have hb9 : pb C i 0 < 256 := w3 _
        refine v_iload_n (n := 26) k dX1_hasBucketOfDepth_25 rfl rfl ?_
        refine v_icmp_ne (n := 29) (t := 31) k (⟨by omega, by omega⟩) (⟨by omega, by omega⟩) dX1_hasBucketOfDepth_26 (by decide) rfl (fun c_26 => ?_) (fun c_26 => ?_)
        · refine v_iinc (n := 34) k dX1_hasBucketOfDepth_31 rfl (by decide) rfl rfl rfl ?_
          refine v_goto (t := 2) k dX1_hasBucketOfDepth_34 (by decide) ?_
          exact ih (i + 1) _ _ _ (by omega) (by omega) (by omega) hks2 (fun q h1 => by
            rcases Nat.lt_or_ge q i with g | g
            · exact e3 q g
            · have : q = i := by omega
              subst this
              first
              | (have h9 : kdN C lg q ≠ 5 := by omega
                 simp [h9]; done)
              | (have h9 : pb C q 0 ≠ d := by omega
                 simp [h9]; done))
        · refine v_iconst (n := 30) k dX1_hasBucketOfDepth_29 rfl ?_
          refine v_zretU k (by decide) hq ?_ rfl dX1_hasBucketOfDepth_30
          refine ⟨?_, ko2, K2, hks2, rfl⟩
          rw [bI_t (show hbD C pg lg d = true from any_range (i := i) (by omega) (by
            have h1 : kdN C lg i = 5 := by omega
            have h2 : pb C i 0 = d := by omega
            simp [h1, h2]))]
set_option maxHeartbeats 1000000 in
set_option maxRecDepth 20000 in
theorem z_X1_hasBucketOfDepth {D : va_G} {cI cB cJ cZ : ClassId} {hd hc hk : Nat} {ko : Int} {pg lg : Nat} {wt al dn : Int} {C : Nat → Nat} {K : Nat → Nat} {Q : Int} {d : Nat} (hw : DW C pg lg) (hl : lg ≤ 100) (hQ : Q = (d : Int)) (hd9 : d ≤ 100) (hks : KS ko K C pg lg) : ∀ l, Up l yX1_hasBucketOfDepth cX1_hasBucketOfDepth 3 (some .boolean) ({ frames := 4, cells := 0, slots := 0, locals := 90 }) D (TY cI cB cJ cZ) [.ref hd, .int (iI Q)] [oDisk hd hc hk ko pg lg wt al dn, aN cI hc 65280 C, aN cI hk 255 K] (fun r w1 => r = some (.int (iI (bI (hbD C pg lg d)))) ∧ ∃ ko2 K2, KS ko2 K2 C pg lg ∧ w1 = [oDisk hd hc hk ko2 pg lg wt al dn, aN cI hc 65280 C, aN cI hk 255 K2]) := by
  intro l
  refine Up_of (by decide) (Nat.le_of_ble_eq_true rfl) (fun x k hq => ?_)
  refine v_iconst (n := 1) k dX1_hasBucketOfDepth_0 rfl ?_
  refine v_istore_n (n := 2) k dX1_hasBucketOfDepth_1 rfl (by decide) rfl rfl ?_
  exact lp_X1_hasBucketOfDepth k hq hw hl hQ hd9 (pg + 1) 0 _ _ _ (by omega) (by omega) rfl hks (fun q h1 => absurd h1 (by omega))
end
section
/-- a bucket's page that is being built: depth, how many records, how many bytes it says, the bytes that are there -/
def bpi (d n L : Nat) (bs : List Nat) : Nat → Nat := fun i => if i = 0 then d else if i = 1 then n else if i = 2 then L / 256 else if i = 3 then L % 256 else bs.getD (i - 4) 0
/-- a bucket's page: depth and records -/
def bpg (d : Nat) (rs : List (List Nat)) : Nat → Nat := bpi d rs.length rs.flatten.length rs.flatten
theorem bpg_0 {d : Nat} (h : d < 256) : upN (fun _ => 0) 0 (d % 256) = bpg d [] := by
  funext i
  unfold upN bpg bpi
  by_cases h0 : i = 0
  · rw [if_pos h0, if_pos h0, Nat.mod_eq_of_lt h]
  · rw [if_neg h0, if_neg h0]
    simp
theorem bpi_set {d n L b i : Nat} {bs : List Nat} (hi : i = 4 + bs.length) (hb : b < 256) : upN (bpi d n L bs) i (b % 256) = bpi d n L (bs ++ [b]) := by
  funext j
  unfold upN bpi
  by_cases h0 : j = 0
  · rw [if_neg (by omega), if_pos h0, if_pos h0]
  by_cases h1 : j = 1
  · rw [if_neg (by omega), if_neg h0, if_pos h1, if_neg h0, if_pos h1]
  by_cases h2 : j = 2
  · rw [if_neg (by omega), if_neg h0, if_neg h1, if_pos h2, if_neg h0, if_neg h1, if_pos h2]
  by_cases h3 : j = 3
  · rw [if_neg (by omega), if_neg h0, if_neg h1, if_neg h2, if_pos h3, if_neg h0, if_neg h1, if_neg h2, if_pos h3]
  rw [if_neg h0, if_neg h1, if_neg h2, if_neg h3, if_neg h0, if_neg h1, if_neg h2, if_neg h3]
  by_cases e : j = i
  · rw [if_pos e, Nat.mod_eq_of_lt hb, show j - 4 = bs.length by omega]
    simp [List.getD_eq_getElem?_getD]
  · rw [if_neg e, List.getD_eq_getElem?_getD, List.getD_eq_getElem?_getD]
    rcases Nat.lt_or_ge (j - 4) bs.length with q | q
    · rw [List.getElem?_append_left q]
    · rw [List.getElem?_eq_none q, List.getElem?_eq_none (by simp; omega)]
theorem bpi_cnt {d n L v : Nat} {bs : List Nat} (hn : n < 255) (hL : L + v < 256) : upN (upN (upN (bpi d n L bs) 1 ((bpi d n L bs 1 + 1) % 256)) 2 ((bpi d n L bs 2 * 256 + bpi d n L bs 3 + v) / 256 % 256)) 3 ((bpi d n L bs 2 * 256 + bpi d n L bs 3 + v) % 256 % 256) = bpi d (n + 1) (L + v) bs := by
  have e1 : bpi d n L bs 1 = n := rfl
  have e2 : bpi d n L bs 2 = L / 256 := rfl
  have e3 : bpi d n L bs 3 = L % 256 := rfl
  rw [e1, e2, e3]
  have e4 : L / 256 * 256 + L % 256 = L := by omega
  rw [e4]
  funext j
  unfold upN bpi
  by_cases h3 : j = 3
  · rw [if_pos h3, if_neg (by omega), if_neg (by omega), if_neg (by omega), if_pos h3]; omega
  rw [if_neg h3]
  by_cases h2 : j = 2
  · rw [if_pos h2, if_neg (by omega), if_neg (by omega), if_pos h2]; omega
  rw [if_neg h2]
  by_cases h1 : j = 1
  · rw [if_pos h1, if_neg (by omega), if_pos h1]; omega
  rw [if_neg h1]
  by_cases h0 : j = 0
  · rw [if_pos h0, if_pos h0]
  · rw [if_neg h0, if_neg h1, if_neg h2, if_neg h3, if_neg h0, if_neg h1, if_neg h2, if_neg h3]
theorem bpg_add (d : Nat) (rs : List (List Nat)) (r : List Nat) : bpi d (rs.length + 1) (rs.flatten.length + r.length) (rs.flatten ++ r) = bpg d (rs ++ [r]) := by
  unfold bpg
  rw [List.flatten_append, List.length_append, List.length_append]
  simp
theorem range_snoc {α : Type} (g : Nat → α) (n : Nat) : (List.range (n + 1)).map g = (List.range n).map g ++ [g n] := by
  rw [List.range_succ, List.map_append]
  rfl
/-- the bytes of the record at s in page p -/
def recL (C : Nat → Nat) (p s : Nat) : List Nat := (List.range (rsz C p s)).map (fun j => pb C p (s + j))
theorem recL_len (C : Nat → Nat) (p s : Nat) : (recL C p s).length = rsz C p s := by simp [recL]
/-- the record of a tape -/
def tapL (T : Nat → Nat) (ks z : Nat) : List Nat := ks :: (z - ks) :: (List.range z).map T
theorem tapL_len (T : Nat → Nat) (ks z : Nat) : (tapL T ks z).length = 2 + z := by simp [tapL]; omega
set_option maxHeartbeats 1000000 in
set_option maxRecDepth 20000 in
theorem lp_X2_copyRecord {D : va_G} {cI cB cJ cZ : ClassId} {x : Kx} {hd hc hk : Nat} {ko : Int} {pg lg : Nat} {wt al dn : Int} {C : Nat → Nat} {hp hb : Nat} {P S : Int} {p s d : Nat} {rs : List (List Nat)} (k : Kf x cX2_copyRecord 7 yX2_copyRecord.cls none D (TY cI cB cJ cZ) ({ frames := 2, cells := 0, slots := 0, locals := 44 })) (hq : isU x D [hp, hb, hd, hc] (fun r w1 => r = none ∧ w1 = [oPage hp hb, aN cI hb 256 (bpg d (rs ++ [recL C p s])), oDisk hd hc hk ko pg lg wt al dn, aN cI hc 65280 C])) (hP : P = (p : Int)) (hS : S = (s : Int)) (hp9 : p < pg) (hg : pg ≤ 255) (hC : ∀ j, C j < 256) (hs : s + rsz C p s ≤ 256) (hn : rs.length < 255) (hL : rs.flatten.length + rsz C p s ≤ 252) : ∀ (m : Nat) (i : Nat) (I E : Int), rsz C p s < i + m → i ≤ rsz C p s → I = (i : Int) → E = ((4 + rs.flatten.length : Nat) : Int) → Vw x 7 (fun q => q ∈ [hp, hb, hd, hc]) D true 0 0 [oPage hp hb, aN cI hb 256 (bpi d (rs.length + 1) (rs.flatten.length + rsz C p s) (rs.flatten ++ (List.range i).map (fun j => pb C p (s + j)))), oDisk hd hc hk ko pg lg wt al dn, aN cI hc 65280 C] 19 [(0, .ref hp), (1, .ref hd), (2, .int (iI P)), (3, .int (iI S)), (4, .int (iI ((rsz C p s : Nat) : Int))), (5, .int (iI E)), (6, .int (iI I))] [] := by
  intro m
  induction m with
  | zero => intro i I E hm hi e1 e2; omega
  | succ m ih =>
    intro i I E hm hi e1 e2
    have hz9 := rsz_ge C p s
    refine v_iload (n := 21) k dX2_copyRecord_19 rfl rfl ?_
    refine v_iload (n := 23) k dX2_copyRecord_21 rfl rfl ?_
    refine v_icmp_ge (n := 26) (t := 50) k (⟨by omega, by omega⟩) (⟨by omega, by omega⟩) dX2_copyRecord_23 (by decide) rfl (fun c_23 => ?_) (fun c_23 => ?_)
    · have e9 : i = rsz C p s := by omega
      subst e9
      refine v_vretU k hq ?_ rfl dX2_copyRecord_50
      refine ⟨rfl, ?_⟩
      have e8 := bpg_add d rs (recL C p s)
      rw [recL_len] at e8
      rw [← e8]
      try rfl
    · refine v_aload_n (n := 27) k dX2_copyRecord_26 rfl rfl ?_
      refine v_iload (n := 29) k dX2_copyRecord_27 rfl rfl ?_
      refine v_iload (n := 31) k dX2_copyRecord_29 rfl rfl ?_
      refine v_iadd (n := 32) k dX2_copyRecord_31 rfl ?_
      refine v_aload_n (n := 33) k dX2_copyRecord_32 rfl rfl ?_
      refine v_iload_n (n := 34) k dX2_copyRecord_33 rfl rfl ?_
      refine v_iload_n (n := 35) k dX2_copyRecord_34 rfl rfl ?_
      refine v_iload (n := 37) k dX2_copyRecord_35 rfl rfl ?_
      refine v_iadd (n := 38) k dX2_copyRecord_37 rfl ?_
      refine v_rdVi (n := 41) k [2, 3] 2 (z_X1_at (p := p) (i := s + i) hP (by omega) hp9 (by omega) hg) miX1_at ml_X2_38 (by decide) (by decide) rfl (by decide) rfl rfl rfl rfl (Nat.le_of_ble_eq_true rfl) ⟨Nat.zero_le _, Nat.zero_le _⟩ dX2_copyRecord_38 rfl ?_
      refine v_upV (n := 44) k [0, 1] 0 (z_X2_set (i := 4 + (rs.flatten.length + i)) (v := pb C p (s + i)) (by omega) rfl (by omega)) miX2_set ml_X2_24 (by decide) (by decide) rfl (by decide) rfl rfl rfl rfl (Nat.le_of_ble_eq_true rfl) ⟨Nat.zero_le _, Nat.zero_le _⟩ dX2_copyRecord_41 rfl ?_
      rw [bpi_set (bs := rs.flatten ++ (List.range i).map (fun j => pb C p (s + j))) (b := pb C p (s + i)) (by simp) (hC _), List.append_assoc, ← range_snoc (fun j => pb C p (s + j)) i]
      rintro _ _ ⟨rfl, rfl⟩
      dsimp only [wput, List.set, Option.toList, List.nil_append, List.cons_append]
      refine v_iinc (n := 47) k dX2_copyRecord_44 rfl (by decide) rfl rfl rfl ?_
      refine v_goto (t := 19) k dX2_copyRecord_47 (by decide) ?_
      exact ih (i + 1) _ _ (by omega) (by omega) (by omega) e2
set_option maxHeartbeats 1000000 in
set_option maxRecDepth 20000 in
theorem z_X2_copyRecord {D : va_G} {cI cB cJ cZ : ClassId} {hd hc hk : Nat} {ko : Int} {pg lg : Nat} {wt al dn : Int} {C : Nat → Nat} {hp hb : Nat} {P S : Int} {p s d : Nat} {rs : List (List Nat)} (hP : P = (p : Int)) (hS : S = (s : Int)) (hp9 : p < pg) (hg : pg ≤ 255) (hC : ∀ j, C j < 256) (hs : s + rsz C p s ≤ 256) (hn : rs.length < 255) (hL : rs.flatten.length + rsz C p s ≤ 252) : ∀ l, Up l yX2_copyRecord cX2_copyRecord 7 none ({ frames := 2, cells := 0, slots := 0, locals := 44 }) D (TY cI cB cJ cZ) [.ref hp, .ref hd, .int (iI P), .int (iI S)] [oPage hp hb, aN cI hb 256 (bpg d rs), oDisk hd hc hk ko pg lg wt al dn, aN cI hc 65280 C] (fun r w1 => r = none ∧ w1 = [oPage hp hb, aN cI hb 256 (bpg d (rs ++ [recL C p s])), oDisk hd hc hk ko pg lg wt al dn, aN cI hc 65280 C]) := by
  intro l
  refine Up_of (by decide) (Nat.le_of_ble_eq_true rfl) (fun x k hq => ?_)
  have hz9 := rsz_ge C p s
  refine v_aload_n (n := 1) k dX2_copyRecord_0 rfl rfl ?_
  refine v_iload_n (n := 2) k dX2_copyRecord_1 rfl rfl ?_
  refine v_iload_n (n := 3) k dX2_copyRecord_2 rfl rfl ?_
  refine v_rdVi (n := 6) k [2, 3] 2 (z_X1_recordSize (p := p) (s := s) hP hp9 hg hS (by omega)) miX1_recordSize ml_X2_28 (by decide) (by decide) rfl (by decide) rfl rfl rfl rfl (Nat.le_of_ble_eq_true rfl) ⟨Nat.zero_le _, Nat.zero_le _⟩ dX2_copyRecord_3 rfl ?_
  refine v_istore (n := 8) k dX2_copyRecord_6 rfl (by decide) rfl rfl ?_
  refine v_aload_n (n := 9) k dX2_copyRecord_8 rfl rfl ?_
  refine v_iload (n := 11) k dX2_copyRecord_9 rfl rfl ?_
  refine v_upV (n := 14) k [0, 1] 0 (z_X2_countRecord (f := bpg d rs) (v := rsz C p s) rfl (show rs.flatten.length / 256 < 256 by omega) (show rs.flatten.length % 256 < 256 by omega) (show rs.length < 256 by omega) (by omega)) miX2_countRecord ml_X2_34 (by decide) (by decide) rfl (by decide) rfl rfl rfl rfl (Nat.le_of_ble_eq_true rfl) ⟨Nat.zero_le _, Nat.zero_le _⟩ dX2_copyRecord_11 rfl ?_
  rw [show bpg d rs = bpi d rs.length rs.flatten.length rs.flatten from rfl, bpi_cnt hn (by omega)]
  rintro _ _ ⟨rfl, rfl⟩
  dsimp only [wput, List.set, Option.toList, List.nil_append, List.cons_append]
  refine v_istore (n := 16) k dX2_copyRecord_14 rfl (by decide) rfl rfl ?_
  refine v_iconst (n := 17) k dX2_copyRecord_16 rfl ?_
  refine v_istore (n := 19) k dX2_copyRecord_17 rfl (by decide) rfl rfl ?_
  have h0 := lp_X2_copyRecord (d := d) (rs := rs) k hq hP hS hp9 hg hC hs hn hL (rsz C p s + 1) 0 0 (((4 + (bpi d rs.length rs.flatten.length rs.flatten 2 * 256 + bpi d rs.length rs.flatten.length rs.flatten 3) : Nat) : Int)) (by omega) (by omega) rfl (by
    show ((4 + (rs.flatten.length / 256 * 256 + rs.flatten.length % 256) : Nat) : Int) = _
    omega)
  rw [show (List.range 0).map (fun j => pb C p (s + j)) = [] from rfl, List.append_nil] at h0
  exact h0
set_option maxHeartbeats 1000000 in
set_option maxRecDepth 20000 in
theorem lp_X2_addRecord {D : va_G} {cI cB cJ cZ : ClassId} {x : Kx} {hp hb ht hx : Nat} {sz : Int} {T : Nat → Nat} {KK Z : Int} {ks z d : Nat} {rs : List (List Nat)} (k : Kf x cX2_addRecord 6 yX2_addRecord.cls none D (TY cI cB cJ cZ) ({ frames := 2, cells := 0, slots := 0, locals := 44 })) (hq : isU x D [hp, hb, ht, hx] (fun r w1 => r = none ∧ w1 = [oPage hp hb, aN cI hb 256 (bpg d (rs ++ [tapL T ks z])), oTape ht hx sz, aN cI hx 48 T])) (hK : KK = (ks : Int)) (hZ : Z = (z : Int)) (hks : ks ≤ z) (hz : z ≤ 48) (hT : ∀ j, T j < 256) (hn : rs.length < 255) (hL : rs.flatten.length + (2 + z) ≤ 252) : ∀ (m : Nat) (i : Nat) (I E : Int), z < i + m → i ≤ z → I = (i : Int) → E = ((4 + rs.flatten.length : Nat) : Int) → Vw x 6 (fun q => q ∈ [hp, hb, ht, hx]) D true 0 0 [oPage hp hb, aN cI hb 256 (bpi d (rs.length + 1) (rs.flatten.length + (2 + z)) (rs.flatten ++ [ks] ++ [z - ks] ++ (List.range i).map T)), oTape ht hx sz, aN cI hx 48 T] 30 [(0, .ref hp), (1, .ref ht), (2, .int (iI KK)), (3, .int (iI Z)), (4, .int (iI E)), (5, .int (iI I))] [] := by
  intro m
  induction m with
  | zero => intro i I E hm hi e1 e2; omega
  | succ m ih =>
    intro i I E hm hi e1 e2
    refine v_iload (n := 32) k dX2_addRecord_30 rfl rfl ?_
    refine v_iload_n (n := 33) k dX2_addRecord_32 rfl rfl ?_
    refine v_icmp_ge (n := 36) (t := 59) k (⟨by omega, by omega⟩) (⟨by omega, by omega⟩) dX2_addRecord_33 (by decide) rfl (fun c_33 => ?_) (fun c_33 => ?_)
    · have e9 : i = z := by omega
      subst e9
      refine v_vretU k hq ?_ rfl dX2_addRecord_59
      refine ⟨rfl, ?_⟩
      have e8 := bpg_add d rs (tapL T ks i)
      rw [tapL_len] at e8
      rw [← e8]
      rw [show rs.flatten ++ tapL T ks i = rs.flatten ++ [ks] ++ [i - ks] ++ (List.range i).map T by simp [tapL]]
      try rfl
    · refine v_aload_n (n := 37) k dX2_addRecord_36 rfl rfl ?_
      refine v_iload (n := 39) k dX2_addRecord_37 rfl rfl ?_
      refine v_iconst (n := 40) k dX2_addRecord_39 rfl ?_
      refine v_iadd (n := 41) k dX2_addRecord_40 rfl ?_
      refine v_iload (n := 43) k dX2_addRecord_41 rfl rfl ?_
      refine v_iadd (n := 44) k dX2_addRecord_43 rfl ?_
      refine v_aload_n (n := 45) k dX2_addRecord_44 rfl rfl ?_
      refine v_iload (n := 47) k dX2_addRecord_45 rfl rfl ?_
      refine v_rdVi (n := 50) k [2, 3] 2 (z_X3_byteAt (i := i) e1 (by omega)) miX3_byteAt ml_X2_41 (by decide) (by decide) rfl (by decide) rfl rfl rfl rfl (Nat.le_of_ble_eq_true rfl) ⟨Nat.zero_le _, Nat.zero_le _⟩ dX2_addRecord_47 rfl ?_
      refine v_upV (n := 53) k [0, 1] 0 (z_X2_set (i := 4 + (rs.flatten.length + 2 + i)) (v := T i) (by omega) rfl (by omega)) miX2_set ml_X2_24 (by decide) (by decide) rfl (by decide) rfl rfl rfl rfl (Nat.le_of_ble_eq_true rfl) ⟨Nat.zero_le _, Nat.zero_le _⟩ dX2_addRecord_50 rfl ?_
      rw [bpi_set (by simp; omega) (hT _), List.append_assoc _ ((List.range i).map T), ← range_snoc T i]
      rintro _ _ ⟨rfl, rfl⟩
      dsimp only [wput, List.set, Option.toList, List.nil_append, List.cons_append]
      refine v_iinc (n := 56) k dX2_addRecord_53 rfl (by decide) rfl rfl rfl ?_
      refine v_goto (t := 30) k dX2_addRecord_56 (by decide) ?_
      exact ih (i + 1) _ _ (by omega) (by omega) (by omega) e2
set_option maxHeartbeats 1000000 in
set_option maxRecDepth 20000 in
theorem z_X2_addRecord {D : va_G} {cI cB cJ cZ : ClassId} {hp hb ht hx : Nat} {sz : Int} {T : Nat → Nat} {KK Z : Int} {ks z d : Nat} {rs : List (List Nat)} (hK : KK = (ks : Int)) (hZ : Z = (z : Int)) (hks : ks ≤ z) (hz : z ≤ 48) (hT : ∀ j, T j < 256) (hn : rs.length < 255) (hL : rs.flatten.length + (2 + z) ≤ 252) : ∀ l, Up l yX2_addRecord cX2_addRecord 6 none ({ frames := 2, cells := 0, slots := 0, locals := 44 }) D (TY cI cB cJ cZ) [.ref hp, .ref ht, .int (iI KK), .int (iI Z)] [oPage hp hb, aN cI hb 256 (bpg d rs), oTape ht hx sz, aN cI hx 48 T] (fun r w1 => r = none ∧ w1 = [oPage hp hb, aN cI hb 256 (bpg d (rs ++ [tapL T ks z])), oTape ht hx sz, aN cI hx 48 T]) := by
  intro l
  refine Up_of (by decide) (Nat.le_of_ble_eq_true rfl) (fun x k hq => ?_)
  refine v_aload_n (n := 1) k dX2_addRecord_0 rfl rfl ?_
  refine v_iconst (n := 2) k dX2_addRecord_1 rfl ?_
  refine v_iload_n (n := 3) k dX2_addRecord_2 rfl rfl ?_
  refine v_iadd (n := 4) k dX2_addRecord_3 rfl ?_
  refine v_upV (n := 7) k [0, 1] 0 (z_X2_countRecord (f := bpg d rs) (v := 2 + z) (by omega) (show rs.flatten.length / 256 < 256 by omega) (show rs.flatten.length % 256 < 256 by omega) (show rs.length < 256 by omega) (by omega)) miX2_countRecord ml_X2_34 (by decide) (by decide) rfl (by decide) rfl rfl rfl rfl (Nat.le_of_ble_eq_true rfl) ⟨Nat.zero_le _, Nat.zero_le _⟩ dX2_addRecord_4 rfl ?_
  rw [show bpg d rs = bpi d rs.length rs.flatten.length rs.flatten from rfl, bpi_cnt hn (by omega)]
  rintro _ _ ⟨rfl, rfl⟩
  dsimp only [wput, List.set, Option.toList, List.nil_append, List.cons_append]
  refine v_istore (n := 9) k dX2_addRecord_7 rfl (by decide) rfl rfl ?_
  refine v_aload_n (n := 10) k dX2_addRecord_9 rfl rfl ?_
  refine v_iload (n := 12) k dX2_addRecord_10 rfl rfl ?_
  refine v_iload_n (n := 13) k dX2_addRecord_12 rfl rfl ?_
  refine v_upV (n := 16) k [0, 1] 0 (z_X2_set (i := 4 + rs.flatten.length) (v := ks) (by show ((4 + (rs.flatten.length / 256 * 256 + rs.flatten.length % 256) : Nat) : Int) = _; omega) hK (by omega)) miX2_set ml_X2_24 (by decide) (by decide) rfl (by decide) rfl rfl rfl rfl (Nat.le_of_ble_eq_true rfl) ⟨Nat.zero_le _, Nat.zero_le _⟩ dX2_addRecord_13 rfl ?_
  rw [bpi_set rfl (by omega)]
  rintro _ _ ⟨rfl, rfl⟩
  dsimp only [wput, List.set, Option.toList, List.nil_append, List.cons_append]
  refine v_aload_n (n := 17) k dX2_addRecord_16 rfl rfl ?_
  refine v_iload (n := 19) k dX2_addRecord_17 rfl rfl ?_
  refine v_iconst (n := 20) k dX2_addRecord_19 rfl ?_
  refine v_iadd (n := 21) k dX2_addRecord_20 rfl ?_
  refine v_iload_n (n := 22) k dX2_addRecord_21 rfl rfl ?_
  refine v_iload_n (n := 23) k dX2_addRecord_22 rfl rfl ?_
  refine v_isub (n := 24) k dX2_addRecord_23 rfl ?_
  refine v_upV (n := 27) k [0, 1] 0 (z_X2_set (i := 4 + (rs.flatten.length + 1)) (v := z - ks) (by show ((4 + (rs.flatten.length / 256 * 256 + rs.flatten.length % 256) : Nat) : Int) + 1 = _; omega) (by omega) (by omega)) miX2_set ml_X2_24 (by decide) (by decide) rfl (by decide) rfl rfl rfl rfl (Nat.le_of_ble_eq_true rfl) ⟨Nat.zero_le _, Nat.zero_le _⟩ dX2_addRecord_24 rfl ?_
  rw [bpi_set (by simp) (by omega)]
  rintro _ _ ⟨rfl, rfl⟩
  dsimp only [wput, List.set, Option.toList, List.nil_append, List.cons_append]
  refine v_iconst (n := 28) k dX2_addRecord_27 rfl ?_
  refine v_istore (n := 30) k dX2_addRecord_28 rfl (by decide) rfl rfl ?_
  have h0 := lp_X2_addRecord (d := d) (rs := rs) k hq hK hZ hks hz hT hn hL (z + 1) 0 0 (((4 + (bpi d rs.length rs.flatten.length rs.flatten 2 * 256 + bpi d rs.length rs.flatten.length rs.flatten 3) : Nat) : Int)) (by omega) (by omega) rfl (by
    show ((4 + (rs.flatten.length / 256 * 256 + rs.flatten.length % 256) : Nat) : Int) = _
    omega)
  rw [show (List.range 0).map T = [] from rfl, List.append_nil] at h0
  exact h0
end
section
theorem Up_mono {l : Launch} {y : MethodName} {b : ByteArray} {ml : Nat} {rt : Option FieldType} {rm : Room} {D : va_G} {tys : List (ClassId × FieldType)} {args : List Value} {wc : va_W} {post post' : Option Value → va_W → Prop} (h : Up l y b ml rt rm D tys args wc post) (hp : ∀ v w1, post v w1 → post' v w1) : Up l y b ml rt rm D tys args wc post' := by
  intro p e ha hc hk s m args' below hf happ hP hK
  obtain ⟨n, o, h1, h2, h3, ⟨⟨v, w1, q1, q2, q3⟩, q4⟩, q5⟩ := h p e ha hc hk s m args' below hf happ hP hK
  exact ⟨n, o, h1, h2, h3, ⟨⟨v, w1, q1, hp v w1 q2, q3⟩, q4⟩, q5⟩
/-- the disk: bytes, writes, what the power allows, down -/
abbrev DA : Type := (Nat → Nat) × Int × Int × Int
def sW (a : DA) (p : Nat) (f : Nat → Nat) : Bool × DA := if a.2.2.1 = 0 then (false, a.1, a.2.1, a.2.2.1, 1) else (true, wrp a.1 p f, a.2.1 + 1, alW a.2.2.1, a.2.2.2)
def sRep : Nat → Nat → DA → Bool × DA
  | 0, _, a => (true, a)
  | m + 1, i, a => match sW a (pb a.1 1 (1 + i)) (pb a.1 (2 + i)) with
    | (false, a') => (false, a')
    | (true, a') => sRep m (i + 1) a'
/-- what the JOURNAL tells of is done -/
def sSet (a : DA) : Bool × DA := match sRep (pb a.1 1 0) 0 a with
  | (false, a') => (false, a')
  | (true, a') => sW a' 1 (fun _ => 0)
/-- the JOURNAL's page that tells of these places -/
def jpg (ps : List Nat) : Nat → Nat := fun j => if j = 0 then ps.length else ps.getD (j - 1) 0
def sFin (a : DA) (ps : List Nat) : Bool × DA := match sW a 1 (jpg ps) with
  | (false, a') => (false, a')
  | (true, a') => sSet a'
theorem jpg_0 : (fun _ => 0 : Nat → Nat) = jpg [] := by
  funext j
  unfold jpg
  split <;> simp
theorem jpg_add {ps : List Nat} {q : Nat} (hn : ps.length < 255) (hq : q < 256) : upN (upN (jpg ps) 0 ((ps.length + 1) % 256)) (ps.length + 1) (q % 256) = jpg (ps ++ [q]) := by
  funext j
  unfold upN jpg
  by_cases h0 : j = 0
  · rw [if_neg (by omega), if_pos h0, if_pos h0, Nat.mod_eq_of_lt (by omega)]
    simp
  · rw [if_neg h0, if_neg h0, if_neg h0]
    by_cases h1 : j = ps.length + 1
    · rw [if_pos h1, Nat.mod_eq_of_lt hq, show j - 1 = ps.length by omega]
      simp [List.getD_eq_getElem?_getD]
    · rw [if_neg h1, List.getD_eq_getElem?_getD, List.getD_eq_getElem?_getD]
      rcases Nat.lt_or_ge (j - 1) ps.length with g | g
      · rw [List.getElem?_append_left g]
      · rw [List.getElem?_eq_none g, List.getElem?_eq_none (by simp; omega)]
theorem wrp_in {C f : Nat → Nat} {p i : Nat} (hi : i < 256) : pb (wrp C p f) p i = f i := by
  unfold pb wrp cpN
  rw [if_pos ⟨by omega, by omega⟩]
  congr 1
  omega
theorem wrp_out {C f : Nat → Nat} {p q i : Nat} (hi : i < 256) (h : q ≠ p) : pb (wrp C p f) q i = pb C q i := by
  unfold pb wrp cpN
  rw [if_neg (by omega)]
theorem wrp_lt {C f : Nat → Nat} {p : Nat} (hC : ∀ j, C j < 256) (hf : ∀ j, j < 256 → f j < 256) : ∀ j, wrp C p f j < 256 := by
  intro j
  unfold wrp cpN
  split
  · exact hf _ (by omega)
  · exact hC j
/-- two disks that have the same HEAD and the same directory -/
def HA (C C' : Nat → Nat) : Prop := (∀ j, j < 256 → C' j = C j) ∧ ∀ k, k < pF (C 0) → ∀ i, i < 256 → pb C' (pb C 0 (1 + k)) i = pb C (pb C 0 (1 + k)) i
theorem pb0 (C : Nat → Nat) (i : Nat) : pb C 0 i = C i := by
  unfold pb
  rw [Nat.zero_mul, Nat.zero_add]
theorem HA.ent {C C' : Nat → Nat} (h : HA C C') (hd : C 0 ≤ 15) {i : Nat} (hi : i < 2 ^ C 0) : entN C' i = entN C i := by
  have h1 := pF_idx hi
  have h2 := pF_lt hd
  unfold entN
  rw [pb0 C', h.1 _ (by omega), ← pb0 C]
  exact h.2 _ h1 _ (by omega)
theorem HA.kd {C C' : Nat → Nat} (h : HA C C') (hd : C 0 ≤ 15) (lg p : Nat) : kdN C' lg p = kdN C lg p := by
  have h0 : C' 0 = C 0 := h.1 0 (by omega)
  have h2 := pF_lt hd
  have e1 : dirB C' (pF (C' 0)) p = dirB C (pF (C 0)) p := by
    rw [h0]
    unfold dirB
    rw [Bool.eq_iff_iff, List.any_eq_true, List.any_eq_true]
    constructor
    · rintro ⟨k, hk, e⟩
      exact ⟨k, hk, by rw [pb0, h.1 _ (by have := List.mem_range.mp hk; omega), ← pb0 C] at e; exact e⟩
    · rintro ⟨k, hk, e⟩
      exact ⟨k, hk, by rw [pb0, h.1 _ (by have := List.mem_range.mp hk; omega), ← pb0 C]; exact e⟩
  have e2 : visB C' (2 ^ C' 0) p = visB C (2 ^ C 0) p := by
    rw [h0]
    unfold visB
    rw [Bool.eq_iff_iff, List.any_eq_true, List.any_eq_true]
    constructor
    · rintro ⟨k, hk, e⟩
      exact ⟨k, hk, by rw [h.ent hd (List.mem_range.mp hk)] at e; exact e⟩
    · rintro ⟨k, hk, e⟩
      exact ⟨k, hk, by rw [h.ent hd (List.mem_range.mp hk)]; exact e⟩
  unfold kdN
  rw [e1, e2]
/-- a page that is neither the HEAD nor the directory's -/
theorem HA.wr {C f : Nat → Nat} {p : Nat} (hd : C 0 ≤ 15) (h0 : p ≠ 0) (hn : ∀ k, k < pF (C 0) → C (1 + k) ≠ p) : HA C (wrp C p f) := by
  refine ⟨fun j hj => ?_, fun k hk i hi => wrp_out hi ?_⟩
  · have := wrp_out (C := C) (f := f) (p := p) (q := 0) hj (fun e => h0 e.symm)
    rw [pb0, pb0] at this
    exact this
  · rw [pb0]
    exact hn k hk
theorem dirB_mem {C : Nat → Nat} {n k p : Nat} (hk : k < n) (e : C (1 + k) = p) : dirB C n p = true := any_range hk (by rw [pb0, e]; simp)
theorem KS.wr {ko : Int} {K C f : Nat → Nat} {pg lg p : Nat} (h : KS ko K C pg lg) (hp : p < pg) : KS (koW ko p K) K (wrp C p f) pg lg := by
  refine ⟨h.1, ?_⟩
  unfold koW
  by_cases hc : p = 0 ∨ K p = 4
  · rw [if_pos hc]
    exact Or.inl rfl
  · rw [if_neg hc]
    rcases h.2 with h1 | ⟨h1, h2, h3, h4⟩
    · exact Or.inl h1
    · have hn : ∀ k, k < pF (C 0) → C (1 + k) ≠ p := by
        intro k hk e
        have h5 := h3 k hk
        have h6 : kdN C lg p = 4 := by
          unfold kdN
          rw [if_neg (by omega), if_neg (by omega), if_neg (by omega), dirB_mem hk e]
          rfl
        exact hc (Or.inr (by rw [h2.2 p hp, h6]))
      have hA : HA C (wrp C p f) := HA.wr h4 (fun e => hc (Or.inl e)) hn
      have e0 : wrp C p f 0 = C 0 := hA.1 0 (by omega)
      have h7 := pF_lt h4
      refine Or.inr ⟨h1, ⟨h2.1, fun q hq => ?_⟩, fun k hk => ?_, by rw [e0]; exact h4⟩
      · rw [hA.kd h4, h2.2 q hq]
      · rw [e0] at hk
        rw [hA.1 _ (by omega)]
        exact h3 k hk
theorem alW_in {al : Int} (h : in32 al) : in32 (alW al) := by
  obtain ⟨h1, h2⟩ := h
  unfold alW
  split
  · exact ⟨by omega, by omega⟩
  · exact ⟨h1, h2⟩
theorem z_X1_writeS {D : va_G} {cI cB cJ cZ : ClassId} {hd hc hk : Nat} {ko : Int} {pg lg : Nat} {wt al dn : Int} {C : Nat → Nat} {K : Nat → Nat} {hp hb : Nat} {f : Nat → Nat} {P : Int} {p : Nat} (hP : P = (p : Int)) (hp9 : p < pg) (hg : pg ≤ 255) (ha : in32 al) (hks : KS ko K C pg lg) : ∀ l, Up l yX1_write cX1_write 3 (some .boolean) ({ frames := 2, cells := 0, slots := 0, locals := 62 }) D (TY cI cB cJ cZ) [.ref hd, .int (iI P), .ref hp] [oDisk hd hc hk ko pg lg wt al dn, aN cI hc 65280 C, aN cI hk 255 K, oPage hp hb, aN cI hb 256 f] (fun r w1 => ∃ b C2 wt2 al2 dn2 ko2, sW (C, wt, al, dn) p f = (b, C2, wt2, al2, dn2) ∧ KS ko2 K C2 pg lg ∧ in32 al2 ∧ r = some (.int (iI (bI b))) ∧ w1 = [oDisk hd hc hk ko2 pg lg wt2 al2 dn2, aN cI hc 65280 C2, aN cI hk 255 K, oPage hp hb, aN cI hb 256 f]) := by
  intro l
  refine Up_mono (z_X1_write hP hp9 hg hks.1 ha l) ?_
  intro v w1 ⟨h1, h2⟩
  by_cases h0 : al = 0
  · obtain ⟨rfl, rfl⟩ := h1 h0
    exact ⟨false, C, wt, al, 1, ko, if_pos h0, hks, ha, rfl, rfl⟩
  · obtain ⟨rfl, rfl⟩ := h2 h0
    exact ⟨true, wrp C p f, wt + 1, alW al, dn, koW ko p K, if_neg h0, hks.wr hp9, alW_in ha, rfl, rfl⟩
set_option maxHeartbeats 1000000 in
set_option maxRecDepth 20000 in
theorem z_X0_begin {D : va_G} {cI cB cJ cZ : ClassId} {hx hd hj hi hjb : Nat} {f : Nat → Nat}  : ∀ l, Up l yX0_begin cX0_begin 1 none ({ frames := 2, cells := 0, slots := 0, locals := 43 }) D (TY cI cB cJ cZ) [.ref hx] [oChange hx hd hj hi, oPage hj hjb, aN cI hjb 256 f] (fun r w1 => r = none ∧ w1 = [oChange hx hd hj hi, oPage hj hjb, aN cI hjb 256 (jpg [])]) := by
  intro l
  refine Up_of (by decide) (Nat.le_of_ble_eq_true rfl) (fun x k hq => ?_)
  refine v_aload_n (n := 1) k dX0_begin_0 rfl rfl ?_
  refine v_get (n := 4) k ciX0 0 1 (by decide) fl_X0_18 rfl rfl dX0_begin_1 rfl ?_
  refine v_upV (n := 7) k [1, 2] 1 (z_X2_clear) miX2_clear ml_X0_25 (by decide) (by decide) rfl (by decide) rfl rfl rfl rfl (Nat.le_of_ble_eq_true rfl) ⟨Nat.zero_le _, Nat.zero_le _⟩ dX0_begin_4 rfl ?_
  rw [jpg_0]
  rintro _ _ ⟨rfl, rfl⟩
  dsimp only [wput, List.set, Option.toList, List.nil_append, List.cons_append]
  refine v_vretU k hq ?_ rfl dX0_begin_7
  exact ⟨rfl, rfl⟩
set_option maxHeartbeats 1000000 in
set_option maxRecDepth 20000 in
theorem z_X0_add {D : va_G} {cI cB cJ cZ : ClassId} {hd hc hk : Nat} {ko : Int} {pg lg : Nat} {wt al dn : Int} {C : Nat → Nat} {K : Nat → Nat} {hx hj hi hjb : Nat} {hp hb : Nat} {f : Nat → Nat} {Q : Int} {q : Nat} {ps : List Nat} (hQ : Q = (q : Int)) (hq9 : q < 256) (hn : ps.length + 2 < pg) (hg : pg ≤ 255) (ha : in32 al) (hks : KS ko K C pg lg) : ∀ l, Up l yX0_add cX0_add 4 (some .boolean) ({ frames := 3, cells := 0, slots := 0, locals := 84 }) D (TY cI cB cJ cZ) [.ref hx, .ref hp, .int (iI Q)] [oChange hx hd hj hi, oDisk hd hc hk ko pg lg wt al dn, aN cI hc 65280 C, aN cI hk 255 K, oPage hj hjb, aN cI hjb 256 (jpg ps), oPage hp hb, aN cI hb 256 f] (fun r w1 => ∃ b C2 wt2 al2 dn2 ko2, sW (C, wt, al, dn) (2 + ps.length) f = (b, C2, wt2, al2, dn2) ∧ KS ko2 K C2 pg lg ∧ in32 al2 ∧ r = some (.int (iI (bI b))) ∧ w1 = [oChange hx hd hj hi, oDisk hd hc hk ko2 pg lg wt2 al2 dn2, aN cI hc 65280 C2, aN cI hk 255 K, oPage hj hjb, aN cI hjb 256 (jpg (ps ++ [q])), oPage hp hb, aN cI hb 256 f]) := by
  intro l
  refine Up_of (by decide) (Nat.le_of_ble_eq_true rfl) (fun x k hq => ?_)
  refine v_aload_n (n := 1) k dX0_add_0 rfl rfl ?_
  refine v_get (n := 4) k ciX0 0 1 (by decide) fl_X0_18 rfl rfl dX0_add_1 rfl ?_
  refine v_iconst (n := 5) k dX0_add_4 rfl ?_
  refine v_rdVi (n := 8) k [4, 5] 4 (z_X2_byteAt (i := 0) rfl (by decide)) miX2_byteAt ml_X0_28 (by decide) (by decide) rfl (by decide) rfl rfl rfl rfl (Nat.le_of_ble_eq_true rfl) ⟨Nat.zero_le _, Nat.zero_le _⟩ dX0_add_5 rfl ?_
  refine v_istore_n (n := 9) k dX0_add_8 rfl (by decide) rfl rfl ?_
  refine v_aload_n (n := 10) k dX0_add_9 rfl rfl ?_
  refine v_get (n := 13) k ciX0 0 1 (by decide) fl_X0_18 rfl rfl dX0_add_10 rfl ?_
  refine v_iconst (n := 14) k dX0_add_13 rfl ?_
  refine v_iload_n (n := 15) k dX0_add_14 rfl rfl ?_
  refine v_iconst (n := 16) k dX0_add_15 rfl ?_
  refine v_iadd (n := 17) k dX0_add_16 rfl ?_
  refine v_upV (n := 20) k [4, 5] 4 (z_X2_set (i := 0) (v := ps.length + 1) rfl rfl (by decide)) miX2_set ml_X0_32 (by decide) (by decide) rfl (by decide) rfl rfl rfl rfl (Nat.le_of_ble_eq_true rfl) ⟨Nat.zero_le _, Nat.zero_le _⟩ dX0_add_17 rfl ?_
  rintro _ _ ⟨rfl, rfl⟩
  dsimp only [wput, List.set, Option.toList, List.nil_append, List.cons_append]
  refine v_aload_n (n := 21) k dX0_add_20 rfl rfl ?_
  refine v_get (n := 24) k ciX0 0 1 (by decide) fl_X0_18 rfl rfl dX0_add_21 rfl ?_
  refine v_iload_n (n := 25) k dX0_add_24 rfl rfl ?_
  refine v_iconst (n := 26) k dX0_add_25 rfl ?_
  refine v_iadd (n := 27) k dX0_add_26 rfl ?_
  refine v_iload_n (n := 28) k dX0_add_27 rfl rfl ?_
  refine v_upV (n := 31) k [4, 5] 4 (z_X2_set (i := ps.length + 1) (v := q) rfl hQ (by omega)) miX2_set ml_X0_32 (by decide) (by decide) rfl (by decide) rfl rfl rfl rfl (Nat.le_of_ble_eq_true rfl) ⟨Nat.zero_le _, Nat.zero_le _⟩ dX0_add_28 rfl ?_
  rw [jpg_add (by omega) hq9]
  rintro _ _ ⟨rfl, rfl⟩
  dsimp only [wput, List.set, Option.toList, List.nil_append, List.cons_append]
  refine v_aload_n (n := 32) k dX0_add_31 rfl rfl ?_
  refine v_get (n := 35) k ciX0 0 0 (by decide) fl_X0_9 rfl rfl dX0_add_32 rfl ?_
  refine v_iconst (n := 36) k dX0_add_35 rfl ?_
  refine v_iload_n (n := 37) k dX0_add_36 rfl rfl ?_
  refine v_iadd (n := 38) k dX0_add_37 rfl ?_
  refine v_aload_n (n := 39) k dX0_add_38 rfl rfl ?_
  refine v_upV (n := 42) k [1, 2, 3, 6, 7] 1 (z_X1_writeS (p := 2 + ps.length) rfl (by omega) hg ha hks) miX1_write ml_X0_36 (by decide) (by decide) rfl (by decide) rfl rfl rfl rfl (Nat.le_of_ble_eq_true rfl) ⟨Nat.zero_le _, Nat.zero_le _⟩ dX0_add_39 rfl ?_
  rintro _ _ ⟨b1, C2, wt2, al2, dn2, ko2, hs1, hks1, hal1, rfl, rfl⟩
  dsimp only [wput, List.set, Option.toList, List.nil_append, List.cons_append]
  refine v_zretU k (bI_z b1) hq ?_ rfl dX0_add_42
  exact ⟨b1, C2, wt2, al2, dn2, ko2, hs1, hks1, hal1, rfl, rfl⟩
/-- what a JOURNAL may tell -/
def JV (J : Nat → Nat) (pg : Nat) : Prop := J 0 + 2 ≤ pg ∧ ∀ i, i < J 0 → J (1 + i) < pg ∧ J (1 + i) ≠ 1
theorem sW_1 {C f : Nat → Nat} {wt al dn : Int} {q : Nat} {b : Bool} {C2 : Nat → Nat} {wt2 al2 dn2 : Int} (h : sW (C, wt, al, dn) q f = (b, C2, wt2, al2, dn2)) : C2 = C ∨ C2 = wrp C q f := by
  unfold sW at h
  split at h
  · cases h; exact Or.inl rfl
  · cases h; exact Or.inr rfl
theorem sW_keep {C f : Nat → Nat} {wt al dn : Int} {q r i : Nat} {b : Bool} {C2 : Nat → Nat} {wt2 al2 dn2 : Int} (h : sW (C, wt, al, dn) q f = (b, C2, wt2, al2, dn2)) (hr : r ≠ q) (hi : i < 256) : pb C2 r i = pb C r i := by
  rcases sW_1 h with e | e
  · rw [e]
  · rw [e, wrp_out hi hr]
theorem sRep_f {n i : Nat} {a a' : DA} (hi : i < n) (h : sW a (pb a.1 1 (1 + i)) (pb a.1 (2 + i)) = (false, a')) : sRep (n - i) i a = (false, a') := by
  obtain ⟨m, hm⟩ : ∃ m, n - i = m + 1 := ⟨n - i - 1, by omega⟩
  rw [hm]
  unfold sRep
  rw [h]
theorem sRep_t {n i : Nat} {a a' : DA} (hi : i < n) (h : sW a (pb a.1 1 (1 + i)) (pb a.1 (2 + i)) = (true, a')) : sRep (n - i) i a = sRep (n - (i + 1)) (i + 1) a' := by
  obtain ⟨m, hm⟩ : ∃ m, n - i = m + 1 := ⟨n - i - 1, by omega⟩
  rw [hm, show n - (i + 1) = m by omega]
  rw [sRep, h]
set_option maxHeartbeats 1000000 in
set_option maxRecDepth 20000 in
theorem lp_X0_settle {D : va_G} {cI cB cJ cZ : ClassId} {x : Kx} {hd hc hk : Nat} {pg lg : Nat} {K : Nat → Nat} {hx hj hi hjb hib : Nat} {J fj : Nat → Nat} {a0 : DA} (k : Kf x cX0_settle 3 yX0_settle.cls (some .boolean) D (TY cI cB cJ cZ) ({ frames := 3, cells := 0, slots := 0, locals := 84 })) (hq : isU x D [hx, hd, hc, hk, hj, hjb, hi, hib] (fun r w1 => ∃ b C2 wt2 al2 dn2 ko2 fj2 fi2, sSet a0 = (b, C2, wt2, al2, dn2) ∧ KS ko2 K C2 pg lg ∧ in32 al2 ∧ r = some (.int (iI (bI b))) ∧ w1 = [oChange hx hd hj hi, oDisk hd hc hk ko2 pg lg wt2 al2 dn2, aN cI hc 65280 C2, aN cI hk 255 K, oPage hj hjb, aN cI hjb 256 fj2, oPage hi hib, aN cI hib 256 fi2])) (hJ : JV J pg) (hg : pg ≤ 255) (hJ0 : pb a0.1 1 0 = J 0) : ∀ (m : Nat) (i : Nat) (I : Int) (C : Nat → Nat) (wt al dn ko : Int) (fi : Nat → Nat), J 0 < i + m → i ≤ J 0 → I = (i : Int) → (∀ j, j < 256 → pb C 1 j = J j) → sRep (J 0) 0 a0 = sRep (J 0 - i) i (C, wt, al, dn) → KS ko K C pg lg → in32 al → Vw x 3 (fun q => q ∈ [hx, hd, hc, hk, hj, hjb, hi, hib]) D true 0 0 [oChange hx hd hj hi, oDisk hd hc hk ko pg lg wt al dn, aN cI hc 65280 C, aN cI hk 255 K, oPage hj hjb, aN cI hjb 256 fj, oPage hi hib, aN cI hib 256 fi] 12 [(0, .ref hx), (1, .int (iI ((J 0 : Nat) : Int))), (2, .int (iI I))] [] := by
  intro m
  induction m with
  | zero => intro i I C wt al dn ko fi hm hi9 e1 hJ1 e2 hks ha; omega
  | succ m ih =>
    intro i I C wt al dn ko fi hm hi9 e1 hJ1 e2 hks ha
    obtain ⟨j1, j2⟩ := id hJ
    refine v_iload_n (n := 13) k dX0_settle_12 rfl rfl ?_
    refine v_iload_n (n := 14) k dX0_settle_13 rfl rfl ?_
    refine v_icmp_ge (n := 17) (t := 64) k (⟨by omega, by omega⟩) (⟨by omega, by omega⟩) dX0_settle_14 (by decide) rfl (fun c_14 => ?_) (fun c_14 => ?_)
    · have e9 : i = J 0 := by omega
      subst e9
      refine v_aload_n (n := 65) k dX0_settle_64 rfl rfl ?_
      refine v_get (n := 68) k ciX0 0 1 (by decide) fl_X0_18 rfl rfl dX0_settle_65 rfl ?_
      refine v_upV (n := 71) k [4, 5] 4 (z_X2_clear) miX2_clear ml_X0_25 (by decide) (by decide) rfl (by decide) rfl rfl rfl rfl (Nat.le_of_ble_eq_true rfl) ⟨Nat.zero_le _, Nat.zero_le _⟩ dX0_settle_68 rfl ?_
      rintro _ _ ⟨rfl, rfl⟩
      dsimp only [wput, List.set, Option.toList, List.nil_append, List.cons_append]
      refine v_aload_n (n := 72) k dX0_settle_71 rfl rfl ?_
      refine v_get (n := 75) k ciX0 0 0 (by decide) fl_X0_9 rfl rfl dX0_settle_72 rfl ?_
      refine v_iconst (n := 76) k dX0_settle_75 rfl ?_
      refine v_aload_n (n := 77) k dX0_settle_76 rfl rfl ?_
      refine v_get (n := 80) k ciX0 0 1 (by decide) fl_X0_18 rfl rfl dX0_settle_77 rfl ?_
      refine v_upV (n := 83) k [1, 2, 3, 4, 5] 1 (z_X1_writeS (p := 1) rfl (by omega) hg ha hks) miX1_write ml_X0_36 (by decide) (by decide) rfl (by decide) rfl rfl rfl rfl (Nat.le_of_ble_eq_true rfl) ⟨Nat.zero_le _, Nat.zero_le _⟩ dX0_settle_80 rfl ?_
      rintro _ _ ⟨b1, C2, wt2, al2, dn2, ko2, hs1, hks1, hal1, rfl, rfl⟩
      dsimp only [wput, List.set, Option.toList, List.nil_append, List.cons_append]
      refine v_zretU k (bI_z b1) hq ?_ rfl dX0_settle_83
      refine ⟨b1, C2, wt2, al2, dn2, ko2, _, _, ?_, hks1, hal1, rfl, rfl⟩
      unfold sSet
      rw [hJ0, e2, Nat.sub_self]
      exact hs1
    · refine v_aload_n (n := 18) k dX0_settle_17 rfl rfl ?_
      refine v_get (n := 21) k ciX0 0 0 (by decide) fl_X0_9 rfl rfl dX0_settle_18 rfl ?_
      refine v_iconst (n := 22) k dX0_settle_21 rfl ?_
      refine v_iload_n (n := 23) k dX0_settle_22 rfl rfl ?_
      refine v_iadd (n := 24) k dX0_settle_23 rfl ?_
      refine v_aload_n (n := 25) k dX0_settle_24 rfl rfl ?_
      refine v_get (n := 28) k ciX0 0 2 (by decide) fl_X0_22 rfl rfl dX0_settle_25 rfl ?_
      refine v_upV (n := 31) k [1, 2, 6, 7] 1 (z_X1_read (p := 2 + i) (by omega) (by omega) hg) miX1_read ml_X0_50 (by decide) (by decide) rfl (by decide) rfl rfl rfl rfl (Nat.le_of_ble_eq_true rfl) ⟨Nat.zero_le _, Nat.zero_le _⟩ dX0_settle_28 rfl ?_
      rintro _ _ ⟨rfl, rfl⟩
      dsimp only [wput, List.set, Option.toList, List.nil_append, List.cons_append]
      refine v_aload_n (n := 32) k dX0_settle_31 rfl rfl ?_
      refine v_get (n := 35) k ciX0 0 0 (by decide) fl_X0_9 rfl rfl dX0_settle_32 rfl ?_
      refine v_aload_n (n := 36) k dX0_settle_35 rfl rfl ?_
      refine v_get (n := 39) k ciX0 0 0 (by decide) fl_X0_9 rfl rfl dX0_settle_36 rfl ?_
      refine v_iconst (n := 40) k dX0_settle_39 rfl ?_
      refine v_iconst (n := 41) k dX0_settle_40 rfl ?_
      refine v_iload_n (n := 42) k dX0_settle_41 rfl rfl ?_
      refine v_iadd (n := 43) k dX0_settle_42 rfl ?_
      refine v_rdVi (n := 46) k [1, 2] 1 (z_X1_at (p := 1) (i := 1 + i) rfl (by omega) (by omega) (by omega) hg) miX1_at ml_X0_46 (by decide) (by decide) rfl (by decide) rfl rfl rfl rfl (Nat.le_of_ble_eq_true rfl) ⟨Nat.zero_le _, Nat.zero_le _⟩ dX0_settle_43 rfl ?_
      refine v_aload_n (n := 47) k dX0_settle_46 rfl rfl ?_
      refine v_get (n := 50) k ciX0 0 2 (by decide) fl_X0_22 rfl rfl dX0_settle_47 rfl ?_
      refine v_upV (n := 53) k [1, 2, 3, 6, 7] 1 (z_X1_writeS (p := pb C 1 (1 + i)) rfl (by rw [hJ1 _ (by omega)]; exact (j2 i (by omega)).1) hg ha hks) miX1_write ml_X0_36 (by decide) (by decide) rfl (by decide) rfl rfl rfl rfl (Nat.le_of_ble_eq_true rfl) ⟨Nat.zero_le _, Nat.zero_le _⟩ dX0_settle_50 rfl ?_
      rintro _ _ ⟨b1, C2, wt2, al2, dn2, ko2, hs1, hks1, hal1, rfl, rfl⟩
      dsimp only [wput, List.set, Option.toList, List.nil_append, List.cons_append]
      refine v_if_ne (n := 56) (t := 58) k (⟨by cases b1 <;> decide, by cases b1 <;> decide⟩) dX0_settle_53 (by decide) rfl (fun c_53 => ?_) (fun c_53 => ?_)
      · have hb9 : b1 = true := by
          cases b1 with
          | true => rfl
          | false => exact absurd rfl c_53
        subst hb9
        refine v_iinc (n := 61) k dX0_settle_58 rfl (by decide) rfl rfl rfl ?_
        refine v_goto (t := 12) k dX0_settle_61 (by decide) ?_
        refine ih (i + 1) _ _ _ _ _ _ _ (by omega) (by omega) (by omega) (fun j hj => ?_) ?_ hks1 hal1
        · rw [sW_keep hs1 (by rw [hJ1 _ (by omega)]; exact fun e => (j2 i (by omega)).2 e.symm) hj]
          exact hJ1 j hj
        · rw [e2]
          exact sRep_t (by omega) hs1
      · have hb9 : b1 = false := by
          cases b1 with
          | false => rfl
          | true => exact absurd c_53 (by decide)
        subst hb9
        refine v_iconst (n := 57) k dX0_settle_56 rfl ?_
        refine v_zretU k (by decide) hq ?_ rfl dX0_settle_57
        refine ⟨false, C2, wt2, al2, dn2, ko2, _, _, ?_, hks1, hal1, rfl, rfl⟩
        unfold sSet
        rw [hJ0, e2, sRep_f (by omega) hs1]
set_option maxHeartbeats 1000000 in
set_option maxRecDepth 20000 in
theorem z_X0_settle {D : va_G} {cI cB cJ cZ : ClassId} {hd hc hk : Nat} {ko : Int} {pg lg : Nat} {wt al dn : Int} {C : Nat → Nat} {K : Nat → Nat} {hx hj hi hjb hib : Nat} {J fj fi : Nat → Nat} (hJ : JV J pg) (hJ1 : ∀ j, j < 256 → pb C 1 j = J j) (hg : pg ≤ 255) (hks : KS ko K C pg lg) (ha : in32 al) : ∀ l, Up l yX0_settle cX0_settle 3 (some .boolean) ({ frames := 3, cells := 0, slots := 0, locals := 84 }) D (TY cI cB cJ cZ) [.ref hx] [oChange hx hd hj hi, oDisk hd hc hk ko pg lg wt al dn, aN cI hc 65280 C, aN cI hk 255 K, oPage hj hjb, aN cI hjb 256 fj, oPage hi hib, aN cI hib 256 fi] (fun r w1 => ∃ b C2 wt2 al2 dn2 ko2 fj2 fi2, sSet (C, wt, al, dn) = (b, C2, wt2, al2, dn2) ∧ KS ko2 K C2 pg lg ∧ in32 al2 ∧ r = some (.int (iI (bI b))) ∧ w1 = [oChange hx hd hj hi, oDisk hd hc hk ko2 pg lg wt2 al2 dn2, aN cI hc 65280 C2, aN cI hk 255 K, oPage hj hjb, aN cI hjb 256 fj2, oPage hi hib, aN cI hib 256 fi2]) := by
  intro l
  refine Up_of (by decide) (Nat.le_of_ble_eq_true rfl) (fun x k hq => ?_)
  obtain ⟨j1, j2⟩ := id hJ
  refine v_aload_n (n := 1) k dX0_settle_0 rfl rfl ?_
  refine v_get (n := 4) k ciX0 0 0 (by decide) fl_X0_9 rfl rfl dX0_settle_1 rfl ?_
  refine v_iconst (n := 5) k dX0_settle_4 rfl ?_
  refine v_iconst (n := 6) k dX0_settle_5 rfl ?_
  refine v_rdVi (n := 9) k [1, 2] 1 (z_X1_at (p := 1) (i := 0) rfl rfl (by omega) (by omega) hg) miX1_at ml_X0_46 (by decide) (by decide) rfl (by decide) rfl rfl rfl rfl (Nat.le_of_ble_eq_true rfl) ⟨Nat.zero_le _, Nat.zero_le _⟩ dX0_settle_6 rfl ?_
  rw [hJ1 0 (by omega)]
  refine v_istore_n (n := 10) k dX0_settle_9 rfl (by decide) rfl rfl ?_
  refine v_iconst (n := 11) k dX0_settle_10 rfl ?_
  refine v_istore_n (n := 12) k dX0_settle_11 rfl (by decide) rfl rfl ?_
  exact lp_X0_settle (a0 := (C, wt, al, dn)) k hq hJ hg (hJ1 0 (by omega)) (J 0 + 1) 0 _ _ _ _ _ _ _ (by omega) (by omega) rfl hJ1 rfl hks ha
set_option maxHeartbeats 1000000 in
set_option maxRecDepth 20000 in
theorem z_X0_finish {D : va_G} {cI cB cJ cZ : ClassId} {hd hc hk : Nat} {ko : Int} {pg lg : Nat} {wt al dn : Int} {C : Nat → Nat} {K : Nat → Nat} {hx hj hi hjb hib : Nat} {fi : Nat → Nat} {ps : List Nat} (hJ : JV (jpg ps) pg) (hg : pg ≤ 255) (hks : KS ko K C pg lg) (ha : in32 al) : ∀ l, Up l yX0_finish cX0_finish 1 (some .boolean) ({ frames := 4, cells := 0, slots := 0, locals := 106 }) D (TY cI cB cJ cZ) [.ref hx] [oChange hx hd hj hi, oDisk hd hc hk ko pg lg wt al dn, aN cI hc 65280 C, aN cI hk 255 K, oPage hj hjb, aN cI hjb 256 (jpg ps), oPage hi hib, aN cI hib 256 fi] (fun r w1 => ∃ b C2 wt2 al2 dn2 ko2 fj2 fi2, sFin (C, wt, al, dn) ps = (b, C2, wt2, al2, dn2) ∧ KS ko2 K C2 pg lg ∧ in32 al2 ∧ r = some (.int (iI (bI b))) ∧ w1 = [oChange hx hd hj hi, oDisk hd hc hk ko2 pg lg wt2 al2 dn2, aN cI hc 65280 C2, aN cI hk 255 K, oPage hj hjb, aN cI hjb 256 fj2, oPage hi hib, aN cI hib 256 fi2]) := by
  intro l
  refine Up_of (by decide) (Nat.le_of_ble_eq_true rfl) (fun x k hq => ?_)
  obtain ⟨j1, j2⟩ := id hJ
  refine v_aload_n (n := 1) k dX0_finish_0 rfl rfl ?_
  refine v_get (n := 4) k ciX0 0 0 (by decide) fl_X0_9 rfl rfl dX0_finish_1 rfl ?_
  refine v_iconst (n := 5) k dX0_finish_4 rfl ?_
  refine v_aload_n (n := 6) k dX0_finish_5 rfl rfl ?_
  refine v_get (n := 9) k ciX0 0 1 (by decide) fl_X0_18 rfl rfl dX0_finish_6 rfl ?_
  refine v_upV (n := 12) k [1, 2, 3, 4, 5] 1 (z_X1_writeS (p := 1) rfl (by omega) hg ha hks) miX1_write ml_X0_36 (by decide) (by decide) rfl (by decide) rfl rfl rfl rfl (Nat.le_of_ble_eq_true rfl) ⟨Nat.zero_le _, Nat.zero_le _⟩ dX0_finish_9 rfl ?_
  rintro _ _ ⟨b1, C2, wt2, al2, dn2, ko2, hs1, hks1, hal1, rfl, rfl⟩
  dsimp only [wput, List.set, Option.toList, List.nil_append, List.cons_append]
  refine v_if_eq (n := 15) (t := 26) k (⟨by cases b1 <;> decide, by cases b1 <;> decide⟩) dX0_finish_12 (by decide) rfl (fun c_12 => ?_) (fun c_12 => ?_)
  · refine v_iconst (n := 27) k dX0_finish_26 rfl ?_
    refine v_zretU k (by decide) hq ?_ rfl dX0_finish_27
    first
    | (have hb8 : b2 = true := by
        cases b2 with
        | true => rfl
        | false => exact absurd rfl c_19
       subst hb8
       refine ⟨true, C3, wt3, al3, dn3, ko3, _, _, ?_, hks2, hal2, rfl, rfl⟩
       unfold sFin
       rw [hs1]
       exact hs2)
    | (have hb8 : b2 = false := by
        cases b2 with
        | false => rfl
        | true => exact absurd c_19 (by decide)
       subst hb8
       refine ⟨false, C3, wt3, al3, dn3, ko3, _, _, ?_, hks2, hal2, rfl, rfl⟩
       unfold sFin
       rw [hs1]
       exact hs2)
    | (have hb8 : b1 = false := by
        cases b1 with
        | false => rfl
        | true => exact absurd c_12 (by decide)
       subst hb8
       refine ⟨false, C2, wt2, al2, dn2, ko2, _, _, ?_, hks1, hal1, rfl, rfl⟩
       unfold sFin
       rw [hs1])
  · have hb9 : b1 = true := by
      cases b1 with
      | true => rfl
      | false => exact absurd rfl c_12
    subst hb9
    have hC9 : C2 = wrp C 1 (jpg ps) := by
      unfold sW at hs1
      split at hs1
      · cases hs1
      · cases hs1; rfl
    refine v_aload_n (n := 16) k dX0_finish_15 rfl rfl ?_
    refine v_upV (n := 19) k [0, 1, 2, 3, 4, 5, 6, 7] 0 (z_X0_settle hJ (fun j hj => by
      rw [hC9]
      exact wrp_in hj) hg hks1 hal1) miX0_settle ml_X0_42 (by decide) (by decide) rfl (by decide) rfl rfl rfl rfl (Nat.le_of_ble_eq_true rfl) ⟨Nat.zero_le _, Nat.zero_le _⟩ dX0_finish_16 rfl ?_
    rintro _ _ ⟨b2, C3, wt3, al3, dn3, ko3, fj3, fi3, hs2, hks2, hal2, rfl, rfl⟩
    dsimp only [wput, List.set, Option.toList, List.nil_append, List.cons_append]
    refine v_if_eq (n := 22) (t := 26) k (⟨by cases b2 <;> decide, by cases b2 <;> decide⟩) dX0_finish_19 (by decide) rfl (fun c_19 => ?_) (fun c_19 => ?_)
    · refine v_iconst (n := 27) k dX0_finish_26 rfl ?_
      refine v_zretU k (by decide) hq ?_ rfl dX0_finish_27
      first
      | (have hb8 : b2 = true := by
          cases b2 with
          | true => rfl
          | false => exact absurd rfl c_19
         subst hb8
         refine ⟨true, C3, wt3, al3, dn3, ko3, _, _, ?_, hks2, hal2, rfl, rfl⟩
         unfold sFin
         rw [hs1]
         exact hs2)
      | (have hb8 : b2 = false := by
          cases b2 with
          | false => rfl
          | true => exact absurd c_19 (by decide)
         subst hb8
         refine ⟨false, C3, wt3, al3, dn3, ko3, _, _, ?_, hks2, hal2, rfl, rfl⟩
         unfold sFin
         rw [hs1]
         exact hs2)
      | (have hb8 : b1 = false := by
          cases b1 with
          | false => rfl
          | true => exact absurd c_12 (by decide)
         subst hb8
         refine ⟨false, C2, wt2, al2, dn2, ko2, _, _, ?_, hks1, hal1, rfl, rfl⟩
         unfold sFin
         rw [hs1])
    · refine v_iconst (n := 23) k dX0_finish_22 rfl ?_
      refine v_goto (t := 27) k dX0_finish_23 (by decide) ?_
      refine v_zretU k (by decide) hq ?_ rfl dX0_finish_27
      first
      | (have hb8 : b2 = true := by
          cases b2 with
          | true => rfl
          | false => exact absurd rfl c_19
         subst hb8
         refine ⟨true, C3, wt3, al3, dn3, ko3, _, _, ?_, hks2, hal2, rfl, rfl⟩
         unfold sFin
         rw [hs1]
         exact hs2)
      | (have hb8 : b2 = false := by
          cases b2 with
          | false => rfl
          | true => exact absurd c_19 (by decide)
         subst hb8
         refine ⟨false, C3, wt3, al3, dn3, ko3, _, _, ?_, hks2, hal2, rfl, rfl⟩
         unfold sFin
         rw [hs1]
         exact hs2)
      | (have hb8 : b1 = false := by
          cases b1 with
          | false => rfl
          | true => exact absurd c_12 (by decide)
         subst hb8
         refine ⟨false, C2, wt2, al2, dn2, ko2, _, _, ?_, hks1, hal1, rfl, rfl⟩
         unfold sFin
         rw [hs1])
end
section
/-- the records r < n of a page that sel takes -/
def recS (C : Nat → Nat) (p : Nat) (sel : Nat → Bool) (n : Nat) : List (List Nat) := ((List.range n).filter sel).map (fun r => recL C p (rst C p r))
theorem recS_t {C : Nat → Nat} {p n : Nat} {sel : Nat → Bool} (h : sel n = true) : recS C p sel (n + 1) = recS C p sel n ++ [recL C p (rst C p n)] := by
  unfold recS
  rw [List.range_succ, List.filter_append, List.map_append]
  simp [h]
theorem recS_f {C : Nat → Nat} {p n : Nat} {sel : Nat → Bool} (h : sel n = false) : recS C p sel (n + 1) = recS C p sel n := by
  unfold recS
  rw [List.range_succ, List.filter_append, List.map_append]
  simp [h]
theorem recS_len (C : Nat → Nat) (p : Nat) (sel : Nat → Bool) (n : Nat) : (recS C p sel n).length ≤ n := by
  unfold recS
  rw [List.length_map]
  exact Nat.le_trans (List.length_filter_le _ _) (by simp)
theorem recS_bytes (C : Nat → Nat) (p : Nat) (sel : Nat → Bool) (n : Nat) : (recS C p sel n).flatten.length + 4 ≤ rst C p n := by
  induction n with
  | zero => simp [recS, rst]
  | succ n ih =>
    have e : rst C p (n + 1) = rst C p n + rsz C p (rst C p n) := rfl
    cases h : sel n with
    | true =>
      rw [recS_t h, List.flatten_append, List.length_append, e]
      have : [recL C p (rst C p n)].flatten.length = rsz C p (rst C p n) := by simp [recL_len]
      omega
    | false =>
      rw [recS_f h, e]
      omega
theorem WB.count {C : Nat → Nat} {p : Nat} (h : WB C p) : 3 * pb C p 1 ≤ bL C p := by
  have key : ∀ r, r ≤ pb C p 1 → 3 * r + 4 ≤ rst C p r := by
    intro r
    induction r with
    | zero => intro _; simp [rst]
    | succ r ih =>
      intro hr
      have h1 := ih (by omega)
      have h2 := (h.1 r (by omega)).1
      have e : rst C p (r + 1) = rst C p r + rsz C p (rst C p r) := rfl
      have e2 := rsz_ge C p (rst C p r)
      omega
  have h3 := key _ (Nat.le_refl _)
  have h4 := h.2.1
  omega
def notAt (C : Nat → Nat) (p : Nat) (old : Int) : Nat → Bool := fun r => decide (((rst C p r : Nat) : Int) ≠ old)
set_option maxHeartbeats 1000000 in
set_option maxRecDepth 20000 in
theorem lp_X4_addRecordsBut {D : va_G} {cI cB cJ cZ : ClassId} {x : Kx} {hx hd hc hk hch hb hbb hh ht ha : Nat} {an : Int} {ko : Int} {pg lg : Nat} {wt al dn : Int} {C : Nat → Nat} {P OLD : Int} {p d : Nat} {rs : List (List Nat)} (k : Kf x cX4_addRecordsBut 6 yX4_addRecordsBut.cls none D (TY cI cB cJ cZ) ({ frames := 3, cells := 0, slots := 0, locals := 70 })) (hq : isU x D [hx, hd, hc, hb, hbb] (fun r w1 => r = none ∧ w1 = [oHash hx hd hch hb hh ht ha an, oDisk hd hc hk ko pg lg wt al dn, aN cI hc 65280 C, oPage hb hbb, aN cI hbb 256 (bpg d (rs ++ recS C p (notAt C p OLD) (pb C p 1)))])) (hP : P = (p : Int)) (hp : p < pg) (hg : pg ≤ 255) (hw9 : WB C p) (hC : ∀ j, C j < 256) (hO : in32 OLD) (hn : rs.length + pb C p 1 < 255) (hL : rs.flatten.length + bL C p ≤ 252) : ∀ (m : Nat) (i : Nat) (S I : Int), pb C p 1 < i + m → i ≤ pb C p 1 → I = (i : Int) → S = ((rst C p i : Nat) : Int) → Vw x 6 (fun q => q ∈ [hx, hd, hc, hb, hbb]) D true 0 0 [oHash hx hd hch hb hh ht ha an, oDisk hd hc hk ko pg lg wt al dn, aN cI hc 65280 C, oPage hb hbb, aN cI hbb 256 (bpg d (rs ++ recS C p (notAt C p OLD) i))] 16 [(0, .ref hx), (1, .int (iI P)), (2, .int (iI OLD)), (3, .int (iI ((pb C p 1 : Nat) : Int))), (4, .int (iI S)), (5, .int (iI I))] [] := by
  intro m
  induction m with
  | zero => intro i S I hm hi e1 e2; omega
  | succ m ih =>
    intro i S I hm hi e1 e2
    obtain ⟨hO1, hO2⟩ := hO
    have hpb : pb C p 1 < 256 := hC _
    refine v_iload (n := 18) k dX4_addRecordsBut_16 rfl rfl ?_
    refine v_iload_n (n := 19) k dX4_addRecordsBut_18 rfl rfl ?_
    refine v_icmp_ge (n := 22) (t := 63) k (⟨by omega, by omega⟩) (⟨by omega, by omega⟩) dX4_addRecordsBut_19 (by decide) rfl (fun c_19 => ?_) (fun c_19 => ?_)
    · refine v_vretU k hq ?_ rfl dX4_addRecordsBut_63
      have e9 : i = pb C p 1 := by omega
      rw [e9]
      exact ⟨rfl, rfl⟩
    · have hf := hw9.fit (r := i) (by omega)
      have hz9 := rsz_ge C p (rst C p i)
      have h4 := rst_ge C p i
      have hb9 := recS_bytes C p (notAt C p OLD) i
      have hl9 := recS_len C p (notAt C p OLD) i
      have hwl := hw9.2.2
      refine v_iload (n := 24) k dX4_addRecordsBut_22 rfl rfl ?_
      refine v_iload_n (n := 25) k dX4_addRecordsBut_24 rfl rfl ?_
      refine v_icmp_eq (n := 28) (t := 42) k (⟨by omega, by omega⟩) (⟨by omega, by omega⟩) dX4_addRecordsBut_25 (by decide) rfl (fun c_25 => ?_) (fun c_25 => ?_)
      · refine v_iload (n := 44) k dX4_addRecordsBut_42 rfl rfl ?_
        refine v_aload_n (n := 45) k dX4_addRecordsBut_44 rfl rfl ?_
        refine v_get (n := 48) k ciX4 0 0 (by decide) fl_X4_10 rfl rfl dX4_addRecordsBut_45 rfl ?_
        refine v_iload_n (n := 49) k dX4_addRecordsBut_48 rfl rfl ?_
        refine v_iload (n := 51) k dX4_addRecordsBut_49 rfl rfl ?_
        refine v_rdVi (n := 54) k [1, 2] 1 (z_X1_recordSize (s := rst C p i) hP hp hg e2 (by omega)) miX1_recordSize ml_X4_189 (by decide) (by decide) rfl (by decide) rfl rfl rfl rfl (Nat.le_of_ble_eq_true rfl) ⟨Nat.zero_le _, Nat.zero_le _⟩ dX4_addRecordsBut_51 rfl ?_
        refine v_iadd (n := 55) k dX4_addRecordsBut_54 rfl ?_
        refine v_istore (n := 57) k dX4_addRecordsBut_55 rfl (by decide) rfl rfl ?_
        refine v_iinc (n := 60) k dX4_addRecordsBut_57 rfl (by decide) rfl rfl rfl ?_
        refine v_goto (t := 16) k dX4_addRecordsBut_60 (by decide) ?_
        first
        | (have h0 := ih (i + 1) (S + ((rsz C p (rst C p i) : Nat) : Int)) (I + 1) (by omega) (by omega) (by omega) (by rw [e2]; rfl)
           rw [recS_f (n := i) (sel := notAt C p OLD) (decide_eq_false (by omega))] at h0
           exact h0)
        | exact ih (i + 1) (S + ((rsz C p (rst C p i) : Nat) : Int)) (I + 1) (by omega) (by omega) (by omega) (by rw [e2]; rfl)
      · refine v_aload_n (n := 29) k dX4_addRecordsBut_28 rfl rfl ?_
        refine v_get (n := 32) k ciX4 0 2 (by decide) fl_X4_28 rfl rfl dX4_addRecordsBut_29 rfl ?_
        refine v_aload_n (n := 33) k dX4_addRecordsBut_32 rfl rfl ?_
        refine v_get (n := 36) k ciX4 0 0 (by decide) fl_X4_10 rfl rfl dX4_addRecordsBut_33 rfl ?_
        refine v_iload_n (n := 37) k dX4_addRecordsBut_36 rfl rfl ?_
        refine v_iload (n := 39) k dX4_addRecordsBut_37 rfl rfl ?_
        refine v_upV (n := 42) k [3, 4, 1, 2] 3 (z_X2_copyRecord (p := p) (s := rst C p i) (d := d) (rs := rs ++ recS C p (notAt C p OLD) i) hP e2 hp hg hC (by omega) (by rw [List.length_append]; omega) (by rw [List.flatten_append, List.length_append]; omega)) miX2_copyRecord ml_X4_202 (by decide) (by decide) rfl (by decide) rfl rfl rfl rfl (Nat.le_of_ble_eq_true rfl) ⟨Nat.zero_le _, Nat.zero_le _⟩ dX4_addRecordsBut_39 rfl ?_
        rw [List.append_assoc, ← recS_t (n := i) (sel := notAt C p OLD) (decide_eq_true (by omega))]
        rintro _ _ ⟨rfl, rfl⟩
        dsimp only [wput, List.set, Option.toList, List.nil_append, List.cons_append]
        refine v_iload (n := 44) k dX4_addRecordsBut_42 rfl rfl ?_
        refine v_aload_n (n := 45) k dX4_addRecordsBut_44 rfl rfl ?_
        refine v_get (n := 48) k ciX4 0 0 (by decide) fl_X4_10 rfl rfl dX4_addRecordsBut_45 rfl ?_
        refine v_iload_n (n := 49) k dX4_addRecordsBut_48 rfl rfl ?_
        refine v_iload (n := 51) k dX4_addRecordsBut_49 rfl rfl ?_
        refine v_rdVi (n := 54) k [1, 2] 1 (z_X1_recordSize (s := rst C p i) hP hp hg e2 (by omega)) miX1_recordSize ml_X4_189 (by decide) (by decide) rfl (by decide) rfl rfl rfl rfl (Nat.le_of_ble_eq_true rfl) ⟨Nat.zero_le _, Nat.zero_le _⟩ dX4_addRecordsBut_51 rfl ?_
        refine v_iadd (n := 55) k dX4_addRecordsBut_54 rfl ?_
        refine v_istore (n := 57) k dX4_addRecordsBut_55 rfl (by decide) rfl rfl ?_
        refine v_iinc (n := 60) k dX4_addRecordsBut_57 rfl (by decide) rfl rfl rfl ?_
        refine v_goto (t := 16) k dX4_addRecordsBut_60 (by decide) ?_
        first
        | (have h0 := ih (i + 1) (S + ((rsz C p (rst C p i) : Nat) : Int)) (I + 1) (by omega) (by omega) (by omega) (by rw [e2]; rfl)
           rw [recS_f (n := i) (sel := notAt C p OLD) (decide_eq_false (by omega))] at h0
           exact h0)
        | exact ih (i + 1) (S + ((rsz C p (rst C p i) : Nat) : Int)) (I + 1) (by omega) (by omega) (by omega) (by rw [e2]; rfl)
set_option maxHeartbeats 1000000 in
set_option maxRecDepth 20000 in
theorem z_X4_addRecordsBut {D : va_G} {cI cB cJ cZ : ClassId} {hx hd hc hk hch hb hbb hh ht ha : Nat} {an : Int} {ko : Int} {pg lg : Nat} {wt al dn : Int} {C : Nat → Nat} {P OLD : Int} {p d : Nat} {rs : List (List Nat)} (hP : P = (p : Int)) (hp : p < pg) (hg : pg ≤ 255) (hw9 : WB C p) (hC : ∀ j, C j < 256) (hO : in32 OLD) (hn : rs.length + pb C p 1 < 255) (hL : rs.flatten.length + bL C p ≤ 252) : ∀ l, Up l yX4_addRecordsBut cX4_addRecordsBut 6 none ({ frames := 3, cells := 0, slots := 0, locals := 70 }) D (TY cI cB cJ cZ) [.ref hx, .int (iI P), .int (iI OLD)] [oHash hx hd hch hb hh ht ha an, oDisk hd hc hk ko pg lg wt al dn, aN cI hc 65280 C, oPage hb hbb, aN cI hbb 256 (bpg d rs)] (fun r w1 => r = none ∧ w1 = [oHash hx hd hch hb hh ht ha an, oDisk hd hc hk ko pg lg wt al dn, aN cI hc 65280 C, oPage hb hbb, aN cI hbb 256 (bpg d (rs ++ recS C p (notAt C p OLD) (pb C p 1)))]) := by
  intro l
  refine Up_of (by decide) (Nat.le_of_ble_eq_true rfl) (fun x k hq => ?_)
  refine v_aload_n (n := 1) k dX4_addRecordsBut_0 rfl rfl ?_
  refine v_get (n := 4) k ciX4 0 0 (by decide) fl_X4_10 rfl rfl dX4_addRecordsBut_1 rfl ?_
  refine v_iload_n (n := 5) k dX4_addRecordsBut_4 rfl rfl ?_
  refine v_iconst (n := 6) k dX4_addRecordsBut_5 rfl ?_
  refine v_rdVi (n := 9) k [1, 2] 1 (z_X1_at (p := p) (i := 1) hP rfl hp (by omega) hg) miX1_at ml_X4_130 (by decide) (by decide) rfl (by decide) rfl rfl rfl rfl (Nat.le_of_ble_eq_true rfl) ⟨Nat.zero_le _, Nat.zero_le _⟩ dX4_addRecordsBut_6 rfl ?_
  refine v_istore_n (n := 10) k dX4_addRecordsBut_9 rfl (by decide) rfl rfl ?_
  refine v_iconst (n := 11) k dX4_addRecordsBut_10 rfl ?_
  refine v_istore (n := 13) k dX4_addRecordsBut_11 rfl (by decide) rfl rfl ?_
  refine v_iconst (n := 14) k dX4_addRecordsBut_13 rfl ?_
  refine v_istore (n := 16) k dX4_addRecordsBut_14 rfl (by decide) rfl rfl ?_
  have h0 := lp_X4_addRecordsBut (d := d) (rs := rs) k hq hP hp hg hw9 hC hO hn hL (pb C p 1 + 1) 0 4 0 (by omega) (by omega) rfl rfl
  rw [show recS C p (notAt C p OLD) 0 = [] from rfl, List.append_nil] at h0
  exact h0
set_option maxHeartbeats 1000000 in
set_option maxRecDepth 20000 in
theorem z_X4_buildWithout {D : va_G} {cI cB cJ cZ : ClassId} {hx hd hc hk hch hb hbb hh ht ha : Nat} {an : Int} {ko : Int} {pg lg : Nat} {wt al dn : Int} {C : Nat → Nat} {P OLD : Int} {p : Nat} {f : Nat → Nat} (hP : P = (p : Int)) (hp : p < pg) (hg : pg ≤ 255) (hw9 : WB C p) (hC : ∀ j, C j < 256) (hO : in32 OLD) : ∀ l, Up l yX4_buildWithout cX4_buildWithout 3 none ({ frames := 4, cells := 0, slots := 0, locals := 95 }) D (TY cI cB cJ cZ) [.ref hx, .int (iI P), .int (iI OLD)] [oHash hx hd hch hb hh ht ha an, oDisk hd hc hk ko pg lg wt al dn, aN cI hc 65280 C, oPage hb hbb, aN cI hbb 256 (f)] (fun r w1 => r = none ∧ w1 = [oHash hx hd hch hb hh ht ha an, oDisk hd hc hk ko pg lg wt al dn, aN cI hc 65280 C, oPage hb hbb, aN cI hbb 256 (bpg (pb C p 0) (recS C p (notAt C p OLD) (pb C p 1)))]) := by
  intro l
  refine Up_of (by decide) (Nat.le_of_ble_eq_true rfl) (fun x k hq => ?_)
  have hcn := hw9.count
  have hwl := hw9.2.2
  refine v_aload_n (n := 1) k dX4_buildWithout_0 rfl rfl ?_
  refine v_get (n := 4) k ciX4 0 2 (by decide) fl_X4_28 rfl rfl dX4_buildWithout_1 rfl ?_
  refine v_aload_n (n := 5) k dX4_buildWithout_4 rfl rfl ?_
  refine v_get (n := 8) k ciX4 0 0 (by decide) fl_X4_10 rfl rfl dX4_buildWithout_5 rfl ?_
  refine v_iload_n (n := 9) k dX4_buildWithout_8 rfl rfl ?_
  refine v_iconst (n := 10) k dX4_buildWithout_9 rfl ?_
  refine v_rdVi (n := 13) k [1, 2] 1 (z_X1_at (p := p) (i := 0) hP rfl hp (by omega) hg) miX1_at ml_X4_130 (by decide) (by decide) rfl (by decide) rfl rfl rfl rfl (Nat.le_of_ble_eq_true rfl) ⟨Nat.zero_le _, Nat.zero_le _⟩ dX4_buildWithout_10 rfl ?_
  refine v_upV (n := 16) k [3, 4] 3 (z_X2_startBucket (v := pb C p 0) rfl) miX2_startBucket ml_X4_196 (by decide) (by decide) rfl (by decide) rfl rfl rfl rfl (Nat.le_of_ble_eq_true rfl) ⟨Nat.zero_le _, Nat.zero_le _⟩ dX4_buildWithout_13 rfl ?_
  rw [bpg_0 (show pb C p 0 < 256 from hC _)]
  rintro _ _ ⟨rfl, rfl⟩
  dsimp only [wput, List.set, Option.toList, List.nil_append, List.cons_append]
  refine v_aload_n (n := 17) k dX4_buildWithout_16 rfl rfl ?_
  refine v_iload_n (n := 18) k dX4_buildWithout_17 rfl rfl ?_
  refine v_iload_n (n := 19) k dX4_buildWithout_18 rfl rfl ?_
  refine v_upV (n := 22) k [0, 1, 2, 3, 4] 0 (z_X4_addRecordsBut (d := pb C p 0) (rs := []) hP hp hg hw9 hC hO (by simp; omega) (by simp; omega)) miX4_addRecordsBut ml_X4_199 (by decide) (by decide) rfl (by decide) rfl rfl rfl rfl (Nat.le_of_ble_eq_true rfl) ⟨Nat.zero_le _, Nat.zero_le _⟩ dX4_buildWithout_19 rfl ?_
  rintro _ _ ⟨rfl, rfl⟩
  dsimp only [wput, List.set, Option.toList, List.nil_append, List.cons_append]
  refine v_vretU k hq ?_ rfl dX4_buildWithout_22
  exact ⟨rfl, rfl⟩
def bitB (h e : Nat) : Nat := h / 2 ^ (15 - e) % 2
set_option maxHeartbeats 1000000 in
set_option maxRecDepth 20000 in
theorem lp_X4_buildHalf {D : va_G} {cI cB cJ cZ : ClassId} {x : Kx} {hx hd hc hk hch hb hbb hh ht ha : Nat} {an : Int} {ko : Int} {pg lg : Nat} {wt al dn : Int} {C : Nat → Nat} {P E B : Int} {p e b : Nat} (k : Kf x cX4_buildHalf 8 yX4_buildHalf.cls none D (TY cI cB cJ cZ) ({ frames := 3, cells := 0, slots := 0, locals := 70 })) (hq : isU x D [hx, hd, hc, hb, hbb] (fun r w1 => r = none ∧ w1 = [oHash hx hd hch hb hh ht ha an, oDisk hd hc hk ko pg lg wt al dn, aN cI hc 65280 C, oPage hb hbb, aN cI hbb 256 (bpg (e + 1) (recS C p (fun r => bitB (rh C p r) e == b) (pb C p 1)))])) (hP : P = (p : Int)) (hp : p < pg) (hg : pg ≤ 255) (hw9 : WB C p) (hC : ∀ j, C j < 256) (hE : E = (e : Int)) (he : e ≤ 15) (hB : B = (b : Int)) (hb9 : b < 2) : ∀ (m : Nat) (i : Nat) (S I : Int), pb C p 1 < i + m → i ≤ pb C p 1 → I = (i : Int) → S = ((rst C p i : Nat) : Int) → Vw x 8 (fun q => q ∈ [hx, hd, hc, hb, hbb]) D true 0 0 [oHash hx hd hch hb hh ht ha an, oDisk hd hc hk ko pg lg wt al dn, aN cI hc 65280 C, oPage hb hbb, aN cI hbb 256 (bpg (e + 1) (recS C p (fun r => bitB (rh C p r) e == b) i))] 27 [(0, .ref hx), (1, .int (iI P)), (2, .int (iI E)), (3, .int (iI B)), (4, .int (iI ((pb C p 1 : Nat) : Int))), (5, .int (iI S)), (6, .int (iI I))] [] := by
  intro m
  induction m with
  | zero => intro i S I hm hi e1 e2; omega
  | succ m ih =>
    intro i S I hm hi e1 e2
    have hpb : pb C p 1 < 256 := hC _
    have hcn := hw9.count
    have hwl := hw9.2.2
    refine v_iload (n := 29) k dX4_buildHalf_27 rfl rfl ?_
    refine v_iload (n := 31) k dX4_buildHalf_29 rfl rfl ?_
    refine v_icmp_ge (n := 34) (t := 94) k (⟨by omega, by omega⟩) (⟨by omega, by omega⟩) dX4_buildHalf_31 (by decide) rfl (fun c_31 => ?_) (fun c_31 => ?_)
    · refine v_vretU k hq ?_ rfl dX4_buildHalf_94
      have e9 : i = pb C p 1 := by omega
      rw [e9]
      exact ⟨rfl, rfl⟩
    · have hf := hw9.fit (r := i) (by omega)
      have hz9 := rsz_ge C p (rst C p i)
      have h4 := rst_ge C p i
      have hb9 := recS_bytes C p (fun r => bitB (rh C p r) e == b) i
      have hl9 := recS_len C p (fun r => bitB (rh C p r) e == b) i
      have hl := hsh_lt C (p * 256 + rst C p i + 2) (pb C p (rst C p i))
      refine v_aload_n (n := 35) k dX4_buildHalf_34 rfl rfl ?_
      refine v_get (n := 38) k ciX4 0 0 (by decide) fl_X4_10 rfl rfl dX4_buildHalf_35 rfl ?_
      refine v_iload_n (n := 39) k dX4_buildHalf_38 rfl rfl ?_
      refine v_iload (n := 41) k dX4_buildHalf_39 rfl rfl ?_
      refine v_rdVi (n := 44) k [1, 2] 1 (z_X1_recordHash (s := rst C p i) hP hp hg e2 (by omega)) miX1_recordHash ml_X4_247 (by decide) (by decide) rfl (by decide) rfl rfl rfl rfl (Nat.le_of_ble_eq_true rfl) ⟨Nat.zero_le _, Nat.zero_le _⟩ dX4_buildHalf_41 rfl ?_
      refine v_istore (n := 46) k dX4_buildHalf_44 rfl (by decide) rfl rfl ?_
      refine v_iload (n := 48) k dX4_buildHalf_46 rfl rfl ?_
      refine v_bipush (n := 50) k dX4_buildHalf_48 (by decide) rfl ?_
      refine v_iload_n (n := 51) k dX4_buildHalf_50 rfl rfl ?_
      refine v_isub (n := 52) k dX4_buildHalf_51 rfl ?_
      refine v_ishr (n := 53) k (((hsh C (p * 256 + rst C p i + 2) (pb C p (rst C p i)) / 2 ^ (15 - e) : Nat) : Int)) (ax_shr rfl (by omega) (by omega) (by omega)) dX4_buildHalf_52 rfl ?_
      refine v_iconst (n := 54) k dX4_buildHalf_53 rfl ?_
      refine v_iand (n := 55) k (((hsh C (p * 256 + rst C p i + 2) (pb C p (rst C p i)) / 2 ^ (15 - e) % 2 : Nat) : Int)) (ax_m1 rfl) dX4_buildHalf_54 rfl ?_
      refine v_iload_n (n := 56) k dX4_buildHalf_55 rfl rfl ?_
      refine v_icmp_ne (n := 59) (t := 73) k (⟨by omega, by omega⟩) (⟨by omega, by omega⟩) dX4_buildHalf_56 (by decide) rfl (fun c_56 => ?_) (fun c_56 => ?_)
      · refine v_iload (n := 75) k dX4_buildHalf_73 rfl rfl ?_
        refine v_aload_n (n := 76) k dX4_buildHalf_75 rfl rfl ?_
        refine v_get (n := 79) k ciX4 0 0 (by decide) fl_X4_10 rfl rfl dX4_buildHalf_76 rfl ?_
        refine v_iload_n (n := 80) k dX4_buildHalf_79 rfl rfl ?_
        refine v_iload (n := 82) k dX4_buildHalf_80 rfl rfl ?_
        refine v_rdVi (n := 85) k [1, 2] 1 (z_X1_recordSize (s := rst C p i) hP hp hg e2 (by omega)) miX1_recordSize ml_X4_189 (by decide) (by decide) rfl (by decide) rfl rfl rfl rfl (Nat.le_of_ble_eq_true rfl) ⟨Nat.zero_le _, Nat.zero_le _⟩ dX4_buildHalf_82 rfl ?_
        refine v_iadd (n := 86) k dX4_buildHalf_85 rfl ?_
        refine v_istore (n := 88) k dX4_buildHalf_86 rfl (by decide) rfl rfl ?_
        refine v_iinc (n := 91) k dX4_buildHalf_88 rfl (by decide) rfl rfl rfl ?_
        refine v_goto (t := 27) k dX4_buildHalf_91 (by decide) ?_
        refine v_lvf [(0, .ref hx), (1, .int (iI P)), (2, .int (iI E)), (3, .int (iI B)), (4, .int (iI ((pb C p 1 : Nat) : Int))), (5, .int (iI (S + ((rsz C p (rst C p i) : Nat) : Int)))), (6, .int (iI (I + 1)))] ⟨rfl, rfl, rfl, rfl, rfl, rfl, rfl, trivial⟩ ?_
        first
        | (have h0 := ih (i + 1) (S + ((rsz C p (rst C p i) : Nat) : Int)) (I + 1) (by omega) (by omega) (by omega) (by rw [e2]; rfl)
           rw [recS_f (n := i) (sel := (fun r => bitB (rh C p r) e == b)) (by
            have h8 : bitB (rh C p i) e ≠ b := by unfold bitB rh; omega
            simp [h8])] at h0
           exact h0)
        | exact ih (i + 1) (S + ((rsz C p (rst C p i) : Nat) : Int)) (I + 1) (by omega) (by omega) (by omega) (by rw [e2]; rfl)
      · refine v_aload_n (n := 60) k dX4_buildHalf_59 rfl rfl ?_
        refine v_get (n := 63) k ciX4 0 2 (by decide) fl_X4_28 rfl rfl dX4_buildHalf_60 rfl ?_
        refine v_aload_n (n := 64) k dX4_buildHalf_63 rfl rfl ?_
        refine v_get (n := 67) k ciX4 0 0 (by decide) fl_X4_10 rfl rfl dX4_buildHalf_64 rfl ?_
        refine v_iload_n (n := 68) k dX4_buildHalf_67 rfl rfl ?_
        refine v_iload (n := 70) k dX4_buildHalf_68 rfl rfl ?_
        refine v_upV (n := 73) k [3, 4, 1, 2] 3 (z_X2_copyRecord (p := p) (s := rst C p i) (d := e + 1) (rs := recS C p (fun r => bitB (rh C p r) e == b) i) hP e2 hp hg hC (by omega) (by omega) (by omega)) miX2_copyRecord ml_X4_202 (by decide) (by decide) rfl (by decide) rfl rfl rfl rfl (Nat.le_of_ble_eq_true rfl) ⟨Nat.zero_le _, Nat.zero_le _⟩ dX4_buildHalf_70 rfl ?_
        rw [← recS_t (n := i) (sel := (fun r => bitB (rh C p r) e == b)) (by
          have h8 : bitB (rh C p i) e = b := by unfold bitB rh; omega
          simp [h8])]
        rintro _ _ ⟨rfl, rfl⟩
        dsimp only [wput, List.set, Option.toList, List.nil_append, List.cons_append]
        refine v_iload (n := 75) k dX4_buildHalf_73 rfl rfl ?_
        refine v_aload_n (n := 76) k dX4_buildHalf_75 rfl rfl ?_
        refine v_get (n := 79) k ciX4 0 0 (by decide) fl_X4_10 rfl rfl dX4_buildHalf_76 rfl ?_
        refine v_iload_n (n := 80) k dX4_buildHalf_79 rfl rfl ?_
        refine v_iload (n := 82) k dX4_buildHalf_80 rfl rfl ?_
        refine v_rdVi (n := 85) k [1, 2] 1 (z_X1_recordSize (s := rst C p i) hP hp hg e2 (by omega)) miX1_recordSize ml_X4_189 (by decide) (by decide) rfl (by decide) rfl rfl rfl rfl (Nat.le_of_ble_eq_true rfl) ⟨Nat.zero_le _, Nat.zero_le _⟩ dX4_buildHalf_82 rfl ?_
        refine v_iadd (n := 86) k dX4_buildHalf_85 rfl ?_
        refine v_istore (n := 88) k dX4_buildHalf_86 rfl (by decide) rfl rfl ?_
        refine v_iinc (n := 91) k dX4_buildHalf_88 rfl (by decide) rfl rfl rfl ?_
        refine v_goto (t := 27) k dX4_buildHalf_91 (by decide) ?_
        refine v_lvf [(0, .ref hx), (1, .int (iI P)), (2, .int (iI E)), (3, .int (iI B)), (4, .int (iI ((pb C p 1 : Nat) : Int))), (5, .int (iI (S + ((rsz C p (rst C p i) : Nat) : Int)))), (6, .int (iI (I + 1)))] ⟨rfl, rfl, rfl, rfl, rfl, rfl, rfl, trivial⟩ ?_
        first
        | (have h0 := ih (i + 1) (S + ((rsz C p (rst C p i) : Nat) : Int)) (I + 1) (by omega) (by omega) (by omega) (by rw [e2]; rfl)
           rw [recS_f (n := i) (sel := (fun r => bitB (rh C p r) e == b)) (by
            have h8 : bitB (rh C p i) e ≠ b := by unfold bitB rh; omega
            simp [h8])] at h0
           exact h0)
        | exact ih (i + 1) (S + ((rsz C p (rst C p i) : Nat) : Int)) (I + 1) (by omega) (by omega) (by omega) (by rw [e2]; rfl)
set_option maxHeartbeats 1000000 in
set_option maxRecDepth 20000 in
theorem z_X4_buildHalf {D : va_G} {cI cB cJ cZ : ClassId} {hx hd hc hk hch hb hbb hh ht ha : Nat} {an : Int} {ko : Int} {pg lg : Nat} {wt al dn : Int} {C : Nat → Nat} {P E B : Int} {p e b : Nat} {f : Nat → Nat} (hP : P = (p : Int)) (hp : p < pg) (hg : pg ≤ 255) (hw9 : WB C p) (hC : ∀ j, C j < 256) (hE : E = (e : Int)) (he : e ≤ 15) (hB : B = (b : Int)) (hb9 : b < 2) : ∀ l, Up l yX4_buildHalf cX4_buildHalf 8 none ({ frames := 3, cells := 0, slots := 0, locals := 70 }) D (TY cI cB cJ cZ) [.ref hx, .int (iI P), .int (iI E), .int (iI B)] [oHash hx hd hch hb hh ht ha an, oDisk hd hc hk ko pg lg wt al dn, aN cI hc 65280 C, oPage hb hbb, aN cI hbb 256 (f)] (fun r w1 => r = none ∧ w1 = [oHash hx hd hch hb hh ht ha an, oDisk hd hc hk ko pg lg wt al dn, aN cI hc 65280 C, oPage hb hbb, aN cI hbb 256 (bpg (e + 1) (recS C p (fun r => bitB (rh C p r) e == b) (pb C p 1)))]) := by
  intro l
  refine Up_of (by decide) (Nat.le_of_ble_eq_true rfl) (fun x k hq => ?_)
  refine v_aload_n (n := 1) k dX4_buildHalf_0 rfl rfl ?_
  refine v_get (n := 4) k ciX4 0 2 (by decide) fl_X4_28 rfl rfl dX4_buildHalf_1 rfl ?_
  refine v_iload_n (n := 5) k dX4_buildHalf_4 rfl rfl ?_
  refine v_iconst (n := 6) k dX4_buildHalf_5 rfl ?_
  refine v_iadd (n := 7) k dX4_buildHalf_6 rfl ?_
  refine v_upV (n := 10) k [3, 4] 3 (z_X2_startBucket (v := e + 1) (by omega)) miX2_startBucket ml_X4_196 (by decide) (by decide) rfl (by decide) rfl rfl rfl rfl (Nat.le_of_ble_eq_true rfl) ⟨Nat.zero_le _, Nat.zero_le _⟩ dX4_buildHalf_7 rfl ?_
  rw [bpg_0 (by omega)]
  rintro _ _ ⟨rfl, rfl⟩
  dsimp only [wput, List.set, Option.toList, List.nil_append, List.cons_append]
  refine v_aload_n (n := 11) k dX4_buildHalf_10 rfl rfl ?_
  refine v_get (n := 14) k ciX4 0 0 (by decide) fl_X4_10 rfl rfl dX4_buildHalf_11 rfl ?_
  refine v_iload_n (n := 15) k dX4_buildHalf_14 rfl rfl ?_
  refine v_iconst (n := 16) k dX4_buildHalf_15 rfl ?_
  refine v_rdVi (n := 19) k [1, 2] 1 (z_X1_at (p := p) (i := 1) hP rfl hp (by omega) hg) miX1_at ml_X4_130 (by decide) (by decide) rfl (by decide) rfl rfl rfl rfl (Nat.le_of_ble_eq_true rfl) ⟨Nat.zero_le _, Nat.zero_le _⟩ dX4_buildHalf_16 rfl ?_
  refine v_istore (n := 21) k dX4_buildHalf_19 rfl (by decide) rfl rfl ?_
  refine v_iconst (n := 22) k dX4_buildHalf_21 rfl ?_
  refine v_istore (n := 24) k dX4_buildHalf_22 rfl (by decide) rfl rfl ?_
  refine v_iconst (n := 25) k dX4_buildHalf_24 rfl ?_
  refine v_istore (n := 27) k dX4_buildHalf_25 rfl (by decide) rfl rfl ?_
  exact lp_X4_buildHalf k hq hP hp hg hw9 hC hE he hB hb9 (pb C p 1 + 1) 0 4 0 (by omega) (by omega) rfl rfl
def less (C : Nat → Nat) (p : Nat) (T : Nat → Nat) (ks : Nat) : Nat := match fnd C p T ks with
  | some r => rsz C p (rst C p r)
  | none => 0
def plc (C : Nat → Nat) (p : Nat) (T : Nat → Nat) (ks z : Nat) : Bool := decide (bL C p - less C p T ks + 2 + z ≤ 252)
theorem fnd_lt {C : Nat → Nat} {p : Nat} {T : Nat → Nat} {ks r : Nat} (h : fnd C p T ks = some r) : r < pb C p 1 := by
  have := List.mem_of_find?_eq_some h
  exact List.mem_range.mp this
set_option maxHeartbeats 1000000 in
set_option maxRecDepth 20000 in
theorem z_X4_hasPlace {D : va_G} {cI cB cJ cZ : ClassId} {hx hd hc hk hch hb hbb hh ht ha : Nat} {an : Int} {ko : Int} {pg lg : Nat} {wt al dn : Int} {C : Nat → Nat} {htb : Nat} {sz : Int} {T : Nat → Nat} {P KK Z : Int} {p ks z : Nat} (hP : P = (p : Int)) (hp : p < pg) (hg : pg ≤ 255) (hw9 : WB C p) (hC : ∀ j, C j < 256) (hK : KK = (ks : Int)) (hks : ks ≤ 48) (hZ : Z = (z : Int)) (hz : z ≤ 48) (hT : ∀ j, T j < 256) : ∀ l, Rd l yX4_hasPlace cX4_hasPlace 6 (some .boolean) ({ frames := 3, cells := 0, slots := 0, locals := 73 }) D (TY cI cB cJ cZ) [.ref hx, .int (iI P), .int (iI KK), .int (iI Z)] [oHash hx hd hch hb hh ht ha an, oDisk hd hc hk ko pg lg wt al dn, aN cI hc 65280 C, oTape ht htb sz, aN cI htb 48 T] (fun v => v = some (.int (iI (bI (plc C p T ks z))))) := by
  intro l
  refine Rd_of (by decide) (Nat.le_of_ble_eq_true rfl) (fun x k hq => ?_)
  have hwl := hw9.2.2
  rcases (by
    cases fnd C p T ks with
    | some r => exact Or.inl ⟨r, rfl⟩
    | none => exact Or.inr rfl : (∃ r, fnd C p T ks = some r) ∨ fnd C p T ks = none) with ⟨r0, hfn⟩ | hfn
  · have hr0 := fnd_lt hfn
    have hf := hw9.fit hr0
    have hz9 := rsz_ge C p (rst C p r0)
    have h4 := rst_ge C p r0
    have hfi : fndI C p T ks = ((rst C p r0 : Nat) : Int) := by unfold fndI; rw [hfn]
    have hle : less C p T ks = rsz C p (rst C p r0) := by unfold less; rw [hfn]
    refine v_aload_n (n := 1) k dX4_hasPlace_0 rfl rfl ?_
    refine v_get (n := 4) k ciX4 0 0 (by decide) fl_X4_10 rfl rfl dX4_hasPlace_1 rfl ?_
    refine v_iload_n (n := 5) k dX4_hasPlace_4 rfl rfl ?_
    refine v_aload_n (n := 6) k dX4_hasPlace_5 rfl rfl ?_
    refine v_get (n := 9) k ciX4 0 4 (by decide) fl_X4_38 rfl rfl dX4_hasPlace_6 rfl ?_
    refine v_iload_n (n := 10) k dX4_hasPlace_9 rfl rfl ?_
    refine v_rdVi (n := 13) k [1, 2, 3, 4] 1 (z_X1_find (p := p) (z := ks) hP hp hg hK hks hw9 hC hT) miX1_find ml_X4_112 (by decide) (by decide) rfl (by decide) rfl rfl rfl rfl (Nat.le_of_ble_eq_true rfl) ⟨Nat.zero_le _, Nat.zero_le _⟩ dX4_hasPlace_10 rfl ?_
    rw [hfi]
    refine v_istore (n := 15) k dX4_hasPlace_13 rfl (by decide) rfl rfl ?_
    refine v_aload_n (n := 16) k dX4_hasPlace_15 rfl rfl ?_
    refine v_get (n := 19) k ciX4 0 0 (by decide) fl_X4_10 rfl rfl dX4_hasPlace_16 rfl ?_
    refine v_iload_n (n := 20) k dX4_hasPlace_19 rfl rfl ?_
    refine v_rdVi (n := 23) k [1, 2] 1 (z_X1_recordBytes (p := p) hP hp hg) miX1_recordBytes ml_X4_148 (by decide) (by decide) rfl (by decide) rfl rfl rfl rfl (Nat.le_of_ble_eq_true rfl) ⟨Nat.zero_le _, Nat.zero_le _⟩ dX4_hasPlace_20 rfl ?_
    refine v_iload (n := 25) k dX4_hasPlace_23 rfl rfl ?_
    refine v_iconst (n := 26) k dX4_hasPlace_25 rfl ?_
    refine v_icmp_ne (n := 29) (t := 33) k (⟨by omega, by omega⟩) (⟨by omega, by omega⟩) dX4_hasPlace_26 (by decide) rfl (fun c_26 => ?_) (fun c_26 => ?_)
    · refine v_aload_n (n := 34) k dX4_hasPlace_33 rfl rfl ?_
      refine v_get (n := 37) k ciX4 0 0 (by decide) fl_X4_10 rfl rfl dX4_hasPlace_34 rfl ?_
      refine v_iload_n (n := 38) k dX4_hasPlace_37 rfl rfl ?_
      refine v_iload (n := 40) k dX4_hasPlace_38 rfl rfl ?_
      refine v_rdVi (n := 43) k [1, 2] 1 (z_X1_recordSize (p := p) (s := rst C p r0) hP hp hg rfl (by omega)) miX1_recordSize ml_X4_189 (by decide) (by decide) rfl (by decide) rfl rfl rfl rfl (Nat.le_of_ble_eq_true rfl) ⟨Nat.zero_le _, Nat.zero_le _⟩ dX4_hasPlace_40 rfl ?_
      refine v_isub (n := 44) k dX4_hasPlace_43 rfl ?_
      refine v_istore (n := 46) k dX4_hasPlace_44 rfl (by decide) rfl rfl ?_
      refine v_iload (n := 48) k dX4_hasPlace_46 rfl rfl ?_
      refine v_iconst (n := 49) k dX4_hasPlace_48 rfl ?_
      refine v_iadd (n := 50) k dX4_hasPlace_49 rfl ?_
      refine v_iload_n (n := 51) k dX4_hasPlace_50 rfl rfl ?_
      refine v_iadd (n := 52) k dX4_hasPlace_51 rfl ?_
      refine v_sipush (n := 55) k dX4_hasPlace_52 (by decide) rfl ?_
      refine v_icmp_gt (n := 58) (t := 62) k (⟨by omega, by omega⟩) (⟨by omega, by omega⟩) dX4_hasPlace_55 (by decide) rfl (fun c_55 => ?_) (fun c_55 => ?_)
      · refine v_iconst (n := 63) k dX4_hasPlace_62 rfl ?_
        refine v_zretR k (by decide) hq ?_ dX4_hasPlace_63
        first
        | rw [bI_t (show plc C p T ks z = true from decide_eq_true (by rw [hle]; omega))]
        | rw [bI_f (show plc C p T ks z = false from decide_eq_false (by rw [hle]; omega))]
      · refine v_iconst (n := 59) k dX4_hasPlace_58 rfl ?_
        refine v_goto (t := 63) k dX4_hasPlace_59 (by decide) ?_
        refine v_zretR k (by decide) hq ?_ dX4_hasPlace_63
        first
        | rw [bI_t (show plc C p T ks z = true from decide_eq_true (by rw [hle]; omega))]
        | rw [bI_f (show plc C p T ks z = false from decide_eq_false (by rw [hle]; omega))]
    · exfalso; omega
  · have hfi : fndI C p T ks = -1 := by unfold fndI; rw [hfn]
    have hle : less C p T ks = 0 := by unfold less; rw [hfn]
    refine v_aload_n (n := 1) k dX4_hasPlace_0 rfl rfl ?_
    refine v_get (n := 4) k ciX4 0 0 (by decide) fl_X4_10 rfl rfl dX4_hasPlace_1 rfl ?_
    refine v_iload_n (n := 5) k dX4_hasPlace_4 rfl rfl ?_
    refine v_aload_n (n := 6) k dX4_hasPlace_5 rfl rfl ?_
    refine v_get (n := 9) k ciX4 0 4 (by decide) fl_X4_38 rfl rfl dX4_hasPlace_6 rfl ?_
    refine v_iload_n (n := 10) k dX4_hasPlace_9 rfl rfl ?_
    refine v_rdVi (n := 13) k [1, 2, 3, 4] 1 (z_X1_find (p := p) (z := ks) hP hp hg hK hks hw9 hC hT) miX1_find ml_X4_112 (by decide) (by decide) rfl (by decide) rfl rfl rfl rfl (Nat.le_of_ble_eq_true rfl) ⟨Nat.zero_le _, Nat.zero_le _⟩ dX4_hasPlace_10 rfl ?_
    rw [hfi]
    refine v_istore (n := 15) k dX4_hasPlace_13 rfl (by decide) rfl rfl ?_
    refine v_aload_n (n := 16) k dX4_hasPlace_15 rfl rfl ?_
    refine v_get (n := 19) k ciX4 0 0 (by decide) fl_X4_10 rfl rfl dX4_hasPlace_16 rfl ?_
    refine v_iload_n (n := 20) k dX4_hasPlace_19 rfl rfl ?_
    refine v_rdVi (n := 23) k [1, 2] 1 (z_X1_recordBytes (p := p) hP hp hg) miX1_recordBytes ml_X4_148 (by decide) (by decide) rfl (by decide) rfl rfl rfl rfl (Nat.le_of_ble_eq_true rfl) ⟨Nat.zero_le _, Nat.zero_le _⟩ dX4_hasPlace_20 rfl ?_
    refine v_iload (n := 25) k dX4_hasPlace_23 rfl rfl ?_
    refine v_iconst (n := 26) k dX4_hasPlace_25 rfl ?_
    refine v_icmp_ne (n := 29) (t := 33) k (⟨by omega, by omega⟩) (⟨by omega, by omega⟩) dX4_hasPlace_26 (by decide) rfl (fun c_26 => ?_) (fun c_26 => ?_)
    · exfalso; omega
    · refine v_iconst (n := 30) k dX4_hasPlace_29 rfl ?_
      refine v_goto (t := 43) k dX4_hasPlace_30 (by decide) ?_
      refine v_isub (n := 44) k dX4_hasPlace_43 rfl ?_
      refine v_istore (n := 46) k dX4_hasPlace_44 rfl (by decide) rfl rfl ?_
      refine v_iload (n := 48) k dX4_hasPlace_46 rfl rfl ?_
      refine v_iconst (n := 49) k dX4_hasPlace_48 rfl ?_
      refine v_iadd (n := 50) k dX4_hasPlace_49 rfl ?_
      refine v_iload_n (n := 51) k dX4_hasPlace_50 rfl rfl ?_
      refine v_iadd (n := 52) k dX4_hasPlace_51 rfl ?_
      refine v_sipush (n := 55) k dX4_hasPlace_52 (by decide) rfl ?_
      refine v_icmp_gt (n := 58) (t := 62) k (⟨by omega, by omega⟩) (⟨by omega, by omega⟩) dX4_hasPlace_55 (by decide) rfl (fun c_55 => ?_) (fun c_55 => ?_)
      · refine v_iconst (n := 63) k dX4_hasPlace_62 rfl ?_
        refine v_zretR k (by decide) hq ?_ dX4_hasPlace_63
        first
        | rw [bI_t (show plc C p T ks z = true from decide_eq_true (by rw [hle]; omega))]
        | rw [bI_f (show plc C p T ks z = false from decide_eq_false (by rw [hle]; omega))]
      · refine v_iconst (n := 59) k dX4_hasPlace_58 rfl ?_
        refine v_goto (t := 63) k dX4_hasPlace_59 (by decide) ?_
        refine v_zretR k (by decide) hq ?_ dX4_hasPlace_63
        first
        | rw [bI_t (show plc C p T ks z = true from decide_eq_true (by rw [hle]; omega))]
        | rw [bI_f (show plc C p T ks z = false from decide_eq_false (by rw [hle]; omega))]
set_option maxHeartbeats 1000000 in
set_option maxRecDepth 20000 in
theorem z_X4_directoryPagesOf {D : va_G} {cI cB cJ cZ : ClassId} {F B : Int} {a b : Nat} (hF : F = (a : Int)) (hB : B = (b : Int)) (ha : a < b) (hb : b < 1000000) : ∀ l, Rd l yX4_directoryPagesOf cX4_directoryPagesOf 2 (some .int) ({ frames := 0, cells := 0, slots := 0, locals := 0 }) D (TY cI cB cJ cZ) [.int (iI F), .int (iI B)] [] (fun v => v = some (.int (iI (((b - 1) / 256 - a / 256 + 1 : Nat) : Int)))) := by
  intro l
  refine Rd_of (by decide) (Nat.le_of_ble_eq_true rfl) (fun x k hq => ?_)
  refine v_iload_n (n := 1) k dX4_directoryPagesOf_0 rfl rfl ?_
  refine v_iconst (n := 2) k dX4_directoryPagesOf_1 rfl ?_
  refine v_isub (n := 3) k dX4_directoryPagesOf_2 rfl ?_
  refine v_sipush (n := 6) k dX4_directoryPagesOf_3 (by decide) rfl ?_
  refine v_idiv (n := 7) k ((((b - 1) / 256 : Nat) : Int)) (ax_ne0 (by omega) (by omega)) (ax_div (by omega) rfl (by omega) (by omega) (by omega)) dX4_directoryPagesOf_6 rfl ?_
  refine v_iload_n (n := 8) k dX4_directoryPagesOf_7 rfl rfl ?_
  refine v_sipush (n := 11) k dX4_directoryPagesOf_8 (by decide) rfl ?_
  refine v_idiv (n := 12) k (((a / 256 : Nat) : Int)) (ax_ne0 (by omega) (by omega)) (ax_div hF rfl (by omega) (by omega) (by omega)) dX4_directoryPagesOf_11 rfl ?_
  refine v_isub (n := 13) k dX4_directoryPagesOf_12 rfl ?_
  refine v_iconst (n := 14) k dX4_directoryPagesOf_13 rfl ?_
  refine v_iadd (n := 15) k dX4_directoryPagesOf_14 rfl ?_
  refine v_iretR k hq ?_ dX4_directoryPagesOf_15
  exact congrArg (fun z => some (Value.int (iI z))) (by omega)
end
section
theorem rst_lt {C : Nat → Nat} {p a b : Nat} (h : a < b) : rst C p a < rst C p b := by
  have h1 : rst C p (a + 1) ≤ rst C p b := rst_mono h
  have e : rst C p (a + 1) = rst C p a + rsz C p (rst C p a) := rfl
  have e2 := rsz_ge C p (rst C p a)
  omega
theorem rst_inj {C : Nat → Nat} {p a b : Nat} (h : rst C p a = rst C p b) : a = b := by
  rcases Nat.lt_trichotomy a b with g | g | g
  · have := rst_lt (C := C) (p := p) g
    omega
  · exact g
  · have := rst_lt (C := C) (p := p) g
    omega
theorem recS_one {C : Nat → Nat} {p r0 : Nat} {sel : Nat → Bool} (hs : ∀ r, sel r = !(r == r0)) (n : Nat) : (recS C p sel n).flatten.length + (if r0 < n then rsz C p (rst C p r0) else 0) + 4 = rst C p n := by
  induction n with
  | zero => simp [recS, rst]
  | succ n ih =>
    have e : rst C p (n + 1) = rst C p n + rsz C p (rst C p n) := rfl
    have e3 : [recL C p (rst C p n)].flatten.length = rsz C p (rst C p n) := by simp [recL_len]
    by_cases h : n = r0
    · subst h
      rw [recS_f (by rw [hs]; simp), if_pos (by omega)]
      rw [if_neg (by omega)] at ih
      omega
    · rw [recS_t (by rw [hs]; simp [h]), List.flatten_append, List.length_append]
      by_cases g : r0 < n
      · rw [if_pos (by omega)]
        rw [if_pos g] at ih
        omega
      · rw [if_neg (by omega)]
        rw [if_neg g] at ih
        omega
theorem recS_all {C : Nat → Nat} {p : Nat} {sel : Nat → Bool} (hs : ∀ r, sel r = true) (n : Nat) : (recS C p sel n).flatten.length + 4 = rst C p n := by
  induction n with
  | zero => simp [recS, rst]
  | succ n ih =>
    have e : rst C p (n + 1) = rst C p n + rsz C p (rst C p n) := rfl
    have e3 : [recL C p (rst C p n)].flatten.length = rsz C p (rst C p n) := by simp [recL_len]
    rw [recS_t (hs n), List.flatten_append, List.length_append]
    omega
theorem notAt_some {C : Nat → Nat} {p r0 : Nat} {old : Int} (h : old = ((rst C p r0 : Nat) : Int)) (r : Nat) : notAt C p old r = !(r == r0) := by
  unfold notAt
  subst h
  by_cases e : r = r0
  · subst e
    simp
  · have : rst C p r ≠ rst C p r0 := fun e2 => e (rst_inj e2)
    have h1 : (r == r0) = false := beq_false_of_ne e
    rw [h1]
    exact decide_eq_true (by omega)
theorem notAt_none {C : Nat → Nat} {p : Nat} {old : Int} (h : old < 0) (r : Nat) : notAt C p old r = true := decide_eq_true (by omega)
theorem fndI_in {C : Nat → Nat} {p : Nat} {T : Nat → Nat} {ks : Nat} (h : WB C p) : in32 (fndI C p T ks) := by
  unfold fndI
  cases hf : fnd C p T ks with
  | some r =>
    have h1 := h.fit (fnd_lt hf)
    show in32 ((rst C p r : Nat) : Int)
    exact ⟨by omega, by omega⟩
  | none =>
    show in32 (-1)
    exact ⟨by omega, by omega⟩
/-- how many bytes are left without the record of the key -/
theorem but_len {C : Nat → Nat} {p : Nat} {T : Nat → Nat} {ks : Nat} (h : WB C p) : (recS C p (notAt C p (fndI C p T ks)) (pb C p 1)).flatten.length = bL C p - less C p T ks := by
  have h2 := h.2.1
  unfold less
  cases hf : fnd C p T ks with
  | some r =>
    have hr := fnd_lt hf
    have e : fndI C p T ks = ((rst C p r : Nat) : Int) := by unfold fndI; rw [hf]
    have h3 := recS_one (C := C) (p := p) (r0 := r) (sel := notAt C p (fndI C p T ks)) (notAt_some e) (pb C p 1)
    rw [if_pos hr] at h3
    show _ = bL C p - rsz C p (rst C p r)
    omega
  | none =>
    have e : fndI C p T ks = -1 := by unfold fndI; rw [hf]
    have h3 := recS_all (C := C) (p := p) (sel := notAt C p (fndI C p T ks)) (notAt_none (by rw [e]; omega)) (pb C p 1)
    show _ = bL C p - 0
    omega
/-- the page of a bucket into which the tape's record is put -/
def newB (C : Nat → Nat) (p : Nat) (T : Nat → Nat) (ks z : Nat) : Nat → Nat := bpg (pb C p 0) (recS C p (notAt C p (fndI C p T ks)) (pb C p 1) ++ [tapL T ks z])
set_option maxHeartbeats 1000000 in
set_option maxRecDepth 20000 in
theorem z_X4_storeRecord {D : va_G} {cI cB cJ cZ : ClassId} {hx hd hc hk hch hb hbb hh ht ha : Nat} {an : Int} {ko : Int} {pg lg : Nat} {wt al dn : Int} {C : Nat → Nat} {K : Nat → Nat} {htb : Nat} {sz : Int} {T : Nat → Nat} {f : Nat → Nat} {P KK Z : Int} {p ks z : Nat} (hP : P = (p : Int)) (hp : p < pg) (hg : pg ≤ 255) (hw9 : WB C p) (hC : ∀ j, C j < 256) (hK : KK = (ks : Int)) (hks9 : ks ≤ z) (hZ : Z = (z : Int)) (hz : z ≤ 48) (hT : ∀ j, T j < 256) (hpl : plc C p T ks z = true) (ha9 : in32 al) (hks : KS ko K C pg lg) : ∀ l, Up l yX4_storeRecord cX4_storeRecord 4 (some .int) ({ frames := 5, cells := 0, slots := 0, locals := 117 }) D (TY cI cB cJ cZ) [.ref hx, .int (iI P), .int (iI KK), .int (iI Z)] [oHash hx hd hch hb hh ht ha an, oDisk hd hc hk ko pg lg wt al dn, aN cI hc 65280 C, aN cI hk 255 K, oPage hb hbb, aN cI hbb 256 (f), oTape ht htb sz, aN cI htb 48 T] (fun r w1 => ∃ b C2 wt2 al2 dn2 ko2 f2, sW (C, wt, al, dn) p (newB C p T ks z) = (b, C2, wt2, al2, dn2) ∧ KS ko2 K C2 pg lg ∧ in32 al2 ∧ r = some (.int (iI (if b then 0 else 4))) ∧ w1 = [oHash hx hd hch hb hh ht ha an, oDisk hd hc hk ko2 pg lg wt2 al2 dn2, aN cI hc 65280 C2, aN cI hk 255 K, oPage hb hbb, aN cI hbb 256 (f2), oTape ht htb sz, aN cI htb 48 T]) := by
  intro l
  refine Up_of (by decide) (Nat.le_of_ble_eq_true rfl) (fun x k hq => ?_)
  have hcn := hw9.count
  have hwl := hw9.2.2
  have hpl2 := of_decide_eq_true hpl
  have hbl := but_len (T := T) (ks := ks) hw9
  have hrl := recS_len C p (notAt C p (fndI C p T ks)) (pb C p 1)
  refine v_aload_n (n := 1) k dX4_storeRecord_0 rfl rfl ?_
  refine v_iload_n (n := 2) k dX4_storeRecord_1 rfl rfl ?_
  refine v_aload_n (n := 3) k dX4_storeRecord_2 rfl rfl ?_
  refine v_get (n := 6) k ciX4 0 0 (by decide) fl_X4_10 rfl rfl dX4_storeRecord_3 rfl ?_
  refine v_iload_n (n := 7) k dX4_storeRecord_6 rfl rfl ?_
  refine v_aload_n (n := 8) k dX4_storeRecord_7 rfl rfl ?_
  refine v_get (n := 11) k ciX4 0 4 (by decide) fl_X4_38 rfl rfl dX4_storeRecord_8 rfl ?_
  refine v_iload_n (n := 12) k dX4_storeRecord_11 rfl rfl ?_
  refine v_rdVi (n := 15) k [1, 2, 6, 7] 1 (z_X1_find (p := p) (z := ks) hP hp hg hK (by omega) hw9 hC hT) miX1_find ml_X4_112 (by decide) (by decide) rfl (by decide) rfl rfl rfl rfl (Nat.le_of_ble_eq_true rfl) ⟨Nat.zero_le _, Nat.zero_le _⟩ dX4_storeRecord_12 rfl ?_
  refine v_upV (n := 18) k [0, 1, 2, 4, 5] 0 (z_X4_buildWithout (p := p) hP hp hg hw9 hC (fndI_in hw9)) miX4_buildWithout ml_X4_116 (by decide) (by decide) rfl (by decide) rfl rfl rfl rfl (Nat.le_of_ble_eq_true rfl) ⟨Nat.zero_le _, Nat.zero_le _⟩ dX4_storeRecord_15 rfl ?_
  rintro _ _ ⟨rfl, rfl⟩
  dsimp only [wput, List.set, Option.toList, List.nil_append, List.cons_append]
  refine v_aload_n (n := 19) k dX4_storeRecord_18 rfl rfl ?_
  refine v_get (n := 22) k ciX4 0 2 (by decide) fl_X4_28 rfl rfl dX4_storeRecord_19 rfl ?_
  refine v_aload_n (n := 23) k dX4_storeRecord_22 rfl rfl ?_
  refine v_get (n := 26) k ciX4 0 4 (by decide) fl_X4_38 rfl rfl dX4_storeRecord_23 rfl ?_
  refine v_iload_n (n := 27) k dX4_storeRecord_26 rfl rfl ?_
  refine v_iload_n (n := 28) k dX4_storeRecord_27 rfl rfl ?_
  refine v_upV (n := 31) k [4, 5, 6, 7] 4 (z_X2_addRecord (ks := ks) (z := z) (d := pb C p 0) (rs := recS C p (notAt C p (fndI C p T ks)) (pb C p 1)) hK hZ hks9 hz hT (by omega) (by omega)) miX2_addRecord ml_X4_192 (by decide) (by decide) rfl (by decide) rfl rfl rfl rfl (Nat.le_of_ble_eq_true rfl) ⟨Nat.zero_le _, Nat.zero_le _⟩ dX4_storeRecord_28 rfl ?_
  rintro _ _ ⟨rfl, rfl⟩
  dsimp only [wput, List.set, Option.toList, List.nil_append, List.cons_append]
  refine v_aload_n (n := 32) k dX4_storeRecord_31 rfl rfl ?_
  refine v_get (n := 35) k ciX4 0 0 (by decide) fl_X4_10 rfl rfl dX4_storeRecord_32 rfl ?_
  refine v_iload_n (n := 36) k dX4_storeRecord_35 rfl rfl ?_
  refine v_aload_n (n := 37) k dX4_storeRecord_36 rfl rfl ?_
  refine v_get (n := 40) k ciX4 0 2 (by decide) fl_X4_28 rfl rfl dX4_storeRecord_37 rfl ?_
  refine v_upV (n := 43) k [1, 2, 3, 4, 5] 1 (z_X1_writeS (p := p) hP hp hg ha9 hks) miX1_write ml_X4_120 (by decide) (by decide) rfl (by decide) rfl rfl rfl rfl (Nat.le_of_ble_eq_true rfl) ⟨Nat.zero_le _, Nat.zero_le _⟩ dX4_storeRecord_40 rfl ?_
  rintro _ _ ⟨b1, C2, wt2, al2, dn2, ko2, hs1, hks1, hal1, rfl, rfl⟩
  dsimp only [wput, List.set, Option.toList, List.nil_append, List.cons_append]
  refine v_if_eq (n := 46) (t := 50) k (⟨by cases b1 <;> decide, by cases b1 <;> decide⟩) dX4_storeRecord_43 (by decide) rfl (fun c_43 => ?_) (fun c_43 => ?_)
  · refine v_iconst (n := 51) k dX4_storeRecord_50 rfl ?_
    refine v_iretU k hq ?_ rfl dX4_storeRecord_51
    first
    | (have hb9 : b1 = true := by
        cases b1 with
        | true => rfl
        | false => exact absurd rfl c_43
       subst hb9
       exact ⟨true, C2, wt2, al2, dn2, ko2, _, hs1, hks1, hal1, rfl, rfl⟩)
    | (have hb9 : b1 = false := by
        cases b1 with
        | false => rfl
        | true => exact absurd c_43 (by decide)
       subst hb9
       exact ⟨false, C2, wt2, al2, dn2, ko2, _, hs1, hks1, hal1, rfl, rfl⟩)
  · refine v_iconst (n := 47) k dX4_storeRecord_46 rfl ?_
    refine v_goto (t := 51) k dX4_storeRecord_47 (by decide) ?_
    refine v_iretU k hq ?_ rfl dX4_storeRecord_51
    first
    | (have hb9 : b1 = true := by
        cases b1 with
        | true => rfl
        | false => exact absurd rfl c_43
       subst hb9
       exact ⟨true, C2, wt2, al2, dn2, ko2, _, hs1, hks1, hal1, rfl, rfl⟩)
    | (have hb9 : b1 = false := by
        cases b1 with
        | false => rfl
        | true => exact absurd c_43 (by decide)
       subst hb9
       exact ⟨false, C2, wt2, al2, dn2, ko2, _, hs1, hks1, hal1, rfl, rfl⟩)
/-- entry i of a directory of depth q, twice or half of that of now -/
def eN (C : Nat → Nat) (q i : Nat) : Nat := entN C (if C 0 < q then i / 2 else 2 * i)
def dpi (C : Nat → Nat) (q kk n : Nat) : Nat → Nat := fun j => if j < n ∧ kk * 256 + j < 2 ^ q then eN C q (kk * 256 + j) else 0
/-- page kk of a directory of depth q -/
def dpg (C : Nat → Nat) (q kk : Nat) : Nat → Nat := dpi C q kk 256
theorem dpi_0 (C : Nat → Nat) (q kk : Nat) : (fun _ => 0 : Nat → Nat) = dpi C q kk 0 := by
  funext j
  unfold dpi
  rw [if_neg (by omega)]
theorem dpi_s {C : Nat → Nat} {q kk n : Nat} (h : kk * 256 + n < 2 ^ q) (hC : ∀ j, C j < 256) : upN (dpi C q kk n) n (eN C q (kk * 256 + n) % 256) = dpi C q kk (n + 1) := by
  funext j
  unfold upN dpi
  by_cases e : j = n
  · subst e
    rw [if_pos rfl, if_pos ⟨by omega, h⟩, Nat.mod_eq_of_lt (show eN C q (kk * 256 + j) < 256 from hC _)]
  · rw [if_neg e]
    by_cases g : j < n ∧ kk * 256 + j < 2 ^ q
    · rw [if_pos g, if_pos ⟨by omega, g.2⟩]
    · rw [if_neg g, if_neg (by omega)]
set_option maxHeartbeats 1000000 in
set_option maxRecDepth 20000 in
theorem lp_X4_buildDirectoryPage {D : va_G} {cI cB cJ cZ : ClassId} {x : Kx} {hx hd hc hk hch hb hbb hh ht ha : Nat} {an : Int} {ko : Int} {pg lg : Nat} {wt al dn : Int} {C : Nat → Nat} {KI QI : Int} {kk q : Nat} (k : Kf x cX4_buildDirectoryPage 8 yX4_buildDirectoryPage.cls none D (TY cI cB cJ cZ) ({ frames := 3, cells := 0, slots := 0, locals := 64 })) (hq : isU x D [hx, hd, hc, hb, hbb] (fun r w1 => r = none ∧ w1 = [oHash hx hd hch hb hh ht ha an, oDisk hd hc hk ko pg lg wt al dn, aN cI hc 65280 C, oPage hb hbb, aN cI hbb 256 (dpg C q kk)])) (hw : DW C pg lg) (hKI : KI = (kk : Int)) (hQI : QI = (q : Int)) (hq9 : q = C 0 + 1 ∨ q + 1 = C 0) (hq15 : q ≤ 15) (hkk : kk ≤ 256) : ∀ (m : Nat) (j : Nat) (J : Int), 256 < j + m → j ≤ 256 → J = (j : Int) → Vw x 8 (fun q => q ∈ [hx, hd, hc, hb, hbb]) D true 0 0 [oHash hx hd hch hb hh ht ha an, oDisk hd hc hk ko pg lg wt al dn, aN cI hc 65280 C, oPage hb hbb, aN cI hbb 256 (dpi C q kk j)] 39 [(0, .ref hx), (1, .int (iI KI)), (2, .int (iI QI)), (3, .int (iI (bI (decide (C 0 < q))))), (4, .int (iI ((kk * 256 : Nat) : Int))), (5, .int (iI ((2 ^ q : Nat) : Int))), (6, .int (iI J))] [] := by
  intro m
  induction m with
  | zero => intro j J hm hj e1; omega
  | succ m ih =>
    intro j J hm hj e1
    obtain ⟨w1, w2, w3, w4, w5, w6, w7⟩ := id hw
    have hp1 : 2 ^ q ≤ 32768 := Nat.le_trans (Nat.pow_le_pow_right (n := 2) (j := 15) (by decide) hq15) (by decide)
    have hp2 : (C 0 < q ∧ 2 ^ q = 2 * 2 ^ C 0) ∨ (¬ C 0 < q ∧ 2 ^ C 0 = 2 * 2 ^ q) := by
      rcases hq9 with h | h
      · exact Or.inl ⟨by omega, by rw [h, Nat.pow_succ]; omega⟩
      · exact Or.inr ⟨by omega, by rw [← h, Nat.pow_succ]; omega⟩
    refine v_iload (n := 41) k dX4_buildDirectoryPage_39 rfl rfl ?_
    refine v_sipush (n := 44) k dX4_buildDirectoryPage_41 (by decide) rfl ?_
    refine v_icmp_ge (n := 47) (t := 101) k (⟨by omega, by omega⟩) (⟨by omega, by omega⟩) dX4_buildDirectoryPage_44 (by decide) rfl (fun c_44 => ?_) (fun c_44 => ?_)
    · refine v_cg 4 (fun i => iI ((dpg C q kk i : Nat) : Int)) rfl (fun i hi => by
        unfold dpg dpi
        by_cases g : i < j ∧ kk * 256 + i < 2 ^ q
        · rw [if_pos g, if_pos ⟨hi, g.2⟩]
        · rw [if_neg g, if_neg (by omega)]) ?_
      refine v_vretU k hq ?_ rfl dX4_buildDirectoryPage_101
      exact ⟨rfl, rfl⟩
    · refine v_iload (n := 49) k dX4_buildDirectoryPage_47 rfl rfl ?_
      refine v_iload (n := 51) k dX4_buildDirectoryPage_49 rfl rfl ?_
      refine v_iadd (n := 52) k dX4_buildDirectoryPage_51 rfl ?_
      refine v_iload (n := 54) k dX4_buildDirectoryPage_52 rfl rfl ?_
      refine v_icmp_ge (n := 57) (t := 101) k (⟨by omega, by omega⟩) (⟨by omega, by omega⟩) dX4_buildDirectoryPage_54 (by decide) rfl (fun c_54 => ?_) (fun c_54 => ?_)
      · refine v_cg 4 (fun i => iI ((dpg C q kk i : Nat) : Int)) rfl (fun i hi => by
          unfold dpg dpi
          by_cases g : i < j ∧ kk * 256 + i < 2 ^ q
          · rw [if_pos g, if_pos ⟨hi, g.2⟩]
          · rw [if_neg g, if_neg (by omega)]) ?_
        refine v_vretU k hq ?_ rfl dX4_buildDirectoryPage_101
        exact ⟨rfl, rfl⟩
      · have hlt : kk * 256 + j < 2 ^ q := by omega
        refine v_iload (n := 59) k dX4_buildDirectoryPage_57 rfl rfl ?_
        refine v_iload (n := 61) k dX4_buildDirectoryPage_59 rfl rfl ?_
        refine v_iadd (n := 62) k dX4_buildDirectoryPage_61 rfl ?_
        refine v_istore (n := 64) k dX4_buildDirectoryPage_62 rfl (by decide) rfl rfl ?_
        refine v_aload_n (n := 65) k dX4_buildDirectoryPage_64 rfl rfl ?_
        refine v_get (n := 68) k ciX4 0 2 (by decide) fl_X4_28 rfl rfl dX4_buildDirectoryPage_65 rfl ?_
        refine v_iload (n := 70) k dX4_buildDirectoryPage_68 rfl rfl ?_
        refine v_aload_n (n := 71) k dX4_buildDirectoryPage_70 rfl rfl ?_
        refine v_get (n := 74) k ciX4 0 0 (by decide) fl_X4_10 rfl rfl dX4_buildDirectoryPage_71 rfl ?_
        refine v_iload_n (n := 75) k dX4_buildDirectoryPage_74 rfl rfl ?_
        refine v_if_eq (n := 78) (t := 85) k (⟨by cases (decide (C 0 < q)) <;> decide, by cases (decide (C 0 < q)) <;> decide⟩) dX4_buildDirectoryPage_75 (by decide) rfl (fun c_75 => ?_) (fun c_75 => ?_)
        · have hc9 : ¬ C 0 < q := fun h8 => by
            rw [bI_t (decide_eq_true h8)] at c_75
            omega
          have hen : eN C q (kk * 256 + j) = entN C (2 * (kk * 256 + j)) := by unfold eN; rw [if_neg hc9]
          refine v_iconst (n := 86) k dX4_buildDirectoryPage_85 rfl ?_
          refine v_iload (n := 88) k dX4_buildDirectoryPage_86 rfl rfl ?_
          refine v_imul (n := 89) k dX4_buildDirectoryPage_88 rfl ?_
          refine v_rdVi (n := 92) k [1, 2] 1 (z_X1_entryAt hw (i := 2 * (kk * 256 + j)) (by omega) (by omega)) miX1_entryAt ml_X4_145 (by decide) (by decide) rfl (by decide) rfl rfl rfl rfl (Nat.le_of_ble_eq_true rfl) ⟨Nat.zero_le _, Nat.zero_le _⟩ dX4_buildDirectoryPage_89 rfl ?_
          refine v_upV (n := 95) k [3, 4] 3 (z_X2_set (i := j) (v := eN C q (kk * 256 + j)) e1 (by rw [hen]) (by omega)) miX2_set ml_X4_215 (by decide) (by decide) rfl (by decide) rfl rfl rfl rfl (Nat.le_of_ble_eq_true rfl) ⟨Nat.zero_le _, Nat.zero_le _⟩ dX4_buildDirectoryPage_92 rfl ?_
          rw [dpi_s hlt w3]
          rintro _ _ ⟨rfl, rfl⟩
          dsimp only [wput, List.set, Option.toList, List.nil_append, List.cons_append]
          refine v_iinc (n := 98) k dX4_buildDirectoryPage_95 rfl (by decide) rfl rfl rfl ?_
          refine v_goto (t := 39) k dX4_buildDirectoryPage_98 (by decide) ?_
          refine v_lvf [(0, .ref hx), (1, .int (iI KI)), (2, .int (iI QI)), (3, .int (iI (bI (decide (C 0 < q))))), (4, .int (iI ((kk * 256 : Nat) : Int))), (5, .int (iI ((2 ^ q : Nat) : Int))), (6, .int (iI (J + 1)))] ⟨rfl, rfl, rfl, rfl, rfl, rfl, rfl, trivial⟩ ?_
          exact ih (j + 1) _ (by omega) (by omega) (by omega)
        · have hc9 : C 0 < q := by
            cases h8 : decide (C 0 < q) with
            | true => exact of_decide_eq_true h8
            | false => exact absurd (by rw [h8]; rfl) c_75
          have hen : eN C q (kk * 256 + j) = entN C ((kk * 256 + j) / 2) := by unfold eN; rw [if_pos hc9]
          refine v_iload (n := 80) k dX4_buildDirectoryPage_78 rfl rfl ?_
          refine v_iconst (n := 81) k dX4_buildDirectoryPage_80 rfl ?_
          refine v_idiv (n := 82) k ((((kk * 256 + j) / 2 : Nat) : Int)) (ax_ne0 (by omega) (by omega)) (ax_div (by omega) rfl (by omega) (by omega) (by omega)) dX4_buildDirectoryPage_81 rfl ?_
          refine v_goto (t := 89) k dX4_buildDirectoryPage_82 (by decide) ?_
          refine v_rdVi (n := 92) k [1, 2] 1 (z_X1_entryAt hw (i := (kk * 256 + j) / 2) rfl (by omega)) miX1_entryAt ml_X4_145 (by decide) (by decide) rfl (by decide) rfl rfl rfl rfl (Nat.le_of_ble_eq_true rfl) ⟨Nat.zero_le _, Nat.zero_le _⟩ dX4_buildDirectoryPage_89 rfl ?_
          refine v_upV (n := 95) k [3, 4] 3 (z_X2_set (i := j) (v := eN C q (kk * 256 + j)) e1 (by rw [hen]) (by omega)) miX2_set ml_X4_215 (by decide) (by decide) rfl (by decide) rfl rfl rfl rfl (Nat.le_of_ble_eq_true rfl) ⟨Nat.zero_le _, Nat.zero_le _⟩ dX4_buildDirectoryPage_92 rfl ?_
          rw [dpi_s hlt w3]
          rintro _ _ ⟨rfl, rfl⟩
          dsimp only [wput, List.set, Option.toList, List.nil_append, List.cons_append]
          refine v_iinc (n := 98) k dX4_buildDirectoryPage_95 rfl (by decide) rfl rfl rfl ?_
          refine v_goto (t := 39) k dX4_buildDirectoryPage_98 (by decide) ?_
          refine v_lvf [(0, .ref hx), (1, .int (iI KI)), (2, .int (iI QI)), (3, .int (iI (bI (decide (C 0 < q))))), (4, .int (iI ((kk * 256 : Nat) : Int))), (5, .int (iI ((2 ^ q : Nat) : Int))), (6, .int (iI (J + 1)))] ⟨rfl, rfl, rfl, rfl, rfl, rfl, rfl, trivial⟩ ?_
          exact ih (j + 1) _ (by omega) (by omega) (by omega)
set_option maxHeartbeats 1000000 in
set_option maxRecDepth 20000 in
theorem z_X4_buildDirectoryPage {D : va_G} {cI cB cJ cZ : ClassId} {hx hd hc hk hch hb hbb hh ht ha : Nat} {an : Int} {ko : Int} {pg lg : Nat} {wt al dn : Int} {C : Nat → Nat} {KI QI : Int} {kk q : Nat} {f : Nat → Nat} (hw : DW C pg lg) (hKI : KI = (kk : Int)) (hQI : QI = (q : Int)) (hq9 : q = C 0 + 1 ∨ q + 1 = C 0) (hq15 : q ≤ 15) (hkk : kk ≤ 256) : ∀ l, Up l yX4_buildDirectoryPage cX4_buildDirectoryPage 8 none ({ frames := 3, cells := 0, slots := 0, locals := 64 }) D (TY cI cB cJ cZ) [.ref hx, .int (iI KI), .int (iI QI)] [oHash hx hd hch hb hh ht ha an, oDisk hd hc hk ko pg lg wt al dn, aN cI hc 65280 C, oPage hb hbb, aN cI hbb 256 (f)] (fun r w1 => r = none ∧ w1 = [oHash hx hd hch hb hh ht ha an, oDisk hd hc hk ko pg lg wt al dn, aN cI hc 65280 C, oPage hb hbb, aN cI hbb 256 (dpg C q kk)]) := by
  intro l
  refine Up_of (by decide) (Nat.le_of_ble_eq_true rfl) (fun x k hq => ?_)
  obtain ⟨w1, w2, w3, w4, w5, w6, w7⟩ := id hw
  have hp1 : 2 ^ q ≤ 32768 := Nat.le_trans (Nat.pow_le_pow_right (n := 2) (j := 15) (by decide) hq15) (by decide)
  refine v_iload_n (n := 1) k dX4_buildDirectoryPage_0 rfl rfl ?_
  refine v_aload_n (n := 2) k dX4_buildDirectoryPage_1 rfl rfl ?_
  refine v_get (n := 5) k ciX4 0 0 (by decide) fl_X4_10 rfl rfl dX4_buildDirectoryPage_2 rfl ?_
  refine v_rdVi (n := 8) k [1, 2] 1 (z_X1_depth hw) miX1_depth ml_X4_160 (by decide) (by decide) rfl (by decide) rfl rfl rfl rfl (Nat.le_of_ble_eq_true rfl) ⟨Nat.zero_le _, Nat.zero_le _⟩ dX4_buildDirectoryPage_5 rfl ?_
  refine v_icmp_le (n := 11) (t := 15) k (⟨by omega, by omega⟩) (⟨by omega, by omega⟩) dX4_buildDirectoryPage_8 (by decide) rfl (fun c_8 => ?_) (fun c_8 => ?_)
  · refine v_iconst (n := 16) k dX4_buildDirectoryPage_15 rfl ?_
    refine v_istore_n (n := 17) k dX4_buildDirectoryPage_16 rfl (by decide) rfl rfl ?_
    refine v_iload_n (n := 18) k dX4_buildDirectoryPage_17 rfl rfl ?_
    refine v_sipush (n := 21) k dX4_buildDirectoryPage_18 (by decide) rfl ?_
    refine v_imul (n := 22) k dX4_buildDirectoryPage_21 rfl ?_
    refine v_istore (n := 24) k dX4_buildDirectoryPage_22 rfl (by decide) rfl rfl ?_
    refine v_iconst (n := 25) k dX4_buildDirectoryPage_24 rfl ?_
    refine v_iload_n (n := 26) k dX4_buildDirectoryPage_25 rfl rfl ?_
    refine v_ishl (n := 27) k (((1 * 2 ^ q : Nat) : Int)) (ax_shl rfl hQI (by omega) (by omega)) dX4_buildDirectoryPage_26 rfl ?_
    refine v_istore (n := 29) k dX4_buildDirectoryPage_27 rfl (by decide) rfl rfl ?_
    refine v_aload_n (n := 30) k dX4_buildDirectoryPage_29 rfl rfl ?_
    refine v_get (n := 33) k ciX4 0 2 (by decide) fl_X4_28 rfl rfl dX4_buildDirectoryPage_30 rfl ?_
    refine v_upV (n := 36) k [3, 4] 3 (z_X2_clear) miX2_clear ml_X4_212 (by decide) (by decide) rfl (by decide) rfl rfl rfl rfl (Nat.le_of_ble_eq_true rfl) ⟨Nat.zero_le _, Nat.zero_le _⟩ dX4_buildDirectoryPage_33 rfl ?_
    rw [dpi_0 C q kk]
    rintro _ _ ⟨rfl, rfl⟩
    dsimp only [wput, List.set, Option.toList, List.nil_append, List.cons_append]
    refine v_iconst (n := 37) k dX4_buildDirectoryPage_36 rfl ?_
    refine v_istore (n := 39) k dX4_buildDirectoryPage_37 rfl (by decide) rfl rfl ?_
    first
    | (have h8 : bI (decide (C 0 < q)) = 1 := bI_t (decide_eq_true (by omega))
       have h0 := lp_X4_buildDirectoryPage k hq hw hKI hQI hq9 hq15 hkk 257 0 0 (by omega) (by omega) rfl
       rw [h8, ← Nat.one_mul (2 ^ q), show ((kk * 256 : Nat) : Int) = KI * 256 by omega] at h0
       exact h0)
    | (have h8 : bI (decide (C 0 < q)) = 0 := bI_f (decide_eq_false (by omega))
       have h0 := lp_X4_buildDirectoryPage k hq hw hKI hQI hq9 hq15 hkk 257 0 0 (by omega) (by omega) rfl
       rw [h8, ← Nat.one_mul (2 ^ q), show ((kk * 256 : Nat) : Int) = KI * 256 by omega] at h0
       exact h0)
  · refine v_iconst (n := 12) k dX4_buildDirectoryPage_11 rfl ?_
    refine v_goto (t := 16) k dX4_buildDirectoryPage_12 (by decide) ?_
    refine v_istore_n (n := 17) k dX4_buildDirectoryPage_16 rfl (by decide) rfl rfl ?_
    refine v_iload_n (n := 18) k dX4_buildDirectoryPage_17 rfl rfl ?_
    refine v_sipush (n := 21) k dX4_buildDirectoryPage_18 (by decide) rfl ?_
    refine v_imul (n := 22) k dX4_buildDirectoryPage_21 rfl ?_
    refine v_istore (n := 24) k dX4_buildDirectoryPage_22 rfl (by decide) rfl rfl ?_
    refine v_iconst (n := 25) k dX4_buildDirectoryPage_24 rfl ?_
    refine v_iload_n (n := 26) k dX4_buildDirectoryPage_25 rfl rfl ?_
    refine v_ishl (n := 27) k (((1 * 2 ^ q : Nat) : Int)) (ax_shl rfl hQI (by omega) (by omega)) dX4_buildDirectoryPage_26 rfl ?_
    refine v_istore (n := 29) k dX4_buildDirectoryPage_27 rfl (by decide) rfl rfl ?_
    refine v_aload_n (n := 30) k dX4_buildDirectoryPage_29 rfl rfl ?_
    refine v_get (n := 33) k ciX4 0 2 (by decide) fl_X4_28 rfl rfl dX4_buildDirectoryPage_30 rfl ?_
    refine v_upV (n := 36) k [3, 4] 3 (z_X2_clear) miX2_clear ml_X4_212 (by decide) (by decide) rfl (by decide) rfl rfl rfl rfl (Nat.le_of_ble_eq_true rfl) ⟨Nat.zero_le _, Nat.zero_le _⟩ dX4_buildDirectoryPage_33 rfl ?_
    rw [dpi_0 C q kk]
    rintro _ _ ⟨rfl, rfl⟩
    dsimp only [wput, List.set, Option.toList, List.nil_append, List.cons_append]
    refine v_iconst (n := 37) k dX4_buildDirectoryPage_36 rfl ?_
    refine v_istore (n := 39) k dX4_buildDirectoryPage_37 rfl (by decide) rfl rfl ?_
    first
    | (have h8 : bI (decide (C 0 < q)) = 1 := bI_t (decide_eq_true (by omega))
       have h0 := lp_X4_buildDirectoryPage k hq hw hKI hQI hq9 hq15 hkk 257 0 0 (by omega) (by omega) rfl
       rw [h8, ← Nat.one_mul (2 ^ q), show ((kk * 256 : Nat) : Int) = KI * 256 by omega] at h0
       exact h0)
    | (have h8 : bI (decide (C 0 < q)) = 0 := bI_f (decide_eq_false (by omega))
       have h0 := lp_X4_buildDirectoryPage k hq hw hKI hQI hq9 hq15 hkk 257 0 0 (by omega) (by omega) rfl
       rw [h8, ← Nat.one_mul (2 ^ q), show ((kk * 256 : Nat) : Int) = KI * 256 by omega] at h0
       exact h0)
end
section
/-- the images of a CHANGE, the first one in page 2 + i -/
def sImg : DA → Nat → List (Nat × (Nat → Nat)) → Bool × DA
  | a, _, [] => (true, a)
  | a, i, c :: l => match sW a (2 + i) c.2 with
    | (false, a') => (false, a')
    | (true, a') => sImg a' (i + 1) l
/-- alike but for the images -/
def AGR (lg : Nat) (C C' : Nat → Nat) : Prop := ∀ p, (p < 2 ∨ lg + 2 ≤ p) → ∀ i, i < 256 → pb C' p i = pb C p i
theorem AGR.rf {lg : Nat} {C : Nat → Nat} : AGR lg C C := fun _ _ _ _ => rfl
theorem AGR.tr {lg : Nat} {C C' C'' : Nat → Nat} (h : AGR lg C C') (g : AGR lg C' C'') : AGR lg C C'' := fun p hp i hi => (g p hp i hi).trans (h p hp i hi)
theorem AGR.wr {lg q : Nat} {C f : Nat → Nat} (h1 : 2 ≤ q) (h2 : q < lg + 2) : AGR lg C (wrp C q f) := fun p hp i hi => wrp_out hi (by omega)
theorem AGR.c0 {lg : Nat} {C C' : Nat → Nat} (h : AGR lg C C') {j : Nat} (hj : j < 256) : C' j = C j := by
  have := h 0 (Or.inl (by omega)) j hj
  rw [pb0, pb0] at this
  exact this
theorem AGR.HA {lg pg : Nat} {C C' : Nat → Nat} (h : AGR lg C C') (hw : DW C pg lg) : HA C C' := by
  refine ⟨fun j hj => h.c0 hj, fun k hk i hi => h _ (Or.inr ?_) i hi⟩
  rw [pb0]
  exact hw.2.2.2.2.2.1 k hk
theorem AGR.dw {lg pg : Nat} {C C' : Nat → Nat} (h : AGR lg C C') (hw : DW C pg lg) (hC : ∀ j, C' j < 256) : DW C' pg lg := by
  obtain ⟨w1, w2, w3, w4, w5, w6, w7⟩ := hw
  have h7 := pF_lt w4
  have e0 : C' 0 = C 0 := h.c0 (by omega)
  refine ⟨w1, w2, hC, by rw [e0]; exact w4, fun k hk => ?_, fun k hk => ?_, w7⟩
  · rw [e0] at hk
    rw [h.c0 (by omega)]
    exact w5 k hk
  · rw [e0] at hk
    rw [h.c0 (by omega)]
    exact w6 k hk
theorem sW_agr {C f : Nat → Nat} {wt al dn : Int} {q lg : Nat} {b : Bool} {C2 : Nat → Nat} {wt2 al2 dn2 : Int} (h : sW (C, wt, al, dn) q f = (b, C2, wt2, al2, dn2)) (h1 : 2 ≤ q) (h2 : q < lg + 2) : AGR lg C C2 := by
  rcases sW_1 h with e | e
  · rw [e]; exact AGR.rf
  · rw [e]; exact AGR.wr h1 h2
theorem sW_lt {C f : Nat → Nat} {wt al dn : Int} {q : Nat} {b : Bool} {C2 : Nat → Nat} {wt2 al2 dn2 : Int} (h : sW (C, wt, al, dn) q f = (b, C2, wt2, al2, dn2)) (hC : ∀ j, C j < 256) (hf : ∀ j, j < 256 → f j < 256) : ∀ j, C2 j < 256 := by
  rcases sW_1 h with e | e
  · rw [e]; exact hC
  · rw [e]; exact wrp_lt hC hf
def rti (C : Nat → Nat) (kk a b q n : Nat) : Nat → Nat := fun j => if 256 ≤ j then 0 else if j < n ∧ a ≤ kk * 256 + j ∧ kk * 256 + j < b then q else pb C (pb C 0 (1 + kk)) j
/-- page kk of the directory, where the entries a to b - 1 tell q -/
def rtp (C : Nat → Nat) (kk a b q : Nat) : Nat → Nat := rti C kk a b q 256
theorem rti_0 (C : Nat → Nat) (kk a b q : Nat) {j : Nat} (hj : j < 256) : pb C (pb C 0 (1 + kk)) j = rti C kk a b q 0 j := by
  unfold rti
  rw [if_neg (by omega), if_neg (by omega)]
theorem rti_t {C : Nat → Nat} {kk a b q n : Nat} (h : a ≤ kk * 256 + n ∧ kk * 256 + n < b) (hq : q < 256) (hn : n < 256) : upN (rti C kk a b q n) n (q % 256) = rti C kk a b q (n + 1) := by
  funext j
  unfold upN rti
  by_cases e : j = n
  · subst e
    rw [if_pos rfl, if_neg (by omega), if_pos ⟨by omega, h⟩, Nat.mod_eq_of_lt hq]
  · rw [if_neg e]
    by_cases g0 : 256 ≤ j
    · rw [if_pos g0, if_pos g0]
    rw [if_neg g0, if_neg g0]
    by_cases g : j < n ∧ a ≤ kk * 256 + j ∧ kk * 256 + j < b
    · rw [if_pos g, if_pos ⟨by omega, g.2⟩]
    · rw [if_neg g, if_neg (by omega)]
theorem rti_f {C : Nat → Nat} {kk a b q n : Nat} (h : ¬ (a ≤ kk * 256 + n ∧ kk * 256 + n < b)) : rti C kk a b q n = rti C kk a b q (n + 1) := by
  funext j
  unfold rti
  by_cases g0 : 256 ≤ j
  · rw [if_pos g0, if_pos g0]
  rw [if_neg g0, if_neg g0]
  by_cases g : j < n ∧ a ≤ kk * 256 + j ∧ kk * 256 + j < b
  · rw [if_pos g, if_pos ⟨by omega, g.2⟩]
  · rw [if_neg g]
    by_cases g2 : j < n + 1 ∧ a ≤ kk * 256 + j ∧ kk * 256 + j < b
    · have : j = n := by omega
      subst this
      exact absurd g2.2 h
    · rw [if_neg g2]
/-- the directory's pages, from kk on, in which the entries a to b - 1 tell q now -/
def rtL (C : Nat → Nat) (a b q : Nat) : Nat → Nat → List (Nat × (Nat → Nat))
  | 0, _ => []
  | m + 1, kk => (pb C 0 (1 + kk), rtp C kk a b q) :: rtL C a b q m (kk + 1)
theorem rtp_agr {lg pg : Nat} {C C' : Nat → Nat} (h : AGR lg C C') (hw : DW C pg lg) {kk a b q : Nat} (hk : kk < pF (C 0)) : rtp C' kk a b q = rtp C kk a b q := by
  funext j
  have h7 := pF_lt hw.2.2.2.1
  unfold rtp rti
  by_cases g0 : 256 ≤ j
  · rw [if_pos g0, if_pos g0]
  rw [if_neg g0, if_neg g0, pb0 C', h.c0 (by omega), ← pb0 C, (h.HA hw).2 kk hk j (by omega)]
theorem rtL_agr {lg pg : Nat} {C C' : Nat → Nat} (h : AGR lg C C') (hw : DW C pg lg) {a b q : Nat} : ∀ (m kk : Nat), kk + m ≤ pF (C 0) → rtL C' a b q m kk = rtL C a b q m kk := by
  intro m
  induction m with
  | zero => intro kk _; rfl
  | succ m ih =>
    intro kk hk
    have h7 := pF_lt hw.2.2.2.1
    rw [rtL, rtL, rtp_agr h hw (by omega), ih (kk + 1) (by omega), pb0, pb0, h.c0 (by omega)]
theorem rtL_len (C : Nat → Nat) (a b q m kk : Nat) : (rtL C a b q m kk).length = m := by
  induction m generalizing kk with
  | zero => rfl
  | succ m ih => rw [rtL, List.length_cons, ih]
theorem rtL_fst (C : Nat → Nat) (a b q m kk : Nat) : ∀ x ∈ (rtL C a b q m kk).map Prod.fst, ∃ t, kk ≤ t ∧ t < kk + m ∧ x = pb C 0 (1 + t) := by
  induction m generalizing kk with
  | zero => intro x hx; simp [rtL] at hx
  | succ m ih =>
    intro x hx
    rw [rtL, List.map_cons] at hx
    rcases List.mem_cons.mp hx with e | hx
    · exact ⟨kk, by omega, by omega, e⟩
    · obtain ⟨t, h1, h2, h3⟩ := ih (kk + 1) x hx
      exact ⟨t, by omega, by omega, h3⟩
theorem rtp_lt {C : Nat → Nat} {kk a b q : Nat} (hC : ∀ j, C j < 256) (hq : q < 256) : ∀ j, j < 256 → rtp C kk a b q j < 256 := by
  intro j _
  unfold rtp rti
  split
  · decide
  · split
    · exact hq
    · exact hC _
set_option maxHeartbeats 1000000 in
set_option maxRecDepth 20000 in
theorem lp_X4_retell_i {D : va_G} {cI cB cJ cZ : ClassId} {x : Kx} {hx hd hc hk hch hb hbb hh ht ha hj hi hjb : Nat} {an : Int} {pg lg : Nat} {K : Nat → Nat} {A B Q : Int} {a b q : Nat} {C : Nat → Nat} {wt al dn ko : Int} {ps : List Nat} {kk : Nat} {L KI PL : Int} {post : Option Value → va_W → Prop} (k : Kf x cX4_retell 9 yX4_retell.cls (some .boolean) D (TY cI cB cJ cZ) ({ frames := 4, cells := 0, slots := 0, locals := 107 })) (hq : isU x D [hx, hd, hc, hk, hch, hb, hbb, hj, hjb] (post)) (hA : A = (a : Int)) (hB : B = (b : Int)) (hQ : Q = (q : Int)) (hab : a < b) (hq256 : q < 256) (hg : pg ≤ 255) (hb9 : b ≤ 32768) (hkk : kk ≤ 256) (hKI : KI = (kk : Int)) (hc9 : Vw x 9 (fun q => q ∈ [hx, hd, hc, hk, hch, hb, hbb, hj, hjb]) D true 0 0 [oHash hx hd hch hb hh ht ha an, oDisk hd hc hk ko pg lg wt al dn, aN cI hc 65280 C, aN cI hk 255 K, oChange hch hd hj hi, oPage hb hbb, aN cI hbb 256 (rtp C kk a b q), oPage hj hjb, aN cI hjb 256 (jpg ps)] 100 [(0, .ref hx), (1, .int (iI A)), (2, .int (iI B)), (3, .int (iI Q)), (4, .int (iI L)), (5, .int (iI KI)), (6, .int (iI PL))] []) : ∀ (m : Nat) (j : Nat) (J : Int), 256 < j + m → j ≤ 256 → J = (j : Int) → Vw x 9 (fun q => q ∈ [hx, hd, hc, hk, hch, hb, hbb, hj, hjb]) D true 0 0 [oHash hx hd hch hb hh ht ha an, oDisk hd hc hk ko pg lg wt al dn, aN cI hc 65280 C, aN cI hk 255 K, oChange hch hd hj hi, oPage hb hbb, aN cI hbb 256 (rti C kk a b q j), oPage hj hjb, aN cI hjb 256 (jpg ps)] 58 [(0, .ref hx), (1, .int (iI A)), (2, .int (iI B)), (3, .int (iI Q)), (4, .int (iI L)), (5, .int (iI KI)), (6, .int (iI PL)), (7, .int (iI (KI * 256))), (8, .int (iI J))] [] := by
  intro m
  induction m with
  | zero => intro j J hm hj e1; omega
  | succ m ih =>
    intro j J hm hj e1
    refine v_iload (n := 60) k dX4_retell_58 rfl rfl ?_
    refine v_sipush (n := 63) k dX4_retell_60 (by decide) rfl ?_
    refine v_icmp_ge (n := 66) (t := 100) k (⟨by omega, by omega⟩) (⟨by omega, by omega⟩) dX4_retell_63 (by decide) rfl (fun c_63 => ?_) (fun c_63 => ?_)
    · have e9 : j = 256 := by omega
      subst e9
      refine v_lvf [(0, .ref hx), (1, .int (iI A)), (2, .int (iI B)), (3, .int (iI Q)), (4, .int (iI L)), (5, .int (iI KI)), (6, .int (iI PL))] ⟨rfl, rfl, rfl, rfl, rfl, rfl, rfl, trivial⟩ ?_
      exact hc9
    · refine v_iload (n := 68) k dX4_retell_66 rfl rfl ?_
      refine v_iload (n := 70) k dX4_retell_68 rfl rfl ?_
      refine v_iadd (n := 71) k dX4_retell_70 rfl ?_
      refine v_iload_n (n := 72) k dX4_retell_71 rfl rfl ?_
      refine v_icmp_lt (n := 75) (t := 94) k (⟨by omega, by omega⟩) (⟨by omega, by omega⟩) dX4_retell_72 (by decide) rfl (fun c_72 => ?_) (fun c_72 => ?_)
      · refine v_iinc (n := 97) k dX4_retell_94 rfl (by decide) rfl rfl rfl ?_
        refine v_goto (t := 58) k dX4_retell_97 (by decide) ?_
        first
        | exact ih (j + 1) (J + 1) (by omega) (by omega) (by omega)
        | (have h0 := ih (j + 1) (J + 1) (by omega) (by omega) (by omega)
           rw [← rti_f (by omega)] at h0
           exact h0)
      · refine v_iload (n := 77) k dX4_retell_75 rfl rfl ?_
        refine v_iload (n := 79) k dX4_retell_77 rfl rfl ?_
        refine v_iadd (n := 80) k dX4_retell_79 rfl ?_
        refine v_iload_n (n := 81) k dX4_retell_80 rfl rfl ?_
        refine v_icmp_ge (n := 84) (t := 94) k (⟨by omega, by omega⟩) (⟨by omega, by omega⟩) dX4_retell_81 (by decide) rfl (fun c_81 => ?_) (fun c_81 => ?_)
        · refine v_iinc (n := 97) k dX4_retell_94 rfl (by decide) rfl rfl rfl ?_
          refine v_goto (t := 58) k dX4_retell_97 (by decide) ?_
          first
          | exact ih (j + 1) (J + 1) (by omega) (by omega) (by omega)
          | (have h0 := ih (j + 1) (J + 1) (by omega) (by omega) (by omega)
             rw [← rti_f (by omega)] at h0
             exact h0)
        · refine v_aload_n (n := 85) k dX4_retell_84 rfl rfl ?_
          refine v_get (n := 88) k ciX4 0 2 (by decide) fl_X4_28 rfl rfl dX4_retell_85 rfl ?_
          refine v_iload (n := 90) k dX4_retell_88 rfl rfl ?_
          refine v_iload_n (n := 91) k dX4_retell_90 rfl rfl ?_
          refine v_upV (n := 94) k [5, 6] 5 (z_X2_set (i := j) (v := q) e1 hQ (by omega)) miX2_set ml_X4_215 (by decide) (by decide) rfl (by decide) rfl rfl rfl rfl (Nat.le_of_ble_eq_true rfl) ⟨Nat.zero_le _, Nat.zero_le _⟩ dX4_retell_91 rfl ?_
          rw [rti_t ⟨by omega, by omega⟩ hq256 (by omega)]
          rintro _ _ ⟨rfl, rfl⟩
          dsimp only [wput, List.set, Option.toList, List.nil_append, List.cons_append]
          refine v_iinc (n := 97) k dX4_retell_94 rfl (by decide) rfl rfl rfl ?_
          refine v_goto (t := 58) k dX4_retell_97 (by decide) ?_
          first
          | exact ih (j + 1) (J + 1) (by omega) (by omega) (by omega)
          | (have h0 := ih (j + 1) (J + 1) (by omega) (by omega) (by omega)
             rw [← rti_f (by omega)] at h0
             exact h0)
set_option maxHeartbeats 1000000 in
set_option maxRecDepth 20000 in
theorem lp_X4_retell {D : va_G} {cI cB cJ cZ : ClassId} {x : Kx} {hx hd hc hk hch hb hbb hh ht ha hj hi hjb : Nat} {an : Int} {pg lg : Nat} {K : Nat → Nat} {A B Q : Int} {a b q : Nat} {C0 : Nat → Nat} {a0 : DA} {ps0 : List Nat} (k : Kf x cX4_retell 9 yX4_retell.cls (some .boolean) D (TY cI cB cJ cZ) ({ frames := 4, cells := 0, slots := 0, locals := 107 })) (hq : isU x D [hx, hd, hc, hk, hch, hb, hbb, hj, hjb] (fun r w1 => ∃ b2 C2 wt2 al2 dn2 ko2 fj fb, sImg a0 ps0.length (rtL C0 a b q ((b - 1) / 256 + 1 - a / 256) (a / 256)) = (b2, C2, wt2, al2, dn2) ∧ (b2 = true → fj = jpg (ps0 ++ (rtL C0 a b q ((b - 1) / 256 + 1 - a / 256) (a / 256)).map Prod.fst)) ∧ KS ko2 K C2 pg lg ∧ in32 al2 ∧ (∀ j, C2 j < 256) ∧ r = some (.int (iI (bI b2))) ∧ w1 = [oHash hx hd hch hb hh ht ha an, oDisk hd hc hk ko2 pg lg wt2 al2 dn2, aN cI hc 65280 C2, aN cI hk 255 K, oChange hch hd hj hi, oPage hb hbb, aN cI hbb 256 (fb), oPage hj hjb, aN cI hjb 256 (fj)])) (hA : A = (a : Int)) (hB : B = (b : Int)) (hQ : Q = (q : Int)) (hab : a < b) (hq256 : q < 256) (hg : pg ≤ 255) (hw : DW C0 pg lg) (hb9 : b ≤ 2 ^ C0 0) (hlp : lg + 4 ≤ pg) : ∀ (m : Nat) (kk : Nat) (KI : Int) (C : Nat → Nat) (wt al dn ko : Int) (fb : Nat → Nat) (ps : List Nat), (b - 1) / 256 + 1 < kk + m → kk ≤ (b - 1) / 256 + 1 → KI = (kk : Int) → AGR lg C0 C → (∀ j, C j < 256) → sImg a0 ps0.length (rtL C0 a b q ((b - 1) / 256 + 1 - a / 256) (a / 256)) = sImg (C, wt, al, dn) ps.length (rtL C0 a b q ((b - 1) / 256 + 1 - kk) kk) → ps0 ++ (rtL C0 a b q ((b - 1) / 256 + 1 - a / 256) (a / 256)).map Prod.fst = ps ++ (rtL C0 a b q ((b - 1) / 256 + 1 - kk) kk).map Prod.fst → KS ko K C pg lg → in32 al → ps.length + ((b - 1) / 256 + 1 - kk) ≤ lg → Vw x 9 (fun q => q ∈ [hx, hd, hc, hk, hch, hb, hbb, hj, hjb]) D true 0 0 [oHash hx hd hch hb hh ht ha an, oDisk hd hc hk ko pg lg wt al dn, aN cI hc 65280 C, aN cI hk 255 K, oChange hch hd hj hi, oPage hb hbb, aN cI hbb 256 (fb), oPage hj hjb, aN cI hjb 256 (jpg ps)] 16 [(0, .ref hx), (1, .int (iI A)), (2, .int (iI B)), (3, .int (iI Q)), (4, .int (iI (((b - 1) / 256 : Nat) : Int))), (5, .int (iI KI))] [] := by
  intro m
  induction m with
  | zero => intro kk KI C wt al dn ko fb ps hm hk9 e1 hag hC e2 e3 hks hal hpl; omega
  | succ m ih =>
    intro kk KI C wt al dn ko fb ps hm hk9 e1 hag hC e2 e3 hks hal hpl
    obtain ⟨w1, w2, w3, w4, w5, w6, w7⟩ := id hw
    have hp15 : 2 ^ C0 0 ≤ 32768 := Nat.le_trans (Nat.pow_le_pow_right (n := 2) (j := 15) (by decide) w4) (by decide)
    have h7 := pF_lt w4
    refine v_iload (n := 18) k dX4_retell_16 rfl rfl ?_
    refine v_iload (n := 20) k dX4_retell_18 rfl rfl ?_
    refine v_icmp_gt (n := 23) (t := 124) k (⟨by omega, by omega⟩) (⟨by omega, by omega⟩) dX4_retell_20 (by decide) rfl (fun c_20 => ?_) (fun c_20 => ?_)
    · refine v_iconst (n := 125) k dX4_retell_124 rfl ?_
      refine v_zretU k (by decide) hq ?_ rfl dX4_retell_125
      have e9 : (b - 1) / 256 + 1 - kk = 0 := by omega
      refine ⟨true, C, wt, al, dn, ko, jpg ps, _, ?_, fun _ => ?_, hks, hal, hC, rfl, rfl⟩
      · rw [e2, e9]
        rfl
      · rw [e3, e9]
        simp [rtL]
    · have hkp : kk < pF (C0 0) := by
        have := pF_idx (d := C0 0) (i := b - 1) (by omega)
        omega
      have hwC := hag.dw hw hC
      have eD : pb C 0 (1 + kk) = pb C0 0 (1 + kk) := by rw [pb0, pb0]; exact hag.c0 (by omega)
      have hmr : (b - 1) / 256 + 1 - kk = ((b - 1) / 256 + 1 - (kk + 1)) + 1 := by omega
      refine v_aload_n (n := 24) k dX4_retell_23 rfl rfl ?_
      refine v_get (n := 27) k ciX4 0 0 (by decide) fl_X4_10 rfl rfl dX4_retell_24 rfl ?_
      refine v_iload (n := 29) k dX4_retell_27 rfl rfl ?_
      refine v_rdVi (n := 32) k [1, 2] 1 (z_X1_directoryPage hwC (kk := kk) e1 (by omega)) miX1_directoryPage ml_X4_218 (by decide) (by decide) rfl (by decide) rfl rfl rfl rfl (Nat.le_of_ble_eq_true rfl) ⟨Nat.zero_le _, Nat.zero_le _⟩ dX4_retell_29 rfl ?_
      refine v_istore (n := 34) k dX4_retell_32 rfl (by decide) rfl rfl ?_
      refine v_iload (n := 36) k dX4_retell_34 rfl rfl ?_
      refine v_sipush (n := 39) k dX4_retell_36 (by decide) rfl ?_
      refine v_imul (n := 40) k dX4_retell_39 rfl ?_
      refine v_istore (n := 42) k dX4_retell_40 rfl (by decide) rfl rfl ?_
      refine v_aload_n (n := 43) k dX4_retell_42 rfl rfl ?_
      refine v_get (n := 46) k ciX4 0 0 (by decide) fl_X4_10 rfl rfl dX4_retell_43 rfl ?_
      refine v_iload (n := 48) k dX4_retell_46 rfl rfl ?_
      refine v_aload_n (n := 49) k dX4_retell_48 rfl rfl ?_
      refine v_get (n := 52) k ciX4 0 2 (by decide) fl_X4_28 rfl rfl dX4_retell_49 rfl ?_
      refine v_upV (n := 55) k [1, 2, 5, 6] 1 (z_X1_read (p := pb C 0 (1 + kk)) rfl (dirp_lt hwC (by rw [hag.c0 (by omega)]; exact hkp)) w2) miX1_read ml_X4_250 (by decide) (by decide) rfl (by decide) rfl rfl rfl rfl (Nat.le_of_ble_eq_true rfl) ⟨Nat.zero_le _, Nat.zero_le _⟩ dX4_retell_52 rfl ?_
      rintro _ _ ⟨rfl, rfl⟩
      dsimp only [wput, List.set, Option.toList, List.nil_append, List.cons_append]
      refine v_iconst (n := 56) k dX4_retell_55 rfl ?_
      refine v_istore (n := 58) k dX4_retell_56 rfl (by decide) rfl rfl ?_
      refine v_cg 6 (fun j => iI ((rti C kk a b q 0 j : Nat) : Int)) rfl (fun j hj => by rw [rti_0 C kk a b q hj]) ?_
      refine lp_X4_retell_i k hq hA hB hQ hab hq256 hg (by omega) (kk := kk) (by omega) e1 ?_ 257 0 _ (by omega) (by omega) rfl
      refine v_cg 6 (fun j => iI ((rtp C0 kk a b q j : Nat) : Int)) rfl (fun j hj => by rw [rtp_agr hag hw hkp]) ?_
      refine v_aload_n (n := 101) k dX4_retell_100 rfl rfl ?_
      refine v_get (n := 104) k ciX4 0 1 (by decide) fl_X4_21 rfl rfl dX4_retell_101 rfl ?_
      refine v_aload_n (n := 105) k dX4_retell_104 rfl rfl ?_
      refine v_get (n := 108) k ciX4 0 2 (by decide) fl_X4_28 rfl rfl dX4_retell_105 rfl ?_
      refine v_iload (n := 110) k dX4_retell_108 rfl rfl ?_
      refine v_upV (n := 113) k [4, 1, 2, 3, 7, 8, 5, 6] 4 (z_X0_add (q := pb C 0 (1 + kk)) (ps := ps) rfl (hC _) (by omega) w2 hal hks) miX0_add ml_X4_227 (by decide) (by decide) rfl (by decide) rfl rfl rfl rfl (Nat.le_of_ble_eq_true rfl) ⟨Nat.zero_le _, Nat.zero_le _⟩ dX4_retell_110 rfl ?_
      rintro _ _ ⟨b1, C2, wt2, al2, dn2, ko2, hs1, hks1, hal1, rfl, rfl⟩
      dsimp only [wput, List.set, Option.toList, List.nil_append, List.cons_append]
      refine v_if_ne (n := 116) (t := 118) k (⟨by cases b1 <;> decide, by cases b1 <;> decide⟩) dX4_retell_113 (by decide) rfl (fun c_113 => ?_) (fun c_113 => ?_)
      · have hb9 : b1 = true := by
          cases b1 with
          | true => rfl
          | false => exact absurd rfl c_113
        subst hb9
        refine v_iinc (n := 121) k dX4_retell_118 rfl (by decide) rfl rfl rfl ?_
        refine v_goto (t := 16) k dX4_retell_121 (by decide) ?_
        refine v_lvf [(0, .ref hx), (1, .int (iI A)), (2, .int (iI B)), (3, .int (iI Q)), (4, .int (iI (((b - 1) / 256 : Nat) : Int))), (5, .int (iI (KI + 1)))] ⟨rfl, rfl, rfl, rfl, rfl, rfl, trivial⟩ ?_
        refine ih (kk + 1) _ _ _ _ _ _ _ _ (by omega) (by omega) (by omega) (hag.tr (sW_agr hs1 (by omega) (by omega))) (sW_lt hs1 hC (rtp_lt w3 hq256)) ?_ ?_ hks1 hal1 (by rw [List.length_append]; simp; omega)
        · rw [e2, hmr, rtL, sImg]
          rw [hs1, List.length_append]
          rfl
        · rw [e3, hmr, rtL, List.map_cons, eD, List.append_assoc]
          rfl
      · refine v_iconst (n := 117) k dX4_retell_116 rfl ?_
        refine v_zretU k (by decide) hq ?_ rfl dX4_retell_117
        have hb9 : b1 = false := by
          cases b1 with
          | false => rfl
          | true => exact absurd c_113 (by decide)
        subst hb9
        refine ⟨false, C2, wt2, al2, dn2, ko2, _, _, ?_, fun h => absurd h (by decide), hks1, hal1, sW_lt hs1 hC (rtp_lt w3 hq256), rfl, rfl⟩
        rw [e2, hmr, rtL, sImg]
        rw [hs1]
set_option maxHeartbeats 1000000 in
set_option maxRecDepth 20000 in
theorem z_X4_retell {D : va_G} {cI cB cJ cZ : ClassId} {hx hd hc hk hch hb hbb hh ht ha hj hi hjb : Nat} {an : Int} {pg lg : Nat} {K : Nat → Nat} {A B Q : Int} {a b q : Nat} {C : Nat → Nat} {wt al dn ko : Int} {fb : Nat → Nat} {ps : List Nat} (hA : A = (a : Int)) (hB : B = (b : Int)) (hQ : Q = (q : Int)) (hab : a < b) (hq256 : q < 256) (hw : DW C pg lg) (hb9 : b ≤ 2 ^ C 0) (hks : KS ko K C pg lg) (hal : in32 al) (hpl : ps.length + ((b - 1) / 256 + 1 - a / 256) ≤ lg) (hlp : lg + 4 ≤ pg) : ∀ l, Up l yX4_retell cX4_retell 9 (some .boolean) ({ frames := 4, cells := 0, slots := 0, locals := 107 }) D (TY cI cB cJ cZ) [.ref hx, .int (iI A), .int (iI B), .int (iI Q)] [oHash hx hd hch hb hh ht ha an, oDisk hd hc hk ko pg lg wt al dn, aN cI hc 65280 C, aN cI hk 255 K, oChange hch hd hj hi, oPage hb hbb, aN cI hbb 256 (fb), oPage hj hjb, aN cI hjb 256 (jpg ps)] (fun r w1 => ∃ b2 C2 wt2 al2 dn2 ko2 fj fb, sImg (C, wt, al, dn) ps.length (rtL C a b q ((b - 1) / 256 + 1 - a / 256) (a / 256)) = (b2, C2, wt2, al2, dn2) ∧ (b2 = true → fj = jpg (ps ++ (rtL C a b q ((b - 1) / 256 + 1 - a / 256) (a / 256)).map Prod.fst)) ∧ KS ko2 K C2 pg lg ∧ in32 al2 ∧ (∀ j, C2 j < 256) ∧ r = some (.int (iI (bI b2))) ∧ w1 = [oHash hx hd hch hb hh ht ha an, oDisk hd hc hk ko2 pg lg wt2 al2 dn2, aN cI hc 65280 C2, aN cI hk 255 K, oChange hch hd hj hi, oPage hb hbb, aN cI hbb 256 (fb), oPage hj hjb, aN cI hjb 256 (fj)]) := by
  intro l
  refine Up_of (by decide) (Nat.le_of_ble_eq_true rfl) (fun x k hq => ?_)
  obtain ⟨w1, w2, w3, w4, w5, w6, w7⟩ := id hw
  have hp15 : 2 ^ C 0 ≤ 32768 := Nat.le_trans (Nat.pow_le_pow_right (n := 2) (j := 15) (by decide) w4) (by decide)
  refine v_iload_n (n := 1) k dX4_retell_0 rfl rfl ?_
  refine v_iconst (n := 2) k dX4_retell_1 rfl ?_
  refine v_isub (n := 3) k dX4_retell_2 rfl ?_
  refine v_sipush (n := 6) k dX4_retell_3 (by decide) rfl ?_
  refine v_idiv (n := 7) k ((((b - 1) / 256 : Nat) : Int)) (ax_ne0 (by omega) (by omega)) (ax_div (by omega) rfl (by omega) (by omega) (by omega)) dX4_retell_6 rfl ?_
  refine v_istore (n := 9) k dX4_retell_7 rfl (by decide) rfl rfl ?_
  refine v_iload_n (n := 10) k dX4_retell_9 rfl rfl ?_
  refine v_sipush (n := 13) k dX4_retell_10 (by decide) rfl ?_
  refine v_idiv (n := 14) k (((a / 256 : Nat) : Int)) (ax_ne0 (by omega) (by omega)) (ax_div hA rfl (by omega) (by omega) (by omega)) dX4_retell_13 rfl ?_
  refine v_istore (n := 16) k dX4_retell_14 rfl (by decide) rfl rfl ?_
  exact lp_X4_retell (C0 := C) (a0 := (C, wt, al, dn)) (ps0 := ps) k hq hA hB hQ hab hq256 w2 hw hb9 hlp ((b - 1) / 256 + 2) (a / 256) _ _ _ _ _ _ _ _ (by omega) (by omega) rfl AGR.rf w3 rfl rfl hks hal hpl
end
section
def sChg (a : DA) (chs : List (Nat × (Nat → Nat))) : Bool × DA := match sImg a 0 chs with
  | (false, a') => (false, a')
  | (true, a') => sFin a' (chs.map Prod.fst)
/-- the free pages -/
def freeL (C : Nat → Nat) (pg lg : Nat) : List Nat := (List.range pg).filter (fun p => kdN C lg p == 0)
theorem freeL_asc (C : Nat → Nat) (pg lg : Nat) : (freeL C pg lg).Pairwise (· < ·) := List.Pairwise.filter _ List.pairwise_lt_range
theorem freeL_len (C : Nat → Nat) (lg n : Nat) : (freeL C n lg).length = cntK C lg 0 n := by
  induction n with
  | zero => rfl
  | succ n ih =>
    unfold freeL at ih ⊢
    rw [List.range_succ, List.filter_append, List.length_append, ih, cntK]
    by_cases h : kdN C lg n = 0
    · rw [if_pos h]
      simp [h]
    · rw [if_neg h]
      simp [h]
theorem freeL_mem {C : Nat → Nat} {pg lg t : Nat} (h : t < (freeL C pg lg).length) : (freeL C pg lg).getD t 0 < pg ∧ kdN C lg ((freeL C pg lg).getD t 0) = 0 := by
  have h1 : (freeL C pg lg).getD t 0 ∈ freeL C pg lg := by
    rw [List.getD_eq_getElem?_getD, List.getElem?_eq_getElem h]
    exact List.getElem_mem h
  have h2 := List.mem_filter.mp h1
  exact ⟨List.mem_range.mp h2.1, by simpa using h2.2⟩
/-- the next free page behind one: the next one in the list -/
theorem fr_next {C : Nat → Nat} {pg lg t a : Nat} (h : t < (freeL C pg lg).length) (ha : (t = 0 ∧ a = 0) ∨ (0 < t ∧ a = (freeL C pg lg).getD (t - 1) 0 + 1)) : frN C pg lg a = some ((freeL C pg lg).getD t 0) := by
  have asc := List.pairwise_iff_getElem.mp (freeL_asc C pg lg)
  have e1 : frN C pg lg a = (freeL C pg lg).find? (fun q => decide (a ≤ q)) := by
    unfold frN freeL
    rw [List.find?_filter]
    congr 1
    funext q
    rw [Bool.and_comm]
    simp
    rfl
  have e2 : (freeL C pg lg).getD t 0 = (freeL C pg lg)[t] := by rw [List.getD_eq_getElem?_getD, List.getElem?_eq_getElem h]; rfl
  rw [e1, e2, List.find?_eq_some_iff_getElem]
  refine ⟨decide_eq_true ?_, t, h, rfl, fun j hj => ?_⟩
  · rcases ha with ⟨-, ha⟩ | ⟨h0, ha⟩
    · omega
    · have e3 : (freeL C pg lg).getD (t - 1) 0 = (freeL C pg lg)[t - 1]'(by omega) := by rw [List.getD_eq_getElem?_getD, List.getElem?_eq_getElem (by omega)]; rfl
      have := asc (t - 1) t (by omega) h (by omega)
      omega
  · rcases ha with ⟨h0, -⟩ | ⟨h0, ha⟩
    · omega
    · have e3 : (freeL C pg lg).getD (t - 1) 0 = (freeL C pg lg)[t - 1]'(by omega) := by rw [List.getD_eq_getElem?_getD, List.getElem?_eq_getElem (by omega)]; rfl
      have h9 : ¬ a ≤ (freeL C pg lg)[j]'(by omega) := by
        rcases Nat.lt_or_ge j (t - 1) with g | g
        · have := asc j (t - 1) (by omega) (by omega) g
          omega
        · have : j = t - 1 := by omega
          subst this
          omega
      simp [h9]
/-- where page kk of a directory of depth q goes -/
def plN (C : Nat → Nat) (pg lg kk : Nat) : Nat := if kk < pF (C 0) then pb C 0 (1 + kk) else (freeL C pg lg).getD (kk - pF (C 0)) 0
def rzL (C : Nat → Nat) (pg lg q : Nat) : Nat → Nat → List (Nat × (Nat → Nat))
  | 0, _ => []
  | m + 1, kk => (plN C pg lg kk, dpg C q kk) :: rzL C pg lg q m (kk + 1)
def hdp (C : Nat → Nat) (pg lg q n : Nat) : Nat → Nat := fun j => if j = 0 then q else if j ≤ n then plN C pg lg (j - 1) else 0
theorem hdp_0 {C : Nat → Nat} {pg lg q : Nat} (h : q < 256) : upN (fun _ => 0) 0 (q % 256) = hdp C pg lg q 0 := by
  funext j
  unfold upN hdp
  by_cases e : j = 0
  · rw [if_pos e, if_pos e, Nat.mod_eq_of_lt h]
  · rw [if_neg e, if_neg e, if_neg (by omega)]
theorem hdp_s {C : Nat → Nat} {pg lg q n : Nat} (h : plN C pg lg n < 256) : upN (hdp C pg lg q n) (1 + n) (plN C pg lg n % 256) = hdp C pg lg q (n + 1) := by
  funext j
  unfold upN hdp
  by_cases e : j = 1 + n
  · subst e
    rw [if_pos rfl, if_neg (by omega), if_pos (by omega), Nat.mod_eq_of_lt h, show 1 + n - 1 = n by omega]
  · rw [if_neg e]
    by_cases e0 : j = 0
    · rw [if_pos e0, if_pos e0]
    · rw [if_neg e0, if_neg e0]
      by_cases e1 : j ≤ n
      · rw [if_pos e1, if_pos (by omega)]
      · rw [if_neg e1, if_neg (by omega)]
/-- the CHANGE of a DOUBLING or a HALVING -/
def rzC (C : Nat → Nat) (pg lg q : Nat) : List (Nat × (Nat → Nat)) := rzL C pg lg q (pF q) 0 ++ [(0, hdp C pg lg q (pF q))]
def sRes (a : DA) (pg lg q : Nat) : Int × DA := if cntK a.1 lg 0 pg + pF (a.1 0) < pF q then (1, a) else if lg < pF q + 1 then (2, a) else match sChg a (rzC a.1 pg lg q) with
  | (true, a') => (0, a')
  | (false, a') => (4, a')
theorem dpg_agr {lg pg : Nat} {C C' : Nat → Nat} (h : AGR lg C C') (hw : DW C pg lg) {q kk : Nat} (hq9 : q = C 0 + 1 ∨ q + 1 = C 0) : dpg C' q kk = dpg C q kk := by
  funext j
  have e0 : C' 0 = C 0 := h.c0 (by omega)
  unfold dpg dpi
  by_cases g : j < 256 ∧ kk * 256 + j < 2 ^ q
  · rw [if_pos g, if_pos g]
    unfold eN
    rw [e0]
    refine (h.HA hw).ent hw.2.2.2.1 ?_
    rcases hq9 with e | e
    · rw [if_pos (by omega)]
      have : 2 ^ q = 2 * 2 ^ C 0 := by rw [e, Nat.pow_succ]; omega
      omega
    · rw [if_neg (by omega)]
      have : 2 ^ C 0 = 2 * 2 ^ q := by rw [← e, Nat.pow_succ]; omega
      omega
  · rw [if_neg g, if_neg g]
theorem frI_agr {lg pg : Nat} {C C' : Nat → Nat} (h : AGR lg C C') (hw : DW C pg lg) (a : Nat) : frI C' pg lg a = frI C pg lg a := by
  have e : frN C' pg lg a = frN C pg lg a := by
    unfold frN
    congr 1
    funext p
    rw [(h.HA hw).kd hw.2.2.2.1]
  unfold frI
  rw [e]
theorem JV_of {ps : List Nat} {pg : Nat} (h1 : ps.length + 2 ≤ pg) (h2 : ∀ x ∈ ps, x < pg ∧ x ≠ 1) : JV (jpg ps) pg := by
  refine ⟨h1, fun i hi => ?_⟩
  have hi' : i < ps.length := hi
  have e : jpg ps (1 + i) = ps[i] := by
    unfold jpg
    rw [if_neg (by omega), show 1 + i - 1 = i by omega, List.getD_eq_getElem?_getD, List.getElem?_eq_getElem hi']
    rfl
  rw [e]
  exact h2 _ (List.getElem_mem hi')
theorem rzL_fst (C : Nat → Nat) (pg lg q m kk : Nat) : ∀ x ∈ (rzL C pg lg q m kk).map Prod.fst, ∃ t, kk ≤ t ∧ t < kk + m ∧ x = plN C pg lg t := by
  induction m generalizing kk with
  | zero => intro x hx; simp [rzL] at hx
  | succ m ih =>
    intro x hx
    rw [rzL, List.map_cons] at hx
    rcases List.mem_cons.mp hx with e | hx
    · exact ⟨kk, by omega, by omega, e⟩
    · obtain ⟨t, h1, h2, h3⟩ := ih (kk + 1) x hx
      exact ⟨t, by omega, by omega, h3⟩
theorem rzL_len (C : Nat → Nat) (pg lg q m kk : Nat) : (rzL C pg lg q m kk).length = m := by
  induction m generalizing kk with
  | zero => rfl
  | succ m ih => rw [rzL, List.length_cons, ih]
/-- such a place is behind the images, and on the disk -/
theorem plN_in {C : Nat → Nat} {pg lg q kk : Nat} (hw : DW C pg lg) (hk : kk < pF q) (hc : pF q ≤ cntK C lg 0 pg + pF (C 0)) : lg + 2 ≤ plN C pg lg kk ∧ plN C pg lg kk < pg := by
  unfold plN
  by_cases h : kk < pF (C 0)
  · rw [if_pos h, pb0]
    exact ⟨hw.2.2.2.2.2.1 kk h, hw.2.2.2.2.1 kk h⟩
  · rw [if_neg h]
    have h1 : kk - pF (C 0) < (freeL C pg lg).length := by rw [freeL_len]; omega
    obtain ⟨h2, h3⟩ := freeL_mem h1
    refine ⟨?_, h2⟩
    generalize (freeL C pg lg).getD (kk - pF (C 0)) 0 = x at h2 h3
    unfold kdN at h3
    rcases Nat.lt_or_ge x (lg + 2) with g | g
    · exfalso
      by_cases e0 : x = 0
      · rw [if_pos e0] at h3; omega
      · rw [if_neg e0] at h3
        by_cases e1 : x = 1
        · rw [if_pos e1] at h3; omega
        · rw [if_neg e1, if_pos g] at h3; omega
    · exact g
theorem sImg_1 (a : DA) (i p : Nat) (f : Nat → Nat) : sImg a i [(p, f)] = sW a (2 + i) f := by
  unfold sImg
  cases h : sW a (2 + i) (p, f).2 with
  | mk b a' =>
    cases b <;> rfl
theorem dpg_lt {C : Nat → Nat} {q kk : Nat} (hC : ∀ j, C j < 256) : ∀ j, j < 256 → dpg C q kk j < 256 := by
  intro j _
  unfold dpg dpi
  split
  · exact hC _
  · decide
set_option maxHeartbeats 1000000 in
set_option maxRecDepth 20000 in
theorem lp_X4_resize {D : va_G} {cI cB cJ cZ : ClassId} {x : Kx} {hx hd hc hk hch hb hbb hh hhb ht ha hj hi hjb hib : Nat} {an : Int} {pg lg : Nat} {QI : Int} {q : Nat} {C0 : Nat → Nat} {wt0 al0 dn0 : Int} (k : Kf x cX4_resizeDirectory 7 yX4_resizeDirectory.cls (some .int) D (TY cI cB cJ cZ) ({ frames := 5, cells := 0, slots := 0, locals := 126 })) (hq : isU x D [hx, hd, hc, hk, hch, hb, hbb, hh, hhb, hj, hjb, hi, hib] (fun r w1 => ∃ s2 C2 wt2 al2 dn2 ko2 K2 fb fh fj fi, sRes (C0, wt0, al0, dn0) pg lg q = (s2, C2, wt2, al2, dn2) ∧ KS ko2 K2 C2 pg lg ∧ in32 al2 ∧ r = some (.int (iI s2)) ∧ w1 = [oHash hx hd hch hb hh ht ha an, oDisk hd hc hk ko2 pg lg wt2 al2 dn2, aN cI hc 65280 C2, aN cI hk 255 K2, oChange hch hd hj hi, oPage hb hbb, aN cI hbb 256 (fb), oPage hh hhb, aN cI hhb 256 (fh), oPage hj hjb, aN cI hjb 256 (fj), oPage hi hib, aN cI hib 256 (fi)])) (hw : DW C0 pg lg) (hlp : lg + 4 ≤ pg) (hQI : QI = (q : Int)) (hq9 : q = C0 0 + 1 ∨ q + 1 = C0 0) (hq15 : q ≤ 15) (hc1 : pF q ≤ cntK C0 lg 0 pg + pF (C0 0)) (hc2 : pF q + 1 ≤ lg) : ∀ (m : Nat) (kk : Nat) (KI FR : Int) (C : Nat → Nat) (wt al dn ko : Int) (K fb fi : Nat → Nat) (ps : List Nat), pF q < kk + m → kk ≤ pF q → KI = (kk : Int) → AGR lg C0 C → (∀ j, C j < 256) → sImg (C0, wt0, al0, dn0) 0 (rzC C0 pg lg q) = sImg (C, wt, al, dn) ps.length (rzL C0 pg lg q (pF q - kk) kk ++ [(0, hdp C0 pg lg q (pF q))]) → (rzC C0 pg lg q).map Prod.fst = ps ++ (rzL C0 pg lg q (pF q - kk) kk ++ [(0, hdp C0 pg lg q (pF q))]).map Prod.fst → KS ko K C pg lg → in32 al → ps.length = kk → ((kk ≤ pF (C0 0) ∧ FR = -1) ∨ (pF (C0 0) < kk ∧ FR = (((freeL C0 pg lg).getD (kk - pF (C0 0) - 1) 0 : Nat) : Int))) → Vw x 7 (fun q => q ∈ [hx, hd, hc, hk, hch, hb, hbb, hh, hhb, hj, hjb, hi, hib]) D true 0 0 [oHash hx hd hch hb hh ht ha an, oDisk hd hc hk ko pg lg wt al dn, aN cI hc 65280 C, aN cI hk 255 K, oChange hch hd hj hi, oPage hb hbb, aN cI hbb 256 (fb), oPage hh hhb, aN cI hhb 256 (hdp C0 pg lg q kk), oPage hj hjb, aN cI hjb 256 (jpg ps), oPage hi hib, aN cI hib 256 (fi)] 76 [(0, .ref hx), (1, .int (iI QI)), (2, .int (iI ((pF (C0 0) : Nat) : Int))), (3, .int (iI ((pF q : Nat) : Int))), (4, .int (iI FR)), (5, .int (iI KI))] [] := by
  intro m
  induction m with
  | zero => intro kk KI FR C wt al dn ko K fb fi ps hm hk9 e1 hag hC e2 e3 hks hal hpl hfr; omega
  | succ m ih =>
    intro kk KI FR C wt al dn ko K fb fi ps hm hk9 e1 hag hC e2 e3 hks hal hpl hfr
    obtain ⟨w1, w2, w3, w4, w5, w6, w7⟩ := id hw
    have h7 := pF_lt hq15
    have h8 := pF_lt w4
    have hwC := hag.dw hw hC
    have e0 : C 0 = C0 0 := hag.c0 (by omega)
    refine v_iload (n := 78) k dX4_resizeDirectory_76 rfl rfl ?_
    refine v_iload_n (n := 79) k dX4_resizeDirectory_78 rfl rfl ?_
    refine v_icmp_ge (n := 82) (t := 158) k (⟨by omega, by omega⟩) (⟨by omega, by omega⟩) dX4_resizeDirectory_79 (by decide) rfl (fun c_79 => ?_) (fun c_79 => ?_)
    · have e9 : kk = pF q := by omega
      subst e9
      have e2b : sImg (C0, wt0, al0, dn0) 0 (rzC C0 pg lg q) = sW (C, wt, al, dn) (2 + ps.length) (hdp C0 pg lg q (pF q)) := by
        rw [e2, Nat.sub_self]
        exact sImg_1 _ _ _ _
      have e3b : (rzC C0 pg lg q).map Prod.fst = ps ++ [0] := by
        rw [e3, Nat.sub_self]
        rfl
      refine v_aload_n (n := 159) k dX4_resizeDirectory_158 rfl rfl ?_
      refine v_get (n := 162) k ciX4 0 1 (by decide) fl_X4_21 rfl rfl dX4_resizeDirectory_159 rfl ?_
      refine v_aload_n (n := 163) k dX4_resizeDirectory_162 rfl rfl ?_
      refine v_get (n := 166) k ciX4 0 3 (by decide) fl_X4_32 rfl rfl dX4_resizeDirectory_163 rfl ?_
      refine v_iconst (n := 167) k dX4_resizeDirectory_166 rfl ?_
      refine v_upV (n := 170) k [4, 1, 2, 3, 9, 10, 7, 8] 4 (z_X0_add (q := 0) (ps := ps) rfl (by omega) (by omega) w2 hal hks) miX0_add ml_X4_227 (by decide) (by decide) rfl (by decide) rfl rfl rfl rfl (Nat.le_of_ble_eq_true rfl) ⟨Nat.zero_le _, Nat.zero_le _⟩ dX4_resizeDirectory_167 rfl ?_
      rintro _ _ ⟨b1, C2, wt2, al2, dn2, ko3, hs1, hks1, hal1, rfl, rfl⟩
      dsimp only [wput, List.set, Option.toList, List.nil_append, List.cons_append]
      refine v_if_eq (n := 173) (t := 187) k (⟨by cases b1 <;> decide, by cases b1 <;> decide⟩) dX4_resizeDirectory_170 (by decide) rfl (fun c_170 => ?_) (fun c_170 => ?_)
      · refine v_iconst (n := 188) k dX4_resizeDirectory_187 rfl ?_
        refine v_iretU k hq ?_ rfl dX4_resizeDirectory_188
        have hb9 : b1 = false := by
          cases b1 with
          | false => rfl
          | true => exact absurd c_170 (by decide)
        subst hb9
        refine ⟨4, C2, wt2, al2, dn2, ko3, _, _, _, _, _, ?_, hks1, hal1, rfl, rfl⟩
        rw [show sRes (C0, wt0, al0, dn0) pg lg q = match sChg (C0, wt0, al0, dn0) (rzC C0 pg lg q) with
            | (true, a') => (0, a')
            | (false, a') => (4, a') from by
          unfold sRes
          rw [if_neg (show ¬ cntK C0 lg 0 pg + pF (C0 0) < pF q by omega), if_neg (show ¬ lg < pF q + 1 by omega)]]
        unfold sChg
        rw [e2b, hs1]
      · have hb9 : b1 = true := by
          cases b1 with
          | true => rfl
          | false => exact absurd rfl c_170
        subst hb9
        have hJ9 : JV (jpg (ps ++ [0])) pg := by
          refine JV_of (by simp; omega) (fun x hx => ?_)
          rw [← e3b, rzC, List.map_append] at hx
          rcases List.mem_append.mp hx with h | h
          · obtain ⟨t, t1, t2, t3⟩ := rzL_fst _ _ _ _ _ _ x h
            have := plN_in (q := q) (kk := t) hw (by omega) hc1
            omega
          · simp at h
            omega
        refine v_aload_n (n := 174) k dX4_resizeDirectory_173 rfl rfl ?_
        refine v_get (n := 177) k ciX4 0 1 (by decide) fl_X4_21 rfl rfl dX4_resizeDirectory_174 rfl ?_
        refine v_upV (n := 180) k [4, 1, 2, 3, 9, 10, 11, 12] 4 (z_X0_finish (ps := ps ++ [0]) hJ9 w2 hks1 hal1) miX0_finish ml_X4_231 (by decide) (by decide) rfl (by decide) rfl rfl rfl rfl (Nat.le_of_ble_eq_true rfl) ⟨Nat.zero_le _, Nat.zero_le _⟩ dX4_resizeDirectory_177 rfl ?_
        rintro _ _ ⟨b2, C3, wt3, al3, dn3, ko4, fj3, fi3, hs2, hks2, hal2, rfl, rfl⟩
        dsimp only [wput, List.set, Option.toList, List.nil_append, List.cons_append]
        refine v_if_eq (n := 183) (t := 187) k (⟨by cases b2 <;> decide, by cases b2 <;> decide⟩) dX4_resizeDirectory_180 (by decide) rfl (fun c_180 => ?_) (fun c_180 => ?_)
        · refine v_iconst (n := 188) k dX4_resizeDirectory_187 rfl ?_
          refine v_iretU k hq ?_ rfl dX4_resizeDirectory_188
          have hb9 : b2 = false := by
            cases b2 with
            | false => rfl
            | true => exact absurd c_180 (by decide)
          subst hb9
          refine ⟨4, C3, wt3, al3, dn3, ko4, _, _, _, _, _, ?_, hks2, hal2, rfl, rfl⟩
          rw [show sRes (C0, wt0, al0, dn0) pg lg q = match sChg (C0, wt0, al0, dn0) (rzC C0 pg lg q) with
              | (true, a') => (0, a')
              | (false, a') => (4, a') from by
            unfold sRes
            rw [if_neg (show ¬ cntK C0 lg 0 pg + pF (C0 0) < pF q by omega), if_neg (show ¬ lg < pF q + 1 by omega)]]
          unfold sChg
          rw [e2b, hs1, e3b]
          show (match sFin (C2, wt2, al2, dn2) (ps ++ [0]) with
            | (true, a') => ((0 : Int), a')
            | (false, a') => (4, a')) = _
          rw [hs2]
        · refine v_iconst (n := 184) k dX4_resizeDirectory_183 rfl ?_
          refine v_goto (t := 188) k dX4_resizeDirectory_184 (by decide) ?_
          refine v_iretU k hq ?_ rfl dX4_resizeDirectory_188
          have hb9 : b2 = true := by
            cases b2 with
            | true => rfl
            | false => exact absurd rfl c_180
          subst hb9
          refine ⟨0, C3, wt3, al3, dn3, ko4, _, _, _, _, _, ?_, hks2, hal2, rfl, rfl⟩
          rw [show sRes (C0, wt0, al0, dn0) pg lg q = match sChg (C0, wt0, al0, dn0) (rzC C0 pg lg q) with
              | (true, a') => (0, a')
              | (false, a') => (4, a') from by
            unfold sRes
            rw [if_neg (show ¬ cntK C0 lg 0 pg + pF (C0 0) < pF q by omega), if_neg (show ¬ lg < pF q + 1 by omega)]]
          unfold sChg
          rw [e2b, hs1, e3b]
          show (match sFin (C2, wt2, al2, dn2) (ps ++ [0]) with
            | (true, a') => ((0 : Int), a')
            | (false, a') => (4, a')) = _
          rw [hs2]
    · have eD : pb C 0 (1 + kk) = pb C0 0 (1 + kk) := by rw [pb0, pb0]; exact hag.c0 (by omega)
      have hmr : pF q - kk = (pF q - (kk + 1)) + 1 := by omega
      have hpi := plN_in (q := q) (kk := kk) hw (by omega) hc1
      refine v_aload_n (n := 83) k dX4_resizeDirectory_82 rfl rfl ?_
      refine v_get (n := 86) k ciX4 0 0 (by decide) fl_X4_10 rfl rfl dX4_resizeDirectory_83 rfl ?_
      refine v_iload (n := 88) k dX4_resizeDirectory_86 rfl rfl ?_
      refine v_rdVi (n := 91) k [1, 2] 1 (z_X1_directoryPage hwC (kk := kk) e1 (by omega)) miX1_directoryPage ml_X4_218 (by decide) (by decide) rfl (by decide) rfl rfl rfl rfl (Nat.le_of_ble_eq_true rfl) ⟨Nat.zero_le _, Nat.zero_le _⟩ dX4_resizeDirectory_88 rfl ?_
      rw [eD]
      refine v_istore (n := 93) k dX4_resizeDirectory_91 rfl (by decide) rfl rfl ?_
      refine v_iload (n := 95) k dX4_resizeDirectory_93 rfl rfl ?_
      refine v_iload_n (n := 96) k dX4_resizeDirectory_95 rfl rfl ?_
      refine v_icmp_lt (n := 99) (t := 114) k (⟨by omega, by omega⟩) (⟨by omega, by omega⟩) dX4_resizeDirectory_96 (by decide) rfl (fun c_96 => ?_) (fun c_96 => ?_)
      · have hpl9 : pb C0 0 (1 + kk) = plN C0 pg lg kk := by unfold plN; rw [if_pos (by omega)]
        rw [hpl9]
        refine v_aload_n (n := 115) k dX4_resizeDirectory_114 rfl rfl ?_
        refine v_get (n := 118) k ciX4 0 3 (by decide) fl_X4_32 rfl rfl dX4_resizeDirectory_115 rfl ?_
        refine v_iconst (n := 119) k dX4_resizeDirectory_118 rfl ?_
        refine v_iload (n := 121) k dX4_resizeDirectory_119 rfl rfl ?_
        refine v_iadd (n := 122) k dX4_resizeDirectory_121 rfl ?_
        refine v_iload (n := 124) k dX4_resizeDirectory_122 rfl rfl ?_
        refine v_upV (n := 127) k [7, 8] 7 (z_X2_set (i := 1 + kk) (v := plN C0 pg lg kk) (by omega) rfl (by omega)) miX2_set ml_X4_215 (by decide) (by decide) rfl (by decide) rfl rfl rfl rfl (Nat.le_of_ble_eq_true rfl) ⟨Nat.zero_le _, Nat.zero_le _⟩ dX4_resizeDirectory_124 rfl ?_
        rw [hdp_s (by omega)]
        rintro _ _ ⟨rfl, rfl⟩
        dsimp only [wput, List.set, Option.toList, List.nil_append, List.cons_append]
        refine v_aload_n (n := 128) k dX4_resizeDirectory_127 rfl rfl ?_
        refine v_iload (n := 130) k dX4_resizeDirectory_128 rfl rfl ?_
        refine v_iload_n (n := 131) k dX4_resizeDirectory_130 rfl rfl ?_
        refine v_upV (n := 134) k [0, 1, 2, 5, 6] 0 (z_X4_buildDirectoryPage hwC (kk := kk) (q := q) e1 hQI (by rw [e0]; exact hq9) hq15 (by omega)) miX4_buildDirectoryPage ml_X4_224 (by decide) (by decide) rfl (by decide) rfl rfl rfl rfl (Nat.le_of_ble_eq_true rfl) ⟨Nat.zero_le _, Nat.zero_le _⟩ dX4_resizeDirectory_131 rfl ?_
        rw [dpg_agr hag hw hq9]
        rintro _ _ ⟨rfl, rfl⟩
        dsimp only [wput, List.set, Option.toList, List.nil_append, List.cons_append]
        refine v_aload_n (n := 135) k dX4_resizeDirectory_134 rfl rfl ?_
        refine v_get (n := 138) k ciX4 0 1 (by decide) fl_X4_21 rfl rfl dX4_resizeDirectory_135 rfl ?_
        refine v_aload_n (n := 139) k dX4_resizeDirectory_138 rfl rfl ?_
        refine v_get (n := 142) k ciX4 0 2 (by decide) fl_X4_28 rfl rfl dX4_resizeDirectory_139 rfl ?_
        refine v_iload (n := 144) k dX4_resizeDirectory_142 rfl rfl ?_
        refine v_upV (n := 147) k [4, 1, 2, 3, 9, 10, 5, 6] 4 (z_X0_add (q := plN C0 pg lg kk) (ps := ps) rfl (by omega) (by omega) w2 hal hks) miX0_add ml_X4_227 (by decide) (by decide) rfl (by decide) rfl rfl rfl rfl (Nat.le_of_ble_eq_true rfl) ⟨Nat.zero_le _, Nat.zero_le _⟩ dX4_resizeDirectory_144 rfl ?_
        rintro _ _ ⟨b1, C2, wt2, al2, dn2, ko3, hs1, hks1, hal1, rfl, rfl⟩
        dsimp only [wput, List.set, Option.toList, List.nil_append, List.cons_append]
        refine v_if_ne (n := 150) (t := 152) k (⟨by cases b1 <;> decide, by cases b1 <;> decide⟩) dX4_resizeDirectory_147 (by decide) rfl (fun c_147 => ?_) (fun c_147 => ?_)
        · have hb9 : b1 = true := by
            cases b1 with
            | true => rfl
            | false => exact absurd rfl c_147
          subst hb9
          refine v_iinc (n := 155) k dX4_resizeDirectory_152 rfl (by decide) rfl rfl rfl ?_
          refine v_goto (t := 76) k dX4_resizeDirectory_155 (by decide) ?_
          refine v_lvf [(0, .ref hx), (1, .int (iI QI)), (2, .int (iI ((pF (C0 0) : Nat) : Int))), (3, .int (iI ((pF q : Nat) : Int))), (4, .int (iI FR)), (5, .int (iI (KI + 1)))] ⟨rfl, rfl, rfl, rfl, rfl, rfl, trivial⟩ ?_
          refine ih (kk + 1) _ _ _ _ _ _ _ _ _ _ _ (by omega) (by omega) (by omega) (hag.tr (sW_agr hs1 (by omega) (by omega))) (sW_lt hs1 hC (dpg_lt w3)) ?_ ?_ hks1 hal1 (by simp [hpl]) (Or.inl ⟨by omega, by omega⟩)
          · rw [e2, hmr, rzL, List.cons_append, sImg]
            rw [hs1, List.length_append]
            rfl
          · rw [e3, hmr, rzL, List.cons_append, List.map_cons, List.append_assoc]
            rfl
        · refine v_iconst (n := 151) k dX4_resizeDirectory_150 rfl ?_
          refine v_iretU k hq ?_ rfl dX4_resizeDirectory_151
          have hb9 : b1 = false := by
            cases b1 with
            | false => rfl
            | true => exact absurd c_147 (by decide)
          subst hb9
          refine ⟨4, C2, wt2, al2, dn2, ko3, _, _, _, _, _, ?_, hks1, hal1, rfl, rfl⟩
          rw [show sRes (C0, wt0, al0, dn0) pg lg q = match sChg (C0, wt0, al0, dn0) (rzC C0 pg lg q) with
              | (true, a') => (0, a')
              | (false, a') => (4, a') from by
            unfold sRes
            rw [if_neg (show ¬ cntK C0 lg 0 pg + pF (C0 0) < pF q by omega), if_neg (show ¬ lg < pF q + 1 by omega)]]
          unfold sChg
          rw [e2, hmr, rzL, List.cons_append, sImg]
          rw [hs1]
      · obtain ⟨af, haf, hfr2⟩ : ∃ af : Nat, FR + 1 = (af : Int) ∧ ((kk - pF (C0 0) = 0 ∧ af = 0) ∨ (0 < kk - pF (C0 0) ∧ af = (freeL C0 pg lg).getD (kk - pF (C0 0) - 1) 0 + 1)) := by
          rcases hfr with ⟨h1, h2⟩ | ⟨h1, h2⟩
          · exact ⟨0, by omega, Or.inl ⟨by omega, rfl⟩⟩
          · exact ⟨(freeL C0 pg lg).getD (kk - pF (C0 0) - 1) 0 + 1, by omega, Or.inr ⟨by omega, rfl⟩⟩
        have hfl : kk - pF (C0 0) < (freeL C0 pg lg).length := by rw [freeL_len]; omega
        have hfm := freeL_mem hfl
        have hafp : af ≤ pg := by
          rcases hfr2 with ⟨-, h⟩ | ⟨h1, h⟩
          · omega
          · have := (freeL_mem (C := C0) (pg := pg) (lg := lg) (t := kk - pF (C0 0) - 1) (by omega)).1
            omega
        have hnx : frI C0 pg lg af = ((plN C0 pg lg kk : Nat) : Int) := by
          unfold frI plN
          rw [fr_next hfl hfr2, if_neg (by omega)]
        refine v_aload_n (n := 100) k dX4_resizeDirectory_99 rfl rfl ?_
        refine v_get (n := 103) k ciX4 0 0 (by decide) fl_X4_10 rfl rfl dX4_resizeDirectory_100 rfl ?_
        refine v_iload (n := 105) k dX4_resizeDirectory_103 rfl rfl ?_
        refine v_upV (n := 108) k [1, 2, 3] 1 (z_X1_freeBehind hwC (by omega) (a := af) haf hafp hks) miX1_freeBehind ml_X4_221 (by decide) (by decide) rfl (by decide) rfl rfl rfl rfl (Nat.le_of_ble_eq_true rfl) ⟨Nat.zero_le _, Nat.zero_le _⟩ dX4_resizeDirectory_105 rfl ?_
        rw [frI_agr hag hw, hnx]
        rintro _ _ ⟨rfl, ko2, K2, hks2, rfl⟩
        dsimp only [wput, List.set, Option.toList, List.nil_append, List.cons_append]
        refine v_istore (n := 110) k dX4_resizeDirectory_108 rfl (by decide) rfl rfl ?_
        refine v_iload (n := 112) k dX4_resizeDirectory_110 rfl rfl ?_
        refine v_istore (n := 114) k dX4_resizeDirectory_112 rfl (by decide) rfl rfl ?_
        refine v_aload_n (n := 115) k dX4_resizeDirectory_114 rfl rfl ?_
        refine v_get (n := 118) k ciX4 0 3 (by decide) fl_X4_32 rfl rfl dX4_resizeDirectory_115 rfl ?_
        refine v_iconst (n := 119) k dX4_resizeDirectory_118 rfl ?_
        refine v_iload (n := 121) k dX4_resizeDirectory_119 rfl rfl ?_
        refine v_iadd (n := 122) k dX4_resizeDirectory_121 rfl ?_
        refine v_iload (n := 124) k dX4_resizeDirectory_122 rfl rfl ?_
        refine v_upV (n := 127) k [7, 8] 7 (z_X2_set (i := 1 + kk) (v := plN C0 pg lg kk) (by omega) rfl (by omega)) miX2_set ml_X4_215 (by decide) (by decide) rfl (by decide) rfl rfl rfl rfl (Nat.le_of_ble_eq_true rfl) ⟨Nat.zero_le _, Nat.zero_le _⟩ dX4_resizeDirectory_124 rfl ?_
        rw [hdp_s (by omega)]
        rintro _ _ ⟨rfl, rfl⟩
        dsimp only [wput, List.set, Option.toList, List.nil_append, List.cons_append]
        refine v_aload_n (n := 128) k dX4_resizeDirectory_127 rfl rfl ?_
        refine v_iload (n := 130) k dX4_resizeDirectory_128 rfl rfl ?_
        refine v_iload_n (n := 131) k dX4_resizeDirectory_130 rfl rfl ?_
        refine v_upV (n := 134) k [0, 1, 2, 5, 6] 0 (z_X4_buildDirectoryPage hwC (kk := kk) (q := q) e1 hQI (by rw [e0]; exact hq9) hq15 (by omega)) miX4_buildDirectoryPage ml_X4_224 (by decide) (by decide) rfl (by decide) rfl rfl rfl rfl (Nat.le_of_ble_eq_true rfl) ⟨Nat.zero_le _, Nat.zero_le _⟩ dX4_resizeDirectory_131 rfl ?_
        rw [dpg_agr hag hw hq9]
        rintro _ _ ⟨rfl, rfl⟩
        dsimp only [wput, List.set, Option.toList, List.nil_append, List.cons_append]
        refine v_aload_n (n := 135) k dX4_resizeDirectory_134 rfl rfl ?_
        refine v_get (n := 138) k ciX4 0 1 (by decide) fl_X4_21 rfl rfl dX4_resizeDirectory_135 rfl ?_
        refine v_aload_n (n := 139) k dX4_resizeDirectory_138 rfl rfl ?_
        refine v_get (n := 142) k ciX4 0 2 (by decide) fl_X4_28 rfl rfl dX4_resizeDirectory_139 rfl ?_
        refine v_iload (n := 144) k dX4_resizeDirectory_142 rfl rfl ?_
        refine v_upV (n := 147) k [4, 1, 2, 3, 9, 10, 5, 6] 4 (z_X0_add (q := plN C0 pg lg kk) (ps := ps) rfl (by omega) (by omega) w2 hal hks2) miX0_add ml_X4_227 (by decide) (by decide) rfl (by decide) rfl rfl rfl rfl (Nat.le_of_ble_eq_true rfl) ⟨Nat.zero_le _, Nat.zero_le _⟩ dX4_resizeDirectory_144 rfl ?_
        rintro _ _ ⟨b1, C2, wt2, al2, dn2, ko3, hs1, hks1, hal1, rfl, rfl⟩
        dsimp only [wput, List.set, Option.toList, List.nil_append, List.cons_append]
        refine v_if_ne (n := 150) (t := 152) k (⟨by cases b1 <;> decide, by cases b1 <;> decide⟩) dX4_resizeDirectory_147 (by decide) rfl (fun c_147 => ?_) (fun c_147 => ?_)
        · have hb9 : b1 = true := by
            cases b1 with
            | true => rfl
            | false => exact absurd rfl c_147
          subst hb9
          refine v_iinc (n := 155) k dX4_resizeDirectory_152 rfl (by decide) rfl rfl rfl ?_
          refine v_goto (t := 76) k dX4_resizeDirectory_155 (by decide) ?_
          refine v_lvf [(0, .ref hx), (1, .int (iI QI)), (2, .int (iI ((pF (C0 0) : Nat) : Int))), (3, .int (iI ((pF q : Nat) : Int))), (4, .int (iI ((plN C0 pg lg kk : Nat) : Int))), (5, .int (iI (KI + 1)))] ⟨rfl, rfl, rfl, rfl, rfl, rfl, trivial⟩ ?_
          refine ih (kk + 1) _ _ _ _ _ _ _ _ _ _ _ (by omega) (by omega) (by omega) (hag.tr (sW_agr hs1 (by omega) (by omega))) (sW_lt hs1 hC (dpg_lt w3)) ?_ ?_ hks1 hal1 (by simp [hpl]) (Or.inr ⟨by omega, by
            unfold plN
            rw [if_neg (by omega), show kk + 1 - pF (C0 0) - 1 = kk - pF (C0 0) by omega]⟩)
          · rw [e2, hmr, rzL, List.cons_append, sImg]
            rw [hs1, List.length_append]
            rfl
          · rw [e3, hmr, rzL, List.cons_append, List.map_cons, List.append_assoc]
            rfl
        · refine v_iconst (n := 151) k dX4_resizeDirectory_150 rfl ?_
          refine v_iretU k hq ?_ rfl dX4_resizeDirectory_151
          have hb9 : b1 = false := by
            cases b1 with
            | false => rfl
            | true => exact absurd c_147 (by decide)
          subst hb9
          refine ⟨4, C2, wt2, al2, dn2, ko3, _, _, _, _, _, ?_, hks1, hal1, rfl, rfl⟩
          rw [show sRes (C0, wt0, al0, dn0) pg lg q = match sChg (C0, wt0, al0, dn0) (rzC C0 pg lg q) with
              | (true, a') => (0, a')
              | (false, a') => (4, a') from by
            unfold sRes
            rw [if_neg (show ¬ cntK C0 lg 0 pg + pF (C0 0) < pF q by omega), if_neg (show ¬ lg < pF q + 1 by omega)]]
          unfold sChg
          rw [e2, hmr, rzL, List.cons_append, sImg]
          rw [hs1]
set_option maxHeartbeats 1000000 in
set_option maxRecDepth 20000 in
theorem z_X4_resizeDirectory {D : va_G} {cI cB cJ cZ : ClassId} {hx hd hc hk hch hb hbb hh hhb ht ha hj hi hjb hib : Nat} {an : Int} {pg lg : Nat} {QI : Int} {q : Nat} {C : Nat → Nat} {wt al dn ko : Int} {K fb fh fj fi : Nat → Nat} (hw : DW C pg lg) (hlp : lg + 4 ≤ pg) (hQI : QI = (q : Int)) (hq9 : q = C 0 + 1 ∨ q + 1 = C 0) (hq15 : q ≤ 15) (hks : KS ko K C pg lg) (hal : in32 al) : ∀ l, Up l yX4_resizeDirectory cX4_resizeDirectory 7 (some .int) ({ frames := 5, cells := 0, slots := 0, locals := 126 }) D (TY cI cB cJ cZ) [.ref hx, .int (iI QI)] [oHash hx hd hch hb hh ht ha an, oDisk hd hc hk ko pg lg wt al dn, aN cI hc 65280 C, aN cI hk 255 K, oChange hch hd hj hi, oPage hb hbb, aN cI hbb 256 (fb), oPage hh hhb, aN cI hhb 256 (fh), oPage hj hjb, aN cI hjb 256 (fj), oPage hi hib, aN cI hib 256 (fi)] (fun r w1 => ∃ s2 C2 wt2 al2 dn2 ko2 K2 fb fh fj fi, sRes (C, wt, al, dn) pg lg q = (s2, C2, wt2, al2, dn2) ∧ KS ko2 K2 C2 pg lg ∧ in32 al2 ∧ r = some (.int (iI s2)) ∧ w1 = [oHash hx hd hch hb hh ht ha an, oDisk hd hc hk ko2 pg lg wt2 al2 dn2, aN cI hc 65280 C2, aN cI hk 255 K2, oChange hch hd hj hi, oPage hb hbb, aN cI hbb 256 (fb), oPage hh hhb, aN cI hhb 256 (fh), oPage hj hjb, aN cI hjb 256 (fj), oPage hi hib, aN cI hib 256 (fi)]) := by
  intro l
  refine Up_of (by decide) (Nat.le_of_ble_eq_true rfl) (fun x k hq => ?_)
  obtain ⟨w1, w2, w3, w4, w5, w6, w7⟩ := id hw
  have h7 := pF_lt hq15
  have h8 := pF_lt w4
  have hck := cntK_le C lg 0 pg
  refine v_aload_n (n := 1) k dX4_resizeDirectory_0 rfl rfl ?_
  refine v_get (n := 4) k ciX4 0 0 (by decide) fl_X4_10 rfl rfl dX4_resizeDirectory_1 rfl ?_
  refine v_rdVi (n := 7) k [1, 2] 1 (z_X1_depth hw) miX1_depth ml_X4_160 (by decide) (by decide) rfl (by decide) rfl rfl rfl rfl (Nat.le_of_ble_eq_true rfl) ⟨Nat.zero_le _, Nat.zero_le _⟩ dX4_resizeDirectory_4 rfl ?_
  refine v_rdSi (n := 10) k [] (z_X4_pagesFor (d := C 0) rfl (by omega)) miX4_pagesFor ml_X4_206 (by decide) (by decide) rfl (by decide) rfl rfl (Nat.le_of_ble_eq_true rfl) ⟨Nat.zero_le _, Nat.zero_le _⟩ dX4_resizeDirectory_7 rfl ?_
  refine v_istore_n (n := 11) k dX4_resizeDirectory_10 rfl (by decide) rfl rfl ?_
  refine v_iload_n (n := 12) k dX4_resizeDirectory_11 rfl rfl ?_
  refine v_rdSi (n := 15) k [] (z_X4_pagesFor (d := q) hQI (by omega)) miX4_pagesFor ml_X4_206 (by decide) (by decide) rfl (by decide) rfl rfl (Nat.le_of_ble_eq_true rfl) ⟨Nat.zero_le _, Nat.zero_le _⟩ dX4_resizeDirectory_12 rfl ?_
  refine v_istore_n (n := 16) k dX4_resizeDirectory_15 rfl (by decide) rfl rfl ?_
  refine v_aload_n (n := 17) k dX4_resizeDirectory_16 rfl rfl ?_
  refine v_get (n := 20) k ciX4 0 0 (by decide) fl_X4_10 rfl rfl dX4_resizeDirectory_17 rfl ?_
  refine v_iconst (n := 21) k dX4_resizeDirectory_20 rfl ?_
  refine v_upV (n := 24) k [1, 2, 3] 1 (z_X1_countKind hw w7 (kd := 0) rfl (by omega) hks) miX1_countKind ml_X4_163 (by decide) (by decide) rfl (by decide) rfl rfl rfl rfl (Nat.le_of_ble_eq_true rfl) ⟨Nat.zero_le _, Nat.zero_le _⟩ dX4_resizeDirectory_21 rfl ?_
  rintro _ _ ⟨rfl, ko2, K2, hks2, rfl⟩
  dsimp only [wput, List.set, Option.toList, List.nil_append, List.cons_append]
  refine v_iload_n (n := 25) k dX4_resizeDirectory_24 rfl rfl ?_
  refine v_iload_n (n := 26) k dX4_resizeDirectory_25 rfl rfl ?_
  refine v_isub (n := 27) k dX4_resizeDirectory_26 rfl ?_
  refine v_icmp_ge (n := 30) (t := 32) k (⟨by omega, by omega⟩) (⟨by omega, by omega⟩) dX4_resizeDirectory_27 (by decide) rfl (fun c_27 => ?_) (fun c_27 => ?_)
  · refine v_iload_n (n := 33) k dX4_resizeDirectory_32 rfl rfl ?_
    refine v_iconst (n := 34) k dX4_resizeDirectory_33 rfl ?_
    refine v_iadd (n := 35) k dX4_resizeDirectory_34 rfl ?_
    refine v_aload_n (n := 36) k dX4_resizeDirectory_35 rfl rfl ?_
    refine v_get (n := 39) k ciX4 0 0 (by decide) fl_X4_10 rfl rfl dX4_resizeDirectory_36 rfl ?_
    refine v_rdVi (n := 42) k [1] 1 (z_X1_log) miX1_log ml_X4_157 (by decide) (by decide) rfl (by decide) rfl rfl rfl rfl (Nat.le_of_ble_eq_true rfl) ⟨Nat.zero_le _, Nat.zero_le _⟩ dX4_resizeDirectory_39 rfl ?_
    refine v_icmp_le (n := 45) (t := 47) k (⟨by omega, by omega⟩) (⟨by omega, by omega⟩) dX4_resizeDirectory_42 (by decide) rfl (fun c_42 => ?_) (fun c_42 => ?_)
    · refine v_aload_n (n := 48) k dX4_resizeDirectory_47 rfl rfl ?_
      refine v_get (n := 51) k ciX4 0 1 (by decide) fl_X4_21 rfl rfl dX4_resizeDirectory_48 rfl ?_
      refine v_upV (n := 54) k [4, 9, 10] 4 (z_X0_begin) miX0_begin ml_X4_209 (by decide) (by decide) rfl (by decide) rfl rfl rfl rfl (Nat.le_of_ble_eq_true rfl) ⟨Nat.zero_le _, Nat.zero_le _⟩ dX4_resizeDirectory_51 rfl ?_
      rintro _ _ ⟨rfl, rfl⟩
      dsimp only [wput, List.set, Option.toList, List.nil_append, List.cons_append]
      refine v_aload_n (n := 55) k dX4_resizeDirectory_54 rfl rfl ?_
      refine v_get (n := 58) k ciX4 0 3 (by decide) fl_X4_32 rfl rfl dX4_resizeDirectory_55 rfl ?_
      refine v_upV (n := 61) k [7, 8] 7 (z_X2_clear) miX2_clear ml_X4_212 (by decide) (by decide) rfl (by decide) rfl rfl rfl rfl (Nat.le_of_ble_eq_true rfl) ⟨Nat.zero_le _, Nat.zero_le _⟩ dX4_resizeDirectory_58 rfl ?_
      rintro _ _ ⟨rfl, rfl⟩
      dsimp only [wput, List.set, Option.toList, List.nil_append, List.cons_append]
      refine v_aload_n (n := 62) k dX4_resizeDirectory_61 rfl rfl ?_
      refine v_get (n := 65) k ciX4 0 3 (by decide) fl_X4_32 rfl rfl dX4_resizeDirectory_62 rfl ?_
      refine v_iconst (n := 66) k dX4_resizeDirectory_65 rfl ?_
      refine v_iload_n (n := 67) k dX4_resizeDirectory_66 rfl rfl ?_
      refine v_upV (n := 70) k [7, 8] 7 (z_X2_set (i := 0) (v := q) rfl hQI (by omega)) miX2_set ml_X4_215 (by decide) (by decide) rfl (by decide) rfl rfl rfl rfl (Nat.le_of_ble_eq_true rfl) ⟨Nat.zero_le _, Nat.zero_le _⟩ dX4_resizeDirectory_67 rfl ?_
      rw [hdp_0 (C := C) (pg := pg) (lg := lg) (by omega)]
      rintro _ _ ⟨rfl, rfl⟩
      dsimp only [wput, List.set, Option.toList, List.nil_append, List.cons_append]
      refine v_iconst (n := 71) k dX4_resizeDirectory_70 rfl ?_
      refine v_istore (n := 73) k dX4_resizeDirectory_71 rfl (by decide) rfl rfl ?_
      refine v_iconst (n := 74) k dX4_resizeDirectory_73 rfl ?_
      refine v_istore (n := 76) k dX4_resizeDirectory_74 rfl (by decide) rfl rfl ?_
      exact lp_X4_resize (C0 := C) (wt0 := wt) (al0 := al) (dn0 := dn) k hq hw hlp hQI hq9 hq15 (by omega) (by omega) (pF q + 1) 0 _ _ _ _ _ _ _ _ _ _ [] (by omega) (by omega) rfl AGR.rf w3 rfl rfl hks2 hal rfl (Or.inl ⟨by omega, rfl⟩)
    · refine v_iconst (n := 46) k dX4_resizeDirectory_45 rfl ?_
      refine v_iretU k hq ?_ rfl dX4_resizeDirectory_46
      refine ⟨2, C, wt, al, dn, ko2, K2, _, _, _, _, ?_, hks2, hal, rfl, rfl⟩
      unfold sRes
      rw [if_neg (show ¬ cntK C lg 0 pg + pF (C 0) < pF q by omega), if_pos (show lg < pF q + 1 by omega)]
  · refine v_iconst (n := 31) k dX4_resizeDirectory_30 rfl ?_
    refine v_iretU k hq ?_ rfl dX4_resizeDirectory_31
    refine ⟨1, C, wt, al, dn, ko2, K2, _, _, _, _, ?_, hks2, hal, rfl, rfl⟩
    unfold sRes
    rw [if_pos (show cntK C lg 0 pg + pF (C 0) < pF q by omega)]
end
section
theorem and_high {i k : Nat} (hi : i < 4294967296) (hk : k ≤ 32) : i &&& (4294967296 - 2 ^ k) = i / 2 ^ k * 2 ^ k := by
  have e : 4294967296 - 2 ^ k = 2 ^ k * (2 ^ (32 - k) - 1) := by
    rw [Nat.mul_sub, ← Nat.pow_add, show k + (32 - k) = 32 by omega]
    omega
  rw [e]
  apply Nat.eq_of_testBit_eq
  intro j
  rw [Nat.testBit_and, Nat.testBit_two_pow_mul, Nat.testBit_two_pow_sub_one, Nat.mul_comm (i / 2 ^ k), Nat.testBit_two_pow_mul, Nat.testBit_div_two_pow]
  rcases Nat.lt_or_ge j k with h | h
  · have h1 : ¬ j ≥ k := by omega
    simp [h1]
  · have h1 : j ≥ k := h
    rw [show j - k + k = j by omega]
    rcases Nat.lt_or_ge j 32 with g | g
    · have h2 : j - k < 32 - k := by omega
      simp [h1, h2]
    · have h2 : i.testBit j = false := Nat.testBit_lt_two_pow (Nat.lt_of_lt_of_le hi (Nat.pow_le_pow_right (n := 2) (i := 32) (by decide) g))
      simp [h2]
theorem ax_negmask {z y : Int} {i k : Nat} (hz : z = (i : Int)) (hy : y = -((2 ^ k : Nat) : Int)) (hi : i < 2147483648) (hk : k ≤ 31) : iI z &&& iI y = iI ((i / 2 ^ k * 2 ^ k : Nat) : Int) := by
  subst hz
  subst hy
  have h1 : 2 ^ k ≤ 2 ^ 31 := Nat.pow_le_pow_right (by decide) hk
  have h2 : (2 : Nat) ^ 31 = 2147483648 := by decide
  have e : iI (-((2 ^ k : Nat) : Int)) = iI ((4294967296 - 2 ^ k : Nat) : Int) := by
    have e1 : ((4294967296 - 2 ^ k : Nat) : Int) = -((2 ^ k : Nat) : Int) + 4294967296 := by omega
    rw [e1, ← iI_add]
    have e2 : iI 4294967296 = 0 := by decide
    rw [e2, Int32.add_zero]
  rw [e, ax_and, and_high (by omega) (by omega)]
theorem hsh_congr {f g : Nat → Nat} {a b n : Nat} (h : ∀ j, j < n → f (a + j) = g (b + j)) : hsh f a n = hsh g b n := by
  induction n with
  | zero => rfl
  | succ n ih =>
    unfold hsh
    rw [ih (fun j hj => h j (by omega)), h n (by omega)]
/-- two disks that have the same page p -/
def PG (C C' : Nat → Nat) (p : Nat) : Prop := ∀ i, i < 256 → pb C' p i = pb C p i
theorem pg_rsz {p : Nat} {C C' : Nat → Nat} (h : PG C C' p) {s : Nat} (hs : s + 1 < 256) : rsz C' p s = rsz C p s := by
  unfold rsz
  rw [h s (by omega), h (s + 1) hs]
theorem pg_rst {p : Nat} {C C' : Nat → Nat} (h : PG C C' p) (hb : WB C p) : ∀ r, r ≤ pb C p 1 → rst C' p r = rst C p r := by
  intro r
  induction r with
  | zero => intro _; rfl
  | succ r ih =>
    intro hr
    have e := ih (by omega)
    have hf := hb.fit (r := r) (by omega)
    have hz := rsz_ge C p (rst C p r)
    show rst C' p r + rsz C' p (rst C' p r) = rst C p r + rsz C p (rst C p r)
    rw [e, pg_rsz h (by omega)]
theorem pg_bL {p : Nat} {C C' : Nat → Nat} (h : PG C C' p) : bL C' p = bL C p := by
  unfold bL
  rw [h 2 (by omega), h 3 (by omega)]
theorem pg_WB {p : Nat} {C C' : Nat → Nat} (h : PG C C' p) (hb : WB C p) : WB C' p := by
  have e1 : pb C' p 1 = pb C p 1 := h 1 (by omega)
  refine ⟨fun r hr => ?_, ?_, ?_⟩
  · rw [e1] at hr
    have hf := hb.fit hr
    have hz := rsz_ge C p (rst C p r)
    rw [pg_rst h hb r (by omega), h _ (by omega), h _ (by omega)]
    exact hb.1 r hr
  · rw [e1, pg_rst h hb _ (Nat.le_refl _), pg_bL h]
    exact hb.2.1
  · rw [pg_bL h]
    exact hb.2.2
theorem pg_recL {p : Nat} {C C' : Nat → Nat} (h : PG C C' p) {s : Nat} (hs : s + rsz C p s ≤ 256) : recL C' p s = recL C p s := by
  have hz := rsz_ge C p s
  unfold recL
  rw [pg_rsz h (by omega)]
  apply List.map_congr_left
  intro j hj
  have := List.mem_range.mp hj
  exact h _ (by omega)
theorem pg_rh {p : Nat} {C C' : Nat → Nat} (h : PG C C' p) (hb : WB C p) {r : Nat} (hr : r < pb C p 1) : rh C' p r = rh C p r := by
  have hf := hb.fit hr
  have hz := rsz_ge C p (rst C p r)
  unfold rh
  rw [pg_rst h hb r (by omega), h _ (by omega)]
  apply hsh_congr
  intro j hj
  have := h (rst C p r + 2 + j) (by omega)
  unfold pb at this
  rw [show p * 256 + rst C p r + 2 + j = p * 256 + (rst C p r + 2 + j) by omega]
  exact this
theorem pg_recS {p : Nat} {C C' : Nat → Nat} {sel sel' : Nat → Bool} (h : PG C C' p) (hb : WB C p) (hs : ∀ r, r < pb C p 1 → sel' r = sel r) : recS C' p sel' (pb C' p 1) = recS C p sel (pb C p 1) := by
  rw [h 1 (by omega)]
  have key : ∀ n, n ≤ pb C p 1 → recS C' p sel' n = recS C p sel n := by
    intro n
    induction n with
    | zero => intro _; rfl
    | succ n ih =>
      intro hn
      have hf := hb.fit (r := n) (by omega)
      have e := hs n (by omega)
      cases hv : sel n with
      | true => rw [recS_t (by rw [e, hv]), recS_t hv, ih (by omega), pg_rst h hb n (by omega), pg_recL h hf.2]
      | false => rw [recS_f (by rw [e, hv]), recS_f hv, ih (by omega)]
  exact key _ (Nat.le_refl _)
/-- the records of page p whose bit e is b -/
def halfL (C : Nat → Nat) (p e b : Nat) : List (List Nat) := recS C p (fun r => bitB (rh C p r) e == b) (pb C p 1)
theorem pg_half {p : Nat} {C C' : Nat → Nat} (h : PG C C' p) (hb : WB C p) (e b : Nat) : halfL C' p e b = halfL C p e b := pg_recS h hb (fun r hr => by rw [pg_rh h hb hr])
theorem AGR.pg {lg p : Nat} {C C' : Nat → Nat} (h : AGR lg C C') (hp : lg + 2 ≤ p) : PG C C' p := h p (Or.inr hp)
/-- the first of the entries that tell the bucket of hash h, its depth being e -/
def fstE (C : Nat → Nat) (h e : Nat) : Nat := idx C h / 2 ^ (C 0 - e) * 2 ^ (C 0 - e)
def spF (C : Nat → Nat) (h e : Nat) : Nat := fstE C h e + 2 ^ (C 0 - e) / 2
def spB (C : Nat → Nat) (h e : Nat) : Nat := fstE C h e + 2 ^ (C 0 - e)
/-- how many of the directory's pages have one of the entries a to b - 1 -/
def dpO (a b : Nat) : Nat := (b - 1) / 256 + 1 - a / 256
/-- the CHANGE of a SPLIT of page p for the hash h into the free page q -/
def spC (C : Nat → Nat) (p h q : Nat) : List (Nat × (Nat → Nat)) := (p, bpg (pb C p 0 + 1) (halfL C p (pb C p 0) 0)) :: (q, bpg (pb C p 0 + 1) (halfL C p (pb C p 0) 1)) :: rtL C (spF C h (pb C p 0)) (spB C h (pb C p 0)) q (dpO (spF C h (pb C p 0)) (spB C h (pb C p 0))) (spF C h (pb C p 0) / 256)
def sSpl (a : DA) (pg lg p h : Nat) : Int × DA := match frN a.1 pg lg 0 with
  | none => (1, a)
  | some q => if lg < 2 + dpO (spF a.1 h (pb a.1 p 0)) (spB a.1 h (pb a.1 p 0)) then (2, a) else match sChg a (spC a.1 p h q) with
    | (true, a') => (0, a')
    | (false, a') => (4, a')
theorem spB_le {C : Nat → Nat} {h e : Nat} (hh : h < 65536) (hd : C 0 ≤ 15) (he : e ≤ C 0) : spB C h e ≤ 2 ^ C 0 := by
  have h1 := idx_lt hh hd
  have e1 : 2 ^ C 0 = 2 ^ e * 2 ^ (C 0 - e) := by rw [← Nat.pow_add]; congr 1; omega
  unfold spB fstE
  have h2 : idx C h / 2 ^ (C 0 - e) < 2 ^ e := Nat.div_lt_of_lt_mul (by rw [Nat.mul_comm, ← e1]; exact h1)
  rw [e1, ← Nat.succ_mul]
  exact Nat.mul_le_mul_right _ h2
theorem bpg_lt {d : Nat} {rs : List (List Nat)} (hd : d < 256) (hn : rs.length < 256) (hL : rs.flatten.length < 256) (hb : ∀ r ∈ rs, ∀ x ∈ r, x < 256) : ∀ j, bpg d rs j < 256 := by
  intro j
  unfold bpg bpi
  split
  · exact hd
  split
  · exact hn
  split
  · omega
  split
  · omega
  · rw [List.getD_eq_getElem?_getD]
    cases h : rs.flatten[j - 4]? with
    | none => decide
    | some x =>
      have hx := List.mem_of_getElem? h
      obtain ⟨r, hr, hx⟩ := List.mem_flatten.mp hx
      exact hb r hr x hx
theorem recS_lt {C : Nat → Nat} {p : Nat} {sel : Nat → Bool} {n : Nat} (hC : ∀ j, C j < 256) : ∀ r ∈ recS C p sel n, ∀ x ∈ r, x < 256 := by
  intro r hr x hx
  unfold recS at hr
  obtain ⟨t, -, rfl⟩ := List.mem_map.mp hr
  unfold recL at hx
  obtain ⟨j, -, rfl⟩ := List.mem_map.mp hx
  exact hC _
theorem half_lt {C : Nat → Nat} {p d e b : Nat} (hC : ∀ j, C j < 256) (hb : WB C p) (hd : d < 256) : ∀ j, bpg d (halfL C p e b) j < 256 := by
  have h1 := hb.count
  have h2 := hb.2.2
  have h3 := hb.2.1
  have h4 := recS_len C p (fun r => bitB (rh C p r) e == b) (pb C p 1)
  have h5 := recS_bytes C p (fun r => bitB (rh C p r) e == b) (pb C p 1)
  unfold halfL
  exact bpg_lt hd (by omega) (by omega) (recS_lt hC)
theorem frN_in {C : Nat → Nat} {pg lg a q : Nat} (h : frN C pg lg a = some q) : q < pg ∧ kdN C lg q = 0 ∧ lg + 2 ≤ q := by
  have h1 := List.mem_of_find?_eq_some h
  have h2 := List.find?_some h
  simp at h2
  have h3 := h2.2
  refine ⟨List.mem_range.mp h1, h3, ?_⟩
  unfold kdN at h3
  rcases Nat.lt_or_ge q (lg + 2) with g | g
  · exfalso
    by_cases e0 : q = 0
    · rw [if_pos e0] at h3; omega
    · rw [if_neg e0] at h3
      by_cases e1 : q = 1
      · rw [if_pos e1] at h3; omega
      · rw [if_neg e1, if_pos g] at h3; omega
  · exact g
theorem frI_in {C : Nat → Nat} {pg lg a : Nat} (hg : pg ≤ 255) : in32 (frI C pg lg a) := by
  unfold frI
  cases hf : frN C pg lg a with
  | some q =>
    have := (frN_in hf).1
    show in32 (q : Int)
    exact ⟨by omega, by omega⟩
  | none =>
    show in32 (-1)
    exact ⟨by omega, by omega⟩
/-- the images of a CHANGE, one by one -/
theorem sImg_t {a a' : DA} {i p : Nat} {f : Nat → Nat} {l : List (Nat × (Nat → Nat))} (h : sW a (2 + i) f = (true, a')) : sImg a i ((p, f) :: l) = sImg a' (i + 1) l := by
  rw [sImg]
  have h2 : sW a (2 + i) (p, f).2 = (true, a') := h
  rw [h2]
theorem sImg_f {a a' : DA} {i p : Nat} {f : Nat → Nat} {l : List (Nat × (Nat → Nat))} (h : sW a (2 + i) f = (false, a')) : sImg a i ((p, f) :: l) = (false, a') := by
  rw [sImg]
  have h2 : sW a (2 + i) (p, f).2 = (false, a') := h
  rw [h2]
theorem sChg_f {a a' : DA} {chs : List (Nat × (Nat → Nat))} (h : sImg a 0 chs = (false, a')) : sChg a chs = (false, a') := by
  unfold sChg
  rw [h]
theorem sChg_t {a a' a'' : DA} {b : Bool} {chs : List (Nat × (Nat → Nat))} (h : sImg a 0 chs = (true, a')) (h2 : sFin a' (chs.map Prod.fst) = (b, a'')) : sChg a chs = (b, a'') := by
  unfold sChg
  rw [h, ← h2]
/-- the status of a CHANGE -/
def stC (r : Bool × DA) : Int × DA := match r with
  | (true, a') => (0, a')
  | (false, a') => (4, a')
set_option maxHeartbeats 1000000 in
set_option maxRecDepth 20000 in
theorem z_X4_split {D : va_G} {cI cB cJ cZ : ClassId} {hx hd hc hk hch hb hbb hh ht ha hj hi hjb hib : Nat} {an : Int} {pg lg : Nat} {P H : Int} {p h : Nat} {C : Nat → Nat} {wt al dn ko : Int} {K fb fj fi : Nat → Nat} (hw : DW C pg lg) (hlp : lg + 4 ≤ pg) (hP : P = (p : Int)) (hp1 : lg + 2 ≤ p) (hp2 : p < pg) (hH : H = (h : Int)) (hh9 : h < 65536) (hb9 : WB C p) (he : pb C p 0 < C 0) (hks : KS ko K C pg lg) (hal : in32 al) : ∀ l, Up l yX4_split cX4_split 9 (some .int) ({ frames := 5, cells := 0, slots := 0, locals := 135 }) D (TY cI cB cJ cZ) [.ref hx, .int (iI P), .int (iI H)] [oHash hx hd hch hb hh ht ha an, oDisk hd hc hk ko pg lg wt al dn, aN cI hc 65280 C, aN cI hk 255 K, oChange hch hd hj hi, oPage hb hbb, aN cI hbb 256 (fb), oPage hj hjb, aN cI hjb 256 (fj), oPage hi hib, aN cI hib 256 (fi)] (fun r w1 => ∃ s2 C2 wt2 al2 dn2 ko2 K2 fb fj fi, sSpl (C, wt, al, dn) pg lg p h = (s2, C2, wt2, al2, dn2) ∧ KS ko2 K2 C2 pg lg ∧ in32 al2 ∧ r = some (.int (iI s2)) ∧ w1 = [oHash hx hd hch hb hh ht ha an, oDisk hd hc hk ko2 pg lg wt2 al2 dn2, aN cI hc 65280 C2, aN cI hk 255 K2, oChange hch hd hj hi, oPage hb hbb, aN cI hbb 256 (fb), oPage hj hjb, aN cI hjb 256 (fj), oPage hi hib, aN cI hib 256 (fi)]) := by
  intro l
  refine Up_of (by decide) (Nat.le_of_ble_eq_true rfl) (fun x k hq => ?_)
  obtain ⟨w1, w2, w3, w4, w5, w6, w7⟩ := id hw
  have hi9 := idx_lt (C := C) hh9 w4
  have h15 : 2 ^ C 0 ≤ 32768 := Nat.le_trans (Nat.pow_le_pow_right (n := 2) (j := 15) (by decide) w4) (by decide)
  have hsp : 2 ^ (C 0 - pb C p 0) ≤ 2 ^ C 0 := Nat.pow_le_pow_right (by decide) (by omega)
  have hs2 : 2 ^ (C 0 - pb C p 0) = 2 * (2 ^ (C 0 - pb C p 0) / 2) ∧ 0 < 2 ^ (C 0 - pb C p 0) / 2 := by
    have e9 : C 0 - pb C p 0 = (C 0 - pb C p 0 - 1) + 1 := by omega
    have h9 := Nat.two_pow_pos (C 0 - pb C p 0 - 1)
    rw [e9, Nat.pow_succ]
    omega
  have hbe := spB_le (e := pb C p 0) hh9 w4 (by omega)
  obtain ⟨sF, hgF⟩ : ∃ z, spF C h (pb C p 0) = z := ⟨_, rfl⟩
  obtain ⟨sB, hgB⟩ : ∃ z, spB C h (pb C p 0) = z := ⟨_, rfl⟩
  have hF : sF = fstE C h (pb C p 0) + 2 ^ (C 0 - pb C p 0) / 2 := hgF.symm
  have hB : sB = fstE C h (pb C p 0) + 2 ^ (C 0 - pb C p 0) := hgB.symm
  rw [hgB] at hbe
  have hpFi : (sB - 1) / 256 < pF (C 0) := pF_idx (by omega)
  have h8 := pF_lt w4
  have hrts : ∀ q : Nat, ¬ lg < 2 + dpO sF sB → frN C pg lg 0 = some q → sSpl (C, wt, al, dn) pg lg p h = stC (sChg (C, wt, al, dn) ((p, bpg (pb C p 0 + 1) (halfL C p (pb C p 0) 0)) :: (q, bpg (pb C p 0 + 1) (halfL C p (pb C p 0) 1)) :: rtL C sF sB q (dpO sF sB) (sF / 256))) := by
    intro q hnl hfq
    unfold sSpl
    rw [show frN (C, wt, al, dn).1 pg lg 0 = some q from hfq]
    show (if lg < 2 + dpO (spF C h (pb C p 0)) (spB C h (pb C p 0)) then _ else _) = _
    rw [hgF, hgB, if_neg hnl]
    unfold spC
    show (match sChg (C, wt, al, dn) ((p, bpg (pb C p 0 + 1) (halfL C p (pb C p 0) 0)) :: (q, bpg (pb C p 0 + 1) (halfL C p (pb C p 0) 1)) :: rtL C (spF C h (pb C p 0)) (spB C h (pb C p 0)) q (dpO (spF C h (pb C p 0)) (spB C h (pb C p 0))) (spF C h (pb C p 0) / 256)) with
      | (true, a') => ((0 : Int), a')
      | (false, a') => (4, a')) = _
    rw [hgF, hgB]
    rfl
  refine v_aload_n (n := 1) k dX4_split_0 rfl rfl ?_
  refine v_get (n := 4) k ciX4 0 0 (by decide) fl_X4_10 rfl rfl dX4_split_1 rfl ?_
  refine v_iload_n (n := 5) k dX4_split_4 rfl rfl ?_
  refine v_iconst (n := 6) k dX4_split_5 rfl ?_
  refine v_rdVi (n := 9) k [1, 2] 1 (z_X1_at (p := p) (i := 0) hP rfl hp2 (by omega) w2) miX1_at ml_X4_130 (by decide) (by decide) rfl (by decide) rfl rfl rfl rfl (Nat.le_of_ble_eq_true rfl) ⟨Nat.zero_le _, Nat.zero_le _⟩ dX4_split_6 rfl ?_
  refine v_istore_n (n := 10) k dX4_split_9 rfl (by decide) rfl rfl ?_
  refine v_iconst (n := 11) k dX4_split_10 rfl ?_
  refine v_aload_n (n := 12) k dX4_split_11 rfl rfl ?_
  refine v_get (n := 15) k ciX4 0 0 (by decide) fl_X4_10 rfl rfl dX4_split_12 rfl ?_
  refine v_rdVi (n := 18) k [1, 2] 1 (z_X1_depth hw) miX1_depth ml_X4_160 (by decide) (by decide) rfl (by decide) rfl rfl rfl rfl (Nat.le_of_ble_eq_true rfl) ⟨Nat.zero_le _, Nat.zero_le _⟩ dX4_split_15 rfl ?_
  refine v_iload_n (n := 19) k dX4_split_18 rfl rfl ?_
  refine v_isub (n := 20) k dX4_split_19 rfl ?_
  refine v_ishl (n := 21) k (((1 * 2 ^ (C 0 - pb C p 0) : Nat) : Int)) (ax_shl rfl (by omega) (by omega) (by omega)) dX4_split_20 rfl ?_
  refine v_istore (n := 23) k dX4_split_21 rfl (by decide) rfl rfl ?_
  refine v_aload_n (n := 24) k dX4_split_23 rfl rfl ?_
  refine v_get (n := 27) k ciX4 0 0 (by decide) fl_X4_10 rfl rfl dX4_split_24 rfl ?_
  refine v_iload_n (n := 28) k dX4_split_27 rfl rfl ?_
  refine v_rdVi (n := 31) k [1, 2] 1 (z_X1_indexOf hw (h := h) hH hh9) miX1_indexOf ml_X4_234 (by decide) (by decide) rfl (by decide) rfl rfl rfl rfl (Nat.le_of_ble_eq_true rfl) ⟨Nat.zero_le _, Nat.zero_le _⟩ dX4_split_28 rfl ?_
  refine v_iload (n := 33) k dX4_split_31 rfl rfl ?_
  refine v_ineg (n := 34) k dX4_split_33 rfl ?_
  refine v_iand (n := 35) k (((fstE C h (pb C p 0) : Nat) : Int)) (ax_negmask rfl (by rw [Nat.one_mul]) (by omega) (by omega)) dX4_split_34 rfl ?_
  refine v_istore (n := 37) k dX4_split_35 rfl (by decide) rfl rfl ?_
  refine v_iload (n := 39) k dX4_split_37 rfl rfl ?_
  refine v_iload (n := 41) k dX4_split_39 rfl rfl ?_
  refine v_iconst (n := 42) k dX4_split_41 rfl ?_
  refine v_idiv (n := 43) k (((2 ^ (C 0 - pb C p 0) / 2 : Nat) : Int)) (ax_ne0 (by omega) (by omega)) (ax_div (by rw [Nat.one_mul]) rfl (by omega) (by omega) (by omega)) dX4_split_42 rfl ?_
  refine v_iadd (n := 44) k dX4_split_43 rfl ?_
  refine v_top (b := ((sF : Nat) : Int)) (by omega) ?_
  refine v_istore (n := 46) k dX4_split_44 rfl (by decide) rfl rfl ?_
  refine v_iload (n := 48) k dX4_split_46 rfl rfl ?_
  refine v_iload (n := 50) k dX4_split_48 rfl rfl ?_
  refine v_iadd (n := 51) k dX4_split_50 rfl ?_
  refine v_top (b := ((sB : Nat) : Int)) (by omega) ?_
  refine v_istore (n := 53) k dX4_split_51 rfl (by decide) rfl rfl ?_
  refine v_aload_n (n := 54) k dX4_split_53 rfl rfl ?_
  refine v_get (n := 57) k ciX4 0 0 (by decide) fl_X4_10 rfl rfl dX4_split_54 rfl ?_
  refine v_iconst (n := 58) k dX4_split_57 rfl ?_
  refine v_upV (n := 61) k [1, 2, 3] 1 (z_X1_freeBehind hw w7 (a := 0) rfl (by omega) hks) miX1_freeBehind ml_X4_221 (by decide) (by decide) rfl (by decide) rfl rfl rfl rfl (Nat.le_of_ble_eq_true rfl) ⟨Nat.zero_le _, Nat.zero_le _⟩ dX4_split_58 rfl ?_
  rintro _ _ ⟨rfl, ko2, K2, hks2, rfl⟩
  dsimp only [wput, List.set, Option.toList, List.nil_append, List.cons_append]
  have hfin := frI_in (C := C) (lg := lg) (a := 0) w2
  refine v_istore (n := 63) k dX4_split_61 rfl (by decide) rfl rfl ?_
  refine v_iload (n := 65) k dX4_split_63 rfl rfl ?_
  refine v_iconst (n := 66) k dX4_split_65 rfl ?_
  refine v_icmp_ne (n := 69) (t := 71) k (hfin) (⟨by omega, by omega⟩) dX4_split_66 (by decide) rfl (fun c_66 => ?_) (fun c_66 => ?_)
  · obtain ⟨q, hfq⟩ : ∃ q, frN C pg lg 0 = some q := by
      cases hf : frN C pg lg 0 with
      | some q => exact ⟨q, rfl⟩
      | none => exact absurd (show frI C pg lg 0 = -1 by unfold frI; rw [hf]) c_66
    have hfi : frI C pg lg 0 = (q : Int) := by unfold frI; rw [hfq]
    obtain ⟨q1, q2, q3⟩ := frN_in hfq
    rw [hfi]
    refine v_iconst (n := 72) k dX4_split_71 rfl ?_
    refine v_iload (n := 74) k dX4_split_72 rfl rfl ?_
    refine v_iload (n := 76) k dX4_split_74 rfl rfl ?_
    refine v_rdSi (n := 79) k [] (z_X4_directoryPagesOf (a := sF) (b := sB) rfl rfl (by omega) (by omega)) miX4_directoryPagesOf ml_X4_237 (by decide) (by decide) rfl (by decide) rfl rfl (Nat.le_of_ble_eq_true rfl) ⟨Nat.zero_le _, Nat.zero_le _⟩ dX4_split_76 rfl ?_
    refine v_iadd (n := 80) k dX4_split_79 rfl ?_
    refine v_aload_n (n := 81) k dX4_split_80 rfl rfl ?_
    refine v_get (n := 84) k ciX4 0 0 (by decide) fl_X4_10 rfl rfl dX4_split_81 rfl ?_
    refine v_rdVi (n := 87) k [1] 1 (z_X1_log) miX1_log ml_X4_157 (by decide) (by decide) rfl (by decide) rfl rfl rfl rfl (Nat.le_of_ble_eq_true rfl) ⟨Nat.zero_le _, Nat.zero_le _⟩ dX4_split_84 rfl ?_
    refine v_icmp_le (n := 90) (t := 92) k (⟨by omega, by omega⟩) (⟨by omega, by omega⟩) dX4_split_87 (by decide) rfl (fun c_87 => ?_) (fun c_87 => ?_)
    · refine v_aload_n (n := 93) k dX4_split_92 rfl rfl ?_
      refine v_get (n := 96) k ciX4 0 1 (by decide) fl_X4_21 rfl rfl dX4_split_93 rfl ?_
      refine v_upV (n := 99) k [4, 7, 8] 4 (z_X0_begin) miX0_begin ml_X4_209 (by decide) (by decide) rfl (by decide) rfl rfl rfl rfl (Nat.le_of_ble_eq_true rfl) ⟨Nat.zero_le _, Nat.zero_le _⟩ dX4_split_96 rfl ?_
      rintro _ _ ⟨rfl, rfl⟩
      dsimp only [wput, List.set, Option.toList, List.nil_append, List.cons_append]
      refine v_aload_n (n := 100) k dX4_split_99 rfl rfl ?_
      refine v_iload_n (n := 101) k dX4_split_100 rfl rfl ?_
      refine v_iload_n (n := 102) k dX4_split_101 rfl rfl ?_
      refine v_iconst (n := 103) k dX4_split_102 rfl ?_
      refine v_upV (n := 106) k [0, 1, 2, 5, 6] 0 (z_X4_buildHalf (p := p) (e := pb C p 0) (b := 0) hP hp2 w2 hb9 w3 rfl (by omega) rfl (by omega)) miX4_buildHalf ml_X4_240 (by decide) (by decide) rfl (by decide) rfl rfl rfl rfl (Nat.le_of_ble_eq_true rfl) ⟨Nat.zero_le _, Nat.zero_le _⟩ dX4_split_103 rfl ?_
      rw [show recS C p (fun r => bitB (rh C p r) (pb C p 0) == 0) (pb C p 1) = halfL C p (pb C p 0) 0 from rfl]
      rintro _ _ ⟨rfl, rfl⟩
      dsimp only [wput, List.set, Option.toList, List.nil_append, List.cons_append]
      refine v_aload_n (n := 107) k dX4_split_106 rfl rfl ?_
      refine v_get (n := 110) k ciX4 0 1 (by decide) fl_X4_21 rfl rfl dX4_split_107 rfl ?_
      refine v_aload_n (n := 111) k dX4_split_110 rfl rfl ?_
      refine v_get (n := 114) k ciX4 0 2 (by decide) fl_X4_28 rfl rfl dX4_split_111 rfl ?_
      refine v_iload_n (n := 115) k dX4_split_114 rfl rfl ?_
      refine v_upV (n := 118) k [4, 1, 2, 3, 7, 8, 5, 6] 4 (z_X0_add (q := p) (ps := []) hP (by omega) (by simp; omega) w2 hal hks2) miX0_add ml_X4_227 (by decide) (by decide) rfl (by decide) rfl rfl rfl rfl (Nat.le_of_ble_eq_true rfl) ⟨Nat.zero_le _, Nat.zero_le _⟩ dX4_split_115 rfl ?_
      rintro _ _ ⟨b1, C2, wt2, al2, dn2, ko3, hs1, hks1, hal1, rfl, rfl⟩
      dsimp only [wput, List.set, Option.toList, List.nil_append, List.cons_append]
      refine v_if_ne (n := 121) (t := 123) k (⟨by cases b1 <;> decide, by cases b1 <;> decide⟩) dX4_split_118 (by decide) rfl (fun c_118 => ?_) (fun c_118 => ?_)
      · have hb9 : b1 = true := by
          cases b1 with
          | true => rfl
          | false => exact absurd rfl c_118
        subst hb9
        have hag2 : AGR lg C C2 := sW_agr hs1 (by simp) (by simp; omega)
        have hC2 : ∀ j, C2 j < 256 := sW_lt hs1 w3 (fun j _ => half_lt w3 hb9 (by omega) j)
        refine v_aload_n (n := 124) k dX4_split_123 rfl rfl ?_
        refine v_iload_n (n := 125) k dX4_split_124 rfl rfl ?_
        refine v_iload_n (n := 126) k dX4_split_125 rfl rfl ?_
        refine v_iconst (n := 127) k dX4_split_126 rfl ?_
        refine v_upV (n := 130) k [0, 1, 2, 5, 6] 0 (z_X4_buildHalf (p := p) (e := pb C p 0) (b := 1) hP hp2 w2 (pg_WB (hag2.pg hp1) hb9) hC2 rfl (by omega) rfl (by omega)) miX4_buildHalf ml_X4_240 (by decide) (by decide) rfl (by decide) rfl rfl rfl rfl (Nat.le_of_ble_eq_true rfl) ⟨Nat.zero_le _, Nat.zero_le _⟩ dX4_split_127 rfl ?_
        rw [show recS C2 p (fun r => bitB (rh C2 p r) (pb C p 0) == 1) (pb C2 p 1) = halfL C p (pb C p 0) 1 from pg_half (hag2.pg hp1) hb9 _ _]
        rintro _ _ ⟨rfl, rfl⟩
        dsimp only [wput, List.set, Option.toList, List.nil_append, List.cons_append]
        refine v_aload_n (n := 131) k dX4_split_130 rfl rfl ?_
        refine v_get (n := 134) k ciX4 0 1 (by decide) fl_X4_21 rfl rfl dX4_split_131 rfl ?_
        refine v_aload_n (n := 135) k dX4_split_134 rfl rfl ?_
        refine v_get (n := 138) k ciX4 0 2 (by decide) fl_X4_28 rfl rfl dX4_split_135 rfl ?_
        refine v_iload (n := 140) k dX4_split_138 rfl rfl ?_
        refine v_upV (n := 143) k [4, 1, 2, 3, 7, 8, 5, 6] 4 (z_X0_add (q := q) (ps := [p]) rfl (by omega) (by simp; omega) w2 hal1 hks1) miX0_add ml_X4_227 (by decide) (by decide) rfl (by decide) rfl rfl rfl rfl (Nat.le_of_ble_eq_true rfl) ⟨Nat.zero_le _, Nat.zero_le _⟩ dX4_split_140 rfl ?_
        rintro _ _ ⟨b3, C3, wt3, al3, dn3, ko4, hs3, hks3, hal3, rfl, rfl⟩
        dsimp only [wput, List.set, Option.toList, List.nil_append, List.cons_append]
        refine v_if_ne (n := 146) (t := 148) k (⟨by cases b3 <;> decide, by cases b3 <;> decide⟩) dX4_split_143 (by decide) rfl (fun c_143 => ?_) (fun c_143 => ?_)
        · have hb9 : b3 = true := by
            cases b3 with
            | true => rfl
            | false => exact absurd rfl c_143
          subst hb9
          have hag3 : AGR lg C C3 := hag2.tr (sW_agr hs3 (by simp) (by simp; omega))
          have hC3 : ∀ j, C3 j < 256 := sW_lt hs3 hC2 (fun j _ => half_lt w3 hb9 (by omega) j)
          have hrt : rtL C3 sF sB q (dpO sF sB) (sF / 256) = rtL C sF sB q (dpO sF sB) (sF / 256) := rtL_agr hag3 hw _ _ (by unfold dpO; omega)
          refine v_aload_n (n := 149) k dX4_split_148 rfl rfl ?_
          refine v_iload (n := 151) k dX4_split_149 rfl rfl ?_
          refine v_iload (n := 153) k dX4_split_151 rfl rfl ?_
          refine v_iload (n := 155) k dX4_split_153 rfl rfl ?_
          refine v_upV (n := 158) k [0, 1, 2, 3, 4, 5, 6, 7, 8] 0 (z_X4_retell (a := sF) (b := sB) (q := q) (ps := [p, q]) rfl rfl rfl (by omega) (by omega) (hag3.dw hw hC3) (by rw [hag3.c0 (by omega)]; omega) hks3 hal3 (by simp; omega) hlp) miX4_retell ml_X4_244 (by decide) (by decide) rfl (by decide) rfl rfl rfl rfl (Nat.le_of_ble_eq_true rfl) ⟨Nat.zero_le _, Nat.zero_le _⟩ dX4_split_155 rfl ?_
          rw [show (sB - 1) / 256 + 1 - sF / 256 = dpO sF sB from rfl, hrt]
          rintro _ _ ⟨b5, C5, wt5, al5, dn5, ko5, fj5, fb5, hs5, hj5, hks5, hal5, hC5, rfl, rfl⟩
          dsimp only [wput, List.set, Option.toList, List.nil_append, List.cons_append]
          refine v_if_eq (n := 161) (t := 175) k (⟨by cases b5 <;> decide, by cases b5 <;> decide⟩) dX4_split_158 (by decide) rfl (fun c_158 => ?_) (fun c_158 => ?_)
          · refine v_iconst (n := 176) k dX4_split_175 rfl ?_
            refine v_iretU k hq ?_ rfl dX4_split_176
            have hb9 : b5 = false := by
              cases b5 with
              | false => rfl
              | true => exact absurd c_158 (by decide)
            subst hb9
            refine ⟨4, C5, wt5, al5, dn5, ko5, _, _, _, _, ?_, hks5, hal5, rfl, rfl⟩
            refine (hrts q (by unfold dpO; omega) hfq).trans (congrArg stC (sChg_f ((sImg_t (i := 0) hs1).trans ((sImg_t (i := 1) hs3).trans hs5))))
          · have hb9 : b5 = true := by
              cases b5 with
              | true => rfl
              | false => exact absurd rfl c_158
            subst hb9
            have hfj := hj5 rfl
            subst hfj
            have hJ9 : JV (jpg ([p, q] ++ (rtL C sF sB q (dpO sF sB) (sF / 256)).map Prod.fst)) pg := by
              refine JV_of (by simp [rtL_len]; unfold dpO; omega) (fun x hx => ?_)
              rcases List.mem_append.mp hx with g | g
              · simp at g
                omega
              · obtain ⟨t, t1, t2, t3⟩ := rtL_fst _ _ _ _ _ _ x g
                have h5 := w5 t (by unfold dpO at t2; omega)
                have h6 := w6 t (by unfold dpO at t2; omega)
                rw [pb0] at t3
                omega
            refine v_aload_n (n := 162) k dX4_split_161 rfl rfl ?_
            refine v_get (n := 165) k ciX4 0 1 (by decide) fl_X4_21 rfl rfl dX4_split_162 rfl ?_
            refine v_upV (n := 168) k [4, 1, 2, 3, 7, 8, 9, 10] 4 (z_X0_finish (ps := [p, q] ++ (rtL C sF sB q (dpO sF sB) (sF / 256)).map Prod.fst) hJ9 w2 hks5 hal5) miX0_finish ml_X4_231 (by decide) (by decide) rfl (by decide) rfl rfl rfl rfl (Nat.le_of_ble_eq_true rfl) ⟨Nat.zero_le _, Nat.zero_le _⟩ dX4_split_165 rfl ?_
            rintro _ _ ⟨b2, C7, wt7, al7, dn7, ko7, fj7, fi7, hs7, hks7, hal7, rfl, rfl⟩
            dsimp only [wput, List.set, Option.toList, List.nil_append, List.cons_append]
            refine v_if_eq (n := 171) (t := 175) k (⟨by cases b2 <;> decide, by cases b2 <;> decide⟩) dX4_split_168 (by decide) rfl (fun c_168 => ?_) (fun c_168 => ?_)
            · refine v_iconst (n := 176) k dX4_split_175 rfl ?_
              refine v_iretU k hq ?_ rfl dX4_split_176
              have hb9 : b2 = false := by
                cases b2 with
                | false => rfl
                | true => exact absurd c_168 (by decide)
              subst hb9
              refine ⟨4, C7, wt7, al7, dn7, ko7, _, _, _, _, ?_, hks7, hal7, rfl, rfl⟩
              refine (hrts q (by unfold dpO; omega) hfq).trans (congrArg stC (sChg_t ((sImg_t (i := 0) hs1).trans ((sImg_t (i := 1) hs3).trans hs5)) hs7))
            · refine v_iconst (n := 172) k dX4_split_171 rfl ?_
              refine v_goto (t := 176) k dX4_split_172 (by decide) ?_
              refine v_iretU k hq ?_ rfl dX4_split_176
              have hb9 : b2 = true := by
                cases b2 with
                | true => rfl
                | false => exact absurd rfl c_168
              subst hb9
              refine ⟨0, C7, wt7, al7, dn7, ko7, _, _, _, _, ?_, hks7, hal7, rfl, rfl⟩
              refine (hrts q (by unfold dpO; omega) hfq).trans (congrArg stC (sChg_t ((sImg_t (i := 0) hs1).trans ((sImg_t (i := 1) hs3).trans hs5)) hs7))
        · refine v_iconst (n := 147) k dX4_split_146 rfl ?_
          refine v_iretU k hq ?_ rfl dX4_split_147
          have hb9 : b3 = false := by
            cases b3 with
            | false => rfl
            | true => exact absurd c_143 (by decide)
          subst hb9
          refine ⟨4, C3, wt3, al3, dn3, ko4, _, _, _, _, ?_, hks3, hal3, rfl, rfl⟩
          refine (hrts q (by unfold dpO; omega) hfq).trans (congrArg stC (sChg_f ((sImg_t (i := 0) hs1).trans (sImg_f (i := 1) hs3))))
      · refine v_iconst (n := 122) k dX4_split_121 rfl ?_
        refine v_iretU k hq ?_ rfl dX4_split_122
        have hb9 : b1 = false := by
          cases b1 with
          | false => rfl
          | true => exact absurd c_118 (by decide)
        subst hb9
        refine ⟨4, C2, wt2, al2, dn2, ko3, _, _, _, _, ?_, hks1, hal1, rfl, rfl⟩
        refine (hrts q (by unfold dpO; omega) hfq).trans (congrArg stC (sChg_f (sImg_f (i := 0) hs1)))
    · refine v_iconst (n := 91) k dX4_split_90 rfl ?_
      refine v_iretU k hq ?_ rfl dX4_split_91
      refine ⟨2, C, wt, al, dn, ko2, K2, _, _, _, ?_, hks2, hal, rfl, rfl⟩
      unfold sSpl
      rw [show frN (C, wt, al, dn).1 pg lg 0 = some q from hfq]
      show (if lg < 2 + dpO (spF C h (pb C p 0)) (spB C h (pb C p 0)) then _ else _) = _
      rw [hgF, hgB, if_pos (show lg < 2 + dpO sF sB by unfold dpO; omega)]
  · refine v_iconst (n := 70) k dX4_split_69 rfl ?_
    refine v_iretU k hq ?_ rfl dX4_split_70
    refine ⟨1, C, wt, al, dn, ko2, K2, _, _, _, ?_, hks2, hal, rfl, rfl⟩
    have hfn : frN C pg lg 0 = none := by
      cases hf : frN C pg lg 0 with
      | none => rfl
      | some q =>
        have : frI C pg lg 0 = (q : Int) := by unfold frI; rw [hf]
        omega
    unfold sSpl
    rw [show frN (C, wt, al, dn).1 pg lg 0 = none from hfn]
end
section
theorem blk_le {x k d : Nat} (hx : x < 2 ^ d) (hk : k ≤ d) : x / 2 ^ k * 2 ^ k + 2 ^ k ≤ 2 ^ d := by
  have e1 : 2 ^ d = 2 ^ (d - k) * 2 ^ k := by rw [← Nat.pow_add]; congr 1; omega
  have h2 : x / 2 ^ k < 2 ^ (d - k) := Nat.div_lt_of_lt_mul (by rw [Nat.mul_comm, ← e1]; exact hx)
  rw [e1, ← Nat.succ_mul]
  exact Nat.mul_le_mul_right _ h2
/-- the page that can be merged with the bucket of a hash -/
def mpN (C : Nat → Nat) (h : Nat) : Option Nat :=
  if pb C (entN C (idx C h)) 0 = 0 then none else
  if pb C (entN C (idx C h ^^^ 2 ^ (C 0 - pb C (entN C (idx C h)) 0))) 0 = pb C (entN C (idx C h)) 0 ∧ bL C (entN C (idx C h)) + bL C (entN C (idx C h ^^^ 2 ^ (C 0 - pb C (entN C (idx C h)) 0))) ≤ 126 then some (entN C (idx C h ^^^ 2 ^ (C 0 - pb C (entN C (idx C h)) 0))) else none
def mpI (C : Nat → Nat) (h : Nat) : Int := match mpN C h with
  | some q => (q : Int)
  | none => -1
/-- whether the bucket of hash h, of depth e, has the 0 in place e - 1 -/
def mgB (C : Nat → Nat) (h e : Nat) : Bool := idx C h &&& 2 ^ (C 0 - e) == 0
def mgF (C : Nat → Nat) (h e : Nat) : Nat := (idx C h ||| 2 ^ (C 0 - e)) / 2 ^ (C 0 - e) * 2 ^ (C 0 - e)
/-- all records of a page -/
def allL (C : Nat → Nat) (p : Nat) : List (List Nat) := recS C p (notAt C p (-1)) (pb C p 1)
/-- the CHANGE of a MERGE of the buckets p and o, of depth e, that of the first one being kept -/
def mgC (C : Nat → Nat) (e kp lf a b : Nat) : List (Nat × (Nat → Nat)) := (kp, bpg (e - 1) (allL C kp ++ allL C lf)) :: rtL C a b kp (dpO a b) (a / 256)
def sMrg (a : DA) (lg h o : Nat) : Int × DA :=
  if lg < 1 + dpO (mgF a.1 h (pb a.1 (entN a.1 (idx a.1 h)) 0)) (mgF a.1 h (pb a.1 (entN a.1 (idx a.1 h)) 0) + 2 ^ (a.1 0 - pb a.1 (entN a.1 (idx a.1 h)) 0)) then (2, a) else
  stC (sChg a (mgC a.1 (pb a.1 (entN a.1 (idx a.1 h)) 0) (if mgB a.1 h (pb a.1 (entN a.1 (idx a.1 h)) 0) then entN a.1 (idx a.1 h) else o) (if mgB a.1 h (pb a.1 (entN a.1 (idx a.1 h)) 0) then o else entN a.1 (idx a.1 h)) (mgF a.1 h (pb a.1 (entN a.1 (idx a.1 h)) 0)) (mgF a.1 h (pb a.1 (entN a.1 (idx a.1 h)) 0) + 2 ^ (a.1 0 - pb a.1 (entN a.1 (idx a.1 h)) 0))))
theorem allL_len {C : Nat → Nat} {p : Nat} (hb : WB C p) : (allL C p).flatten.length = bL C p ∧ (allL C p).length ≤ pb C p 1 := by
  have h1 := recS_all (C := C) (p := p) (sel := notAt C p (-1)) (notAt_none (by omega)) (pb C p 1)
  have h2 := hb.2.1
  unfold allL
  exact ⟨by omega, recS_len _ _ _ _⟩
theorem two_lt {C : Nat → Nat} {d p q : Nat} (hC : ∀ j, C j < 256) (hd : d < 256) (hp : WB C p) (hq : WB C q) (hL : bL C p + bL C q ≤ 126) : ∀ j, bpg d (allL C p ++ allL C q) j < 256 := by
  have h1 := allL_len hp
  have h2 := allL_len hq
  have h3 := hp.count
  have h4 := hq.count
  refine bpg_lt hd (by rw [List.length_append]; omega) (by rw [List.flatten_append, List.length_append]; omega) ?_
  intro r hr
  rcases List.mem_append.mp hr with h | h
  · exact recS_lt hC r h
  · exact recS_lt hC r h
set_option maxHeartbeats 1000000 in
set_option maxRecDepth 20000 in
theorem z_X4_mergePartner {D : va_G} {cI cB cJ cZ : ClassId} {hx hd hc hk hch hb hbb hh ht ha : Nat} {an : Int} {ko : Int} {pg lg : Nat} {wt al dn : Int} {C : Nat → Nat} {H : Int} {h : Nat} (hw : DW C pg lg) (hH : H = (h : Int)) (hh9 : h < 65536) (hE : ∀ i, i < 2 ^ C 0 → entN C i < pg) (he : pb C (entN C (idx C h)) 0 ≤ C 0) : ∀ l, Rd l yX4_mergePartner cX4_mergePartner 5 (some .int) ({ frames := 4, cells := 0, slots := 0, locals := 85 }) D (TY cI cB cJ cZ) [.ref hx, .int (iI H)] [oHash hx hd hch hb hh ht ha an, oDisk hd hc hk ko pg lg wt al dn, aN cI hc 65280 C] (fun v => v = some (.int (iI (mpI C h)))) := by
  intro l
  refine Rd_of (by decide) (Nat.le_of_ble_eq_true rfl) (fun x k hq => ?_)
  obtain ⟨w1, w2, w3, w4, w5, w6, w7⟩ := id hw
  have hi9 := idx_lt (C := C) hh9 w4
  have h15 : 2 ^ C 0 ≤ 32768 := Nat.le_trans (Nat.pow_le_pow_right (n := 2) (j := 15) (by decide) w4) (by decide)
  have hpp := hE _ hi9
  refine v_aload_n (n := 1) k dX4_mergePartner_0 rfl rfl ?_
  refine v_get (n := 4) k ciX4 0 0 (by decide) fl_X4_10 rfl rfl dX4_mergePartner_1 rfl ?_
  refine v_iload_n (n := 5) k dX4_mergePartner_4 rfl rfl ?_
  refine v_rdVi (n := 8) k [1, 2] 1 (z_X1_bucketOf hw (h := h) hH hh9) miX1_bucketOf ml_X4_104 (by decide) (by decide) rfl (by decide) rfl rfl rfl rfl (Nat.le_of_ble_eq_true rfl) ⟨Nat.zero_le _, Nat.zero_le _⟩ dX4_mergePartner_5 rfl ?_
  refine v_istore_n (n := 9) k dX4_mergePartner_8 rfl (by decide) rfl rfl ?_
  refine v_aload_n (n := 10) k dX4_mergePartner_9 rfl rfl ?_
  refine v_get (n := 13) k ciX4 0 0 (by decide) fl_X4_10 rfl rfl dX4_mergePartner_10 rfl ?_
  refine v_iload_n (n := 14) k dX4_mergePartner_13 rfl rfl ?_
  refine v_iconst (n := 15) k dX4_mergePartner_14 rfl ?_
  refine v_rdVi (n := 18) k [1, 2] 1 (z_X1_at (p := entN C (idx C h)) (i := 0) rfl rfl hpp (by omega) w2) miX1_at ml_X4_130 (by decide) (by decide) rfl (by decide) rfl rfl rfl rfl (Nat.le_of_ble_eq_true rfl) ⟨Nat.zero_le _, Nat.zero_le _⟩ dX4_mergePartner_15 rfl ?_
  refine v_istore_n (n := 19) k dX4_mergePartner_18 rfl (by decide) rfl rfl ?_
  refine v_iload_n (n := 20) k dX4_mergePartner_19 rfl rfl ?_
  refine v_if_gt (n := 23) (t := 25) k (⟨by omega, by omega⟩) dX4_mergePartner_20 (by decide) rfl (fun c_20 => ?_) (fun c_20 => ?_)
  · have hxl : idx C h ^^^ 2 ^ (C 0 - pb C (entN C (idx C h)) 0) < 2 ^ C 0 := Nat.xor_lt_two_pow hi9 (Nat.pow_lt_pow_right (by decide) (by omega))
    have hsp : 2 ^ (C 0 - pb C (entN C (idx C h)) 0) ≤ 2 ^ C 0 := Nat.pow_le_pow_right (by decide) (by omega)
    refine v_aload_n (n := 26) k dX4_mergePartner_25 rfl rfl ?_
    refine v_get (n := 29) k ciX4 0 0 (by decide) fl_X4_10 rfl rfl dX4_mergePartner_26 rfl ?_
    refine v_aload_n (n := 30) k dX4_mergePartner_29 rfl rfl ?_
    refine v_get (n := 33) k ciX4 0 0 (by decide) fl_X4_10 rfl rfl dX4_mergePartner_30 rfl ?_
    refine v_iload_n (n := 34) k dX4_mergePartner_33 rfl rfl ?_
    refine v_rdVi (n := 37) k [1, 2] 1 (z_X1_indexOf hw (h := h) hH hh9) miX1_indexOf ml_X4_234 (by decide) (by decide) rfl (by decide) rfl rfl rfl rfl (Nat.le_of_ble_eq_true rfl) ⟨Nat.zero_le _, Nat.zero_le _⟩ dX4_mergePartner_34 rfl ?_
    refine v_iconst (n := 38) k dX4_mergePartner_37 rfl ?_
    refine v_aload_n (n := 39) k dX4_mergePartner_38 rfl rfl ?_
    refine v_get (n := 42) k ciX4 0 0 (by decide) fl_X4_10 rfl rfl dX4_mergePartner_39 rfl ?_
    refine v_rdVi (n := 45) k [1, 2] 1 (z_X1_depth hw) miX1_depth ml_X4_160 (by decide) (by decide) rfl (by decide) rfl rfl rfl rfl (Nat.le_of_ble_eq_true rfl) ⟨Nat.zero_le _, Nat.zero_le _⟩ dX4_mergePartner_42 rfl ?_
    refine v_iload_n (n := 46) k dX4_mergePartner_45 rfl rfl ?_
    refine v_isub (n := 47) k dX4_mergePartner_46 rfl ?_
    refine v_ishl (n := 48) k (((1 * 2 ^ (C 0 - pb C (entN C (idx C h)) 0) : Nat) : Int)) (ax_shl rfl (by omega) (by omega) (by omega)) dX4_mergePartner_47 rfl ?_
    refine v_ixor (n := 49) k (((idx C h ^^^ 2 ^ (C 0 - pb C (entN C (idx C h)) 0) : Nat) : Int)) (by rw [Nat.one_mul]; exact ax_xor _ _) dX4_mergePartner_48 rfl ?_
    refine v_rdVi (n := 52) k [1, 2] 1 (z_X1_entryAt hw (i := idx C h ^^^ 2 ^ (C 0 - pb C (entN C (idx C h)) 0)) rfl hxl) miX1_entryAt ml_X4_145 (by decide) (by decide) rfl (by decide) rfl rfl rfl rfl (Nat.le_of_ble_eq_true rfl) ⟨Nat.zero_le _, Nat.zero_le _⟩ dX4_mergePartner_49 rfl ?_
    refine v_istore (n := 54) k dX4_mergePartner_52 rfl (by decide) rfl rfl ?_
    refine v_aload_n (n := 55) k dX4_mergePartner_54 rfl rfl ?_
    refine v_get (n := 58) k ciX4 0 0 (by decide) fl_X4_10 rfl rfl dX4_mergePartner_55 rfl ?_
    refine v_iload (n := 60) k dX4_mergePartner_58 rfl rfl ?_
    refine v_iconst (n := 61) k dX4_mergePartner_60 rfl ?_
    refine v_rdVi (n := 64) k [1, 2] 1 (z_X1_at (p := entN C (idx C h ^^^ 2 ^ (C 0 - pb C (entN C (idx C h)) 0))) (i := 0) rfl rfl (hE _ hxl) (by omega) w2) miX1_at ml_X4_130 (by decide) (by decide) rfl (by decide) rfl rfl rfl rfl (Nat.le_of_ble_eq_true rfl) ⟨Nat.zero_le _, Nat.zero_le _⟩ dX4_mergePartner_61 rfl ?_
    have hb1 : pb C (entN C (idx C h ^^^ 2 ^ (C 0 - pb C (entN C (idx C h)) 0))) 0 < 256 := w3 _
    refine v_iload_n (n := 65) k dX4_mergePartner_64 rfl rfl ?_
    refine v_icmp_ne (n := 68) (t := 91) k (⟨by omega, by omega⟩) (⟨by omega, by omega⟩) dX4_mergePartner_65 (by decide) rfl (fun c_65 => ?_) (fun c_65 => ?_)
    · refine v_iconst (n := 92) k dX4_mergePartner_91 rfl ?_
      refine v_iretR k hq ?_ dX4_mergePartner_92
      rw [mpI, show mpN C h = none from by unfold mpN; rw [if_neg (by omega), if_neg (by omega)]]
    · have hb2 : bL C (entN C (idx C h)) < 65536 := by
        have h1 := w3 (entN C (idx C h) * 256 + 2)
        have h2 := w3 (entN C (idx C h) * 256 + 3)
        unfold bL pb
        omega
      have hb3 : bL C (entN C (idx C h ^^^ 2 ^ (C 0 - pb C (entN C (idx C h)) 0))) < 65536 := by
        have h1 := w3 ((entN C (idx C h ^^^ 2 ^ (C 0 - pb C (entN C (idx C h)) 0))) * 256 + 2)
        have h2 := w3 ((entN C (idx C h ^^^ 2 ^ (C 0 - pb C (entN C (idx C h)) 0))) * 256 + 3)
        unfold bL pb at *
        omega
      refine v_aload_n (n := 69) k dX4_mergePartner_68 rfl rfl ?_
      refine v_get (n := 72) k ciX4 0 0 (by decide) fl_X4_10 rfl rfl dX4_mergePartner_69 rfl ?_
      refine v_iload_n (n := 73) k dX4_mergePartner_72 rfl rfl ?_
      refine v_rdVi (n := 76) k [1, 2] 1 (z_X1_recordBytes (p := entN C (idx C h)) rfl hpp w2) miX1_recordBytes ml_X4_148 (by decide) (by decide) rfl (by decide) rfl rfl rfl rfl (Nat.le_of_ble_eq_true rfl) ⟨Nat.zero_le _, Nat.zero_le _⟩ dX4_mergePartner_73 rfl ?_
      refine v_aload_n (n := 77) k dX4_mergePartner_76 rfl rfl ?_
      refine v_get (n := 80) k ciX4 0 0 (by decide) fl_X4_10 rfl rfl dX4_mergePartner_77 rfl ?_
      refine v_iload (n := 82) k dX4_mergePartner_80 rfl rfl ?_
      refine v_rdVi (n := 85) k [1, 2] 1 (z_X1_recordBytes (p := entN C (idx C h ^^^ 2 ^ (C 0 - pb C (entN C (idx C h)) 0))) rfl (hE _ hxl) w2) miX1_recordBytes ml_X4_148 (by decide) (by decide) rfl (by decide) rfl rfl rfl rfl (Nat.le_of_ble_eq_true rfl) ⟨Nat.zero_le _, Nat.zero_le _⟩ dX4_mergePartner_82 rfl ?_
      refine v_iadd (n := 86) k dX4_mergePartner_85 rfl ?_
      refine v_bipush (n := 88) k dX4_mergePartner_86 (by decide) rfl ?_
      refine v_icmp_le (n := 91) (t := 93) k (⟨by omega, by omega⟩) (⟨by omega, by omega⟩) dX4_mergePartner_88 (by decide) rfl (fun c_88 => ?_) (fun c_88 => ?_)
      · refine v_iload (n := 95) k dX4_mergePartner_93 rfl rfl ?_
        refine v_iretR k hq ?_ dX4_mergePartner_95
        rw [mpI, show mpN C h = some (entN C (idx C h ^^^ 2 ^ (C 0 - pb C (entN C (idx C h)) 0))) from by unfold mpN; rw [if_neg (by omega), if_pos ⟨by omega, by omega⟩]]
      · refine v_iconst (n := 92) k dX4_mergePartner_91 rfl ?_
        refine v_iretR k hq ?_ dX4_mergePartner_92
        rw [mpI, show mpN C h = none from by unfold mpN; rw [if_neg (by omega), if_neg (by omega)]]
  · refine v_iconst (n := 24) k dX4_mergePartner_23 rfl ?_
    refine v_iretR k hq ?_ dX4_mergePartner_24
    rw [mpI, show mpN C h = none from by unfold mpN; rw [if_pos (by omega)]]
set_option maxHeartbeats 1000000 in
set_option maxRecDepth 20000 in
theorem z_X4_merge {D : va_G} {cI cB cJ cZ : ClassId} {hx hd hc hk hch hb hbb hh ht ha hj hi hjb hib : Nat} {an : Int} {pg lg : Nat} {O H : Int} {o h : Nat} {C : Nat → Nat} {wt al dn ko : Int} {K fb fj fi : Nat → Nat} (hw : DW C pg lg) (hlp : lg + 4 ≤ pg) (hO : O = (o : Int)) (ho1 : lg + 2 ≤ o) (ho2 : o < pg) (hH : H = (h : Int)) (hh9 : h < 65536) (hp1 : lg + 2 ≤ entN C (idx C h)) (hp2 : entN C (idx C h) < pg) (hbp : WB C (entN C (idx C h))) (hbo : WB C o) (he1 : 1 ≤ pb C (entN C (idx C h)) 0) (he2 : pb C (entN C (idx C h)) 0 ≤ C 0) (hL : bL C (entN C (idx C h)) + bL C o ≤ 126) (hks : KS ko K C pg lg) (hal : in32 al) : ∀ l, Up l yX4_merge cX4_merge 11 (some .int) ({ frames := 5, cells := 0, slots := 0, locals := 135 }) D (TY cI cB cJ cZ) [.ref hx, .int (iI H), .int (iI O)] [oHash hx hd hch hb hh ht ha an, oDisk hd hc hk ko pg lg wt al dn, aN cI hc 65280 C, aN cI hk 255 K, oChange hch hd hj hi, oPage hb hbb, aN cI hbb 256 (fb), oPage hj hjb, aN cI hjb 256 (fj), oPage hi hib, aN cI hib 256 (fi)] (fun r w1 => ∃ s2 C2 wt2 al2 dn2 ko2 fb fj fi, sMrg (C, wt, al, dn) lg h o = (s2, C2, wt2, al2, dn2) ∧ KS ko2 K C2 pg lg ∧ in32 al2 ∧ r = some (.int (iI s2)) ∧ w1 = [oHash hx hd hch hb hh ht ha an, oDisk hd hc hk ko2 pg lg wt2 al2 dn2, aN cI hc 65280 C2, aN cI hk 255 K, oChange hch hd hj hi, oPage hb hbb, aN cI hbb 256 (fb), oPage hj hjb, aN cI hjb 256 (fj), oPage hi hib, aN cI hib 256 (fi)]) := by
  intro l
  refine Up_of (by decide) (Nat.le_of_ble_eq_true rfl) (fun x k hq => ?_)
  obtain ⟨w1, w2, w3, w4, w5, w6, w7⟩ := id hw
  have hi9 := idx_lt (C := C) hh9 w4
  have h15 : 2 ^ C 0 ≤ 32768 := Nat.le_trans (Nat.pow_le_pow_right (n := 2) (j := 15) (by decide) w4) (by decide)
  obtain ⟨p, hgp⟩ : ∃ z, entN C (idx C h) = z := ⟨_, rfl⟩
  obtain ⟨e, hge⟩ : ∃ z, pb C p 0 = z := ⟨_, rfl⟩
  obtain ⟨ix, hgi⟩ : ∃ z, idx C h = z := ⟨_, rfl⟩
  obtain ⟨sp, hgs⟩ : ∃ z, 2 ^ (C 0 - e) = z := ⟨_, rfl⟩
  obtain ⟨fr, hgf⟩ : ∃ z, mgF C h e = z := ⟨_, rfl⟩
  rw [hgp] at hp1 hp2 hbp he1 he2 hL
  rw [hge] at he1 he2
  have hsp : sp ≤ 2 ^ C 0 := by rw [← hgs]; exact Nat.pow_le_pow_right (by decide) (by omega)
  have hsp0 : 0 < sp := by rw [← hgs]; exact Nat.two_pow_pos _
  have hor : ix ||| sp < 2 ^ C 0 := by
    rw [← hgs, ← hgi]
    exact Nat.or_lt_two_pow hi9 (Nat.pow_lt_pow_right (by decide) (by omega))
  have hfe : fr = (ix ||| sp) / sp * sp := by rw [← hgf, ← hgs, ← hgi]; rfl
  have hfl : fr + sp ≤ 2 ^ C 0 := by
    rw [hfe, ← hgs]
    exact blk_le (by rw [hgs]; exact hor) (by omega)
  have hpFi : (fr + sp - 1) / 256 < pF (C 0) := pF_idx (by omega)
  have h8 := pF_lt w4
  have h1p := allL_len hbp
  have h1o := allL_len hbo
  have h3p := hbp.count
  have h3o := hbo.count
  rw [hgi] at hi9
  have hmg : ∀ kp lf : Nat, (ix &&& sp = 0 ∧ kp = p ∧ lf = o) ∨ (ix &&& sp ≠ 0 ∧ kp = o ∧ lf = p) → ¬ lg < 1 + dpO fr (fr + sp) → sMrg (C, wt, al, dn) lg h o = stC (sChg (C, wt, al, dn) ((kp, bpg (e - 1) (allL C kp ++ allL C lf)) :: rtL C fr (fr + sp) kp (dpO fr (fr + sp)) (fr / 256))) := by
    intro kp lf hk hnl
    show (if lg < 1 + dpO (mgF C h (pb C (entN C (idx C h)) 0)) (mgF C h (pb C (entN C (idx C h)) 0) + 2 ^ (C 0 - pb C (entN C (idx C h)) 0)) then _ else stC (sChg (C, wt, al, dn) (mgC C (pb C (entN C (idx C h)) 0) (if mgB C h (pb C (entN C (idx C h)) 0) then entN C (idx C h) else o) (if mgB C h (pb C (entN C (idx C h)) 0) then o else entN C (idx C h)) (mgF C h (pb C (entN C (idx C h)) 0)) (mgF C h (pb C (entN C (idx C h)) 0) + 2 ^ (C 0 - pb C (entN C (idx C h)) 0))))) = _
    rw [hgp, hge, hgs, hgf, if_neg hnl]
    have hB : mgB C h e = (ix &&& sp == 0) := by unfold mgB; rw [hgi, hgs]
    rcases hk with ⟨h1, rfl, rfl⟩ | ⟨h1, rfl, rfl⟩
    · rw [hB, h1]; rfl
    · have : (ix &&& sp == 0) = false := beq_false_of_ne h1
      rw [hB, this]; rfl
  refine v_aload_n (n := 1) k dX4_merge_0 rfl rfl ?_
  refine v_get (n := 4) k ciX4 0 0 (by decide) fl_X4_10 rfl rfl dX4_merge_1 rfl ?_
  refine v_iload_n (n := 5) k dX4_merge_4 rfl rfl ?_
  refine v_rdVi (n := 8) k [1, 2] 1 (z_X1_bucketOf hw (h := h) hH hh9) miX1_bucketOf ml_X4_104 (by decide) (by decide) rfl (by decide) rfl rfl rfl rfl (Nat.le_of_ble_eq_true rfl) ⟨Nat.zero_le _, Nat.zero_le _⟩ dX4_merge_5 rfl ?_
  rw [hgp]
  refine v_istore_n (n := 9) k dX4_merge_8 rfl (by decide) rfl rfl ?_
  refine v_aload_n (n := 10) k dX4_merge_9 rfl rfl ?_
  refine v_get (n := 13) k ciX4 0 0 (by decide) fl_X4_10 rfl rfl dX4_merge_10 rfl ?_
  refine v_iload_n (n := 14) k dX4_merge_13 rfl rfl ?_
  refine v_iconst (n := 15) k dX4_merge_14 rfl ?_
  refine v_rdVi (n := 18) k [1, 2] 1 (z_X1_at (p := p) (i := 0) rfl rfl hp2 (by omega) w2) miX1_at ml_X4_130 (by decide) (by decide) rfl (by decide) rfl rfl rfl rfl (Nat.le_of_ble_eq_true rfl) ⟨Nat.zero_le _, Nat.zero_le _⟩ dX4_merge_15 rfl ?_
  rw [hge]
  refine v_istore (n := 20) k dX4_merge_18 rfl (by decide) rfl rfl ?_
  refine v_iconst (n := 21) k dX4_merge_20 rfl ?_
  refine v_aload_n (n := 22) k dX4_merge_21 rfl rfl ?_
  refine v_get (n := 25) k ciX4 0 0 (by decide) fl_X4_10 rfl rfl dX4_merge_22 rfl ?_
  refine v_rdVi (n := 28) k [1, 2] 1 (z_X1_depth hw) miX1_depth ml_X4_160 (by decide) (by decide) rfl (by decide) rfl rfl rfl rfl (Nat.le_of_ble_eq_true rfl) ⟨Nat.zero_le _, Nat.zero_le _⟩ dX4_merge_25 rfl ?_
  refine v_iload (n := 30) k dX4_merge_28 rfl rfl ?_
  refine v_isub (n := 31) k dX4_merge_30 rfl ?_
  refine v_ishl (n := 32) k (((sp : Nat) : Int)) (by rw [← hgs, ← Nat.one_mul (2 ^ (C 0 - e))]; exact ax_shl rfl (by omega) (by omega) (by omega)) dX4_merge_31 rfl ?_
  refine v_istore (n := 34) k dX4_merge_32 rfl (by decide) rfl rfl ?_
  refine v_aload_n (n := 35) k dX4_merge_34 rfl rfl ?_
  refine v_get (n := 38) k ciX4 0 0 (by decide) fl_X4_10 rfl rfl dX4_merge_35 rfl ?_
  refine v_iload_n (n := 39) k dX4_merge_38 rfl rfl ?_
  refine v_rdVi (n := 42) k [1, 2] 1 (z_X1_indexOf hw (h := h) hH hh9) miX1_indexOf ml_X4_234 (by decide) (by decide) rfl (by decide) rfl rfl rfl rfl (Nat.le_of_ble_eq_true rfl) ⟨Nat.zero_le _, Nat.zero_le _⟩ dX4_merge_39 rfl ?_
  rw [hgi]
  refine v_istore (n := 44) k dX4_merge_42 rfl (by decide) rfl rfl ?_
  refine v_iload (n := 46) k dX4_merge_44 rfl rfl ?_
  refine v_iload (n := 48) k dX4_merge_46 rfl rfl ?_
  refine v_iand (n := 49) k (((ix &&& sp : Nat) : Int)) (ax_and _ _) dX4_merge_48 rfl ?_
  have hal9 : ix &&& sp ≤ ix := Nat.and_le_left
  refine v_if_ne (n := 52) (t := 56) k (⟨by omega, by omega⟩) dX4_merge_49 (by decide) rfl (fun c_49 => ?_) (fun c_49 => ?_)
  · have hz0 : ix &&& sp ≠ 0 := by omega
    refine v_iconst (n := 57) k dX4_merge_56 rfl ?_
    refine v_istore (n := 59) k dX4_merge_57 rfl (by decide) rfl rfl ?_
    refine v_iload (n := 61) k dX4_merge_59 rfl rfl ?_
    refine v_if_eq (n := 64) (t := 68) k (⟨by omega, by omega⟩) dX4_merge_61 (by decide) rfl (fun c_61 => ?_) (fun c_61 => ?_)
    · refine v_iload_n (n := 69) k dX4_merge_68 rfl rfl ?_
      refine v_istore (n := 71) k dX4_merge_69 rfl (by decide) rfl rfl ?_
      refine v_iload (n := 73) k dX4_merge_71 rfl rfl ?_
      refine v_if_eq (n := 76) (t := 80) k (⟨by omega, by omega⟩) dX4_merge_73 (by decide) rfl (fun c_73 => ?_) (fun c_73 => ?_)
      · refine v_iload_n (n := 81) k dX4_merge_80 rfl rfl ?_
        refine v_istore (n := 83) k dX4_merge_81 rfl (by decide) rfl rfl ?_
        refine v_iload (n := 85) k dX4_merge_83 rfl rfl ?_
        refine v_iload (n := 87) k dX4_merge_85 rfl rfl ?_
        refine v_ior (n := 88) k (((ix ||| sp : Nat) : Int)) (ax_or _ _) dX4_merge_87 rfl ?_
        refine v_iload (n := 90) k dX4_merge_88 rfl rfl ?_
        refine v_ineg (n := 91) k dX4_merge_90 rfl ?_
        refine v_iand (n := 92) k (((fr : Nat) : Int)) (by rw [hfe, ← hgs]; exact ax_negmask rfl rfl (by rw [hgs]; omega) (by omega)) dX4_merge_91 rfl ?_
        refine v_istore (n := 94) k dX4_merge_92 rfl (by decide) rfl rfl ?_
        refine v_iconst (n := 95) k dX4_merge_94 rfl ?_
        refine v_iload (n := 97) k dX4_merge_95 rfl rfl ?_
        refine v_iload (n := 99) k dX4_merge_97 rfl rfl ?_
        refine v_iload (n := 101) k dX4_merge_99 rfl rfl ?_
        refine v_iadd (n := 102) k dX4_merge_101 rfl ?_
        refine v_rdSi (n := 105) k [] (z_X4_directoryPagesOf (a := fr) (b := fr + sp) rfl rfl (by omega) (by omega)) miX4_directoryPagesOf ml_X4_237 (by decide) (by decide) rfl (by decide) rfl rfl (Nat.le_of_ble_eq_true rfl) ⟨Nat.zero_le _, Nat.zero_le _⟩ dX4_merge_102 rfl ?_
        refine v_iadd (n := 106) k dX4_merge_105 rfl ?_
        refine v_aload_n (n := 107) k dX4_merge_106 rfl rfl ?_
        refine v_get (n := 110) k ciX4 0 0 (by decide) fl_X4_10 rfl rfl dX4_merge_107 rfl ?_
        refine v_rdVi (n := 113) k [1] 1 (z_X1_log) miX1_log ml_X4_157 (by decide) (by decide) rfl (by decide) rfl rfl rfl rfl (Nat.le_of_ble_eq_true rfl) ⟨Nat.zero_le _, Nat.zero_le _⟩ dX4_merge_110 rfl ?_
        refine v_icmp_le (n := 116) (t := 118) k (⟨by omega, by omega⟩) (⟨by omega, by omega⟩) dX4_merge_113 (by decide) rfl (fun c_113 => ?_) (fun c_113 => ?_)
        · refine v_aload_n (n := 119) k dX4_merge_118 rfl rfl ?_
          refine v_get (n := 122) k ciX4 0 1 (by decide) fl_X4_21 rfl rfl dX4_merge_119 rfl ?_
          refine v_upV (n := 125) k [4, 7, 8] 4 (z_X0_begin) miX0_begin ml_X4_209 (by decide) (by decide) rfl (by decide) rfl rfl rfl rfl (Nat.le_of_ble_eq_true rfl) ⟨Nat.zero_le _, Nat.zero_le _⟩ dX4_merge_122 rfl ?_
          rintro _ _ ⟨rfl, rfl⟩
          dsimp only [wput, List.set, Option.toList, List.nil_append, List.cons_append]
          refine v_aload_n (n := 126) k dX4_merge_125 rfl rfl ?_
          refine v_get (n := 129) k ciX4 0 2 (by decide) fl_X4_28 rfl rfl dX4_merge_126 rfl ?_
          refine v_iload (n := 131) k dX4_merge_129 rfl rfl ?_
          refine v_iconst (n := 132) k dX4_merge_131 rfl ?_
          refine v_isub (n := 133) k dX4_merge_132 rfl ?_
          refine v_upV (n := 136) k [5, 6] 5 (z_X2_startBucket (v := e - 1) (by omega)) miX2_startBucket ml_X4_196 (by decide) (by decide) rfl (by decide) rfl rfl rfl rfl (Nat.le_of_ble_eq_true rfl) ⟨Nat.zero_le _, Nat.zero_le _⟩ dX4_merge_133 rfl ?_
          rw [bpg_0 (by omega)]
          rintro _ _ ⟨rfl, rfl⟩
          dsimp only [wput, List.set, Option.toList, List.nil_append, List.cons_append]
          refine v_aload_n (n := 137) k dX4_merge_136 rfl rfl ?_
          refine v_iload (n := 139) k dX4_merge_137 rfl rfl ?_
          refine v_iconst (n := 140) k dX4_merge_139 rfl ?_
          refine v_upV (n := 143) k [0, 1, 2, 5, 6] 0 (z_X4_addRecordsBut (p := o) (d := e - 1) (rs := []) hO ho2 w2 hbo w3 ⟨by omega, by omega⟩ (by simp; omega) (by simp; omega)) miX4_addRecordsBut ml_X4_199 (by decide) (by decide) rfl (by decide) rfl rfl rfl rfl (Nat.le_of_ble_eq_true rfl) ⟨Nat.zero_le _, Nat.zero_le _⟩ dX4_merge_140 rfl ?_
          rw [List.nil_append, show recS C o (notAt C o (-1)) (pb C o 1) = allL C o from rfl]
          rintro _ _ ⟨rfl, rfl⟩
          dsimp only [wput, List.set, Option.toList, List.nil_append, List.cons_append]
          refine v_aload_n (n := 144) k dX4_merge_143 rfl rfl ?_
          refine v_iload (n := 146) k dX4_merge_144 rfl rfl ?_
          refine v_iconst (n := 147) k dX4_merge_146 rfl ?_
          refine v_upV (n := 150) k [0, 1, 2, 5, 6] 0 (z_X4_addRecordsBut (p := p) (d := e - 1) (rs := allL C o) rfl hp2 w2 hbp w3 ⟨by omega, by omega⟩ (by omega) (by omega)) miX4_addRecordsBut ml_X4_199 (by decide) (by decide) rfl (by decide) rfl rfl rfl rfl (Nat.le_of_ble_eq_true rfl) ⟨Nat.zero_le _, Nat.zero_le _⟩ dX4_merge_147 rfl ?_
          rw [show recS C p (notAt C p (-1)) (pb C p 1) = allL C p from rfl]
          rintro _ _ ⟨rfl, rfl⟩
          dsimp only [wput, List.set, Option.toList, List.nil_append, List.cons_append]
          refine v_aload_n (n := 151) k dX4_merge_150 rfl rfl ?_
          refine v_get (n := 154) k ciX4 0 1 (by decide) fl_X4_21 rfl rfl dX4_merge_151 rfl ?_
          refine v_aload_n (n := 155) k dX4_merge_154 rfl rfl ?_
          refine v_get (n := 158) k ciX4 0 2 (by decide) fl_X4_28 rfl rfl dX4_merge_155 rfl ?_
          refine v_iload (n := 160) k dX4_merge_158 rfl rfl ?_
          refine v_upV (n := 163) k [4, 1, 2, 3, 7, 8, 5, 6] 4 (z_X0_add (q := o) (ps := []) hO (by omega) (by simp; omega) w2 hal hks) miX0_add ml_X4_227 (by decide) (by decide) rfl (by decide) rfl rfl rfl rfl (Nat.le_of_ble_eq_true rfl) ⟨Nat.zero_le _, Nat.zero_le _⟩ dX4_merge_160 rfl ?_
          rintro _ _ ⟨b1, C2, wt2, al2, dn2, ko3, hs1, hks1, hal1, rfl, rfl⟩
          dsimp only [wput, List.set, Option.toList, List.nil_append, List.cons_append]
          refine v_if_ne (n := 166) (t := 168) k (⟨by cases b1 <;> decide, by cases b1 <;> decide⟩) dX4_merge_163 (by decide) rfl (fun c_163 => ?_) (fun c_163 => ?_)
          · have hb9 : b1 = true := by
              cases b1 with
              | true => rfl
              | false => exact absurd rfl c_163
            subst hb9
            have hag2 : AGR lg C C2 := sW_agr hs1 (by simp) (by simp; omega)
            have hC2 : ∀ j, C2 j < 256 := sW_lt hs1 w3 (fun j _ => two_lt w3 (by omega) hbo hbp (by omega) j)
            have hrt : rtL C2 fr (fr + sp) o (dpO fr (fr + sp)) (fr / 256) = rtL C fr (fr + sp) o (dpO fr (fr + sp)) (fr / 256) := rtL_agr hag2 hw _ _ (by unfold dpO; omega)
            refine v_aload_n (n := 169) k dX4_merge_168 rfl rfl ?_
            refine v_iload (n := 171) k dX4_merge_169 rfl rfl ?_
            refine v_iload (n := 173) k dX4_merge_171 rfl rfl ?_
            refine v_iload (n := 175) k dX4_merge_173 rfl rfl ?_
            refine v_iadd (n := 176) k dX4_merge_175 rfl ?_
            refine v_iload (n := 178) k dX4_merge_176 rfl rfl ?_
            refine v_upV (n := 181) k [0, 1, 2, 3, 4, 5, 6, 7, 8] 0 (z_X4_retell (a := fr) (b := fr + sp) (q := o) (ps := [o]) rfl rfl hO (by omega) (by omega) (hag2.dw hw hC2) (by rw [hag2.c0 (by omega)]; omega) hks1 hal1 (by simp; omega) hlp) miX4_retell ml_X4_244 (by decide) (by decide) rfl (by decide) rfl rfl rfl rfl (Nat.le_of_ble_eq_true rfl) ⟨Nat.zero_le _, Nat.zero_le _⟩ dX4_merge_178 rfl ?_
            rw [show (fr + sp - 1) / 256 + 1 - fr / 256 = dpO fr (fr + sp) from rfl, hrt]
            rintro _ _ ⟨b5, C5, wt5, al5, dn5, ko5, fj5, fb5, hs5, hj5, hks5, hal5, hC5, rfl, rfl⟩
            dsimp only [wput, List.set, Option.toList, List.nil_append, List.cons_append]
            refine v_if_eq (n := 184) (t := 198) k (⟨by cases b5 <;> decide, by cases b5 <;> decide⟩) dX4_merge_181 (by decide) rfl (fun c_181 => ?_) (fun c_181 => ?_)
            · refine v_iconst (n := 199) k dX4_merge_198 rfl ?_
              refine v_iretU k hq ?_ rfl dX4_merge_199
              have hb9 : b5 = false := by
                cases b5 with
                | false => rfl
                | true => exact absurd c_181 (by decide)
              subst hb9
              refine ⟨4, C5, wt5, al5, dn5, ko5, _, _, _, ?_, hks5, hal5, rfl, rfl⟩
              refine (hmg o p (Or.inr ⟨hz0, rfl, rfl⟩) (by unfold dpO; omega)).trans (congrArg stC (sChg_f ((sImg_t (i := 0) hs1).trans hs5)))
            · have hb9 : b5 = true := by
                cases b5 with
                | true => rfl
                | false => exact absurd rfl c_181
              subst hb9
              have hfj := hj5 rfl
              subst hfj
              have hJ9 : JV (jpg ([o] ++ (rtL C fr (fr + sp) o (dpO fr (fr + sp)) (fr / 256)).map Prod.fst)) pg := by
                refine JV_of (by simp [rtL_len]; unfold dpO; omega) (fun x hx => ?_)
                rcases List.mem_append.mp hx with g | g
                · simp at g
                  omega
                · obtain ⟨t, t1, t2, t3⟩ := rtL_fst _ _ _ _ _ _ x g
                  have h5 := w5 t (by unfold dpO at t2; omega)
                  have h6 := w6 t (by unfold dpO at t2; omega)
                  rw [pb0] at t3
                  omega
              refine v_aload_n (n := 185) k dX4_merge_184 rfl rfl ?_
              refine v_get (n := 188) k ciX4 0 1 (by decide) fl_X4_21 rfl rfl dX4_merge_185 rfl ?_
              refine v_upV (n := 191) k [4, 1, 2, 3, 7, 8, 9, 10] 4 (z_X0_finish (ps := [o] ++ (rtL C fr (fr + sp) o (dpO fr (fr + sp)) (fr / 256)).map Prod.fst) hJ9 w2 hks5 hal5) miX0_finish ml_X4_231 (by decide) (by decide) rfl (by decide) rfl rfl rfl rfl (Nat.le_of_ble_eq_true rfl) ⟨Nat.zero_le _, Nat.zero_le _⟩ dX4_merge_188 rfl ?_
              rintro _ _ ⟨b2, C7, wt7, al7, dn7, ko7, fj7, fi7, hs7, hks7, hal7, rfl, rfl⟩
              dsimp only [wput, List.set, Option.toList, List.nil_append, List.cons_append]
              refine v_if_eq (n := 194) (t := 198) k (⟨by cases b2 <;> decide, by cases b2 <;> decide⟩) dX4_merge_191 (by decide) rfl (fun c_191 => ?_) (fun c_191 => ?_)
              · refine v_iconst (n := 199) k dX4_merge_198 rfl ?_
                refine v_iretU k hq ?_ rfl dX4_merge_199
                have hb9 : b2 = false := by
                  cases b2 with
                  | false => rfl
                  | true => exact absurd c_191 (by decide)
                subst hb9
                refine ⟨4, C7, wt7, al7, dn7, ko7, _, _, _, ?_, hks7, hal7, rfl, rfl⟩
                refine (hmg o p (Or.inr ⟨hz0, rfl, rfl⟩) (by unfold dpO; omega)).trans (congrArg stC (sChg_t ((sImg_t (i := 0) hs1).trans hs5) hs7))
              · refine v_iconst (n := 195) k dX4_merge_194 rfl ?_
                refine v_goto (t := 199) k dX4_merge_195 (by decide) ?_
                refine v_iretU k hq ?_ rfl dX4_merge_199
                have hb9 : b2 = true := by
                  cases b2 with
                  | true => rfl
                  | false => exact absurd rfl c_191
                subst hb9
                refine ⟨0, C7, wt7, al7, dn7, ko7, _, _, _, ?_, hks7, hal7, rfl, rfl⟩
                refine (hmg o p (Or.inr ⟨hz0, rfl, rfl⟩) (by unfold dpO; omega)).trans (congrArg stC (sChg_t ((sImg_t (i := 0) hs1).trans hs5) hs7))
          · refine v_iconst (n := 167) k dX4_merge_166 rfl ?_
            refine v_iretU k hq ?_ rfl dX4_merge_167
            have hb9 : b1 = false := by
              cases b1 with
              | false => rfl
              | true => exact absurd c_163 (by decide)
            subst hb9
            refine ⟨4, C2, wt2, al2, dn2, ko3, _, _, _, ?_, hks1, hal1, rfl, rfl⟩
            refine (hmg o p (Or.inr ⟨hz0, rfl, rfl⟩) (by unfold dpO; omega)).trans (congrArg stC (sChg_f (sImg_f (i := 0) hs1)))
        · refine v_iconst (n := 117) k dX4_merge_116 rfl ?_
          refine v_iretU k hq ?_ rfl dX4_merge_117
          refine ⟨2, C, wt, al, dn, ko, _, _, _, ?_, hks, hal, rfl, rfl⟩
          show (if lg < 1 + dpO (mgF C h (pb C (entN C (idx C h)) 0)) (mgF C h (pb C (entN C (idx C h)) 0) + 2 ^ (C 0 - pb C (entN C (idx C h)) 0)) then _ else _) = _
          rw [hgp, hge, hgs, hgf, if_pos (show lg < 1 + dpO fr (fr + sp) by unfold dpO; omega)]
      · exfalso; omega
    · exfalso; omega
  · have hz0 : ix &&& sp = 0 := by omega
    refine v_iconst (n := 53) k dX4_merge_52 rfl ?_
    refine v_goto (t := 57) k dX4_merge_53 (by decide) ?_
    refine v_istore (n := 59) k dX4_merge_57 rfl (by decide) rfl rfl ?_
    refine v_iload (n := 61) k dX4_merge_59 rfl rfl ?_
    refine v_if_eq (n := 64) (t := 68) k (⟨by omega, by omega⟩) dX4_merge_61 (by decide) rfl (fun c_61 => ?_) (fun c_61 => ?_)
    · exfalso; omega
    · refine v_iload_n (n := 65) k dX4_merge_64 rfl rfl ?_
      refine v_goto (t := 69) k dX4_merge_65 (by decide) ?_
      refine v_istore (n := 71) k dX4_merge_69 rfl (by decide) rfl rfl ?_
      refine v_iload (n := 73) k dX4_merge_71 rfl rfl ?_
      refine v_if_eq (n := 76) (t := 80) k (⟨by omega, by omega⟩) dX4_merge_73 (by decide) rfl (fun c_73 => ?_) (fun c_73 => ?_)
      · exfalso; omega
      · refine v_iload_n (n := 77) k dX4_merge_76 rfl rfl ?_
        refine v_goto (t := 81) k dX4_merge_77 (by decide) ?_
        refine v_istore (n := 83) k dX4_merge_81 rfl (by decide) rfl rfl ?_
        refine v_iload (n := 85) k dX4_merge_83 rfl rfl ?_
        refine v_iload (n := 87) k dX4_merge_85 rfl rfl ?_
        refine v_ior (n := 88) k (((ix ||| sp : Nat) : Int)) (ax_or _ _) dX4_merge_87 rfl ?_
        refine v_iload (n := 90) k dX4_merge_88 rfl rfl ?_
        refine v_ineg (n := 91) k dX4_merge_90 rfl ?_
        refine v_iand (n := 92) k (((fr : Nat) : Int)) (by rw [hfe, ← hgs]; exact ax_negmask rfl rfl (by rw [hgs]; omega) (by omega)) dX4_merge_91 rfl ?_
        refine v_istore (n := 94) k dX4_merge_92 rfl (by decide) rfl rfl ?_
        refine v_iconst (n := 95) k dX4_merge_94 rfl ?_
        refine v_iload (n := 97) k dX4_merge_95 rfl rfl ?_
        refine v_iload (n := 99) k dX4_merge_97 rfl rfl ?_
        refine v_iload (n := 101) k dX4_merge_99 rfl rfl ?_
        refine v_iadd (n := 102) k dX4_merge_101 rfl ?_
        refine v_rdSi (n := 105) k [] (z_X4_directoryPagesOf (a := fr) (b := fr + sp) rfl rfl (by omega) (by omega)) miX4_directoryPagesOf ml_X4_237 (by decide) (by decide) rfl (by decide) rfl rfl (Nat.le_of_ble_eq_true rfl) ⟨Nat.zero_le _, Nat.zero_le _⟩ dX4_merge_102 rfl ?_
        refine v_iadd (n := 106) k dX4_merge_105 rfl ?_
        refine v_aload_n (n := 107) k dX4_merge_106 rfl rfl ?_
        refine v_get (n := 110) k ciX4 0 0 (by decide) fl_X4_10 rfl rfl dX4_merge_107 rfl ?_
        refine v_rdVi (n := 113) k [1] 1 (z_X1_log) miX1_log ml_X4_157 (by decide) (by decide) rfl (by decide) rfl rfl rfl rfl (Nat.le_of_ble_eq_true rfl) ⟨Nat.zero_le _, Nat.zero_le _⟩ dX4_merge_110 rfl ?_
        refine v_icmp_le (n := 116) (t := 118) k (⟨by omega, by omega⟩) (⟨by omega, by omega⟩) dX4_merge_113 (by decide) rfl (fun c_113 => ?_) (fun c_113 => ?_)
        · refine v_aload_n (n := 119) k dX4_merge_118 rfl rfl ?_
          refine v_get (n := 122) k ciX4 0 1 (by decide) fl_X4_21 rfl rfl dX4_merge_119 rfl ?_
          refine v_upV (n := 125) k [4, 7, 8] 4 (z_X0_begin) miX0_begin ml_X4_209 (by decide) (by decide) rfl (by decide) rfl rfl rfl rfl (Nat.le_of_ble_eq_true rfl) ⟨Nat.zero_le _, Nat.zero_le _⟩ dX4_merge_122 rfl ?_
          rintro _ _ ⟨rfl, rfl⟩
          dsimp only [wput, List.set, Option.toList, List.nil_append, List.cons_append]
          refine v_aload_n (n := 126) k dX4_merge_125 rfl rfl ?_
          refine v_get (n := 129) k ciX4 0 2 (by decide) fl_X4_28 rfl rfl dX4_merge_126 rfl ?_
          refine v_iload (n := 131) k dX4_merge_129 rfl rfl ?_
          refine v_iconst (n := 132) k dX4_merge_131 rfl ?_
          refine v_isub (n := 133) k dX4_merge_132 rfl ?_
          refine v_upV (n := 136) k [5, 6] 5 (z_X2_startBucket (v := e - 1) (by omega)) miX2_startBucket ml_X4_196 (by decide) (by decide) rfl (by decide) rfl rfl rfl rfl (Nat.le_of_ble_eq_true rfl) ⟨Nat.zero_le _, Nat.zero_le _⟩ dX4_merge_133 rfl ?_
          rw [bpg_0 (by omega)]
          rintro _ _ ⟨rfl, rfl⟩
          dsimp only [wput, List.set, Option.toList, List.nil_append, List.cons_append]
          refine v_aload_n (n := 137) k dX4_merge_136 rfl rfl ?_
          refine v_iload (n := 139) k dX4_merge_137 rfl rfl ?_
          refine v_iconst (n := 140) k dX4_merge_139 rfl ?_
          refine v_upV (n := 143) k [0, 1, 2, 5, 6] 0 (z_X4_addRecordsBut (p := p) (d := e - 1) (rs := []) rfl hp2 w2 hbp w3 ⟨by omega, by omega⟩ (by simp; omega) (by simp; omega)) miX4_addRecordsBut ml_X4_199 (by decide) (by decide) rfl (by decide) rfl rfl rfl rfl (Nat.le_of_ble_eq_true rfl) ⟨Nat.zero_le _, Nat.zero_le _⟩ dX4_merge_140 rfl ?_
          rw [List.nil_append, show recS C p (notAt C p (-1)) (pb C p 1) = allL C p from rfl]
          rintro _ _ ⟨rfl, rfl⟩
          dsimp only [wput, List.set, Option.toList, List.nil_append, List.cons_append]
          refine v_aload_n (n := 144) k dX4_merge_143 rfl rfl ?_
          refine v_iload (n := 146) k dX4_merge_144 rfl rfl ?_
          refine v_iconst (n := 147) k dX4_merge_146 rfl ?_
          refine v_upV (n := 150) k [0, 1, 2, 5, 6] 0 (z_X4_addRecordsBut (p := o) (d := e - 1) (rs := allL C p) hO ho2 w2 hbo w3 ⟨by omega, by omega⟩ (by omega) (by omega)) miX4_addRecordsBut ml_X4_199 (by decide) (by decide) rfl (by decide) rfl rfl rfl rfl (Nat.le_of_ble_eq_true rfl) ⟨Nat.zero_le _, Nat.zero_le _⟩ dX4_merge_147 rfl ?_
          rw [show recS C o (notAt C o (-1)) (pb C o 1) = allL C o from rfl]
          rintro _ _ ⟨rfl, rfl⟩
          dsimp only [wput, List.set, Option.toList, List.nil_append, List.cons_append]
          refine v_aload_n (n := 151) k dX4_merge_150 rfl rfl ?_
          refine v_get (n := 154) k ciX4 0 1 (by decide) fl_X4_21 rfl rfl dX4_merge_151 rfl ?_
          refine v_aload_n (n := 155) k dX4_merge_154 rfl rfl ?_
          refine v_get (n := 158) k ciX4 0 2 (by decide) fl_X4_28 rfl rfl dX4_merge_155 rfl ?_
          refine v_iload (n := 160) k dX4_merge_158 rfl rfl ?_
          refine v_upV (n := 163) k [4, 1, 2, 3, 7, 8, 5, 6] 4 (z_X0_add (q := p) (ps := []) rfl (by omega) (by simp; omega) w2 hal hks) miX0_add ml_X4_227 (by decide) (by decide) rfl (by decide) rfl rfl rfl rfl (Nat.le_of_ble_eq_true rfl) ⟨Nat.zero_le _, Nat.zero_le _⟩ dX4_merge_160 rfl ?_
          rintro _ _ ⟨b1, C2, wt2, al2, dn2, ko3, hs1, hks1, hal1, rfl, rfl⟩
          dsimp only [wput, List.set, Option.toList, List.nil_append, List.cons_append]
          refine v_if_ne (n := 166) (t := 168) k (⟨by cases b1 <;> decide, by cases b1 <;> decide⟩) dX4_merge_163 (by decide) rfl (fun c_163 => ?_) (fun c_163 => ?_)
          · have hb9 : b1 = true := by
              cases b1 with
              | true => rfl
              | false => exact absurd rfl c_163
            subst hb9
            have hag2 : AGR lg C C2 := sW_agr hs1 (by simp) (by simp; omega)
            have hC2 : ∀ j, C2 j < 256 := sW_lt hs1 w3 (fun j _ => two_lt w3 (by omega) hbp hbo hL j)
            have hrt : rtL C2 fr (fr + sp) p (dpO fr (fr + sp)) (fr / 256) = rtL C fr (fr + sp) p (dpO fr (fr + sp)) (fr / 256) := rtL_agr hag2 hw _ _ (by unfold dpO; omega)
            refine v_aload_n (n := 169) k dX4_merge_168 rfl rfl ?_
            refine v_iload (n := 171) k dX4_merge_169 rfl rfl ?_
            refine v_iload (n := 173) k dX4_merge_171 rfl rfl ?_
            refine v_iload (n := 175) k dX4_merge_173 rfl rfl ?_
            refine v_iadd (n := 176) k dX4_merge_175 rfl ?_
            refine v_iload (n := 178) k dX4_merge_176 rfl rfl ?_
            refine v_upV (n := 181) k [0, 1, 2, 3, 4, 5, 6, 7, 8] 0 (z_X4_retell (a := fr) (b := fr + sp) (q := p) (ps := [p]) rfl rfl rfl (by omega) (by omega) (hag2.dw hw hC2) (by rw [hag2.c0 (by omega)]; omega) hks1 hal1 (by simp; omega) hlp) miX4_retell ml_X4_244 (by decide) (by decide) rfl (by decide) rfl rfl rfl rfl (Nat.le_of_ble_eq_true rfl) ⟨Nat.zero_le _, Nat.zero_le _⟩ dX4_merge_178 rfl ?_
            rw [show (fr + sp - 1) / 256 + 1 - fr / 256 = dpO fr (fr + sp) from rfl, hrt]
            rintro _ _ ⟨b5, C5, wt5, al5, dn5, ko5, fj5, fb5, hs5, hj5, hks5, hal5, hC5, rfl, rfl⟩
            dsimp only [wput, List.set, Option.toList, List.nil_append, List.cons_append]
            refine v_if_eq (n := 184) (t := 198) k (⟨by cases b5 <;> decide, by cases b5 <;> decide⟩) dX4_merge_181 (by decide) rfl (fun c_181 => ?_) (fun c_181 => ?_)
            · refine v_iconst (n := 199) k dX4_merge_198 rfl ?_
              refine v_iretU k hq ?_ rfl dX4_merge_199
              have hb9 : b5 = false := by
                cases b5 with
                | false => rfl
                | true => exact absurd c_181 (by decide)
              subst hb9
              refine ⟨4, C5, wt5, al5, dn5, ko5, _, _, _, ?_, hks5, hal5, rfl, rfl⟩
              refine (hmg p o (Or.inl ⟨hz0, rfl, rfl⟩) (by unfold dpO; omega)).trans (congrArg stC (sChg_f ((sImg_t (i := 0) hs1).trans hs5)))
            · have hb9 : b5 = true := by
                cases b5 with
                | true => rfl
                | false => exact absurd rfl c_181
              subst hb9
              have hfj := hj5 rfl
              subst hfj
              have hJ9 : JV (jpg ([p] ++ (rtL C fr (fr + sp) p (dpO fr (fr + sp)) (fr / 256)).map Prod.fst)) pg := by
                refine JV_of (by simp [rtL_len]; unfold dpO; omega) (fun x hx => ?_)
                rcases List.mem_append.mp hx with g | g
                · simp at g
                  omega
                · obtain ⟨t, t1, t2, t3⟩ := rtL_fst _ _ _ _ _ _ x g
                  have h5 := w5 t (by unfold dpO at t2; omega)
                  have h6 := w6 t (by unfold dpO at t2; omega)
                  rw [pb0] at t3
                  omega
              refine v_aload_n (n := 185) k dX4_merge_184 rfl rfl ?_
              refine v_get (n := 188) k ciX4 0 1 (by decide) fl_X4_21 rfl rfl dX4_merge_185 rfl ?_
              refine v_upV (n := 191) k [4, 1, 2, 3, 7, 8, 9, 10] 4 (z_X0_finish (ps := [p] ++ (rtL C fr (fr + sp) p (dpO fr (fr + sp)) (fr / 256)).map Prod.fst) hJ9 w2 hks5 hal5) miX0_finish ml_X4_231 (by decide) (by decide) rfl (by decide) rfl rfl rfl rfl (Nat.le_of_ble_eq_true rfl) ⟨Nat.zero_le _, Nat.zero_le _⟩ dX4_merge_188 rfl ?_
              rintro _ _ ⟨b2, C7, wt7, al7, dn7, ko7, fj7, fi7, hs7, hks7, hal7, rfl, rfl⟩
              dsimp only [wput, List.set, Option.toList, List.nil_append, List.cons_append]
              refine v_if_eq (n := 194) (t := 198) k (⟨by cases b2 <;> decide, by cases b2 <;> decide⟩) dX4_merge_191 (by decide) rfl (fun c_191 => ?_) (fun c_191 => ?_)
              · refine v_iconst (n := 199) k dX4_merge_198 rfl ?_
                refine v_iretU k hq ?_ rfl dX4_merge_199
                have hb9 : b2 = false := by
                  cases b2 with
                  | false => rfl
                  | true => exact absurd c_191 (by decide)
                subst hb9
                refine ⟨4, C7, wt7, al7, dn7, ko7, _, _, _, ?_, hks7, hal7, rfl, rfl⟩
                refine (hmg p o (Or.inl ⟨hz0, rfl, rfl⟩) (by unfold dpO; omega)).trans (congrArg stC (sChg_t ((sImg_t (i := 0) hs1).trans hs5) hs7))
              · refine v_iconst (n := 195) k dX4_merge_194 rfl ?_
                refine v_goto (t := 199) k dX4_merge_195 (by decide) ?_
                refine v_iretU k hq ?_ rfl dX4_merge_199
                have hb9 : b2 = true := by
                  cases b2 with
                  | true => rfl
                  | false => exact absurd rfl c_191
                subst hb9
                refine ⟨0, C7, wt7, al7, dn7, ko7, _, _, _, ?_, hks7, hal7, rfl, rfl⟩
                refine (hmg p o (Or.inl ⟨hz0, rfl, rfl⟩) (by unfold dpO; omega)).trans (congrArg stC (sChg_t ((sImg_t (i := 0) hs1).trans hs5) hs7))
          · refine v_iconst (n := 167) k dX4_merge_166 rfl ?_
            refine v_iretU k hq ?_ rfl dX4_merge_167
            have hb9 : b1 = false := by
              cases b1 with
              | false => rfl
              | true => exact absurd c_163 (by decide)
            subst hb9
            refine ⟨4, C2, wt2, al2, dn2, ko3, _, _, _, ?_, hks1, hal1, rfl, rfl⟩
            refine (hmg p o (Or.inl ⟨hz0, rfl, rfl⟩) (by unfold dpO; omega)).trans (congrArg stC (sChg_f (sImg_f (i := 0) hs1)))
        · refine v_iconst (n := 117) k dX4_merge_116 rfl ?_
          refine v_iretU k hq ?_ rfl dX4_merge_117
          refine ⟨2, C, wt, al, dn, ko, _, _, _, ?_, hks, hal, rfl, rfl⟩
          show (if lg < 1 + dpO (mgF C h (pb C (entN C (idx C h)) 0)) (mgF C h (pb C (entN C (idx C h)) 0) + 2 ^ (C 0 - pb C (entN C (idx C h)) 0)) then _ else _) = _
          rw [hgp, hge, hgs, hgf, if_pos (show lg < 1 + dpO fr (fr + sp) by unfold dpO; omega)]
end
section
/-- what every step needs: the entries tell buckets -/
def EOK (C : Nat → Nat) (pg lg : Nat) : Prop := DW C pg lg ∧ lg + 4 ≤ pg ∧ C 0 ≤ 14 ∧ ∀ i, i < 2 ^ C 0 → lg + 2 ≤ entN C i ∧ entN C i < pg ∧ WB C (entN C i) ∧ pb C (entN C i) 0 ≤ C 0
def sMA (lg h : Nat) : Nat → DA → Int × DA
  | 0, a => (0, a)
  | n + 1, a => match mpN a.1 h with
    | none => (0, a)
    | some o => if (sMrg a lg h o).1 = 0 then sMA lg h n (sMrg a lg h o).2 else sMrg a lg h o
def sHA (pg lg : Nat) : Nat → DA → Int × DA
  | 0, a => (0, a)
  | n + 1, a => if a.1 0 = 0 ∨ hbD a.1 pg lg (a.1 0) = true then (0, a) else
    if (sRes a pg lg (a.1 0 - 1)).1 = 0 then sHA pg lg n (sRes a pg lg (a.1 0 - 1)).2 else (if (sRes a pg lg (a.1 0 - 1)).1 = 4 then 4 else 0, (sRes a pg lg (a.1 0 - 1)).2)
/-- one step that makes place -/
def sSt (a : DA) (pg lg h : Nat) : Int × DA := if pb a.1 (entN a.1 (idx a.1 h)) 0 = a.1 0 then sRes a pg lg (a.1 0 + 1) else sSpl a pg lg (entN a.1 (idx a.1 h)) h
def sMP (pg lg h : Nat) (T : Nat → Nat) (ks z : Nat) : Nat → DA → Int × DA
  | 0, a => (1, a)
  | n + 1, a => if plc a.1 (entN a.1 (idx a.1 h)) T ks z = true then (0, a) else if allH a.1 (entN a.1 (idx a.1 h)) h = true then (3, a) else
    if (sSt a pg lg h).1 = 0 then sMP pg lg h T ks z n (sSt a pg lg h).2 else sSt a pg lg h
theorem mpN_some {C : Nat → Nat} {h o : Nat} (e : mpN C h = some o) : 1 ≤ pb C (entN C (idx C h)) 0 ∧ o = entN C (idx C h ^^^ 2 ^ (C 0 - pb C (entN C (idx C h)) 0)) ∧ bL C (entN C (idx C h)) + bL C o ≤ 126 ∧ pb C o 0 = pb C (entN C (idx C h)) 0 := by
  unfold mpN at e
  split at e
  · cases e
  · split at e
    · rename_i h1 h2
      cases e
      exact ⟨by omega, rfl, h2.2, h2.1⟩
    · cases e
theorem mpI_in {C : Nat → Nat} {h : Nat} (hC : ∀ j, C j < 256) : in32 (mpI C h) := by
  unfold mpI
  cases hm : mpN C h with
  | some q =>
    have := (mpN_some hm).2.1
    have h2 : q < 256 := by rw [this]; exact hC _
    show in32 (q : Int)
    exact ⟨by omega, by omega⟩
  | none =>
    show in32 (-1)
    exact ⟨by omega, by omega⟩
theorem stC_in (r : Bool × DA) : (stC r).1 = 0 ∨ (stC r).1 = 4 := by
  obtain ⟨b, a⟩ := r
  cases b
  · exact Or.inr rfl
  · exact Or.inl rfl
theorem sMrg_in (a : DA) (lg h o : Nat) : 0 ≤ (sMrg a lg h o).1 ∧ (sMrg a lg h o).1 ≤ 4 := by
  unfold sMrg
  split
  · exact ⟨by show (0 : Int) ≤ 2; omega, by show (2 : Int) ≤ 4; omega⟩
  · rcases stC_in (sChg a (mgC a.1 (pb a.1 (entN a.1 (idx a.1 h)) 0) (if mgB a.1 h (pb a.1 (entN a.1 (idx a.1 h)) 0) then entN a.1 (idx a.1 h) else o) (if mgB a.1 h (pb a.1 (entN a.1 (idx a.1 h)) 0) then o else entN a.1 (idx a.1 h)) (mgF a.1 h (pb a.1 (entN a.1 (idx a.1 h)) 0)) (mgF a.1 h (pb a.1 (entN a.1 (idx a.1 h)) 0) + 2 ^ (a.1 0 - pb a.1 (entN a.1 (idx a.1 h)) 0)))) with g | g
    · omega
    · omega
theorem sRes_in (a : DA) (pg lg q : Nat) : 0 ≤ (sRes a pg lg q).1 ∧ (sRes a pg lg q).1 ≤ 4 := by
  unfold sRes
  split
  · exact ⟨by show (0 : Int) ≤ 1; omega, by show (1 : Int) ≤ 4; omega⟩
  · split
    · exact ⟨by show (0 : Int) ≤ 2; omega, by show (2 : Int) ≤ 4; omega⟩
    · split
      · exact ⟨by show (0 : Int) ≤ 0; omega, by show (0 : Int) ≤ 4; omega⟩
      · exact ⟨by show (0 : Int) ≤ 4; omega, by show (4 : Int) ≤ 4; omega⟩
theorem sSpl_in (a : DA) (pg lg p h : Nat) : 0 ≤ (sSpl a pg lg p h).1 ∧ (sSpl a pg lg p h).1 ≤ 4 := by
  unfold sSpl
  split
  · exact ⟨by show (0 : Int) ≤ 1; omega, by show (1 : Int) ≤ 4; omega⟩
  · split
    · exact ⟨by show (0 : Int) ≤ 2; omega, by show (2 : Int) ≤ 4; omega⟩
    · split
      · exact ⟨by show (0 : Int) ≤ 0; omega, by show (0 : Int) ≤ 4; omega⟩
      · exact ⟨by show (0 : Int) ≤ 4; omega, by show (4 : Int) ≤ 4; omega⟩
set_option maxHeartbeats 1000000 in
set_option maxRecDepth 20000 in
theorem lp_X4_mergeAll {D : va_G} {cI cB cJ cZ : ClassId} {x : Kx} {hx hd hc hk hch hb hbb hh ht ha hj hi hjb hib : Nat} {an : Int} {pg lg : Nat} {K : Nat → Nat} {H : Int} {h : Nat} {INV : (Nat → Nat) → Prop} {a0 : DA} (k : Kf x cX4_mergeAll 5 yX4_mergeAll.cls (some .int) D (TY cI cB cJ cZ) ({ frames := 6, cells := 0, slots := 0, locals := 165 })) (hq : isU x D [hx, hd, hc, hk, hch, hb, hbb, hj, hjb, hi, hib] (fun r w1 => ∃ s2 C2 wt2 al2 dn2 ko2 fb2 fj2 fi2, sMA lg h 64 a0 = (s2, C2, wt2, al2, dn2) ∧ KS ko2 K C2 pg lg ∧ in32 al2 ∧ r = some (.int (iI s2)) ∧ w1 = [oHash hx hd hch hb hh ht ha an, oDisk hd hc hk ko2 pg lg wt2 al2 dn2, aN cI hc 65280 C2, aN cI hk 255 K, oChange hch hd hj hi, oPage hb hbb, aN cI hbb 256 fb2, oPage hj hjb, aN cI hjb 256 fj2, oPage hi hib, aN cI hib 256 fi2])) (hH : H = (h : Int)) (hh9 : h < 65536) (hI : ∀ C, INV C → EOK C pg lg) (hM : ∀ C wt al dn C2 wt2 al2 dn2 o, INV C → mpN C h = some o → sMrg (C, wt, al, dn) lg h o = (0, C2, wt2, al2, dn2) → INV C2) : ∀ (m : Nat) (i : Nat) (I : Int) (C : Nat → Nat) (wt al dn ko : Int) (fb fj fi : Nat → Nat), 64 < i + m → i ≤ 64 → I = (i : Int) → INV C → sMA lg h 64 a0 = sMA lg h (64 - i) (C, wt, al, dn) → KS ko K C pg lg → in32 al → Vw x 5 (fun q => q ∈ [hx, hd, hc, hk, hch, hb, hbb, hj, hjb, hi, hib]) D true 0 0 [oHash hx hd hch hb hh ht ha an, oDisk hd hc hk ko pg lg wt al dn, aN cI hc 65280 C, aN cI hk 255 K, oChange hch hd hj hi, oPage hb hbb, aN cI hbb 256 fb, oPage hj hjb, aN cI hjb 256 fj, oPage hi hib, aN cI hib 256 fi] 2 [(0, .ref hx), (1, .int (iI H)), (2, .int (iI I))] [] := by
  intro m
  induction m with
  | zero => intro i I C wt al dn ko fb fj fi hm hi9 e1 hinv e2 hks hal; omega
  | succ m ih =>
    intro i I C wt al dn ko fb fj fi hm hi9 e1 hinv e2 hks hal
    obtain ⟨hw, hlp, h14, hE⟩ := hI C hinv
    obtain ⟨w1, w2, w3, w4, w5, w6, w7⟩ := id hw
    have hE0 := hE _ (idx_lt hh9 w4)
    refine v_iload_n (n := 3) k dX4_mergeAll_2 rfl rfl ?_
    refine v_bipush (n := 5) k dX4_mergeAll_3 (by decide) rfl ?_
    refine v_icmp_ge (n := 8) (t := 43) k (⟨by omega, by omega⟩) (⟨by omega, by omega⟩) dX4_mergeAll_5 (by decide) rfl (fun c_5 => ?_) (fun c_5 => ?_)
    · refine v_iconst (n := 44) k dX4_mergeAll_43 rfl ?_
      refine v_iretU k hq ?_ rfl dX4_mergeAll_44
      have e9 : 64 - i = 0 := by omega
      refine ⟨0, C, wt, al, dn, ko, _, _, _, ?_, hks, hal, rfl, rfl⟩
      rw [e2, e9]
      rfl
    · have hmr : 64 - i = (64 - (i + 1)) + 1 := by omega
      refine v_aload_n (n := 9) k dX4_mergeAll_8 rfl rfl ?_
      refine v_iload_n (n := 10) k dX4_mergeAll_9 rfl rfl ?_
      refine v_rdVi (n := 13) k [0, 1, 2] 0 (z_X4_mergePartner (hbb := 0) hw hH hh9 (fun i hi => (hE i hi).2.1) hE0.2.2.2) miX4_mergePartner ml_X4_254 (by decide) (by decide) rfl (by decide) rfl rfl rfl rfl (Nat.le_of_ble_eq_true rfl) ⟨Nat.zero_le _, Nat.zero_le _⟩ dX4_mergeAll_10 rfl ?_
      refine v_istore_n (n := 14) k dX4_mergeAll_13 rfl (by decide) rfl rfl ?_
      refine v_iload_n (n := 15) k dX4_mergeAll_14 rfl rfl ?_
      refine v_iconst (n := 16) k dX4_mergeAll_15 rfl ?_
      refine v_icmp_ne (n := 19) (t := 21) k (mpI_in w3) (⟨by omega, by omega⟩) dX4_mergeAll_16 (by decide) rfl (fun c_16 => ?_) (fun c_16 => ?_)
      · obtain ⟨o, hmo⟩ : ∃ o, mpN C h = some o := by
          cases hm9 : mpN C h with
          | some o => exact ⟨o, rfl⟩
          | none => exact absurd (show mpI C h = -1 by unfold mpI; rw [hm9]) c_16
        have hoI : mpI C h = (o : Int) := by unfold mpI; rw [hmo]
        obtain ⟨ho1, ho2, ho3, ho4⟩ := mpN_some hmo
        have ho9 : lg + 2 ≤ o ∧ o < pg ∧ WB C o ∧ pb C o 0 ≤ C 0 := by
          rw [ho2]
          exact hE _ (Nat.xor_lt_two_pow (idx_lt hh9 w4) (Nat.pow_lt_pow_right (by decide) (by omega)))
        refine v_aload_n (n := 22) k dX4_mergeAll_21 rfl rfl ?_
        refine v_iload_n (n := 23) k dX4_mergeAll_22 rfl rfl ?_
        refine v_iload_n (n := 24) k dX4_mergeAll_23 rfl rfl ?_
        refine v_upV (n := 27) k [0, 1, 2, 3, 4, 5, 6, 7, 8, 9, 10] 0 (z_X4_merge hw hlp (o := o) hoI ho9.1 ho9.2.1 hH hh9 hE0.1 hE0.2.1 hE0.2.2.1 ho9.2.2.1 ho1 hE0.2.2.2 ho3 hks hal) miX4_merge ml_X4_257 (by decide) (by decide) rfl (by decide) rfl rfl rfl rfl (Nat.le_of_ble_eq_true rfl) ⟨Nat.zero_le _, Nat.zero_le _⟩ dX4_mergeAll_24 rfl ?_
        rintro _ _ ⟨s6, C6, wt6, al6, dn6, ko6, fb6, fj6, fi6, hs6, hks6, hal6, rfl, rfl⟩
        dsimp only [wput, List.set, Option.toList, List.nil_append, List.cons_append]
        have hsi := sMrg_in (C, wt, al, dn) lg h o
        rw [hs6] at hsi
        obtain ⟨hsi1, hsi2⟩ := hsi
        have hsi1 : 0 ≤ s6 := hsi1
        have hsi2 : s6 ≤ 4 := hsi2
        refine v_istore (n := 29) k dX4_mergeAll_27 rfl (by decide) rfl rfl ?_
        refine v_iload (n := 31) k dX4_mergeAll_29 rfl rfl ?_
        refine v_if_eq (n := 34) (t := 37) k (⟨by omega, by omega⟩) dX4_mergeAll_31 (by decide) rfl (fun c_31 => ?_) (fun c_31 => ?_)
        · refine v_iinc (n := 40) k dX4_mergeAll_37 rfl (by decide) rfl rfl rfl ?_
          refine v_goto (t := 2) k dX4_mergeAll_40 (by decide) ?_
          have hs0 : s6 = 0 := c_31
          subst hs0
          refine v_lvf [(0, .ref hx), (1, .int (iI H)), (2, .int (iI (I + 1)))] ⟨rfl, rfl, rfl, trivial⟩ ?_
          refine ih (i + 1) _ _ _ _ _ _ _ _ _ (by omega) (by omega) (by omega) (hM _ _ _ _ _ _ _ _ _ hinv hmo hs6) ?_ hks6 hal6
          rw [e2, hmr, sMA]
          rw [show mpN (C, wt, al, dn).1 h = some o from hmo]
          show (if (sMrg (C, wt, al, dn) lg h o).1 = 0 then sMA lg h _ (sMrg (C, wt, al, dn) lg h o).2 else _) = _
          rw [hs6, if_pos rfl]
        · refine v_iload (n := 36) k dX4_mergeAll_34 rfl rfl ?_
          refine v_iretU k hq ?_ rfl dX4_mergeAll_36
          refine ⟨s6, C6, wt6, al6, dn6, ko6, _, _, _, ?_, hks6, hal6, rfl, rfl⟩
          rw [e2, hmr, sMA]
          rw [show mpN (C, wt, al, dn).1 h = some o from hmo]
          show (if (sMrg (C, wt, al, dn) lg h o).1 = 0 then sMA lg h _ (sMrg (C, wt, al, dn) lg h o).2 else _) = _
          rw [hs6, if_neg c_31]
      · refine v_iconst (n := 20) k dX4_mergeAll_19 rfl ?_
        refine v_iretU k hq ?_ rfl dX4_mergeAll_20
        have hmn : mpN C h = none := by
          cases hm9 : mpN C h with
          | none => rfl
          | some o =>
            have : mpI C h = (o : Int) := by unfold mpI; rw [hm9]
            omega
        refine ⟨0, C, wt, al, dn, ko, _, _, _, ?_, hks, hal, rfl, rfl⟩
        rw [e2, hmr, sMA]
        rw [show mpN (C, wt, al, dn).1 h = none from hmn]
set_option maxHeartbeats 1000000 in
set_option maxRecDepth 20000 in
theorem z_X4_mergeAll {D : va_G} {cI cB cJ cZ : ClassId} {hx hd hc hk hch hb hbb hh ht ha hj hi hjb hib : Nat} {an : Int} {pg lg : Nat} {K : Nat → Nat} {H : Int} {h : Nat} {INV : (Nat → Nat) → Prop} {C : Nat → Nat} {wt al dn ko : Int} {fb fj fi : Nat → Nat} (hH : H = (h : Int)) (hh9 : h < 65536) (hI : ∀ C, INV C → EOK C pg lg) (hM : ∀ C wt al dn C2 wt2 al2 dn2 o, INV C → mpN C h = some o → sMrg (C, wt, al, dn) lg h o = (0, C2, wt2, al2, dn2) → INV C2) (hinv : INV C) (hks : KS ko K C pg lg) (hal : in32 al) : ∀ l, Up l yX4_mergeAll cX4_mergeAll 5 (some .int) ({ frames := 6, cells := 0, slots := 0, locals := 165 }) D (TY cI cB cJ cZ) [.ref hx, .int (iI H)] [oHash hx hd hch hb hh ht ha an, oDisk hd hc hk ko pg lg wt al dn, aN cI hc 65280 C, aN cI hk 255 K, oChange hch hd hj hi, oPage hb hbb, aN cI hbb 256 fb, oPage hj hjb, aN cI hjb 256 fj, oPage hi hib, aN cI hib 256 fi] (fun r w1 => ∃ s2 C2 wt2 al2 dn2 ko2 fb2 fj2 fi2, sMA lg h 64 (C, wt, al, dn) = (s2, C2, wt2, al2, dn2) ∧ KS ko2 K C2 pg lg ∧ in32 al2 ∧ r = some (.int (iI s2)) ∧ w1 = [oHash hx hd hch hb hh ht ha an, oDisk hd hc hk ko2 pg lg wt2 al2 dn2, aN cI hc 65280 C2, aN cI hk 255 K, oChange hch hd hj hi, oPage hb hbb, aN cI hbb 256 fb2, oPage hj hjb, aN cI hjb 256 fj2, oPage hi hib, aN cI hib 256 fi2]) := by
  intro l
  refine Up_of (by decide) (Nat.le_of_ble_eq_true rfl) (fun x k hq => ?_)
  refine v_iconst (n := 1) k dX4_mergeAll_0 rfl ?_
  refine v_istore_n (n := 2) k dX4_mergeAll_1 rfl (by decide) rfl rfl ?_
  exact lp_X4_mergeAll (a0 := (C, wt, al, dn)) k hq hH hh9 hI hM 65 0 _ _ _ _ _ _ _ _ _ (by omega) (by omega) rfl hinv rfl hks hal
set_option maxHeartbeats 1000000 in
set_option maxRecDepth 20000 in
theorem lp_X4_halveAll {D : va_G} {cI cB cJ cZ : ClassId} {x : Kx} {hx hd hc hk hch hb hbb hh hhb ht ha hj hi hjb hib : Nat} {an : Int} {pg lg : Nat} {INV : (Nat → Nat) → Prop} {a0 : DA} (k : Kf x cX4_halveAll 4 yX4_halveAll.cls (some .int) D (TY cI cB cJ cZ) ({ frames := 6, cells := 0, slots := 0, locals := 152 })) (hq : isU x D [hx, hd, hc, hk, hch, hb, hbb, hh, hhb, hj, hjb, hi, hib] (fun r w1 => ∃ s2 C2 wt2 al2 dn2 ko2 K2 fb2 fh2 fj2 fi2, sHA pg lg 64 a0 = (s2, C2, wt2, al2, dn2) ∧ KS ko2 K2 C2 pg lg ∧ in32 al2 ∧ r = some (.int (iI s2)) ∧ w1 = [oHash hx hd hch hb hh ht ha an, oDisk hd hc hk ko2 pg lg wt2 al2 dn2, aN cI hc 65280 C2, aN cI hk 255 K2, oChange hch hd hj hi, oPage hb hbb, aN cI hbb 256 fb2, oPage hh hhb, aN cI hhb 256 fh2, oPage hj hjb, aN cI hjb 256 fj2, oPage hi hib, aN cI hib 256 fi2])) (hI : ∀ C, INV C → EOK C pg lg) (hM : ∀ C wt al dn C2 wt2 al2 dn2, INV C → C 0 ≠ 0 → hbD C pg lg (C 0) = false → sRes (C, wt, al, dn) pg lg (C 0 - 1) = (0, C2, wt2, al2, dn2) → INV C2) : ∀ (m : Nat) (i : Nat) (I : Int) (C : Nat → Nat) (wt al dn ko : Int) (K fb fh fj fi : Nat → Nat), 64 < i + m → i ≤ 64 → I = (i : Int) → INV C → sHA pg lg 64 a0 = sHA pg lg (64 - i) (C, wt, al, dn) → KS ko K C pg lg → in32 al → Vw x 4 (fun q => q ∈ [hx, hd, hc, hk, hch, hb, hbb, hh, hhb, hj, hjb, hi, hib]) D true 0 0 [oHash hx hd hch hb hh ht ha an, oDisk hd hc hk ko pg lg wt al dn, aN cI hc 65280 C, aN cI hk 255 K, oChange hch hd hj hi, oPage hb hbb, aN cI hbb 256 fb, oPage hh hhb, aN cI hhb 256 fh, oPage hj hjb, aN cI hjb 256 fj, oPage hi hib, aN cI hib 256 fi] 2 [(0, .ref hx), (1, .int (iI I))] [] := by
  intro m
  induction m with
  | zero => intro i I C wt al dn ko K fb fh fj fi hm hi9 e1 hinv e2 hks hal; omega
  | succ m ih =>
    intro i I C wt al dn ko K fb fh fj fi hm hi9 e1 hinv e2 hks hal
    obtain ⟨hw, hlp, h14, hE⟩ := hI C hinv
    obtain ⟨w1, w2, w3, w4, w5, w6, w7⟩ := id hw
    refine v_iload_n (n := 3) k dX4_halveAll_2 rfl rfl ?_
    refine v_bipush (n := 5) k dX4_halveAll_3 (by decide) rfl ?_
    refine v_icmp_ge (n := 8) (t := 62) k (⟨by omega, by omega⟩) (⟨by omega, by omega⟩) dX4_halveAll_5 (by decide) rfl (fun c_5 => ?_) (fun c_5 => ?_)
    · refine v_iconst (n := 63) k dX4_halveAll_62 rfl ?_
      refine v_iretU k hq ?_ rfl dX4_halveAll_63
      have e9 : 64 - i = 0 := by omega
      refine ⟨0, C, wt, al, dn, ko, K, _, _, _, _, ?_, hks, hal, rfl, rfl⟩
      rw [e2, e9]
      rfl
    · have hmr : 64 - i = (64 - (i + 1)) + 1 := by omega
      refine v_aload_n (n := 9) k dX4_halveAll_8 rfl rfl ?_
      refine v_get (n := 12) k ciX4 0 0 (by decide) fl_X4_10 rfl rfl dX4_halveAll_9 rfl ?_
      refine v_rdVi (n := 15) k [1, 2] 1 (z_X1_depth hw) miX1_depth ml_X4_160 (by decide) (by decide) rfl (by decide) rfl rfl rfl rfl (Nat.le_of_ble_eq_true rfl) ⟨Nat.zero_le _, Nat.zero_le _⟩ dX4_halveAll_12 rfl ?_
      refine v_istore_n (n := 16) k dX4_halveAll_15 rfl (by decide) rfl rfl ?_
      refine v_iload_n (n := 17) k dX4_halveAll_16 rfl rfl ?_
      refine v_if_le (n := 20) (t := 31) k (⟨by omega, by omega⟩) dX4_halveAll_17 (by decide) rfl (fun c_17 => ?_) (fun c_17 => ?_)
      · refine v_iconst (n := 32) k dX4_halveAll_31 rfl ?_
        refine v_iretU k hq ?_ rfl dX4_halveAll_32
        refine ⟨0, C, wt, al, dn, ko, K, _, _, _, _, ?_, hks, hal, rfl, rfl⟩
        rw [e2, hmr, sHA]
        rw [if_pos (Or.inl (show (C, wt, al, dn).1 0 = 0 by show C 0 = 0; omega))]
      · refine v_aload_n (n := 21) k dX4_halveAll_20 rfl rfl ?_
        refine v_get (n := 24) k ciX4 0 0 (by decide) fl_X4_10 rfl rfl dX4_halveAll_21 rfl ?_
        refine v_iload_n (n := 25) k dX4_halveAll_24 rfl rfl ?_
        refine v_upV (n := 28) k [1, 2, 3] 1 (z_X1_hasBucketOfDepth hw w7 (d := C 0) rfl (by omega) hks) miX1_hasBucketOfDepth ml_X4_260 (by decide) (by decide) rfl (by decide) rfl rfl rfl rfl (Nat.le_of_ble_eq_true rfl) ⟨Nat.zero_le _, Nat.zero_le _⟩ dX4_halveAll_25 rfl ?_
        rintro _ _ ⟨rfl, ko2, K2, hks2, rfl⟩
        dsimp only [wput, List.set, Option.toList, List.nil_append, List.cons_append]
        refine v_if_eq (n := 31) (t := 33) k (⟨by cases hbD C pg lg (C 0) <;> decide, by cases hbD C pg lg (C 0) <;> decide⟩) dX4_halveAll_28 (by decide) rfl (fun c_28 => ?_) (fun c_28 => ?_)
        · have hbf : hbD C pg lg (C 0) = false := by
            cases hb0 : hbD C pg lg (C 0) with
            | false => rfl
            | true => rw [bI_t hb0] at c_28; omega
          have hd0 : C 0 ≠ 0 := by omega
          refine v_aload_n (n := 34) k dX4_halveAll_33 rfl rfl ?_
          refine v_iload_n (n := 35) k dX4_halveAll_34 rfl rfl ?_
          refine v_iconst (n := 36) k dX4_halveAll_35 rfl ?_
          refine v_isub (n := 37) k dX4_halveAll_36 rfl ?_
          refine v_upV (n := 40) k [0, 1, 2, 3, 4, 5, 6, 7, 8, 9, 10, 11, 12] 0 (z_X4_resizeDirectory hw hlp (q := C 0 - 1) (by omega) (Or.inr (by omega)) (by omega) hks2 hal) miX4_resizeDirectory ml_X4_183 (by decide) (by decide) rfl (by decide) rfl rfl rfl rfl (Nat.le_of_ble_eq_true rfl) ⟨Nat.zero_le _, Nat.zero_le _⟩ dX4_halveAll_37 rfl ?_
          rintro _ _ ⟨s6, C6, wt6, al6, dn6, ko6, K6, fb6, fh6, fj6, fi6, hs6, hks6, hal6, rfl, rfl⟩
          dsimp only [wput, List.set, Option.toList, List.nil_append, List.cons_append]
          have hsi := sRes_in (C, wt, al, dn) pg lg (C 0 - 1)
          rw [hs6] at hsi
          obtain ⟨hsi1, hsi2⟩ := hsi
          have hsi1 : 0 ≤ s6 := hsi1
          have hsi2 : s6 ≤ 4 := hsi2
          refine v_istore_n (n := 41) k dX4_halveAll_40 rfl (by decide) rfl rfl ?_
          refine v_iload_n (n := 42) k dX4_halveAll_41 rfl rfl ?_
          refine v_if_eq (n := 45) (t := 56) k (⟨by omega, by omega⟩) dX4_halveAll_42 (by decide) rfl (fun c_42 => ?_) (fun c_42 => ?_)
          · refine v_iinc (n := 59) k dX4_halveAll_56 rfl (by decide) rfl rfl rfl ?_
            refine v_goto (t := 2) k dX4_halveAll_59 (by decide) ?_
            have hs0 : s6 = 0 := c_42
            subst hs0
            refine v_lvf [(0, .ref hx), (1, .int (iI (I + 1)))] ⟨rfl, rfl, trivial⟩ ?_
            refine ih (i + 1) _ _ _ _ _ _ _ _ _ _ _ (by omega) (by omega) (by omega) (hM _ _ _ _ _ _ _ _ hinv hd0 hbf hs6) ?_ hks6 hal6
            rw [e2, hmr, sHA]
            rw [if_neg (show ¬ ((C, wt, al, dn).1 0 = 0 ∨ hbD (C, wt, al, dn).1 pg lg ((C, wt, al, dn).1 0) = true) from fun h => by
              rcases h with h | h
              · exact hd0 h
              · rw [show hbD (C, wt, al, dn).1 pg lg ((C, wt, al, dn).1 0) = false from hbf] at h
                cases h)]
            show (if (sRes (C, wt, al, dn) pg lg (C 0 - 1)).1 = 0 then sHA pg lg _ (sRes (C, wt, al, dn) pg lg (C 0 - 1)).2 else (if (sRes (C, wt, al, dn) pg lg (C 0 - 1)).1 = 4 then (4 : Int) else 0, (sRes (C, wt, al, dn) pg lg (C 0 - 1)).2)) = _
            rw [hs6, if_pos rfl]
          · refine v_iload_n (n := 46) k dX4_halveAll_45 rfl rfl ?_
            refine v_iconst (n := 47) k dX4_halveAll_46 rfl ?_
            refine v_icmp_ne (n := 50) (t := 54) k (⟨by omega, by omega⟩) (⟨by omega, by omega⟩) dX4_halveAll_47 (by decide) rfl (fun c_47 => ?_) (fun c_47 => ?_)
            · refine v_iconst (n := 55) k dX4_halveAll_54 rfl ?_
              refine v_iretU k hq ?_ rfl dX4_halveAll_55
              refine ⟨0, C6, wt6, al6, dn6, ko6, K6, _, _, _, _, ?_, hks6, hal6, rfl, rfl⟩
              rw [e2, hmr, sHA]
              rw [if_neg (show ¬ ((C, wt, al, dn).1 0 = 0 ∨ hbD (C, wt, al, dn).1 pg lg ((C, wt, al, dn).1 0) = true) from fun h => by
                rcases h with h | h
                · exact hd0 h
                · rw [show hbD (C, wt, al, dn).1 pg lg ((C, wt, al, dn).1 0) = false from hbf] at h
                  cases h)]
              show (if (sRes (C, wt, al, dn) pg lg (C 0 - 1)).1 = 0 then sHA pg lg _ (sRes (C, wt, al, dn) pg lg (C 0 - 1)).2 else (if (sRes (C, wt, al, dn) pg lg (C 0 - 1)).1 = 4 then (4 : Int) else 0, (sRes (C, wt, al, dn) pg lg (C 0 - 1)).2)) = _
              rw [hs6, if_neg c_42, if_neg (show ¬ (s6, C6, wt6, al6, dn6).1 = 4 from c_47)]
            · refine v_iconst (n := 51) k dX4_halveAll_50 rfl ?_
              refine v_goto (t := 55) k dX4_halveAll_51 (by decide) ?_
              refine v_iretU k hq ?_ rfl dX4_halveAll_55
              refine ⟨4, C6, wt6, al6, dn6, ko6, K6, _, _, _, _, ?_, hks6, hal6, rfl, rfl⟩
              rw [e2, hmr, sHA]
              rw [if_neg (show ¬ ((C, wt, al, dn).1 0 = 0 ∨ hbD (C, wt, al, dn).1 pg lg ((C, wt, al, dn).1 0) = true) from fun h => by
                rcases h with h | h
                · exact hd0 h
                · rw [show hbD (C, wt, al, dn).1 pg lg ((C, wt, al, dn).1 0) = false from hbf] at h
                  cases h)]
              show (if (sRes (C, wt, al, dn) pg lg (C 0 - 1)).1 = 0 then sHA pg lg _ (sRes (C, wt, al, dn) pg lg (C 0 - 1)).2 else (if (sRes (C, wt, al, dn) pg lg (C 0 - 1)).1 = 4 then (4 : Int) else 0, (sRes (C, wt, al, dn) pg lg (C 0 - 1)).2)) = _
              rw [hs6, if_neg c_42, if_pos (show (s6, C6, wt6, al6, dn6).1 = 4 from c_47)]
        · refine v_iconst (n := 32) k dX4_halveAll_31 rfl ?_
          refine v_iretU k hq ?_ rfl dX4_halveAll_32
          refine ⟨0, C, wt, al, dn, ko2, K2, _, _, _, _, ?_, hks2, hal, rfl, rfl⟩
          rw [e2, hmr, sHA]
          have hbt : hbD C pg lg (C 0) = true := by
            cases hb0 : hbD C pg lg (C 0) with
            | true => rfl
            | false => exact absurd (bI_f hb0) c_28
          rw [if_pos (Or.inr hbt)]
set_option maxHeartbeats 1000000 in
set_option maxRecDepth 20000 in
theorem z_X4_halveAll {D : va_G} {cI cB cJ cZ : ClassId} {hx hd hc hk hch hb hbb hh hhb ht ha hj hi hjb hib : Nat} {an : Int} {pg lg : Nat} {INV : (Nat → Nat) → Prop} {C : Nat → Nat} {wt al dn ko : Int} {K fb fh fj fi : Nat → Nat} (hI : ∀ C, INV C → EOK C pg lg) (hM : ∀ C wt al dn C2 wt2 al2 dn2, INV C → C 0 ≠ 0 → hbD C pg lg (C 0) = false → sRes (C, wt, al, dn) pg lg (C 0 - 1) = (0, C2, wt2, al2, dn2) → INV C2) (hinv : INV C) (hks : KS ko K C pg lg) (hal : in32 al) : ∀ l, Up l yX4_halveAll cX4_halveAll 4 (some .int) ({ frames := 6, cells := 0, slots := 0, locals := 152 }) D (TY cI cB cJ cZ) [.ref hx] [oHash hx hd hch hb hh ht ha an, oDisk hd hc hk ko pg lg wt al dn, aN cI hc 65280 C, aN cI hk 255 K, oChange hch hd hj hi, oPage hb hbb, aN cI hbb 256 fb, oPage hh hhb, aN cI hhb 256 fh, oPage hj hjb, aN cI hjb 256 fj, oPage hi hib, aN cI hib 256 fi] (fun r w1 => ∃ s2 C2 wt2 al2 dn2 ko2 K2 fb2 fh2 fj2 fi2, sHA pg lg 64 (C, wt, al, dn) = (s2, C2, wt2, al2, dn2) ∧ KS ko2 K2 C2 pg lg ∧ in32 al2 ∧ r = some (.int (iI s2)) ∧ w1 = [oHash hx hd hch hb hh ht ha an, oDisk hd hc hk ko2 pg lg wt2 al2 dn2, aN cI hc 65280 C2, aN cI hk 255 K2, oChange hch hd hj hi, oPage hb hbb, aN cI hbb 256 fb2, oPage hh hhb, aN cI hhb 256 fh2, oPage hj hjb, aN cI hjb 256 fj2, oPage hi hib, aN cI hib 256 fi2]) := by
  intro l
  refine Up_of (by decide) (Nat.le_of_ble_eq_true rfl) (fun x k hq => ?_)
  refine v_iconst (n := 1) k dX4_halveAll_0 rfl ?_
  refine v_istore_n (n := 2) k dX4_halveAll_1 rfl (by decide) rfl rfl ?_
  exact lp_X4_halveAll (a0 := (C, wt, al, dn)) k hq hI hM 65 0 _ _ _ _ _ _ _ _ _ _ _ (by omega) (by omega) rfl hinv rfl hks hal
set_option maxHeartbeats 1000000 in
set_option maxRecDepth 20000 in
theorem lp_X4_makePlace {D : va_G} {cI cB cJ cZ : ClassId} {x : Kx} {hx hd hc hk hch hb hbb hh hhb ht htb ha hj hi hjb hib : Nat} {an sz : Int} {pg lg : Nat} {T : Nat → Nat} {H KK Z : Int} {h ks z : Nat} {INV : (Nat → Nat) → Prop} {a0 : DA} (k : Kf x cX4_makePlace 8 yX4_makePlace.cls (some .int) D (TY cI cB cJ cZ) ({ frames := 6, cells := 0, slots := 0, locals := 163 })) (hq : isU x D [hx, hd, hc, hk, hch, hb, hbb, hh, hhb, hj, hjb, hi, hib, ht, htb] (fun r w1 => ∃ s2 C2 wt2 al2 dn2 ko2 K2 fb2 fh2 fj2 fi2, sMP pg lg h T ks z 64 a0 = (s2, C2, wt2, al2, dn2) ∧ KS ko2 K2 C2 pg lg ∧ in32 al2 ∧ r = some (.int (iI s2)) ∧ w1 = [oHash hx hd hch hb hh ht ha an, oDisk hd hc hk ko2 pg lg wt2 al2 dn2, aN cI hc 65280 C2, aN cI hk 255 K2, oChange hch hd hj hi, oPage hb hbb, aN cI hbb 256 fb2, oPage hh hhb, aN cI hhb 256 fh2, oPage hj hjb, aN cI hjb 256 fj2, oPage hi hib, aN cI hib 256 fi2, oTape ht htb sz, aN cI htb 48 T])) (hH : H = (h : Int)) (hh9 : h < 65536) (hK : KK = (ks : Int)) (hks9 : ks ≤ 48) (hZ : Z = (z : Int)) (hz : z ≤ 48) (hT : ∀ j, T j < 256) (hI : ∀ C, INV C → EOK C pg lg) (hM : ∀ C wt al dn C2 wt2 al2 dn2, INV C → sSt (C, wt, al, dn) pg lg h = (0, C2, wt2, al2, dn2) → INV C2) : ∀ (m : Nat) (i : Nat) (I : Int) (C : Nat → Nat) (wt al dn ko : Int) (K fb fh fj fi : Nat → Nat), 64 < i + m → i ≤ 64 → I = (i : Int) → INV C → sMP pg lg h T ks z 64 a0 = sMP pg lg h T ks z (64 - i) (C, wt, al, dn) → KS ko K C pg lg → in32 al → Vw x 8 (fun q => q ∈ [hx, hd, hc, hk, hch, hb, hbb, hh, hhb, hj, hjb, hi, hib, ht, htb]) D true 0 0 [oHash hx hd hch hb hh ht ha an, oDisk hd hc hk ko pg lg wt al dn, aN cI hc 65280 C, aN cI hk 255 K, oChange hch hd hj hi, oPage hb hbb, aN cI hbb 256 fb, oPage hh hhb, aN cI hhb 256 fh, oPage hj hjb, aN cI hjb 256 fj, oPage hi hib, aN cI hib 256 fi, oTape ht htb sz, aN cI htb 48 T] 3 [(0, .ref hx), (1, .int (iI H)), (2, .int (iI KK)), (3, .int (iI Z)), (4, .int (iI I))] [] := by
  intro m
  induction m with
  | zero => intro i I C wt al dn ko K fb fh fj fi hm hi9 e1 hinv e2 hks hal; omega
  | succ m ih =>
    intro i I C wt al dn ko K fb fh fj fi hm hi9 e1 hinv e2 hks hal
    obtain ⟨hw, hlp, h14, hE⟩ := hI C hinv
    obtain ⟨w1, w2, w3, w4, w5, w6, w7⟩ := id hw
    have hE0 := hE _ (idx_lt hh9 w4)
    obtain ⟨p, hgp⟩ : ∃ p, entN C (idx C h) = p := ⟨_, rfl⟩
    rw [hgp] at hE0
    refine v_iload (n := 5) k dX4_makePlace_3 rfl rfl ?_
    refine v_bipush (n := 7) k dX4_makePlace_5 (by decide) rfl ?_
    refine v_icmp_ge (n := 10) (t := 106) k (⟨by omega, by omega⟩) (⟨by omega, by omega⟩) dX4_makePlace_7 (by decide) rfl (fun c_7 => ?_) (fun c_7 => ?_)
    · refine v_iconst (n := 107) k dX4_makePlace_106 rfl ?_
      refine v_iretU k hq ?_ rfl dX4_makePlace_107
      have e9 : 64 - i = 0 := by omega
      refine ⟨1, C, wt, al, dn, ko, K, _, _, _, _, ?_, hks, hal, rfl, rfl⟩
      rw [e2, e9]
      rfl
    · have hmr : 64 - i = (64 - (i + 1)) + 1 := by omega
      refine v_aload_n (n := 11) k dX4_makePlace_10 rfl rfl ?_
      refine v_get (n := 14) k ciX4 0 0 (by decide) fl_X4_10 rfl rfl dX4_makePlace_11 rfl ?_
      refine v_iload_n (n := 15) k dX4_makePlace_14 rfl rfl ?_
      refine v_rdVi (n := 18) k [1, 2] 1 (z_X1_bucketOf hw (h := h) hH hh9) miX1_bucketOf ml_X4_104 (by decide) (by decide) rfl (by decide) rfl rfl rfl rfl (Nat.le_of_ble_eq_true rfl) ⟨Nat.zero_le _, Nat.zero_le _⟩ dX4_makePlace_15 rfl ?_
      rw [hgp]
      refine v_istore (n := 20) k dX4_makePlace_18 rfl (by decide) rfl rfl ?_
      refine v_aload_n (n := 21) k dX4_makePlace_20 rfl rfl ?_
      refine v_iload (n := 23) k dX4_makePlace_21 rfl rfl ?_
      refine v_iload_n (n := 24) k dX4_makePlace_23 rfl rfl ?_
      refine v_iload_n (n := 25) k dX4_makePlace_24 rfl rfl ?_
      refine v_rdVi (n := 28) k [0, 1, 2, 13, 14] 0 (z_X4_hasPlace (hbb := 0) (p := p) rfl hE0.2.1 w2 hE0.2.2.1 w3 hK hks9 hZ hz hT) miX4_hasPlace ml_X4_175 (by decide) (by decide) rfl (by decide) rfl rfl rfl rfl (Nat.le_of_ble_eq_true rfl) ⟨Nat.zero_le _, Nat.zero_le _⟩ dX4_makePlace_25 rfl ?_
      refine v_if_eq (n := 31) (t := 33) k (⟨by cases plc C p T ks z <;> decide, by cases plc C p T ks z <;> decide⟩) dX4_makePlace_28 (by decide) rfl (fun c_28 => ?_) (fun c_28 => ?_)
      · have hnp : ¬ plc C p T ks z = true := fun h8 => by rw [bI_t h8] at c_28; omega
        refine v_aload_n (n := 34) k dX4_makePlace_33 rfl rfl ?_
        refine v_get (n := 37) k ciX4 0 0 (by decide) fl_X4_10 rfl rfl dX4_makePlace_34 rfl ?_
        refine v_iload (n := 39) k dX4_makePlace_37 rfl rfl ?_
        refine v_iload_n (n := 40) k dX4_makePlace_39 rfl rfl ?_
        refine v_rdVi (n := 43) k [1, 2] 1 (z_X1_allHashesAre (p := p) rfl hE0.2.1 w2 hH hh9 hE0.2.2.1 w3) miX1_allHashesAre ml_X4_179 (by decide) (by decide) rfl (by decide) rfl rfl rfl rfl (Nat.le_of_ble_eq_true rfl) ⟨Nat.zero_le _, Nat.zero_le _⟩ dX4_makePlace_40 rfl ?_
        refine v_if_eq (n := 46) (t := 48) k (⟨by cases allH C p h <;> decide, by cases allH C p h <;> decide⟩) dX4_makePlace_43 (by decide) rfl (fun c_43 => ?_) (fun c_43 => ?_)
        · have hna : ¬ allH C p h = true := fun h8 => by rw [bI_t h8] at c_43; omega
          have hE04 := hE0.2.2.2
          refine v_aload_n (n := 49) k dX4_makePlace_48 rfl rfl ?_
          refine v_get (n := 52) k ciX4 0 0 (by decide) fl_X4_10 rfl rfl dX4_makePlace_49 rfl ?_
          refine v_rdVi (n := 55) k [1, 2] 1 (z_X1_depth hw) miX1_depth ml_X4_160 (by decide) (by decide) rfl (by decide) rfl rfl rfl rfl (Nat.le_of_ble_eq_true rfl) ⟨Nat.zero_le _, Nat.zero_le _⟩ dX4_makePlace_52 rfl ?_
          refine v_istore (n := 57) k dX4_makePlace_55 rfl (by decide) rfl rfl ?_
          refine v_aload_n (n := 58) k dX4_makePlace_57 rfl rfl ?_
          refine v_get (n := 61) k ciX4 0 0 (by decide) fl_X4_10 rfl rfl dX4_makePlace_58 rfl ?_
          refine v_iload (n := 63) k dX4_makePlace_61 rfl rfl ?_
          refine v_iconst (n := 64) k dX4_makePlace_63 rfl ?_
          refine v_rdVi (n := 67) k [1, 2] 1 (z_X1_at (p := p) (i := 0) rfl rfl hE0.2.1 (by omega) w2) miX1_at ml_X4_130 (by decide) (by decide) rfl (by decide) rfl rfl rfl rfl (Nat.le_of_ble_eq_true rfl) ⟨Nat.zero_le _, Nat.zero_le _⟩ dX4_makePlace_64 rfl ?_
          refine v_iload (n := 69) k dX4_makePlace_67 rfl rfl ?_
          refine v_icmp_ne (n := 72) (t := 83) k (⟨by omega, by omega⟩) (⟨by omega, by omega⟩) dX4_makePlace_69 (by decide) rfl (fun c_69 => ?_) (fun c_69 => ?_)
          · refine v_aload_n (n := 84) k dX4_makePlace_83 rfl rfl ?_
            refine v_iload (n := 86) k dX4_makePlace_84 rfl rfl ?_
            refine v_iload_n (n := 87) k dX4_makePlace_86 rfl rfl ?_
            refine v_upV (n := 90) k [0, 1, 2, 3, 4, 5, 6, 9, 10, 11, 12] 0 (z_X4_split hw hlp (p := p) (h := h) rfl hE0.1 hE0.2.1 hH hh9 hE0.2.2.1 (by omega) hks hal) miX4_split ml_X4_186 (by decide) (by decide) rfl (by decide) rfl rfl rfl rfl (Nat.le_of_ble_eq_true rfl) ⟨Nat.zero_le _, Nat.zero_le _⟩ dX4_makePlace_87 rfl ?_
            rintro _ _ ⟨s6, C6, wt6, al6, dn6, ko6, K6, fb6, fj6, fi6, hs6, hks6, hal6, rfl, rfl⟩
            dsimp only [wput, List.set, Option.toList, List.nil_append, List.cons_append]
            have hst : sSt (C, wt, al, dn) pg lg h = (s6, C6, wt6, al6, dn6) := by
              show (if pb C (entN C (idx C h)) 0 = C 0 then sRes (C, wt, al, dn) pg lg (C 0 + 1) else sSpl (C, wt, al, dn) pg lg (entN C (idx C h)) h) = _
              rw [hgp, if_neg (by omega)]
              exact hs6
            have hsi := sSpl_in (C, wt, al, dn) pg lg p h
            rw [hs6] at hsi
            obtain ⟨hsi1, hsi2⟩ := hsi
            have hsi1 : 0 ≤ s6 := hsi1
            have hsi2 : s6 ≤ 4 := hsi2
            refine v_istore (n := 92) k dX4_makePlace_90 rfl (by decide) rfl rfl ?_
            refine v_iload (n := 94) k dX4_makePlace_92 rfl rfl ?_
            refine v_if_eq (n := 97) (t := 100) k (⟨by omega, by omega⟩) dX4_makePlace_94 (by decide) rfl (fun c_94 => ?_) (fun c_94 => ?_)
            · refine v_iinc (n := 103) k dX4_makePlace_100 rfl (by decide) rfl rfl rfl ?_
              refine v_goto (t := 3) k dX4_makePlace_103 (by decide) ?_
              have hs0 : s6 = 0 := c_94
              subst hs0
              refine v_lvf [(0, .ref hx), (1, .int (iI H)), (2, .int (iI KK)), (3, .int (iI Z)), (4, .int (iI (I + 1)))] ⟨rfl, rfl, rfl, rfl, rfl, trivial⟩ ?_
              refine ih (i + 1) _ _ _ _ _ _ _ _ _ _ _ (by omega) (by omega) (by omega) (hM _ _ _ _ _ _ _ _ hinv hst) ?_ hks6 hal6
              rw [e2, hmr, sMP]
              rw [if_neg (show ¬ plc (C, wt, al, dn).1 (entN (C, wt, al, dn).1 (idx (C, wt, al, dn).1 h)) T ks z = true from by show ¬ plc C (entN C (idx C h)) T ks z = true; rw [hgp]; exact hnp), if_neg (show ¬ allH (C, wt, al, dn).1 (entN (C, wt, al, dn).1 (idx (C, wt, al, dn).1 h)) h = true from by show ¬ allH C (entN C (idx C h)) h = true; rw [hgp]; exact hna)]
              rw [hst, if_pos rfl]
            · refine v_iload (n := 99) k dX4_makePlace_97 rfl rfl ?_
              refine v_iretU k hq ?_ rfl dX4_makePlace_99
              refine ⟨s6, C6, wt6, al6, dn6, ko6, K6, _, _, _, _, ?_, hks6, hal6, rfl, rfl⟩
              rw [e2, hmr, sMP]
              rw [if_neg (show ¬ plc (C, wt, al, dn).1 (entN (C, wt, al, dn).1 (idx (C, wt, al, dn).1 h)) T ks z = true from by show ¬ plc C (entN C (idx C h)) T ks z = true; rw [hgp]; exact hnp), if_neg (show ¬ allH (C, wt, al, dn).1 (entN (C, wt, al, dn).1 (idx (C, wt, al, dn).1 h)) h = true from by show ¬ allH C (entN C (idx C h)) h = true; rw [hgp]; exact hna)]
              rw [hst, if_neg c_94]
          · refine v_aload_n (n := 73) k dX4_makePlace_72 rfl rfl ?_
            refine v_iload (n := 75) k dX4_makePlace_73 rfl rfl ?_
            refine v_iconst (n := 76) k dX4_makePlace_75 rfl ?_
            refine v_iadd (n := 77) k dX4_makePlace_76 rfl ?_
            refine v_upV (n := 80) k [0, 1, 2, 3, 4, 5, 6, 7, 8, 9, 10, 11, 12] 0 (z_X4_resizeDirectory hw hlp (q := C 0 + 1) (by omega) (Or.inl rfl) (by omega) hks hal) miX4_resizeDirectory ml_X4_183 (by decide) (by decide) rfl (by decide) rfl rfl rfl rfl (Nat.le_of_ble_eq_true rfl) ⟨Nat.zero_le _, Nat.zero_le _⟩ dX4_makePlace_77 rfl ?_
            rintro _ _ ⟨s6, C6, wt6, al6, dn6, ko6, K6, fb6, fh6, fj6, fi6, hs6, hks6, hal6, rfl, rfl⟩
            dsimp only [wput, List.set, Option.toList, List.nil_append, List.cons_append]
            refine v_goto (t := 90) k dX4_makePlace_80 (by decide) ?_
            have hst : sSt (C, wt, al, dn) pg lg h = (s6, C6, wt6, al6, dn6) := by
              show (if pb C (entN C (idx C h)) 0 = C 0 then sRes (C, wt, al, dn) pg lg (C 0 + 1) else sSpl (C, wt, al, dn) pg lg (entN C (idx C h)) h) = _
              rw [hgp, if_pos (by omega)]
              exact hs6
            have hsi := sRes_in (C, wt, al, dn) pg lg (C 0 + 1)
            rw [hs6] at hsi
            obtain ⟨hsi1, hsi2⟩ := hsi
            have hsi1 : 0 ≤ s6 := hsi1
            have hsi2 : s6 ≤ 4 := hsi2
            refine v_istore (n := 92) k dX4_makePlace_90 rfl (by decide) rfl rfl ?_
            refine v_iload (n := 94) k dX4_makePlace_92 rfl rfl ?_
            refine v_if_eq (n := 97) (t := 100) k (⟨by omega, by omega⟩) dX4_makePlace_94 (by decide) rfl (fun c_94 => ?_) (fun c_94 => ?_)
            · refine v_iinc (n := 103) k dX4_makePlace_100 rfl (by decide) rfl rfl rfl ?_
              refine v_goto (t := 3) k dX4_makePlace_103 (by decide) ?_
              have hs0 : s6 = 0 := c_94
              subst hs0
              refine v_lvf [(0, .ref hx), (1, .int (iI H)), (2, .int (iI KK)), (3, .int (iI Z)), (4, .int (iI (I + 1)))] ⟨rfl, rfl, rfl, rfl, rfl, trivial⟩ ?_
              refine ih (i + 1) _ _ _ _ _ _ _ _ _ _ _ (by omega) (by omega) (by omega) (hM _ _ _ _ _ _ _ _ hinv hst) ?_ hks6 hal6
              rw [e2, hmr, sMP]
              rw [if_neg (show ¬ plc (C, wt, al, dn).1 (entN (C, wt, al, dn).1 (idx (C, wt, al, dn).1 h)) T ks z = true from by show ¬ plc C (entN C (idx C h)) T ks z = true; rw [hgp]; exact hnp), if_neg (show ¬ allH (C, wt, al, dn).1 (entN (C, wt, al, dn).1 (idx (C, wt, al, dn).1 h)) h = true from by show ¬ allH C (entN C (idx C h)) h = true; rw [hgp]; exact hna)]
              rw [hst, if_pos rfl]
            · refine v_iload (n := 99) k dX4_makePlace_97 rfl rfl ?_
              refine v_iretU k hq ?_ rfl dX4_makePlace_99
              refine ⟨s6, C6, wt6, al6, dn6, ko6, K6, _, _, _, _, ?_, hks6, hal6, rfl, rfl⟩
              rw [e2, hmr, sMP]
              rw [if_neg (show ¬ plc (C, wt, al, dn).1 (entN (C, wt, al, dn).1 (idx (C, wt, al, dn).1 h)) T ks z = true from by show ¬ plc C (entN C (idx C h)) T ks z = true; rw [hgp]; exact hnp), if_neg (show ¬ allH (C, wt, al, dn).1 (entN (C, wt, al, dn).1 (idx (C, wt, al, dn).1 h)) h = true from by show ¬ allH C (entN C (idx C h)) h = true; rw [hgp]; exact hna)]
              rw [hst, if_neg c_94]
        · refine v_iconst (n := 47) k dX4_makePlace_46 rfl ?_
          refine v_iretU k hq ?_ rfl dX4_makePlace_47
          have hya : allH C p h = true := by
            cases h8 : allH C p h with
            | true => rfl
            | false => exact absurd (bI_f h8) c_43
          refine ⟨3, C, wt, al, dn, ko, K, _, _, _, _, ?_, hks, hal, rfl, rfl⟩
          rw [e2, hmr, sMP]
          rw [if_neg (show ¬ plc (C, wt, al, dn).1 (entN (C, wt, al, dn).1 (idx (C, wt, al, dn).1 h)) T ks z = true from by show ¬ plc C (entN C (idx C h)) T ks z = true; rw [hgp]; exact hnp), if_pos (show allH (C, wt, al, dn).1 (entN (C, wt, al, dn).1 (idx (C, wt, al, dn).1 h)) h = true from by show allH C (entN C (idx C h)) h = true; rw [hgp]; exact hya)]
      · refine v_iconst (n := 32) k dX4_makePlace_31 rfl ?_
        refine v_iretU k hq ?_ rfl dX4_makePlace_32
        have hyp : plc C p T ks z = true := by
          cases h8 : plc C p T ks z with
          | true => rfl
          | false => exact absurd (bI_f h8) c_28
        refine ⟨0, C, wt, al, dn, ko, K, _, _, _, _, ?_, hks, hal, rfl, rfl⟩
        rw [e2, hmr, sMP]
        rw [if_pos (show plc (C, wt, al, dn).1 (entN (C, wt, al, dn).1 (idx (C, wt, al, dn).1 h)) T ks z = true from by show plc C (entN C (idx C h)) T ks z = true; rw [hgp]; exact hyp)]
set_option maxHeartbeats 1000000 in
set_option maxRecDepth 20000 in
theorem z_X4_makePlace {D : va_G} {cI cB cJ cZ : ClassId} {hx hd hc hk hch hb hbb hh hhb ht htb ha hj hi hjb hib : Nat} {an sz : Int} {pg lg : Nat} {T : Nat → Nat} {H KK Z : Int} {h ks z : Nat} {INV : (Nat → Nat) → Prop} {C : Nat → Nat} {wt al dn ko : Int} {K fb fh fj fi : Nat → Nat} (hH : H = (h : Int)) (hh9 : h < 65536) (hK : KK = (ks : Int)) (hks9 : ks ≤ 48) (hZ : Z = (z : Int)) (hz : z ≤ 48) (hT : ∀ j, T j < 256) (hI : ∀ C, INV C → EOK C pg lg) (hM : ∀ C wt al dn C2 wt2 al2 dn2, INV C → sSt (C, wt, al, dn) pg lg h = (0, C2, wt2, al2, dn2) → INV C2) (hinv : INV C) (hks : KS ko K C pg lg) (hal : in32 al) : ∀ l, Up l yX4_makePlace cX4_makePlace 8 (some .int) ({ frames := 6, cells := 0, slots := 0, locals := 163 }) D (TY cI cB cJ cZ) [.ref hx, .int (iI H), .int (iI KK), .int (iI Z)] [oHash hx hd hch hb hh ht ha an, oDisk hd hc hk ko pg lg wt al dn, aN cI hc 65280 C, aN cI hk 255 K, oChange hch hd hj hi, oPage hb hbb, aN cI hbb 256 fb, oPage hh hhb, aN cI hhb 256 fh, oPage hj hjb, aN cI hjb 256 fj, oPage hi hib, aN cI hib 256 fi, oTape ht htb sz, aN cI htb 48 T] (fun r w1 => ∃ s2 C2 wt2 al2 dn2 ko2 K2 fb2 fh2 fj2 fi2, sMP pg lg h T ks z 64 (C, wt, al, dn) = (s2, C2, wt2, al2, dn2) ∧ KS ko2 K2 C2 pg lg ∧ in32 al2 ∧ r = some (.int (iI s2)) ∧ w1 = [oHash hx hd hch hb hh ht ha an, oDisk hd hc hk ko2 pg lg wt2 al2 dn2, aN cI hc 65280 C2, aN cI hk 255 K2, oChange hch hd hj hi, oPage hb hbb, aN cI hbb 256 fb2, oPage hh hhb, aN cI hhb 256 fh2, oPage hj hjb, aN cI hjb 256 fj2, oPage hi hib, aN cI hib 256 fi2, oTape ht htb sz, aN cI htb 48 T]) := by
  intro l
  refine Up_of (by decide) (Nat.le_of_ble_eq_true rfl) (fun x k hq => ?_)
  refine v_iconst (n := 1) k dX4_makePlace_0 rfl ?_
  refine v_istore (n := 3) k dX4_makePlace_1 rfl (by decide) rfl rfl ?_
  exact lp_X4_makePlace (a0 := (C, wt, al, dn)) k hq hH hh9 hK hks9 hZ hz hT hI hM 65 0 _ _ _ _ _ _ _ _ _ _ _ (by omega) (by omega) rfl hinv rfl hks hal
end
section
theorem v_tabIn {x : Kx} {cc : ByteArray} {nL : Nat} {own : String} {ret : Option FieldType} {D : va_G} {tys : List (ClassId × FieldType)} {rm : Room} {A : Nat → Prop} {wr : Bool} {cells slots : Nat} {ws : va_W} {pc : Nat} {lv : List (Nat × Value)} {st : List Value} (k : Kf x cc nL own ret D tys rm) {dflt lo hi : Int} {offs : Array Int} {len : Nat} {a off : Int} {t : Nat} (ha : in32 a) (hd : decode cc pc = .ok (.tableswitch dflt lo hi offs, len)) (h1 : ¬ a < lo) (h2 : ¬ hi < a) (ho : offs[(a - lo).toNat]? = some off) (ht : (pc : Int) + off = (t : Int)) (h : Vw x nL A D wr cells slots ws t lv st) : Vw x nL A D wr cells slots ws pc lv (.int (iI a) :: st) := by
  intro H locs ls a' b' c d
  exact lv_tableIn k.1 k.2.1 hd (by rw [iI_toInt ha]; exact h1) (by rw [iI_toInt ha]; exact h2) (by rw [iI_toInt ha]; exact ho) ht (h H locs ls a' b' c d)
theorem v_tabOut {x : Kx} {cc : ByteArray} {nL : Nat} {own : String} {ret : Option FieldType} {D : va_G} {tys : List (ClassId × FieldType)} {rm : Room} {A : Nat → Prop} {wr : Bool} {cells slots : Nat} {ws : va_W} {pc : Nat} {lv : List (Nat × Value)} {st : List Value} (k : Kf x cc nL own ret D tys rm) {dflt lo hi : Int} {offs : Array Int} {len : Nat} {a : Int} {t : Nat} (ha : in32 a) (hd : decode cc pc = .ok (.tableswitch dflt lo hi offs, len)) (h1 : a < lo ∨ hi < a) (ht : (pc : Int) + dflt = (t : Int)) (h : Vw x nL A D wr cells slots ws t lv st) : Vw x nL A D wr cells slots ws pc lv (.int (iI a) :: st) := by
  intro H locs ls a' b' c d
  exact lv_tableOut k.1 k.2.1 hd (by rw [iI_toInt ha]; exact h1) ht (h H locs ls a' b' c d)
/-- byte I of the answer -/
def ansF (An : Nat → Nat) (an I : Int) : Int := if 0 ≤ I ∧ I < an then ((An I.toNat : Nat) : Int) else -1
set_option maxHeartbeats 1000000 in
set_option maxRecDepth 20000 in
theorem z_X4_answer {D : va_G} {cI cB cJ cZ : ClassId} {hx hd hch hb hh ht ha : Nat} {an : Int} {An : Nat → Nat} {I : Int} (hI : in32 I) (han : 0 ≤ an ∧ an ≤ 32) : ∀ l, Rd l yX4_answer cX4_answer 2 (some .int) ({ frames := 0, cells := 0, slots := 0, locals := 0 }) D (TY cI cB cJ cZ) [.ref hx, .int (iI I)] [oHash hx hd hch hb hh ht ha an, aN cI ha 32 An] (fun v => v = some (.int (iI (ansF An an I)))) := by
  intro l
  refine Rd_of (by decide) (Nat.le_of_ble_eq_true rfl) (fun x k hq => ?_)
  obtain ⟨hi1, hi2⟩ := hI
  refine v_iload_n (n := 1) k dX4_answer_0 rfl rfl ?_
  refine v_if_lt (n := 4) (t := 30) k (⟨by omega, by omega⟩) dX4_answer_1 (by decide) rfl (fun c_1 => ?_) (fun c_1 => ?_)
  · refine v_iconst (n := 31) k dX4_answer_30 rfl ?_
    refine v_iretR k hq ?_ dX4_answer_31
    first | rw [ansF, if_pos ⟨by omega, by omega⟩] | rw [ansF, if_neg (by omega)]
  · refine v_iload_n (n := 5) k dX4_answer_4 rfl rfl ?_
    refine v_aload_n (n := 6) k dX4_answer_5 rfl rfl ?_
    refine v_get (n := 9) k ciX4 0 6 (by decide) fl_X4_46 rfl rfl dX4_answer_6 rfl ?_
    refine v_icmp_ge (n := 12) (t := 30) k (⟨by omega, by omega⟩) (⟨by omega, by omega⟩) dX4_answer_9 (by decide) rfl (fun c_9 => ?_) (fun c_9 => ?_)
    · refine v_iconst (n := 31) k dX4_answer_30 rfl ?_
      refine v_iretR k hq ?_ dX4_answer_31
      first | rw [ansF, if_pos ⟨by omega, by omega⟩] | rw [ansF, if_neg (by omega)]
    · refine v_iload_n (n := 13) k dX4_answer_12 rfl rfl ?_
      refine v_aload_n (n := 14) k dX4_answer_13 rfl rfl ?_
      refine v_get (n := 17) k ciX4 0 5 (by decide) fl_X4_42 rfl rfl dX4_answer_14 rfl ?_
      refine v_alen (n := 18) k 1 0 rfl rfl dX4_answer_17 rfl ?_
      refine v_icmp_ge (n := 21) (t := 30) k (⟨by omega, by omega⟩) (⟨by omega, by omega⟩) dX4_answer_18 (by decide) rfl (fun c_18 => ?_) (fun c_18 => ?_)
      · exfalso; omega
      · refine v_aload_n (n := 22) k dX4_answer_21 rfl rfl ?_
        refine v_get (n := 25) k ciX4 0 5 (by decide) fl_X4_42 rfl rfl dX4_answer_22 rfl ?_
        refine v_iload_n (n := 26) k dX4_answer_25 rfl rfl ?_
        refine v_ialdN (n := 27) k 1 0 (I.toNat) rfl rfl (by omega) (by omega) (by omega) dX4_answer_26 rfl ?_
        refine v_goto (t := 31) k dX4_answer_27 (by decide) ?_
        refine v_iretR k hq ?_ dX4_answer_31
        first | rw [ansF, if_pos ⟨by omega, by omega⟩] | rw [ansF, if_neg (by omega)]
set_option maxHeartbeats 1000000 in
set_option maxRecDepth 20000 in
theorem z_X4_byteOf {D : va_G} {cI cB cJ cZ : ClassId} {hx hd hc hk hch hb hh ht ha : Nat} {an : Int} {ko : Int} {pg lg : Nat} {wt al dn : Int} {C : Nat → Nat} {P I : Int} (hP : in32 P) (hI : in32 I) (hg : pg ≤ 255) : ∀ l, Rd l yX4_byteOf cX4_byteOf 3 (some .int) ({ frames := 1, cells := 0, slots := 0, locals := 22 }) D (TY cI cB cJ cZ) [.ref hx, .int (iI P), .int (iI I)] [oHash hx hd hch hb hh ht ha an, oDisk hd hc hk ko pg lg wt al dn, aN cI hc 65280 C] (fun v => v = some (.int (iI (atF C pg P I)))) := by
  intro l
  refine Rd_of (by decide) (Nat.le_of_ble_eq_true rfl) (fun x k hq => ?_)
  refine v_aload_n (n := 1) k dX4_byteOf_0 rfl rfl ?_
  refine v_get (n := 4) k ciX4 0 0 (by decide) fl_X4_10 rfl rfl dX4_byteOf_1 rfl ?_
  refine v_iload_n (n := 5) k dX4_byteOf_4 rfl rfl ?_
  refine v_iload_n (n := 6) k dX4_byteOf_5 rfl rfl ?_
  refine v_rdVi (n := 9) k [1, 2] 1 (z_X1_atG hP hI hg) miX1_at ml_X4_130 (by decide) (by decide) rfl (by decide) rfl rfl rfl rfl (Nat.le_of_ble_eq_true rfl) ⟨Nat.zero_le _, Nat.zero_le _⟩ dX4_byteOf_6 rfl ?_
  refine v_iretR k hq ?_ dX4_byteOf_9
  rfl
set_option maxHeartbeats 1000000 in
set_option maxRecDepth 20000 in
theorem z_X4_entry {D : va_G} {cI cB cJ cZ : ClassId} {hx hd hc hk hch hb hh ht ha : Nat} {an : Int} {ko : Int} {pg lg : Nat} {wt al dn : Int} {C : Nat → Nat} {I : Int} (hw : DW C pg lg) (hI : in32 I) : ∀ l, Rd l yX4_entry cX4_entry 2 (some .int) ({ frames := 3, cells := 0, slots := 0, locals := 64 }) D (TY cI cB cJ cZ) [.ref hx, .int (iI I)] [oHash hx hd hch hb hh ht ha an, oDisk hd hc hk ko pg lg wt al dn, aN cI hc 65280 C] (fun v => v = some (.int (iI (entF C I)))) := by
  intro l
  refine Rd_of (by decide) (Nat.le_of_ble_eq_true rfl) (fun x k hq => ?_)
  refine v_aload_n (n := 1) k dX4_entry_0 rfl rfl ?_
  refine v_get (n := 4) k ciX4 0 0 (by decide) fl_X4_10 rfl rfl dX4_entry_1 rfl ?_
  refine v_iload_n (n := 5) k dX4_entry_4 rfl rfl ?_
  refine v_rdVi (n := 8) k [1, 2] 1 (z_X1_entryAtG hw hI) miX1_entryAt ml_X4_145 (by decide) (by decide) rfl (by decide) rfl rfl rfl rfl (Nat.le_of_ble_eq_true rfl) ⟨Nat.zero_le _, Nat.zero_le _⟩ dX4_entry_5 rfl ?_
  refine v_iretR k hq ?_ dX4_entry_8
  rfl
def hshF (T : Nat → Nat) (sz : Nat) : Int := if 1 ≤ sz ∧ sz ≤ 16 then ((hsh T 0 sz : Nat) : Int) else -1
set_option maxHeartbeats 1000000 in
set_option maxRecDepth 20000 in
theorem z_X4_hash {D : va_G} {cI cB cJ cZ : ClassId} {hx hd hch hb hh ht htb ha : Nat} {an : Int} {tn : Nat} {T : Nat → Nat} (htn : tn ≤ 48) : ∀ l, Rd l yX4_hash cX4_hash 2 (some .int) ({ frames := 2, cells := 0, slots := 0, locals := 45 }) D (TY cI cB cJ cZ) [.ref hx] [oHash hx hd hch hb hh ht ha an, oTape ht htb (tn : Int), aN cI htb 48 T] (fun v => v = some (.int (iI (hshF T tn)))) := by
  intro l
  refine Rd_of (by decide) (Nat.le_of_ble_eq_true rfl) (fun x k hq => ?_)
  refine v_aload_n (n := 1) k dX4_hash_0 rfl rfl ?_
  refine v_get (n := 4) k ciX4 0 4 (by decide) fl_X4_38 rfl rfl dX4_hash_1 rfl ?_
  refine v_rdVi (n := 7) k [1] 1 (z_X3_size) miX3_size ml_X4_67 (by decide) (by decide) rfl (by decide) rfl rfl rfl rfl (Nat.le_of_ble_eq_true rfl) ⟨Nat.zero_le _, Nat.zero_le _⟩ dX4_hash_4 rfl ?_
  refine v_istore_n (n := 8) k dX4_hash_7 rfl (by decide) rfl rfl ?_
  refine v_iload_n (n := 9) k dX4_hash_8 rfl rfl ?_
  refine v_iconst (n := 10) k dX4_hash_9 rfl ?_
  refine v_icmp_lt (n := 13) (t := 30) k (⟨by omega, by omega⟩) (⟨by omega, by omega⟩) dX4_hash_10 (by decide) rfl (fun c_10 => ?_) (fun c_10 => ?_)
  · refine v_iconst (n := 31) k dX4_hash_30 rfl ?_
    refine v_iretR k hq ?_ dX4_hash_31
    first | rw [hshF, if_pos ⟨by omega, by omega⟩] | rw [hshF, if_neg (by omega)]
  · refine v_iload_n (n := 14) k dX4_hash_13 rfl rfl ?_
    refine v_bipush (n := 16) k dX4_hash_14 (by decide) rfl ?_
    refine v_icmp_gt (n := 19) (t := 30) k (⟨by omega, by omega⟩) (⟨by omega, by omega⟩) dX4_hash_16 (by decide) rfl (fun c_16 => ?_) (fun c_16 => ?_)
    · refine v_iconst (n := 31) k dX4_hash_30 rfl ?_
      refine v_iretR k hq ?_ dX4_hash_31
      first | rw [hshF, if_pos ⟨by omega, by omega⟩] | rw [hshF, if_neg (by omega)]
    · refine v_aload_n (n := 20) k dX4_hash_19 rfl rfl ?_
      refine v_get (n := 23) k ciX4 0 4 (by decide) fl_X4_38 rfl rfl dX4_hash_20 rfl ?_
      refine v_iload_n (n := 24) k dX4_hash_23 rfl rfl ?_
      refine v_rdVi (n := 27) k [1, 2] 1 (z_X3_keyHash (z := tn) rfl htn) miX3_keyHash ml_X4_96 (by decide) (by decide) rfl (by decide) rfl rfl rfl rfl (Nat.le_of_ble_eq_true rfl) ⟨Nat.zero_le _, Nat.zero_le _⟩ dX4_hash_24 rfl ?_
      refine v_goto (t := 31) k dX4_hash_27 (by decide) ?_
      refine v_iretR k hq ?_ dX4_hash_31
      first | rw [hshF, if_pos ⟨by omega, by omega⟩] | rw [hshF, if_neg (by omega)]
set_option maxHeartbeats 1000000 in
set_option maxRecDepth 20000 in
theorem z_X4_kind {D : va_G} {cI cB cJ cZ : ClassId} {hx hd hc hk hch hb hh ht ha : Nat} {an : Int} {ko : Int} {pg lg : Nat} {wt al dn : Int} {C : Nat → Nat} {K : Nat → Nat} {P : Int} (hw : DW C pg lg) (hP : in32 P) (hks : KS ko K C pg lg) : ∀ l, Up l yX4_kind cX4_kind 2 (some .int) ({ frames := 4, cells := 0, slots := 0, locals := 90 }) D (TY cI cB cJ cZ) [.ref hx, .int (iI P)] [oHash hx hd hch hb hh ht ha an, oDisk hd hc hk ko pg lg wt al dn, aN cI hc 65280 C, aN cI hk 255 K] (fun r w1 => r = some (.int (iI (kdF C pg lg P))) ∧ ∃ ko2 K2, KS ko2 K2 C pg lg ∧ w1 = [oHash hx hd hch hb hh ht ha an, oDisk hd hc hk ko2 pg lg wt al dn, aN cI hc 65280 C, aN cI hk 255 K2]) := by
  intro l
  refine Up_of (by decide) (Nat.le_of_ble_eq_true rfl) (fun x k hq => ?_)
  refine v_aload_n (n := 1) k dX4_kind_0 rfl rfl ?_
  refine v_get (n := 4) k ciX4 0 0 (by decide) fl_X4_10 rfl rfl dX4_kind_1 rfl ?_
  refine v_iload_n (n := 5) k dX4_kind_4 rfl rfl ?_
  refine v_upV (n := 8) k [1, 2, 3] 1 (z_X1_kindOf hw hw.2.2.2.2.2.2 hP hks) miX1_kindOf ml_X4_142 (by decide) (by decide) rfl (by decide) rfl rfl rfl rfl (Nat.le_of_ble_eq_true rfl) ⟨Nat.zero_le _, Nat.zero_le _⟩ dX4_kind_5 rfl ?_
  rintro _ _ ⟨rfl, ko2, K2, hks2, rfl⟩
  dsimp only [wput, List.set, Option.toList, List.nil_append, List.cons_append]
  refine v_iretU k hq ?_ rfl dX4_kind_8
  exact ⟨rfl, ko2, K2, hks2, rfl⟩
theorem kdF_in {C : Nat → Nat} {pg lg : Nat} {P : Int} : in32 (kdF C pg lg P) := by
  unfold kdF
  split
  · have := kdN_le C lg P.toNat
    exact ⟨by omega, by omega⟩
  · exact ⟨by omega, by omega⟩
theorem kdF_5 {C : Nat → Nat} {pg lg : Nat} {P : Int} (h : kdF C pg lg P = 5) : 0 ≤ P ∧ P < (pg : Int) ∧ kdN C lg P.toNat = 5 := by
  unfold kdF at h
  split at h
  · rename_i h1
    exact ⟨h1.1, h1.2, by omega⟩
  · omega
/-- what bucket() answers -/
def bktF (C : Nat → Nat) (pg lg : Nat) (P Q : Int) : Int := if kdF C pg lg P = 5 then (if Q = 0 then ((pb C P.toNat 0 : Nat) : Int) else if Q = 1 then ((pb C P.toNat 1 : Nat) : Int) else if Q = 2 then ((bL C P.toNat : Nat) : Int) else -1) else -1
def recF (C : Nat → Nat) (pg lg : Nat) (P R Q J : Int) : Int :=
  if kdF C pg lg P = 5 ∧ 0 ≤ R ∧ R < ((pb C P.toNat 1 : Nat) : Int) then
    (if Q = 0 then (if 0 ≤ J ∧ J < ((pb C P.toNat (rst C P.toNat R.toNat) : Nat) : Int) then ((pb C P.toNat (rst C P.toNat R.toNat + 2 + J.toNat) : Nat) : Int) else -1)
     else if Q = 1 then (if 0 ≤ J ∧ J < ((pb C P.toNat (rst C P.toNat R.toNat + 1) : Nat) : Int) then ((pb C P.toNat (rst C P.toNat R.toNat + 2 + pb C P.toNat (rst C P.toNat R.toNat) + J.toNat) : Nat) : Int) else -1)
     else -1)
  else -1
def lokF (C : Nat → Nat) (pg lg : Nat) (wt al dn : Int) (tn : Nat) (Q : Int) : Int :=
  if Q = 0 then (pg : Int) else if Q = 1 then (lg : Int) else if Q = 2 then ((C 0 : Nat) : Int) else if Q = 3 then ((cntK C lg 5 pg : Nat) : Int) else if Q = 4 then ((cntK C lg 0 pg : Nat) : Int) else if Q = 5 then ((cntR C lg pg : Nat) : Int)
  else if Q = 6 then wt else if Q = 7 then dn else if Q = 8 then al else if Q = 9 then (tn : Int) else if Q = 10 then ((pb C 1 0 : Nat) : Int) else -1
set_option maxHeartbeats 1000000 in
set_option maxRecDepth 20000 in
theorem z_X4_bucket {D : va_G} {cI cB cJ cZ : ClassId} {hx hd hc hk hch hb hh ht ha : Nat} {an : Int} {ko : Int} {pg lg : Nat} {wt al dn : Int} {C : Nat → Nat} {K : Nat → Nat} {P Q : Int} (hw : DW C pg lg) (hP : in32 P) (hQ : in32 Q) (hks : KS ko K C pg lg) : ∀ l, Up l yX4_bucket cX4_bucket 3 (some .int) ({ frames := 4, cells := 0, slots := 0, locals := 90 }) D (TY cI cB cJ cZ) [.ref hx, .int (iI P), .int (iI Q)] [oHash hx hd hch hb hh ht ha an, oDisk hd hc hk ko pg lg wt al dn, aN cI hc 65280 C, aN cI hk 255 K] (fun r w1 => r = some (.int (iI (bktF C pg lg P Q))) ∧ ∃ ko2 K2, KS ko2 K2 C pg lg ∧ w1 = [oHash hx hd hch hb hh ht ha an, oDisk hd hc hk ko2 pg lg wt al dn, aN cI hc 65280 C, aN cI hk 255 K2]) := by
  intro l
  refine Up_of (by decide) (Nat.le_of_ble_eq_true rfl) (fun x k hq => ?_)
  have w2 := hw.2.1
  have hkin := kdF_in (C := C) (pg := pg) (lg := lg) (P := P)
  refine v_aload_n (n := 1) k dX4_bucket_0 rfl rfl ?_
  refine v_get (n := 4) k ciX4 0 0 (by decide) fl_X4_10 rfl rfl dX4_bucket_1 rfl ?_
  refine v_iload_n (n := 5) k dX4_bucket_4 rfl rfl ?_
  refine v_upV (n := 8) k [1, 2, 3] 1 (z_X1_kindOf hw hw.2.2.2.2.2.2 hP hks) miX1_kindOf ml_X4_142 (by decide) (by decide) rfl (by decide) rfl rfl rfl rfl (Nat.le_of_ble_eq_true rfl) ⟨Nat.zero_le _, Nat.zero_le _⟩ dX4_bucket_5 rfl ?_
  rintro _ _ ⟨rfl, ko2, K2, hks2, rfl⟩
  dsimp only [wput, List.set, Option.toList, List.nil_append, List.cons_append]
  refine v_iconst (n := 9) k dX4_bucket_8 rfl ?_
  refine v_icmp_eq (n := 12) (t := 14) k (hkin) (⟨by omega, by omega⟩) dX4_bucket_9 (by decide) rfl (fun c_9 => ?_) (fun c_9 => ?_)
  · have h5 := kdF_5 c_9
    have hpe : P = ((P.toNat : Nat) : Int) := by omega
    have hpl : P.toNat < pg := by omega
    refine v_iload_n (n := 15) k dX4_bucket_14 rfl rfl ?_
    by_cases hin : Q < 0 ∨ 2 < Q
    · refine v_tabOut (t := 69) k hQ dX4_bucket_15 hin (by decide) ?_
      refine v_iconst (n := 70) k dX4_bucket_69 rfl ?_
      refine v_iretU k hq ?_ rfl dX4_bucket_70
      exact ⟨by rw [bktF, if_pos c_9, if_neg (by omega), if_neg (by omega), if_neg (by omega)], ko2, K2, hks2, rfl⟩
    · obtain ⟨n, hn, hqn⟩ : ∃ n : Nat, n < 3 ∧ Q = (n : Int) := ⟨Q.toNat, by omega, by omega⟩
      subst hqn
      rcases (by omega : n = 0 ∨ n = 1 ∨ n = 2) with rfl | rfl | rfl
      · refine v_tabIn (t := 40) k hQ dX4_bucket_15 (by decide) (by decide) (by rfl) (by decide) ?_
        refine v_aload_n (n := 41) k dX4_bucket_40 rfl rfl ?_
        refine v_get (n := 44) k ciX4 0 0 (by decide) fl_X4_10 rfl rfl dX4_bucket_41 rfl ?_
        refine v_iload_n (n := 45) k dX4_bucket_44 rfl rfl ?_
        refine v_iconst (n := 46) k dX4_bucket_45 rfl ?_
        refine v_rdVi (n := 49) k [1, 2] 1 (z_X1_at (p := P.toNat) (i := 0) hpe rfl hpl (by omega) w2) miX1_at ml_X4_130 (by decide) (by decide) rfl (by decide) rfl rfl rfl rfl (Nat.le_of_ble_eq_true rfl) ⟨Nat.zero_le _, Nat.zero_le _⟩ dX4_bucket_46 rfl ?_
        refine v_iretU k hq ?_ rfl dX4_bucket_49
        exact ⟨by rw [bktF, if_pos c_9]; rfl, ko2, K2, hks2, rfl⟩
      · refine v_tabIn (t := 50) k hQ dX4_bucket_15 (by decide) (by decide) (by rfl) (by decide) ?_
        refine v_aload_n (n := 51) k dX4_bucket_50 rfl rfl ?_
        refine v_get (n := 54) k ciX4 0 0 (by decide) fl_X4_10 rfl rfl dX4_bucket_51 rfl ?_
        refine v_iload_n (n := 55) k dX4_bucket_54 rfl rfl ?_
        refine v_iconst (n := 56) k dX4_bucket_55 rfl ?_
        refine v_rdVi (n := 59) k [1, 2] 1 (z_X1_at (p := P.toNat) (i := 1) hpe rfl hpl (by omega) w2) miX1_at ml_X4_130 (by decide) (by decide) rfl (by decide) rfl rfl rfl rfl (Nat.le_of_ble_eq_true rfl) ⟨Nat.zero_le _, Nat.zero_le _⟩ dX4_bucket_56 rfl ?_
        refine v_iretU k hq ?_ rfl dX4_bucket_59
        exact ⟨by rw [bktF, if_pos c_9]; rfl, ko2, K2, hks2, rfl⟩
      · refine v_tabIn (t := 60) k hQ dX4_bucket_15 (by decide) (by decide) (by rfl) (by decide) ?_
        refine v_aload_n (n := 61) k dX4_bucket_60 rfl rfl ?_
        refine v_get (n := 64) k ciX4 0 0 (by decide) fl_X4_10 rfl rfl dX4_bucket_61 rfl ?_
        refine v_iload_n (n := 65) k dX4_bucket_64 rfl rfl ?_
        refine v_rdVi (n := 68) k [1, 2] 1 (z_X1_recordBytes (p := P.toNat) hpe hpl w2) miX1_recordBytes ml_X4_148 (by decide) (by decide) rfl (by decide) rfl rfl rfl rfl (Nat.le_of_ble_eq_true rfl) ⟨Nat.zero_le _, Nat.zero_le _⟩ dX4_bucket_65 rfl ?_
        refine v_iretU k hq ?_ rfl dX4_bucket_68
        exact ⟨by rw [bktF, if_pos c_9]; rfl, ko2, K2, hks2, rfl⟩
  · refine v_iconst (n := 13) k dX4_bucket_12 rfl ?_
    refine v_iretU k hq ?_ rfl dX4_bucket_13
    exact ⟨by rw [bktF, if_neg c_9], ko2, K2, hks2, rfl⟩
set_option maxHeartbeats 1000000 in
set_option maxRecDepth 20000 in
theorem z_X4_record {D : va_G} {cI cB cJ cZ : ClassId} {hx hd hc hk hch hb hh ht ha : Nat} {an : Int} {ko : Int} {pg lg : Nat} {wt al dn : Int} {C : Nat → Nat} {K : Nat → Nat} {P R Q J : Int} (hw : DW C pg lg) (hP : in32 P) (hR : in32 R) (hQ : in32 Q) (hJ : in32 J) (hb5 : ∀ p, p < pg → kdN C lg p = 5 → WB C p) (hks : KS ko K C pg lg) : ∀ l, Up l yX4_record cX4_record 7 (some .int) ({ frames := 4, cells := 0, slots := 0, locals := 90 }) D (TY cI cB cJ cZ) [.ref hx, .int (iI P), .int (iI R), .int (iI Q), .int (iI J)] [oHash hx hd hch hb hh ht ha an, oDisk hd hc hk ko pg lg wt al dn, aN cI hc 65280 C, aN cI hk 255 K] (fun r w1 => r = some (.int (iI (recF C pg lg P R Q J))) ∧ ∃ ko2 K2, KS ko2 K2 C pg lg ∧ w1 = [oHash hx hd hch hb hh ht ha an, oDisk hd hc hk ko2 pg lg wt al dn, aN cI hc 65280 C, aN cI hk 255 K2]) := by
  intro l
  refine Up_of (by decide) (Nat.le_of_ble_eq_true rfl) (fun x k hq => ?_)
  obtain ⟨w1, w2, w3, w4, w5, w6, w7⟩ := id hw
  have hkin := kdF_in (C := C) (pg := pg) (lg := lg) (P := P)
  obtain ⟨hr1, hr2⟩ := id hR
  obtain ⟨hj1, hj2⟩ := id hJ
  obtain ⟨hq1, hq2⟩ := id hQ
  refine v_aload_n (n := 1) k dX4_record_0 rfl rfl ?_
  refine v_get (n := 4) k ciX4 0 0 (by decide) fl_X4_10 rfl rfl dX4_record_1 rfl ?_
  refine v_iload_n (n := 5) k dX4_record_4 rfl rfl ?_
  refine v_upV (n := 8) k [1, 2, 3] 1 (z_X1_kindOf hw w7 hP hks) miX1_kindOf ml_X4_142 (by decide) (by decide) rfl (by decide) rfl rfl rfl rfl (Nat.le_of_ble_eq_true rfl) ⟨Nat.zero_le _, Nat.zero_le _⟩ dX4_record_5 rfl ?_
  rintro _ _ ⟨rfl, ko2, K2, hks2, rfl⟩
  dsimp only [wput, List.set, Option.toList, List.nil_append, List.cons_append]
  refine v_iconst (n := 9) k dX4_record_8 rfl ?_
  refine v_icmp_ne (n := 12) (t := 29) k (hkin) (⟨by omega, by omega⟩) dX4_record_9 (by decide) rfl (fun c_9 => ?_) (fun c_9 => ?_)
  · refine v_iconst (n := 30) k dX4_record_29 rfl ?_
    refine v_iretU k hq ?_ rfl dX4_record_30
    exact ⟨by rw [recF, if_neg (by intro h; exact c_9 h.1)], ko2, K2, hks2, rfl⟩
  · have c9 : kdF C pg lg P = 5 := c_9
    have h5 := kdF_5 c9
    have hpe : P = ((P.toNat : Nat) : Int) := by omega
    have hpl : P.toNat < pg := by omega
    have hwb := hb5 _ hpl h5.2.2
    refine v_iload_n (n := 13) k dX4_record_12 rfl rfl ?_
    refine v_if_lt (n := 16) (t := 29) k (⟨by omega, by omega⟩) dX4_record_13 (by decide) rfl (fun c_13 => ?_) (fun c_13 => ?_)
    · refine v_iconst (n := 30) k dX4_record_29 rfl ?_
      refine v_iretU k hq ?_ rfl dX4_record_30
      exact ⟨by rw [recF, if_neg (by omega)], ko2, K2, hks2, rfl⟩
    · refine v_iload_n (n := 17) k dX4_record_16 rfl rfl ?_
      refine v_aload_n (n := 18) k dX4_record_17 rfl rfl ?_
      refine v_get (n := 21) k ciX4 0 0 (by decide) fl_X4_10 rfl rfl dX4_record_18 rfl ?_
      refine v_iload_n (n := 22) k dX4_record_21 rfl rfl ?_
      refine v_iconst (n := 23) k dX4_record_22 rfl ?_
      refine v_rdVi (n := 26) k [1, 2] 1 (z_X1_at (p := P.toNat) (i := 1) hpe rfl hpl (by omega) w2) miX1_at ml_X4_130 (by decide) (by decide) rfl (by decide) rfl rfl rfl rfl (Nat.le_of_ble_eq_true rfl) ⟨Nat.zero_le _, Nat.zero_le _⟩ dX4_record_23 rfl ?_
      have hn256 : pb C P.toNat 1 < 256 := w3 _
      refine v_icmp_lt (n := 29) (t := 31) k (⟨by omega, by omega⟩) (⟨by omega, by omega⟩) dX4_record_26 (by decide) rfl (fun c_26 => ?_) (fun c_26 => ?_)
      · have hf := hwb.fit (r := R.toNat) (by omega)
        have hz9 := rsz_ge C P.toNat (rst C P.toNat R.toNat)
        have hcond : kdF C pg lg P = 5 ∧ 0 ≤ R ∧ R < ((pb C P.toNat 1 : Nat) : Int) := ⟨c9, by omega, by omega⟩
        refine v_aload_n (n := 32) k dX4_record_31 rfl rfl ?_
        refine v_get (n := 35) k ciX4 0 0 (by decide) fl_X4_10 rfl rfl dX4_record_32 rfl ?_
        refine v_iload_n (n := 36) k dX4_record_35 rfl rfl ?_
        refine v_iload_n (n := 37) k dX4_record_36 rfl rfl ?_
        refine v_rdVi (n := 40) k [1, 2] 1 (z_X1_recordStart (p := P.toNat) (n := R.toNat) hpe hpl w2 (by omega) hwb (by omega) w3) miX1_recordStart ml_X4_151 (by decide) (by decide) rfl (by decide) rfl rfl rfl rfl (Nat.le_of_ble_eq_true rfl) ⟨Nat.zero_le _, Nat.zero_le _⟩ dX4_record_37 rfl ?_
        refine v_istore (n := 42) k dX4_record_40 rfl (by decide) rfl rfl ?_
        refine v_aload_n (n := 43) k dX4_record_42 rfl rfl ?_
        refine v_get (n := 46) k ciX4 0 0 (by decide) fl_X4_10 rfl rfl dX4_record_43 rfl ?_
        refine v_iload_n (n := 47) k dX4_record_46 rfl rfl ?_
        refine v_iload (n := 49) k dX4_record_47 rfl rfl ?_
        refine v_rdVi (n := 52) k [1, 2] 1 (z_X1_at (p := P.toNat) (i := rst C P.toNat R.toNat) hpe rfl hpl (by omega) w2) miX1_at ml_X4_130 (by decide) (by decide) rfl (by decide) rfl rfl rfl rfl (Nat.le_of_ble_eq_true rfl) ⟨Nat.zero_le _, Nat.zero_le _⟩ dX4_record_49 rfl ?_
        refine v_istore (n := 54) k dX4_record_52 rfl (by decide) rfl rfl ?_
        refine v_iload_n (n := 55) k dX4_record_54 rfl rfl ?_
        refine v_if_ne (n := 58) (t := 90) k (⟨by omega, by omega⟩) dX4_record_55 (by decide) rfl (fun c_55 => ?_) (fun c_55 => ?_)
        · refine v_iload_n (n := 91) k dX4_record_90 rfl rfl ?_
          refine v_iconst (n := 92) k dX4_record_91 rfl ?_
          refine v_icmp_ne (n := 95) (t := 140) k (⟨by omega, by omega⟩) (⟨by omega, by omega⟩) dX4_record_92 (by decide) rfl (fun c_92 => ?_) (fun c_92 => ?_)
          · refine v_iconst (n := 141) k dX4_record_140 rfl ?_
            refine v_iretU k hq ?_ rfl dX4_record_141
            exact ⟨by rw [recF, if_pos hcond, if_neg (by omega), if_neg (by omega)], ko2, K2, hks2, rfl⟩
          · refine v_iload (n := 97) k dX4_record_95 rfl rfl ?_
            refine v_if_lt (n := 100) (t := 138) k (⟨by omega, by omega⟩) dX4_record_97 (by decide) rfl (fun c_97 => ?_) (fun c_97 => ?_)
            · refine v_iconst (n := 139) k dX4_record_138 rfl ?_
              refine v_iretU k hq ?_ rfl dX4_record_139
              exact ⟨by first | rw [recF, if_pos hcond, if_neg (by omega), if_pos (by omega), if_pos ⟨by omega, by omega⟩] | rw [recF, if_pos hcond, if_neg (by omega), if_pos (by omega), if_neg (by omega)], ko2, K2, hks2, rfl⟩
            · refine v_iload (n := 102) k dX4_record_100 rfl rfl ?_
              refine v_aload_n (n := 103) k dX4_record_102 rfl rfl ?_
              refine v_get (n := 106) k ciX4 0 0 (by decide) fl_X4_10 rfl rfl dX4_record_103 rfl ?_
              refine v_iload_n (n := 107) k dX4_record_106 rfl rfl ?_
              refine v_iload (n := 109) k dX4_record_107 rfl rfl ?_
              refine v_iconst (n := 110) k dX4_record_109 rfl ?_
              refine v_iadd (n := 111) k dX4_record_110 rfl ?_
              refine v_rdVi (n := 114) k [1, 2] 1 (z_X1_at (p := P.toNat) (i := rst C P.toNat R.toNat + 1) hpe (by omega) hpl (by omega) w2) miX1_at ml_X4_130 (by decide) (by decide) rfl (by decide) rfl rfl rfl rfl (Nat.le_of_ble_eq_true rfl) ⟨Nat.zero_le _, Nat.zero_le _⟩ dX4_record_111 rfl ?_
              refine v_icmp_ge (n := 117) (t := 138) k (⟨by omega, by omega⟩) (⟨by omega, by omega⟩) dX4_record_114 (by decide) rfl (fun c_114 => ?_) (fun c_114 => ?_)
              · refine v_iconst (n := 139) k dX4_record_138 rfl ?_
                refine v_iretU k hq ?_ rfl dX4_record_139
                exact ⟨by first | rw [recF, if_pos hcond, if_neg (by omega), if_pos (by omega), if_pos ⟨by omega, by omega⟩] | rw [recF, if_pos hcond, if_neg (by omega), if_pos (by omega), if_neg (by omega)], ko2, K2, hks2, rfl⟩
              · refine v_aload_n (n := 118) k dX4_record_117 rfl rfl ?_
                refine v_get (n := 121) k ciX4 0 0 (by decide) fl_X4_10 rfl rfl dX4_record_118 rfl ?_
                refine v_iload_n (n := 122) k dX4_record_121 rfl rfl ?_
                refine v_iload (n := 124) k dX4_record_122 rfl rfl ?_
                refine v_iconst (n := 125) k dX4_record_124 rfl ?_
                refine v_iadd (n := 126) k dX4_record_125 rfl ?_
                refine v_iload (n := 128) k dX4_record_126 rfl rfl ?_
                refine v_iadd (n := 129) k dX4_record_128 rfl ?_
                refine v_iload (n := 131) k dX4_record_129 rfl rfl ?_
                refine v_iadd (n := 132) k dX4_record_131 rfl ?_
                refine v_rdVi (n := 135) k [1, 2] 1 (z_X1_at (p := P.toNat) (i := rst C P.toNat R.toNat + 2 + pb C P.toNat (rst C P.toNat R.toNat) + J.toNat) hpe (by omega) hpl (by omega) w2) miX1_at ml_X4_130 (by decide) (by decide) rfl (by decide) rfl rfl rfl rfl (Nat.le_of_ble_eq_true rfl) ⟨Nat.zero_le _, Nat.zero_le _⟩ dX4_record_132 rfl ?_
                refine v_goto (t := 139) k dX4_record_135 (by decide) ?_
                refine v_iretU k hq ?_ rfl dX4_record_139
                exact ⟨by first | rw [recF, if_pos hcond, if_neg (by omega), if_pos (by omega), if_pos ⟨by omega, by omega⟩] | rw [recF, if_pos hcond, if_neg (by omega), if_pos (by omega), if_neg (by omega)], ko2, K2, hks2, rfl⟩
        · refine v_iload (n := 60) k dX4_record_58 rfl rfl ?_
          refine v_if_lt (n := 63) (t := 88) k (⟨by omega, by omega⟩) dX4_record_60 (by decide) rfl (fun c_60 => ?_) (fun c_60 => ?_)
          · refine v_iconst (n := 89) k dX4_record_88 rfl ?_
            refine v_iretU k hq ?_ rfl dX4_record_89
            exact ⟨by first | rw [recF, if_pos hcond, if_pos (by omega), if_pos ⟨by omega, by omega⟩] | rw [recF, if_pos hcond, if_pos (by omega), if_neg (by omega)], ko2, K2, hks2, rfl⟩
          · refine v_iload (n := 65) k dX4_record_63 rfl rfl ?_
            refine v_iload (n := 67) k dX4_record_65 rfl rfl ?_
            refine v_icmp_ge (n := 70) (t := 88) k (⟨by omega, by omega⟩) (⟨by omega, by omega⟩) dX4_record_67 (by decide) rfl (fun c_67 => ?_) (fun c_67 => ?_)
            · refine v_iconst (n := 89) k dX4_record_88 rfl ?_
              refine v_iretU k hq ?_ rfl dX4_record_89
              exact ⟨by first | rw [recF, if_pos hcond, if_pos (by omega), if_pos ⟨by omega, by omega⟩] | rw [recF, if_pos hcond, if_pos (by omega), if_neg (by omega)], ko2, K2, hks2, rfl⟩
            · refine v_aload_n (n := 71) k dX4_record_70 rfl rfl ?_
              refine v_get (n := 74) k ciX4 0 0 (by decide) fl_X4_10 rfl rfl dX4_record_71 rfl ?_
              refine v_iload_n (n := 75) k dX4_record_74 rfl rfl ?_
              refine v_iload (n := 77) k dX4_record_75 rfl rfl ?_
              refine v_iconst (n := 78) k dX4_record_77 rfl ?_
              refine v_iadd (n := 79) k dX4_record_78 rfl ?_
              refine v_iload (n := 81) k dX4_record_79 rfl rfl ?_
              refine v_iadd (n := 82) k dX4_record_81 rfl ?_
              refine v_rdVi (n := 85) k [1, 2] 1 (z_X1_at (p := P.toNat) (i := rst C P.toNat R.toNat + 2 + J.toNat) hpe (by omega) hpl (by omega) w2) miX1_at ml_X4_130 (by decide) (by decide) rfl (by decide) rfl rfl rfl rfl (Nat.le_of_ble_eq_true rfl) ⟨Nat.zero_le _, Nat.zero_le _⟩ dX4_record_82 rfl ?_
              refine v_goto (t := 89) k dX4_record_85 (by decide) ?_
              refine v_iretU k hq ?_ rfl dX4_record_89
              exact ⟨by first | rw [recF, if_pos hcond, if_pos (by omega), if_pos ⟨by omega, by omega⟩] | rw [recF, if_pos hcond, if_pos (by omega), if_neg (by omega)], ko2, K2, hks2, rfl⟩
      · refine v_iconst (n := 30) k dX4_record_29 rfl ?_
        refine v_iretU k hq ?_ rfl dX4_record_30
        exact ⟨by rw [recF, if_neg (by omega)], ko2, K2, hks2, rfl⟩
set_option maxHeartbeats 1000000 in
set_option maxRecDepth 20000 in
theorem z_X4_look {D : va_G} {cI cB cJ cZ : ClassId} {hx hd hc hk hch hb hh ht ha : Nat} {an : Int} {ko : Int} {pg lg : Nat} {wt al dn : Int} {C : Nat → Nat} {K : Nat → Nat} {htb tn : Nat} {Q : Int} (hw : DW C pg lg) (hQ : in32 Q) (hdn : dn = 0 ∨ dn = 1) (hks : KS ko K C pg lg) : ∀ l, Up l yX4_look cX4_look 2 (some .int) ({ frames := 5, cells := 0, slots := 0, locals := 113 }) D (TY cI cB cJ cZ) [.ref hx, .int (iI Q)] [oHash hx hd hch hb hh ht ha an, oDisk hd hc hk ko pg lg wt al dn, aN cI hc 65280 C, aN cI hk 255 K, oTape ht htb (tn : Int)] (fun r w1 => r = some (.int (iI (lokF C pg lg wt al dn tn Q))) ∧ ∃ ko2 K2, KS ko2 K2 C pg lg ∧ w1 = [oHash hx hd hch hb hh ht ha an, oDisk hd hc hk ko2 pg lg wt al dn, aN cI hc 65280 C, aN cI hk 255 K2, oTape ht htb (tn : Int)]) := by
  intro l
  refine Up_of (by decide) (Nat.le_of_ble_eq_true rfl) (fun x k hq => ?_)
  obtain ⟨w1, w2, w3, w4, w5, w6, w7⟩ := id hw
  refine v_iload_n (n := 1) k dX4_look_0 rfl rfl ?_
  by_cases hin : Q < 0 ∨ 10 < Q
  · refine v_tabOut (t := 160) k hQ dX4_look_1 hin (by decide) ?_
    refine v_iconst (n := 161) k dX4_look_160 rfl ?_
    refine v_iretU k hq ?_ rfl dX4_look_161
    exact ⟨by unfold lokF; rw [if_neg (by omega), if_neg (by omega), if_neg (by omega), if_neg (by omega), if_neg (by omega), if_neg (by omega), if_neg (by omega), if_neg (by omega), if_neg (by omega), if_neg (by omega), if_neg (by omega)], ko, K, hks, rfl⟩
  · obtain ⟨n, hn, hqn⟩ : ∃ n : Nat, n < 11 ∧ Q = (n : Int) := ⟨Q.toNat, by omega, by omega⟩
    subst hqn
    rcases (by omega : n = 0 ∨ n = 1 ∨ n = 2 ∨ n = 3 ∨ n = 4 ∨ n = 5 ∨ n = 6 ∨ n = 7 ∨ n = 8 ∨ n = 9 ∨ n = 10) with rfl | rfl | rfl | rfl | rfl | rfl | rfl | rfl | rfl | rfl | rfl
    · refine v_tabIn (t := 60) k hQ dX4_look_1 (by decide) (by decide) (by rfl) (by decide) ?_
      refine v_aload_n (n := 61) k dX4_look_60 rfl rfl ?_
      refine v_get (n := 64) k ciX4 0 0 (by decide) fl_X4_10 rfl rfl dX4_look_61 rfl ?_
      refine v_rdVi (n := 67) k [1] 1 (z_X1_pages) miX1_pages ml_X4_154 (by decide) (by decide) rfl (by decide) rfl rfl rfl rfl (Nat.le_of_ble_eq_true rfl) ⟨Nat.zero_le _, Nat.zero_le _⟩ dX4_look_64 rfl ?_
      refine v_iretU k hq ?_ rfl dX4_look_67
      exact ⟨rfl, ko, K, hks, rfl⟩
    · refine v_tabIn (t := 68) k hQ dX4_look_1 (by decide) (by decide) (by rfl) (by decide) ?_
      refine v_aload_n (n := 69) k dX4_look_68 rfl rfl ?_
      refine v_get (n := 72) k ciX4 0 0 (by decide) fl_X4_10 rfl rfl dX4_look_69 rfl ?_
      refine v_rdVi (n := 75) k [1] 1 (z_X1_log) miX1_log ml_X4_157 (by decide) (by decide) rfl (by decide) rfl rfl rfl rfl (Nat.le_of_ble_eq_true rfl) ⟨Nat.zero_le _, Nat.zero_le _⟩ dX4_look_72 rfl ?_
      refine v_iretU k hq ?_ rfl dX4_look_75
      exact ⟨rfl, ko, K, hks, rfl⟩
    · refine v_tabIn (t := 76) k hQ dX4_look_1 (by decide) (by decide) (by rfl) (by decide) ?_
      refine v_aload_n (n := 77) k dX4_look_76 rfl rfl ?_
      refine v_get (n := 80) k ciX4 0 0 (by decide) fl_X4_10 rfl rfl dX4_look_77 rfl ?_
      refine v_rdVi (n := 83) k [1, 2] 1 (z_X1_depth hw) miX1_depth ml_X4_160 (by decide) (by decide) rfl (by decide) rfl rfl rfl rfl (Nat.le_of_ble_eq_true rfl) ⟨Nat.zero_le _, Nat.zero_le _⟩ dX4_look_80 rfl ?_
      refine v_iretU k hq ?_ rfl dX4_look_83
      exact ⟨rfl, ko, K, hks, rfl⟩
    · refine v_tabIn (t := 84) k hQ dX4_look_1 (by decide) (by decide) (by rfl) (by decide) ?_
      refine v_aload_n (n := 85) k dX4_look_84 rfl rfl ?_
      refine v_get (n := 88) k ciX4 0 0 (by decide) fl_X4_10 rfl rfl dX4_look_85 rfl ?_
      refine v_iconst (n := 89) k dX4_look_88 rfl ?_
      refine v_upV (n := 92) k [1, 2, 3] 1 (z_X1_countKind hw w7 (kd := 5) rfl (by omega) hks) miX1_countKind ml_X4_163 (by decide) (by decide) rfl (by decide) rfl rfl rfl rfl (Nat.le_of_ble_eq_true rfl) ⟨Nat.zero_le _, Nat.zero_le _⟩ dX4_look_89 rfl ?_
      rintro _ _ ⟨rfl, ko2, K2, hks2, rfl⟩
      dsimp only [wput, List.set, Option.toList, List.nil_append, List.cons_append]
      refine v_iretU k hq ?_ rfl dX4_look_92
      exact ⟨rfl, ko2, K2, hks2, rfl⟩
    · refine v_tabIn (t := 93) k hQ dX4_look_1 (by decide) (by decide) (by rfl) (by decide) ?_
      refine v_aload_n (n := 94) k dX4_look_93 rfl rfl ?_
      refine v_get (n := 97) k ciX4 0 0 (by decide) fl_X4_10 rfl rfl dX4_look_94 rfl ?_
      refine v_iconst (n := 98) k dX4_look_97 rfl ?_
      refine v_upV (n := 101) k [1, 2, 3] 1 (z_X1_countKind hw w7 (kd := 0) rfl (by omega) hks) miX1_countKind ml_X4_163 (by decide) (by decide) rfl (by decide) rfl rfl rfl rfl (Nat.le_of_ble_eq_true rfl) ⟨Nat.zero_le _, Nat.zero_le _⟩ dX4_look_98 rfl ?_
      rintro _ _ ⟨rfl, ko2, K2, hks2, rfl⟩
      dsimp only [wput, List.set, Option.toList, List.nil_append, List.cons_append]
      refine v_iretU k hq ?_ rfl dX4_look_101
      exact ⟨rfl, ko2, K2, hks2, rfl⟩
    · refine v_tabIn (t := 102) k hQ dX4_look_1 (by decide) (by decide) (by rfl) (by decide) ?_
      refine v_aload_n (n := 103) k dX4_look_102 rfl rfl ?_
      refine v_get (n := 106) k ciX4 0 0 (by decide) fl_X4_10 rfl rfl dX4_look_103 rfl ?_
      refine v_upV (n := 109) k [1, 2, 3] 1 (z_X1_countRecords hw w7 hks) miX1_countRecords ml_X4_166 (by decide) (by decide) rfl (by decide) rfl rfl rfl rfl (Nat.le_of_ble_eq_true rfl) ⟨Nat.zero_le _, Nat.zero_le _⟩ dX4_look_106 rfl ?_
      rintro _ _ ⟨rfl, ko2, K2, hks2, rfl⟩
      dsimp only [wput, List.set, Option.toList, List.nil_append, List.cons_append]
      refine v_iretU k hq ?_ rfl dX4_look_109
      exact ⟨rfl, ko2, K2, hks2, rfl⟩
    · refine v_tabIn (t := 110) k hQ dX4_look_1 (by decide) (by decide) (by rfl) (by decide) ?_
      refine v_aload_n (n := 111) k dX4_look_110 rfl rfl ?_
      refine v_get (n := 114) k ciX4 0 0 (by decide) fl_X4_10 rfl rfl dX4_look_111 rfl ?_
      refine v_rdVi (n := 117) k [1] 1 (z_X1_writes) miX1_writes ml_X4_169 (by decide) (by decide) rfl (by decide) rfl rfl rfl rfl (Nat.le_of_ble_eq_true rfl) ⟨Nat.zero_le _, Nat.zero_le _⟩ dX4_look_114 rfl ?_
      refine v_iretU k hq ?_ rfl dX4_look_117
      exact ⟨rfl, ko, K, hks, rfl⟩
    · refine v_tabIn (t := 118) k hQ dX4_look_1 (by decide) (by decide) (by rfl) (by decide) ?_
      refine v_aload_n (n := 119) k dX4_look_118 rfl rfl ?_
      refine v_get (n := 122) k ciX4 0 0 (by decide) fl_X4_10 rfl rfl dX4_look_119 rfl ?_
      refine v_rdVi (n := 125) k [1] 1 (z_X1_isDown hdn) miX1_isDown ml_X4_83 (by decide) (by decide) rfl (by decide) rfl rfl rfl rfl (Nat.le_of_ble_eq_true rfl) ⟨Nat.zero_le _, Nat.zero_le _⟩ dX4_look_122 rfl ?_
      refine v_if_eq (n := 128) (t := 132) k (⟨by omega, by omega⟩) dX4_look_125 (by decide) rfl (fun c_125 => ?_) (fun c_125 => ?_)
      · refine v_iconst (n := 133) k dX4_look_132 rfl ?_
        refine v_iretU k hq ?_ rfl dX4_look_133
        first
        | (have hd9 : dn = 0 := by omega
           exact ⟨by show _ = some (Value.int (iI dn)); rw [hd9], ko, K, hks, rfl⟩)
        | (have hd9 : dn = 1 := by omega
           exact ⟨by show _ = some (Value.int (iI dn)); rw [hd9], ko, K, hks, rfl⟩)
      · refine v_iconst (n := 129) k dX4_look_128 rfl ?_
        refine v_goto (t := 133) k dX4_look_129 (by decide) ?_
        refine v_iretU k hq ?_ rfl dX4_look_133
        first
        | (have hd9 : dn = 0 := by omega
           exact ⟨by show _ = some (Value.int (iI dn)); rw [hd9], ko, K, hks, rfl⟩)
        | (have hd9 : dn = 1 := by omega
           exact ⟨by show _ = some (Value.int (iI dn)); rw [hd9], ko, K, hks, rfl⟩)
    · refine v_tabIn (t := 134) k hQ dX4_look_1 (by decide) (by decide) (by rfl) (by decide) ?_
      refine v_aload_n (n := 135) k dX4_look_134 rfl rfl ?_
      refine v_get (n := 138) k ciX4 0 0 (by decide) fl_X4_10 rfl rfl dX4_look_135 rfl ?_
      refine v_rdVi (n := 141) k [1] 1 (z_X1_allowed) miX1_allowed ml_X4_172 (by decide) (by decide) rfl (by decide) rfl rfl rfl rfl (Nat.le_of_ble_eq_true rfl) ⟨Nat.zero_le _, Nat.zero_le _⟩ dX4_look_138 rfl ?_
      refine v_iretU k hq ?_ rfl dX4_look_141
      exact ⟨rfl, ko, K, hks, rfl⟩
    · refine v_tabIn (t := 142) k hQ dX4_look_1 (by decide) (by decide) (by rfl) (by decide) ?_
      refine v_aload_n (n := 143) k dX4_look_142 rfl rfl ?_
      refine v_get (n := 146) k ciX4 0 4 (by decide) fl_X4_38 rfl rfl dX4_look_143 rfl ?_
      refine v_rdVi (n := 149) k [4] 4 (z_X3_size) miX3_size ml_X4_67 (by decide) (by decide) rfl (by decide) rfl rfl rfl rfl (Nat.le_of_ble_eq_true rfl) ⟨Nat.zero_le _, Nat.zero_le _⟩ dX4_look_146 rfl ?_
      refine v_iretU k hq ?_ rfl dX4_look_149
      exact ⟨rfl, ko, K, hks, rfl⟩
    · refine v_tabIn (t := 150) k hQ dX4_look_1 (by decide) (by decide) (by rfl) (by decide) ?_
      refine v_aload_n (n := 151) k dX4_look_150 rfl rfl ?_
      refine v_get (n := 154) k ciX4 0 0 (by decide) fl_X4_10 rfl rfl dX4_look_151 rfl ?_
      refine v_iconst (n := 155) k dX4_look_154 rfl ?_
      refine v_iconst (n := 156) k dX4_look_155 rfl ?_
      refine v_rdVi (n := 159) k [1, 2] 1 (z_X1_at (p := 1) (i := 0) rfl rfl (by omega) (by omega) w2) miX1_at ml_X4_130 (by decide) (by decide) rfl (by decide) rfl rfl rfl rfl (Nat.le_of_ble_eq_true rfl) ⟨Nat.zero_le _, Nat.zero_le _⟩ dX4_look_156 rfl ?_
      refine v_iretU k hq ?_ rfl dX4_look_159
      exact ⟨rfl, ko, K, hks, rfl⟩
end
