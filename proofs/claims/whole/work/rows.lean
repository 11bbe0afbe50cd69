section
-- ===== PART A: goes FIRST, ahead of the names: the tables' words, and 'selects' of the private methods out of them =====
/-- a private method of a class that the tables say can be made, by its rows of tables_1 -/
def lw_okq (q : MethodName × Nat) : Prop := (q.1.cls ≠ "java/lang/invoke/MethodHandle" ∧ q.1.cls ≠ "java/lang/invoke/VarHandle") ∧ Cond.instantiable q.1.cls q.2 ∈ tables_1 ∧ Cond.privateMethod q.1 ∈ tables_1 ∧ Cond.instanceMethod q.1 ∈ tables_1
theorem lw_p0 : lw_okq (⟨"FsckDesk$InodePass", "hasSoundHead", "(I)Z"⟩, 3) := ⟨⟨by decide +kernel, by decide +kernel⟩, List.mem_of_getElem? (i := 89) (by decide +kernel), List.mem_of_getElem? (i := 356) (by decide +kernel), List.mem_of_getElem? (i := 357) (by decide +kernel)⟩
theorem lw_p1 : lw_okq (⟨"FsckDesk$InodePass", "hasSoundSize", "(I)Z"⟩, 3) := ⟨⟨by decide +kernel, by decide +kernel⟩, List.mem_of_getElem? (i := 89) (by decide +kernel), List.mem_of_getElem? (i := 376) (by decide +kernel), List.mem_of_getElem? (i := 377) (by decide +kernel)⟩
theorem lw_p2 : lw_okq (⟨"FsckDesk$InodePass", "hasBlankRest", "(I)Z"⟩, 3) := ⟨⟨by decide +kernel, by decide +kernel⟩, List.mem_of_getElem? (i := 89) (by decide +kernel), List.mem_of_getElem? (i := 385) (by decide +kernel), List.mem_of_getElem? (i := 386) (by decide +kernel)⟩
theorem lw_p3 : lw_okq (⟨"FsckDesk$Inodes", "takeFreeBlock", "()I"⟩, 2) := ⟨⟨by decide +kernel, by decide +kernel⟩, List.mem_of_getElem? (i := 41) (by decide +kernel), List.mem_of_getElem? (i := 447) (by decide +kernel), List.mem_of_getElem? (i := 448) (by decide +kernel)⟩
theorem lw_p4 : lw_okq (⟨"FsckDesk$Name", "add", "(I)V"⟩, 2) := ⟨⟨by decide +kernel, by decide +kernel⟩, List.mem_of_getElem? (i := 60) (by decide +kernel), List.mem_of_getElem? (i := 468) (by decide +kernel), List.mem_of_getElem? (i := 469) (by decide +kernel)⟩
theorem lw_p5 : lw_okq (⟨"FsckDesk$Directories", "isValid", "(II)Z"⟩, 3) := ⟨⟨by decide +kernel, by decide +kernel⟩, List.mem_of_getElem? (i := 54) (by decide +kernel), List.mem_of_getElem? (i := 505) (by decide +kernel), List.mem_of_getElem? (i := 506) (by decide +kernel)⟩
theorem lw_p6 : lw_okq (⟨"FsckDesk$Directories", "isNamed", "(ILFsckDesk$Name;)Z"⟩, 3) := ⟨⟨by decide +kernel, by decide +kernel⟩, List.mem_of_getElem? (i := 54) (by decide +kernel), List.mem_of_getElem? (i := 525) (by decide +kernel), List.mem_of_getElem? (i := 526) (by decide +kernel)⟩
theorem lw_p7 : lw_okq (⟨"FsckDesk$Connector", "reach", "(I)V"⟩, 8) := ⟨⟨by decide +kernel, by decide +kernel⟩, List.mem_of_getElem? (i := 105) (by decide +kernel), List.mem_of_getElem? (i := 538) (by decide +kernel), List.mem_of_getElem? (i := 539) (by decide +kernel)⟩
theorem lw_p8 : lw_okq (⟨"FsckDesk$Connector", "goThrough", "()V"⟩, 8) := ⟨⟨by decide +kernel, by decide +kernel⟩, List.mem_of_getElem? (i := 105) (by decide +kernel), List.mem_of_getElem? (i := 542) (by decide +kernel), List.mem_of_getElem? (i := 543) (by decide +kernel)⟩
theorem lw_p9 : lw_okq (⟨"FsckDesk$Connector", "follow", "(II)V"⟩, 8) := ⟨⟨by decide +kernel, by decide +kernel⟩, List.mem_of_getElem? (i := 105) (by decide +kernel), List.mem_of_getElem? (i := 548) (by decide +kernel), List.mem_of_getElem? (i := 549) (by decide +kernel)⟩
theorem lw_p10 : lw_okq (⟨"FsckDesk$Connector", "isReached", "(I)Z"⟩, 8) := ⟨⟨by decide +kernel, by decide +kernel⟩, List.mem_of_getElem? (i := 105) (by decide +kernel), List.mem_of_getElem? (i := 553) (by decide +kernel), List.mem_of_getElem? (i := 554) (by decide +kernel)⟩
theorem lw_p11 : lw_okq (⟨"FsckDesk$Connector", "findName", "(I)Z"⟩, 8) := ⟨⟨by decide +kernel, by decide +kernel⟩, List.mem_of_getElem? (i := 105) (by decide +kernel), List.mem_of_getElem? (i := 562) (by decide +kernel), List.mem_of_getElem? (i := 563) (by decide +kernel)⟩
theorem lw_p12 : lw_okq (⟨"FsckDesk$Connector", "putAway", "(II)V"⟩, 8) := ⟨⟨by decide +kernel, by decide +kernel⟩, List.mem_of_getElem? (i := 105) (by decide +kernel), List.mem_of_getElem? (i := 575) (by decide +kernel), List.mem_of_getElem? (i := 576) (by decide +kernel)⟩
theorem lw_p13 : lw_okq (⟨"FsckDesk$Repairer", "settle", "()V"⟩, 6) := ⟨⟨by decide +kernel, by decide +kernel⟩, List.mem_of_getElem? (i := 83) (by decide +kernel), List.mem_of_getElem? (i := 585) (by decide +kernel), List.mem_of_getElem? (i := 586) (by decide +kernel)⟩
theorem lw_p14 : lw_okq (⟨"FsckDesk$Directories", "countLink", "(II)V"⟩, 3) := ⟨⟨by decide +kernel, by decide +kernel⟩, List.mem_of_getElem? (i := 54) (by decide +kernel), List.mem_of_getElem? (i := 597) (by decide +kernel), List.mem_of_getElem? (i := 598) (by decide +kernel)⟩
theorem lw_p15 : lw_okq (⟨"FsckDesk$Repairer", "writeMaps", "()V"⟩, 6) := ⟨⟨by decide +kernel, by decide +kernel⟩, List.mem_of_getElem? (i := 83) (by decide +kernel), List.mem_of_getElem? (i := 610) (by decide +kernel), List.mem_of_getElem? (i := 611) (by decide +kernel)⟩
def lw_privs_1 : List (MethodName × Nat) := [(⟨"FsckDesk$InodePass", "hasSoundHead", "(I)Z"⟩, 3), (⟨"FsckDesk$InodePass", "hasSoundSize", "(I)Z"⟩, 3), (⟨"FsckDesk$InodePass", "hasBlankRest", "(I)Z"⟩, 3), (⟨"FsckDesk$Inodes", "takeFreeBlock", "()I"⟩, 2), (⟨"FsckDesk$Name", "add", "(I)V"⟩, 2), (⟨"FsckDesk$Directories", "isValid", "(II)Z"⟩, 3), (⟨"FsckDesk$Directories", "isNamed", "(ILFsckDesk$Name;)Z"⟩, 3), (⟨"FsckDesk$Connector", "reach", "(I)V"⟩, 8), (⟨"FsckDesk$Connector", "goThrough", "()V"⟩, 8), (⟨"FsckDesk$Connector", "follow", "(II)V"⟩, 8), (⟨"FsckDesk$Connector", "isReached", "(I)Z"⟩, 8), (⟨"FsckDesk$Connector", "findName", "(I)Z"⟩, 8), (⟨"FsckDesk$Connector", "putAway", "(II)V"⟩, 8), (⟨"FsckDesk$Repairer", "settle", "()V"⟩, 6), (⟨"FsckDesk$Directories", "countLink", "(II)V"⟩, 3), (⟨"FsckDesk$Repairer", "writeMaps", "()V"⟩, 6)]
theorem lw_r1 : ∀ q ∈ lw_privs_1, lw_okq q := List.forall_mem_cons.mpr ⟨lw_p0, List.forall_mem_cons.mpr ⟨lw_p1, List.forall_mem_cons.mpr ⟨lw_p2, List.forall_mem_cons.mpr ⟨lw_p3, List.forall_mem_cons.mpr ⟨lw_p4, List.forall_mem_cons.mpr ⟨lw_p5, List.forall_mem_cons.mpr ⟨lw_p6, List.forall_mem_cons.mpr ⟨lw_p7, List.forall_mem_cons.mpr ⟨lw_p8, List.forall_mem_cons.mpr ⟨lw_p9, List.forall_mem_cons.mpr ⟨lw_p10, List.forall_mem_cons.mpr ⟨lw_p11, List.forall_mem_cons.mpr ⟨lw_p12, List.forall_mem_cons.mpr ⟨lw_p13, List.forall_mem_cons.mpr ⟨lw_p14, List.forall_mem_cons.mpr ⟨lw_p15, fun _ h => absurd h List.not_mem_nil⟩⟩⟩⟩⟩⟩⟩⟩⟩⟩⟩⟩⟩⟩⟩⟩
theorem lw_p16 : lw_okq (⟨"FsckDesk$Repairer", "markUsed", "(II)V"⟩, 6) := ⟨⟨by decide +kernel, by decide +kernel⟩, List.mem_of_getElem? (i := 83) (by decide +kernel), List.mem_of_getElem? (i := 620) (by decide +kernel), List.mem_of_getElem? (i := 621) (by decide +kernel)⟩
theorem lw_p17 : lw_okq (⟨"FsckDesk$Repairer", "countDiffering", "()I"⟩, 6) := ⟨⟨by decide +kernel, by decide +kernel⟩, List.mem_of_getElem? (i := 83) (by decide +kernel), List.mem_of_getElem? (i := 628) (by decide +kernel), List.mem_of_getElem? (i := 629) (by decide +kernel)⟩
theorem lw_p18 : lw_okq (⟨"FsckDesk$Writer", "mayEnter", "(ILFsckDesk$Name;)Z"⟩, 3) := ⟨⟨by decide +kernel, by decide +kernel⟩, List.mem_of_getElem? (i := 157) (by decide +kernel), List.mem_of_getElem? (i := 721) (by decide +kernel), List.mem_of_getElem? (i := 722) (by decide +kernel)⟩
theorem lw_p19 : lw_okq (⟨"FsckDesk$Writer", "enter", "(ILFsckDesk$Name;I)Z"⟩, 3) := ⟨⟨by decide +kernel, by decide +kernel⟩, List.mem_of_getElem? (i := 157) (by decide +kernel), List.mem_of_getElem? (i := 730) (by decide +kernel), List.mem_of_getElem? (i := 731) (by decide +kernel)⟩
theorem lw_p20 : lw_okq (⟨"FsckDeskModel", "superAt", "(III)V"⟩, 9) := ⟨⟨by decide +kernel, by decide +kernel⟩, List.mem_of_getElem? (i := 777) (by decide +kernel), List.mem_of_getElem? (i := 816) (by decide +kernel), List.mem_of_getElem? (i := 817) (by decide +kernel)⟩
theorem lw_p21 : lw_okq (⟨"FsckDeskModel", "clear", "(II)V"⟩, 9) := ⟨⟨by decide +kernel, by decide +kernel⟩, List.mem_of_getElem? (i := 777) (by decide +kernel), List.mem_of_getElem? (i := 820) (by decide +kernel), List.mem_of_getElem? (i := 821) (by decide +kernel)⟩
theorem lw_p22 : lw_okq (⟨"FsckDeskModel", "put", "(II)V"⟩, 9) := ⟨⟨by decide +kernel, by decide +kernel⟩, List.mem_of_getElem? (i := 777) (by decide +kernel), List.mem_of_getElem? (i := 824) (by decide +kernel), List.mem_of_getElem? (i := 825) (by decide +kernel)⟩
theorem lw_p23 : lw_okq (⟨"FsckDeskModel", "sum", "(II)I"⟩, 9) := ⟨⟨by decide +kernel, by decide +kernel⟩, List.mem_of_getElem? (i := 777) (by decide +kernel), List.mem_of_getElem? (i := 828) (by decide +kernel), List.mem_of_getElem? (i := 829) (by decide +kernel)⟩
theorem lw_p24 : lw_okq (⟨"FsckDeskModel", "store", "()V"⟩, 9) := ⟨⟨by decide +kernel, by decide +kernel⟩, List.mem_of_getElem? (i := 777) (by decide +kernel), List.mem_of_getElem? (i := 833) (by decide +kernel), List.mem_of_getElem? (i := 834) (by decide +kernel)⟩
theorem lw_p25 : lw_okq (⟨"FsckDeskModel", "passes", "()Z"⟩, 9) := ⟨⟨by decide +kernel, by decide +kernel⟩, List.mem_of_getElem? (i := 777) (by decide +kernel), List.mem_of_getElem? (i := 841) (by decide +kernel), List.mem_of_getElem? (i := 842) (by decide +kernel)⟩
theorem lw_p26 : lw_okq (⟨"FsckDeskModel", "load", "()V"⟩, 9) := ⟨⟨by decide +kernel, by decide +kernel⟩, List.mem_of_getElem? (i := 777) (by decide +kernel), List.mem_of_getElem? (i := 845) (by decide +kernel), List.mem_of_getElem? (i := 846) (by decide +kernel)⟩
theorem lw_p27 : lw_okq (⟨"FsckDeskModel", "isSuper", "(I)Z"⟩, 9) := ⟨⟨by decide +kernel, by decide +kernel⟩, List.mem_of_getElem? (i := 777) (by decide +kernel), List.mem_of_getElem? (i := 849) (by decide +kernel), List.mem_of_getElem? (i := 850) (by decide +kernel)⟩
theorem lw_p28 : lw_okq (⟨"FsckDeskModel", "has", "(IIIII)Z"⟩, 9) := ⟨⟨by decide +kernel, by decide +kernel⟩, List.mem_of_getElem? (i := 777) (by decide +kernel), List.mem_of_getElem? (i := 853) (by decide +kernel), List.mem_of_getElem? (i := 854) (by decide +kernel)⟩
theorem lw_p29 : lw_okq (⟨"FsckDeskModel", "two", "(I)I"⟩, 9) := ⟨⟨by decide +kernel, by decide +kernel⟩, List.mem_of_getElem? (i := 777) (by decide +kernel), List.mem_of_getElem? (i := 857) (by decide +kernel), List.mem_of_getElem? (i := 858) (by decide +kernel)⟩
theorem lw_p30 : lw_okq (⟨"FsckDeskModel", "replay", "()V"⟩, 9) := ⟨⟨by decide +kernel, by decide +kernel⟩, List.mem_of_getElem? (i := 777) (by decide +kernel), List.mem_of_getElem? (i := 861) (by decide +kernel), List.mem_of_getElem? (i := 862) (by decide +kernel)⟩
theorem lw_p31 : lw_okq (⟨"FsckDeskModel", "isClear", "(II)Z"⟩, 9) := ⟨⟨by decide +kernel, by decide +kernel⟩, List.mem_of_getElem? (i := 777) (by decide +kernel), List.mem_of_getElem? (i := 865) (by decide +kernel), List.mem_of_getElem? (i := 866) (by decide +kernel)⟩
def lw_privs_2 : List (MethodName × Nat) := [(⟨"FsckDesk$Repairer", "markUsed", "(II)V"⟩, 6), (⟨"FsckDesk$Repairer", "countDiffering", "()I"⟩, 6), (⟨"FsckDesk$Writer", "mayEnter", "(ILFsckDesk$Name;)Z"⟩, 3), (⟨"FsckDesk$Writer", "enter", "(ILFsckDesk$Name;I)Z"⟩, 3), (⟨"FsckDeskModel", "superAt", "(III)V"⟩, 9), (⟨"FsckDeskModel", "clear", "(II)V"⟩, 9), (⟨"FsckDeskModel", "put", "(II)V"⟩, 9), (⟨"FsckDeskModel", "sum", "(II)I"⟩, 9), (⟨"FsckDeskModel", "store", "()V"⟩, 9), (⟨"FsckDeskModel", "passes", "()Z"⟩, 9), (⟨"FsckDeskModel", "load", "()V"⟩, 9), (⟨"FsckDeskModel", "isSuper", "(I)Z"⟩, 9), (⟨"FsckDeskModel", "has", "(IIIII)Z"⟩, 9), (⟨"FsckDeskModel", "two", "(I)I"⟩, 9), (⟨"FsckDeskModel", "replay", "()V"⟩, 9), (⟨"FsckDeskModel", "isClear", "(II)Z"⟩, 9)]
theorem lw_r2 : ∀ q ∈ lw_privs_2, lw_okq q := List.forall_mem_cons.mpr ⟨lw_p16, List.forall_mem_cons.mpr ⟨lw_p17, List.forall_mem_cons.mpr ⟨lw_p18, List.forall_mem_cons.mpr ⟨lw_p19, List.forall_mem_cons.mpr ⟨lw_p20, List.forall_mem_cons.mpr ⟨lw_p21, List.forall_mem_cons.mpr ⟨lw_p22, List.forall_mem_cons.mpr ⟨lw_p23, List.forall_mem_cons.mpr ⟨lw_p24, List.forall_mem_cons.mpr ⟨lw_p25, List.forall_mem_cons.mpr ⟨lw_p26, List.forall_mem_cons.mpr ⟨lw_p27, List.forall_mem_cons.mpr ⟨lw_p28, List.forall_mem_cons.mpr ⟨lw_p29, List.forall_mem_cons.mpr ⟨lw_p30, List.forall_mem_cons.mpr ⟨lw_p31, fun _ h => absurd h List.not_mem_nil⟩⟩⟩⟩⟩⟩⟩⟩⟩⟩⟩⟩⟩⟩⟩⟩
theorem lw_p32 : lw_okq (⟨"FsckDeskModel", "inodes", "()V"⟩, 9) := ⟨⟨by decide +kernel, by decide +kernel⟩, List.mem_of_getElem? (i := 777) (by decide +kernel), List.mem_of_getElem? (i := 869) (by decide +kernel), List.mem_of_getElem? (i := 870) (by decide +kernel)⟩
theorem lw_p33 : lw_okq (⟨"FsckDeskModel", "isSound", "(I)Z"⟩, 9) := ⟨⟨by decide +kernel, by decide +kernel⟩, List.mem_of_getElem? (i := 777) (by decide +kernel), List.mem_of_getElem? (i := 876) (by decide +kernel), List.mem_of_getElem? (i := 877) (by decide +kernel)⟩
theorem lw_p34 : lw_okq (⟨"FsckDeskModel", "size", "(I)I"⟩, 9) := ⟨⟨by decide +kernel, by decide +kernel⟩, List.mem_of_getElem? (i := 777) (by decide +kernel), List.mem_of_getElem? (i := 880) (by decide +kernel), List.mem_of_getElem? (i := 881) (by decide +kernel)⟩
theorem lw_p35 : lw_okq (⟨"FsckDeskModel", "blocks", "(I)I"⟩, 9) := ⟨⟨by decide +kernel, by decide +kernel⟩, List.mem_of_getElem? (i := 777) (by decide +kernel), List.mem_of_getElem? (i := 884) (by decide +kernel), List.mem_of_getElem? (i := 885) (by decide +kernel)⟩
theorem lw_p36 : lw_okq (⟨"FsckDeskModel", "mark", "(I)Z"⟩, 9) := ⟨⟨by decide +kernel, by decide +kernel⟩, List.mem_of_getElem? (i := 777) (by decide +kernel), List.mem_of_getElem? (i := 888) (by decide +kernel), List.mem_of_getElem? (i := 889) (by decide +kernel)⟩
theorem lw_p37 : lw_okq (⟨"FsckDeskModel", "block", "(II)I"⟩, 9) := ⟨⟨by decide +kernel, by decide +kernel⟩, List.mem_of_getElem? (i := 777) (by decide +kernel), List.mem_of_getElem? (i := 892) (by decide +kernel), List.mem_of_getElem? (i := 893) (by decide +kernel)⟩
theorem lw_p38 : lw_okq (⟨"FsckDeskModel", "kind", "(I)I"⟩, 9) := ⟨⟨by decide +kernel, by decide +kernel⟩, List.mem_of_getElem? (i := 777) (by decide +kernel), List.mem_of_getElem? (i := 896) (by decide +kernel), List.mem_of_getElem? (i := 897) (by decide +kernel)⟩
theorem lw_p39 : lw_okq (⟨"FsckDeskModel", "make", "(I)V"⟩, 9) := ⟨⟨by decide +kernel, by decide +kernel⟩, List.mem_of_getElem? (i := 777) (by decide +kernel), List.mem_of_getElem? (i := 900) (by decide +kernel), List.mem_of_getElem? (i := 901) (by decide +kernel)⟩
theorem lw_p40 : lw_okq (⟨"FsckDeskModel", "free", "(I)I"⟩, 9) := ⟨⟨by decide +kernel, by decide +kernel⟩, List.mem_of_getElem? (i := 777) (by decide +kernel), List.mem_of_getElem? (i := 904) (by decide +kernel), List.mem_of_getElem? (i := 905) (by decide +kernel)⟩
theorem lw_p41 : lw_okq (⟨"FsckDeskModel", "directory", "(II)V"⟩, 9) := ⟨⟨by decide +kernel, by decide +kernel⟩, List.mem_of_getElem? (i := 777) (by decide +kernel), List.mem_of_getElem? (i := 908) (by decide +kernel), List.mem_of_getElem? (i := 909) (by decide +kernel)⟩
theorem lw_p42 : lw_okq (⟨"FsckDeskModel", "entries", "()V"⟩, 9) := ⟨⟨by decide +kernel, by decide +kernel⟩, List.mem_of_getElem? (i := 777) (by decide +kernel), List.mem_of_getElem? (i := 912) (by decide +kernel), List.mem_of_getElem? (i := 913) (by decide +kernel)⟩
theorem lw_p43 : lw_okq (⟨"FsckDeskModel", "places", "(I)I"⟩, 9) := ⟨⟨by decide +kernel, by decide +kernel⟩, List.mem_of_getElem? (i := 777) (by decide +kernel), List.mem_of_getElem? (i := 916) (by decide +kernel), List.mem_of_getElem? (i := 917) (by decide +kernel)⟩
theorem lw_p44 : lw_okq (⟨"FsckDeskModel", "entry", "(II)I"⟩, 9) := ⟨⟨by decide +kernel, by decide +kernel⟩, List.mem_of_getElem? (i := 777) (by decide +kernel), List.mem_of_getElem? (i := 920) (by decide +kernel), List.mem_of_getElem? (i := 921) (by decide +kernel)⟩
theorem lw_p45 : lw_okq (⟨"FsckDeskModel", "dots", "(I)V"⟩, 9) := ⟨⟨by decide +kernel, by decide +kernel⟩, List.mem_of_getElem? (i := 777) (by decide +kernel), List.mem_of_getElem? (i := 924) (by decide +kernel), List.mem_of_getElem? (i := 925) (by decide +kernel)⟩
theorem lw_p46 : lw_okq (⟨"FsckDeskModel", "write", "(II)V"⟩, 9) := ⟨⟨by decide +kernel, by decide +kernel⟩, List.mem_of_getElem? (i := 777) (by decide +kernel), List.mem_of_getElem? (i := 928) (by decide +kernel), List.mem_of_getElem? (i := 929) (by decide +kernel)⟩
theorem lw_p47 : lw_okq (⟨"FsckDeskModel", "lostName", "()V"⟩, 9) := ⟨⟨by decide +kernel, by decide +kernel⟩, List.mem_of_getElem? (i := 777) (by decide +kernel), List.mem_of_getElem? (i := 932) (by decide +kernel), List.mem_of_getElem? (i := 933) (by decide +kernel)⟩
def lw_privs_3 : List (MethodName × Nat) := [(⟨"FsckDeskModel", "inodes", "()V"⟩, 9), (⟨"FsckDeskModel", "isSound", "(I)Z"⟩, 9), (⟨"FsckDeskModel", "size", "(I)I"⟩, 9), (⟨"FsckDeskModel", "blocks", "(I)I"⟩, 9), (⟨"FsckDeskModel", "mark", "(I)Z"⟩, 9), (⟨"FsckDeskModel", "block", "(II)I"⟩, 9), (⟨"FsckDeskModel", "kind", "(I)I"⟩, 9), (⟨"FsckDeskModel", "make", "(I)V"⟩, 9), (⟨"FsckDeskModel", "free", "(I)I"⟩, 9), (⟨"FsckDeskModel", "directory", "(II)V"⟩, 9), (⟨"FsckDeskModel", "entries", "()V"⟩, 9), (⟨"FsckDeskModel", "places", "(I)I"⟩, 9), (⟨"FsckDeskModel", "entry", "(II)I"⟩, 9), (⟨"FsckDeskModel", "dots", "(I)V"⟩, 9), (⟨"FsckDeskModel", "write", "(II)V"⟩, 9), (⟨"FsckDeskModel", "lostName", "()V"⟩, 9)]
theorem lw_r3 : ∀ q ∈ lw_privs_3, lw_okq q := List.forall_mem_cons.mpr ⟨lw_p32, List.forall_mem_cons.mpr ⟨lw_p33, List.forall_mem_cons.mpr ⟨lw_p34, List.forall_mem_cons.mpr ⟨lw_p35, List.forall_mem_cons.mpr ⟨lw_p36, List.forall_mem_cons.mpr ⟨lw_p37, List.forall_mem_cons.mpr ⟨lw_p38, List.forall_mem_cons.mpr ⟨lw_p39, List.forall_mem_cons.mpr ⟨lw_p40, List.forall_mem_cons.mpr ⟨lw_p41, List.forall_mem_cons.mpr ⟨lw_p42, List.forall_mem_cons.mpr ⟨lw_p43, List.forall_mem_cons.mpr ⟨lw_p44, List.forall_mem_cons.mpr ⟨lw_p45, List.forall_mem_cons.mpr ⟨lw_p46, List.forall_mem_cons.mpr ⟨lw_p47, fun _ h => absurd h List.not_mem_nil⟩⟩⟩⟩⟩⟩⟩⟩⟩⟩⟩⟩⟩⟩⟩⟩
theorem lw_p48 : lw_okq (⟨"FsckDeskModel", "isValid", "(II)Z"⟩, 9) := ⟨⟨by decide +kernel, by decide +kernel⟩, List.mem_of_getElem? (i := 777) (by decide +kernel), List.mem_of_getElem? (i := 938) (by decide +kernel), List.mem_of_getElem? (i := 939) (by decide +kernel)⟩
theorem lw_p49 : lw_okq (⟨"FsckDeskModel", "find", "(II)I"⟩, 9) := ⟨⟨by decide +kernel, by decide +kernel⟩, List.mem_of_getElem? (i := 777) (by decide +kernel), List.mem_of_getElem? (i := 942) (by decide +kernel), List.mem_of_getElem? (i := 943) (by decide +kernel)⟩
theorem lw_p50 : lw_okq (⟨"FsckDeskModel", "isName", "(I)Z"⟩, 9) := ⟨⟨by decide +kernel, by decide +kernel⟩, List.mem_of_getElem? (i := 777) (by decide +kernel), List.mem_of_getElem? (i := 946) (by decide +kernel), List.mem_of_getElem? (i := 947) (by decide +kernel)⟩
theorem lw_p51 : lw_okq (⟨"FsckDeskModel", "connect", "()V"⟩, 9) := ⟨⟨by decide +kernel, by decide +kernel⟩, List.mem_of_getElem? (i := 777) (by decide +kernel), List.mem_of_getElem? (i := 950) (by decide +kernel), List.mem_of_getElem? (i := 951) (by decide +kernel)⟩
theorem lw_p52 : lw_okq (⟨"FsckDeskModel", "reach", "(I)V"⟩, 9) := ⟨⟨by decide +kernel, by decide +kernel⟩, List.mem_of_getElem? (i := 777) (by decide +kernel), List.mem_of_getElem? (i := 954) (by decide +kernel), List.mem_of_getElem? (i := 955) (by decide +kernel)⟩
theorem lw_p53 : lw_okq (⟨"FsckDeskModel", "go", "()V"⟩, 9) := ⟨⟨by decide +kernel, by decide +kernel⟩, List.mem_of_getElem? (i := 777) (by decide +kernel), List.mem_of_getElem? (i := 958) (by decide +kernel), List.mem_of_getElem? (i := 959) (by decide +kernel)⟩
theorem lw_p54 : lw_okq (⟨"FsckDeskModel", "lostNameOf", "(I)Z"⟩, 9) := ⟨⟨by decide +kernel, by decide +kernel⟩, List.mem_of_getElem? (i := 777) (by decide +kernel), List.mem_of_getElem? (i := 962) (by decide +kernel), List.mem_of_getElem? (i := 963) (by decide +kernel)⟩
theorem lw_p55 : lw_okq (⟨"FsckDeskModel", "putEntry", "(II)Z"⟩, 9) := ⟨⟨by decide +kernel, by decide +kernel⟩, List.mem_of_getElem? (i := 777) (by decide +kernel), List.mem_of_getElem? (i := 966) (by decide +kernel), List.mem_of_getElem? (i := 967) (by decide +kernel)⟩
theorem lw_p56 : lw_okq (⟨"FsckDeskModel", "grow", "(II)Z"⟩, 9) := ⟨⟨by decide +kernel, by decide +kernel⟩, List.mem_of_getElem? (i := 777) (by decide +kernel), List.mem_of_getElem? (i := 970) (by decide +kernel), List.mem_of_getElem? (i := 971) (by decide +kernel)⟩
theorem lw_p57 : lw_okq (⟨"FsckDeskModel", "drop", "(I)V"⟩, 9) := ⟨⟨by decide +kernel, by decide +kernel⟩, List.mem_of_getElem? (i := 777) (by decide +kernel), List.mem_of_getElem? (i := 974) (by decide +kernel), List.mem_of_getElem? (i := 975) (by decide +kernel)⟩
theorem lw_p58 : lw_okq (⟨"FsckDeskModel", "finish", "()V"⟩, 9) := ⟨⟨by decide +kernel, by decide +kernel⟩, List.mem_of_getElem? (i := 777) (by decide +kernel), List.mem_of_getElem? (i := 978) (by decide +kernel), List.mem_of_getElem? (i := 979) (by decide +kernel)⟩
theorem lw_p59 : lw_okq (⟨"FsckDeskModel", "count", "(I)I"⟩, 9) := ⟨⟨by decide +kernel, by decide +kernel⟩, List.mem_of_getElem? (i := 777) (by decide +kernel), List.mem_of_getElem? (i := 982) (by decide +kernel), List.mem_of_getElem? (i := 983) (by decide +kernel)⟩
theorem lw_p60 : lw_okq (⟨"FsckDeskModel", "written", "(IZ)I"⟩, 9) := ⟨⟨by decide +kernel, by decide +kernel⟩, List.mem_of_getElem? (i := 777) (by decide +kernel), List.mem_of_getElem? (i := 986) (by decide +kernel), List.mem_of_getElem? (i := 987) (by decide +kernel)⟩
theorem lw_p61 : lw_okq (⟨"FsckDeskModel", "differs", "(I)Z"⟩, 9) := ⟨⟨by decide +kernel, by decide +kernel⟩, List.mem_of_getElem? (i := 777) (by decide +kernel), List.mem_of_getElem? (i := 990) (by decide +kernel), List.mem_of_getElem? (i := 991) (by decide +kernel)⟩
theorem lw_p62 : lw_okq (⟨"FsckDeskModel", "nameOf", "(J)V"⟩, 9) := ⟨⟨by decide +kernel, by decide +kernel⟩, List.mem_of_getElem? (i := 777) (by decide +kernel), List.mem_of_getElem? (i := 1030) (by decide +kernel), List.mem_of_getElem? (i := 1031) (by decide +kernel)⟩
theorem lw_p63 : lw_okq (⟨"FsckDeskModel", "mayPut", "(IJ)Z"⟩, 9) := ⟨⟨by decide +kernel, by decide +kernel⟩, List.mem_of_getElem? (i := 777) (by decide +kernel), List.mem_of_getElem? (i := 1039) (by decide +kernel), List.mem_of_getElem? (i := 1040) (by decide +kernel)⟩
def lw_privs_4 : List (MethodName × Nat) := [(⟨"FsckDeskModel", "isValid", "(II)Z"⟩, 9), (⟨"FsckDeskModel", "find", "(II)I"⟩, 9), (⟨"FsckDeskModel", "isName", "(I)Z"⟩, 9), (⟨"FsckDeskModel", "connect", "()V"⟩, 9), (⟨"FsckDeskModel", "reach", "(I)V"⟩, 9), (⟨"FsckDeskModel", "go", "()V"⟩, 9), (⟨"FsckDeskModel", "lostNameOf", "(I)Z"⟩, 9), (⟨"FsckDeskModel", "putEntry", "(II)Z"⟩, 9), (⟨"FsckDeskModel", "grow", "(II)Z"⟩, 9), (⟨"FsckDeskModel", "drop", "(I)V"⟩, 9), (⟨"FsckDeskModel", "finish", "()V"⟩, 9), (⟨"FsckDeskModel", "count", "(I)I"⟩, 9), (⟨"FsckDeskModel", "written", "(IZ)I"⟩, 9), (⟨"FsckDeskModel", "differs", "(I)Z"⟩, 9), (⟨"FsckDeskModel", "nameOf", "(J)V"⟩, 9), (⟨"FsckDeskModel", "mayPut", "(IJ)Z"⟩, 9)]
theorem lw_r4 : ∀ q ∈ lw_privs_4, lw_okq q := List.forall_mem_cons.mpr ⟨lw_p48, List.forall_mem_cons.mpr ⟨lw_p49, List.forall_mem_cons.mpr ⟨lw_p50, List.forall_mem_cons.mpr ⟨lw_p51, List.forall_mem_cons.mpr ⟨lw_p52, List.forall_mem_cons.mpr ⟨lw_p53, List.forall_mem_cons.mpr ⟨lw_p54, List.forall_mem_cons.mpr ⟨lw_p55, List.forall_mem_cons.mpr ⟨lw_p56, List.forall_mem_cons.mpr ⟨lw_p57, List.forall_mem_cons.mpr ⟨lw_p58, List.forall_mem_cons.mpr ⟨lw_p59, List.forall_mem_cons.mpr ⟨lw_p60, List.forall_mem_cons.mpr ⟨lw_p61, List.forall_mem_cons.mpr ⟨lw_p62, List.forall_mem_cons.mpr ⟨lw_p63, fun _ h => absurd h List.not_mem_nil⟩⟩⟩⟩⟩⟩⟩⟩⟩⟩⟩⟩⟩⟩⟩⟩
def lw_privs : List (MethodName × Nat) := lw_privs_1 ++ (lw_privs_2 ++ (lw_privs_3 ++ (lw_privs_4)))
def lw_tbl : List Cond := k2_sels lw_privs ++ tables_1
theorem lw_privs_ok : ∀ q ∈ lw_privs, lw_okq q := by
  show ∀ q ∈ lw_privs_1 ++ (lw_privs_2 ++ (lw_privs_3 ++ (lw_privs_4))), lw_okq q
  exact List.forall_mem_append.mpr ⟨lw_r1, List.forall_mem_append.mpr ⟨lw_r2, List.forall_mem_append.mpr ⟨lw_r3, lw_r4⟩⟩⟩
end
section
def RX0 : String := "FsckDesk$Connector"
def TX0 : u_T := fun k => match k with
  | 0 => ("FsckDesk$Connector", "image", "LFsckDesk$Image;", true)
  | 1 => ("FsckDesk$Connector", "inodes", "LFsckDesk$Inodes;", true)
  | 2 => ("FsckDesk$Connector", "directories", "LFsckDesk$Directories;", true)
  | 3 => ("FsckDesk$Connector", "name", "LFsckDesk$Name;", true)
  | 4 => ("FsckDesk$Connector", "queue", "[I", true)
  | 5 => ("FsckDesk$Connector", "head", "I", false)
  | 6 => ("FsckDesk$Connector", "tail", "I", false)
  | _ => ("FsckDesk$Connector", "reached", "I", false)
def tyX0 : Nat → FieldType := fun k => match k with
  | 0 => .object "FsckDesk$Image"
  | 1 => .object "FsckDesk$Inodes"
  | 2 => .object "FsckDesk$Directories"
  | 3 => .object "FsckDesk$Name"
  | 4 => .array .int
  | 5 => .int
  | 6 => .int
  | _ => .int
theorem nmX0 : ∀ a, a < 8 → ∀ b, b < 8 → a ≠ b → (TX0 a).2.1 ≠ (TX0 b).2.1 := by decide +kernel
theorem tyX0_ok : ∀ k, k < 8 → parseFieldDescriptor (TX0 k).2.2.1 = some (tyX0 k) := by decide +kernel
abbrev cX0_init : ByteArray := prog_2_method_1_code
def yX0_init : MethodName := ⟨RX0, "<init>", "(LFsckDesk$Image;LFsckDesk$Inodes;LFsckDesk$Directories;)V"⟩
abbrev cX0_connect : ByteArray := prog_2_method_2_code
def yX0_connect : MethodName := ⟨RX0, "connect", "()V"⟩
abbrev cX0_isReached : ByteArray := prog_2_method_3_code
def yX0_isReached : MethodName := ⟨RX0, "isReached", "(I)Z"⟩
abbrev cX0_reach : ByteArray := prog_2_method_4_code
def yX0_reach : MethodName := ⟨RX0, "reach", "(I)V"⟩
abbrev cX0_goThrough : ByteArray := prog_2_method_5_code
def yX0_goThrough : MethodName := ⟨RX0, "goThrough", "()V"⟩
abbrev cX0_follow : ByteArray := prog_2_method_6_code
def yX0_follow : MethodName := ⟨RX0, "follow", "(II)V"⟩
abbrev cX0_findName : ByteArray := prog_2_method_7_code
def yX0_findName : MethodName := ⟨RX0, "findName", "(I)Z"⟩
abbrev cX0_putAway : ByteArray := prog_2_method_8_code
def yX0_putAway : MethodName := ⟨RX0, "putAway", "(II)V"⟩
def RX1 : String := "FsckDesk$Directories"
def TX1 : u_T := fun k => match k with
  | 0 => ("FsckDesk$Directories", "image", "LFsckDesk$Image;", true)
  | 1 => ("FsckDesk$Directories", "inodes", "LFsckDesk$Inodes;", true)
  | _ => ("FsckDesk$Directories", "name", "LFsckDesk$Name;", true)
def tyX1 : Nat → FieldType := fun k => match k with
  | 0 => .object "FsckDesk$Image"
  | 1 => .object "FsckDesk$Inodes"
  | _ => .object "FsckDesk$Name"
theorem nmX1 : ∀ a, a < 3 → ∀ b, b < 3 → a ≠ b → (TX1 a).2.1 ≠ (TX1 b).2.1 := by decide +kernel
theorem tyX1_ok : ∀ k, k < 3 → parseFieldDescriptor (TX1 k).2.2.1 = some (tyX1 k) := by decide +kernel
abbrev cX1_init : ByteArray := prog_3_method_1_code
def yX1_init : MethodName := ⟨RX1, "<init>", "(LFsckDesk$Image;LFsckDesk$Inodes;)V"⟩
abbrev cX1_entryCount : ByteArray := prog_3_method_2_code
def yX1_entryCount : MethodName := ⟨RX1, "entryCount", "(I)I"⟩
abbrev cX1_entryPlace : ByteArray := prog_3_method_3_code
def yX1_entryPlace : MethodName := ⟨RX1, "entryPlace", "(II)I"⟩
abbrev cX1_seek : ByteArray := prog_3_method_4_code
def yX1_seek : MethodName := ⟨RX1, "seek", "(ILFsckDesk$Name;)I"⟩
abbrev cX1_isNamed : ByteArray := prog_3_method_5_code
def yX1_isNamed : MethodName := ⟨RX1, "isNamed", "(ILFsckDesk$Name;)Z"⟩
abbrev cX1_writeEntry : ByteArray := prog_3_method_6_code
def yX1_writeEntry : MethodName := ⟨RX1, "writeEntry", "(IILFsckDesk$Name;)V"⟩
abbrev cX1_wipeEntry : ByteArray := prog_3_method_7_code
def yX1_wipeEntry : MethodName := ⟨RX1, "wipeEntry", "(I)V"⟩
abbrev cX1_writeDots : ByteArray := prog_3_method_8_code
def yX1_writeDots : MethodName := ⟨RX1, "writeDots", "(II)V"⟩
abbrev cX1_setParent : ByteArray := prog_3_method_9_code
def yX1_setParent : MethodName := ⟨RX1, "setParent", "(II)V"⟩
abbrev cX1_begin : ByteArray := prog_3_method_10_code
def yX1_begin : MethodName := ⟨RX1, "begin", "(II)Z"⟩
abbrev cX1_roomIn : ByteArray := prog_3_method_11_code
def yX1_roomIn : MethodName := ⟨RX1, "roomIn", "(I)I"⟩
abbrev cX1_isEmpty : ByteArray := prog_3_method_12_code
def yX1_isEmpty : MethodName := ⟨RX1, "isEmpty", "(I)Z"⟩
abbrev cX1_tidy : ByteArray := prog_3_method_13_code
def yX1_tidy : MethodName := ⟨RX1, "tidy", "(I)V"⟩
abbrev cX1_isValid : ByteArray := prog_3_method_14_code
def yX1_isValid : MethodName := ⟨RX1, "isValid", "(II)Z"⟩
abbrev cX1_wipeEntriesOf : ByteArray := prog_3_method_15_code
def yX1_wipeEntriesOf : MethodName := ⟨RX1, "wipeEntriesOf", "(I)V"⟩
abbrev cX1_countLinks : ByteArray := prog_3_method_16_code
def yX1_countLinks : MethodName := ⟨RX1, "countLinks", "()V"⟩
abbrev cX1_countLink : ByteArray := prog_3_method_17_code
def yX1_countLink : MethodName := ⟨RX1, "countLink", "(II)V"⟩
def RX2 : String := "FsckDesk$Image"
def TX2 : u_T := fun k => match k with
  | _ => ("FsckDesk$Image", "bytes", "[I", true)
def tyX2 : Nat → FieldType := fun k => match k with
  | _ => .array .int
theorem nmX2 : ∀ a, a < 1 → ∀ b, b < 1 → a ≠ b → (TX2 a).2.1 ≠ (TX2 b).2.1 := by decide +kernel
theorem tyX2_ok : ∀ k, k < 1 → parseFieldDescriptor (TX2 k).2.2.1 = some (tyX2 k) := by decide +kernel
abbrev cX2_init : ByteArray := prog_4_method_1_code
def yX2_init : MethodName := ⟨RX2, "<init>", "()V"⟩
abbrev cX2_at : ByteArray := prog_4_method_2_code
def yX2_at : MethodName := ⟨RX2, "at", "(I)I"⟩
abbrev cX2_set : ByteArray := prog_4_method_3_code
def yX2_set : MethodName := ⟨RX2, "set", "(II)V"⟩
abbrev cX2_pairAt : ByteArray := prog_4_method_4_code
def yX2_pairAt : MethodName := ⟨RX2, "pairAt", "(I)I"⟩
abbrev cX2_setPair : ByteArray := prog_4_method_5_code
def yX2_setPair : MethodName := ⟨RX2, "setPair", "(II)V"⟩
abbrev cX2_hasText : ByteArray := prog_4_method_6_code
def yX2_hasText : MethodName := ⟨RX2, "hasText", "(ILjava/lang/String;)Z"⟩
abbrev cX2_setText : ByteArray := prog_4_method_7_code
def yX2_setText : MethodName := ⟨RX2, "setText", "(ILjava/lang/String;)V"⟩
abbrev cX2_wipe : ByteArray := prog_4_method_8_code
def yX2_wipe : MethodName := ⟨RX2, "wipe", "(II)V"⟩
abbrev cX2_isBlank : ByteArray := prog_4_method_9_code
def yX2_isBlank : MethodName := ⟨RX2, "isBlank", "(II)Z"⟩
abbrev cX2_sum : ByteArray := prog_4_method_10_code
def yX2_sum : MethodName := ⟨RX2, "sum", "(II)I"⟩
abbrev cX2_isRange : ByteArray := prog_4_method_11_code
def yX2_isRange : MethodName := ⟨RX2, "isRange", "(II)Z"⟩
abbrev cX2_copyBlock : ByteArray := prog_4_method_12_code
def yX2_copyBlock : MethodName := ⟨RX2, "copyBlock", "(ILFsckDesk$Image;I)V"⟩
abbrev cX2_copyAll : ByteArray := prog_4_method_13_code
def yX2_copyAll : MethodName := ⟨RX2, "copyAll", "(LFsckDesk$Image;)V"⟩
abbrev cX2_sameBlock : ByteArray := prog_4_method_14_code
def yX2_sameBlock : MethodName := ⟨RX2, "sameBlock", "(ILFsckDesk$Image;)Z"⟩
def RX3 : String := "FsckDesk$InodePass"
def TX3 : u_T := fun k => match k with
  | 0 => ("FsckDesk$InodePass", "image", "LFsckDesk$Image;", true)
  | 1 => ("FsckDesk$InodePass", "inodes", "LFsckDesk$Inodes;", true)
  | _ => ("FsckDesk$InodePass", "directories", "LFsckDesk$Directories;", true)
def tyX3 : Nat → FieldType := fun k => match k with
  | 0 => .object "FsckDesk$Image"
  | 1 => .object "FsckDesk$Inodes"
  | _ => .object "FsckDesk$Directories"
theorem nmX3 : ∀ a, a < 3 → ∀ b, b < 3 → a ≠ b → (TX3 a).2.1 ≠ (TX3 b).2.1 := by decide +kernel
theorem tyX3_ok : ∀ k, k < 3 → parseFieldDescriptor (TX3 k).2.2.1 = some (tyX3 k) := by decide +kernel
abbrev cX3_init : ByteArray := prog_5_method_1_code
def yX3_init : MethodName := ⟨RX3, "<init>", "(LFsckDesk$Image;LFsckDesk$Inodes;LFsckDesk$Directories;)V"⟩
abbrev cX3_keepSound : ByteArray := prog_5_method_2_code
def yX3_keepSound : MethodName := ⟨RX3, "keepSound", "()V"⟩
abbrev cX3_hasSoundHead : ByteArray := prog_5_method_3_code
def yX3_hasSoundHead : MethodName := ⟨RX3, "hasSoundHead", "(I)Z"⟩
abbrev cX3_hasSoundSize : ByteArray := prog_5_method_4_code
def yX3_hasSoundSize : MethodName := ⟨RX3, "hasSoundSize", "(I)Z"⟩
abbrev cX3_hasBlankRest : ByteArray := prog_5_method_5_code
def yX3_hasBlankRest : MethodName := ⟨RX3, "hasBlankRest", "(I)Z"⟩
abbrev cX3_provide : ByteArray := prog_5_method_6_code
def yX3_provide : MethodName := ⟨RX3, "provide", "(I)V"⟩
def RX4 : String := "FsckDesk$Inodes"
def TX4 : u_T := fun k => match k with
  | 0 => ("FsckDesk$Inodes", "image", "LFsckDesk$Image;", true)
  | _ => ("FsckDesk$Inodes", "taken", "J", false)
def tyX4 : Nat → FieldType := fun k => match k with
  | 0 => .object "FsckDesk$Image"
  | _ => .long
theorem nmX4 : ∀ a, a < 2 → ∀ b, b < 2 → a ≠ b → (TX4 a).2.1 ≠ (TX4 b).2.1 := by decide +kernel
theorem tyX4_ok : ∀ k, k < 2 → parseFieldDescriptor (TX4 k).2.2.1 = some (tyX4 k) := by decide +kernel
abbrev cX4_init : ByteArray := prog_6_method_1_code
def yX4_init : MethodName := ⟨RX4, "<init>", "(LFsckDesk$Image;)V"⟩
abbrev cX4_isNumber : ByteArray := prog_6_method_2_code
def yX4_isNumber : MethodName := ⟨RX4, "isNumber", "(I)Z"⟩
abbrev cX4_placeOf : ByteArray := prog_6_method_3_code
def yX4_placeOf : MethodName := ⟨RX4, "placeOf", "(I)I"⟩
abbrev cX4_kind : ByteArray := prog_6_method_4_code
def yX4_kind : MethodName := ⟨RX4, "kind", "(I)I"⟩
abbrev cX4_links : ByteArray := prog_6_method_5_code
def yX4_links : MethodName := ⟨RX4, "links", "(I)I"⟩
abbrev cX4_size : ByteArray := prog_6_method_6_code
def yX4_size : MethodName := ⟨RX4, "size", "(I)I"⟩
abbrev cX4_setLinks : ByteArray := prog_6_method_7_code
def yX4_setLinks : MethodName := ⟨RX4, "setLinks", "(II)V"⟩
abbrev cX4_setSize : ByteArray := prog_6_method_8_code
def yX4_setSize : MethodName := ⟨RX4, "setSize", "(II)V"⟩
abbrev cX4_rightSum : ByteArray := prog_6_method_9_code
def yX4_rightSum : MethodName := ⟨RX4, "rightSum", "(I)I"⟩
abbrev cX4_writeSum : ByteArray := prog_6_method_10_code
def yX4_writeSum : MethodName := ⟨RX4, "writeSum", "(I)V"⟩
abbrev cX4_blockCount : ByteArray := prog_6_method_11_code
def yX4_blockCount : MethodName := ⟨RX4, "blockCount", "(I)I"⟩
abbrev cX4_contentPlace : ByteArray := prog_6_method_12_code
def yX4_contentPlace : MethodName := ⟨RX4, "contentPlace", "(II)I"⟩
abbrev cX4_blocksOf : ByteArray := prog_6_method_13_code
def yX4_blocksOf : MethodName := ⟨RX4, "blocksOf", "(I)J"⟩
abbrev cX4_withBlock : ByteArray := prog_6_method_14_code
def yX4_withBlock : MethodName := ⟨RX4, "withBlock", "(JI)J"⟩
abbrev cX4_taken : ByteArray := prog_6_method_15_code
def yX4_taken : MethodName := ⟨RX4, "taken", "()J"⟩
abbrev cX4_forgetTaken : ByteArray := prog_6_method_16_code
def yX4_forgetTaken : MethodName := ⟨RX4, "forgetTaken", "()V"⟩
abbrev cX4_takeBlocks : ByteArray := prog_6_method_17_code
def yX4_takeBlocks : MethodName := ⟨RX4, "takeBlocks", "(I)Z"⟩
abbrev cX4_firstFree : ByteArray := prog_6_method_18_code
def yX4_firstFree : MethodName := ⟨RX4, "firstFree", "()I"⟩
abbrev cX4_hasFreeBlock : ByteArray := prog_6_method_19_code
def yX4_hasFreeBlock : MethodName := ⟨RX4, "hasFreeBlock", "()Z"⟩
abbrev cX4_takeFreeBlock : ByteArray := prog_6_method_20_code
def yX4_takeFreeBlock : MethodName := ⟨RX4, "takeFreeBlock", "()I"⟩
abbrev cX4_begin : ByteArray := prog_6_method_21_code
def yX4_begin : MethodName := ⟨RX4, "begin", "(II)V"⟩
abbrev cX4_addBlock : ByteArray := prog_6_method_22_code
def yX4_addBlock : MethodName := ⟨RX4, "addBlock", "(I)I"⟩
abbrev cX4_erase : ByteArray := prog_6_method_23_code
def yX4_erase : MethodName := ⟨RX4, "erase", "(I)V"⟩
abbrev cX4_wipe : ByteArray := prog_6_method_24_code
def yX4_wipe : MethodName := ⟨RX4, "wipe", "(I)V"⟩
def RX5 : String := "FsckDesk$Journal"
def TX5 : u_T := fun k => match k with
  | _ => ("", "", "", false)
def tyX5 : Nat → FieldType := fun k => match k with
  | _ => .int
theorem nmX5 : ∀ a, a < 0 → ∀ b, b < 0 → a ≠ b → (TX5 a).2.1 ≠ (TX5 b).2.1 := by decide +kernel
theorem tyX5_ok : ∀ k, k < 0 → parseFieldDescriptor (TX5 k).2.2.1 = some (tyX5 k) := by decide +kernel
abbrev cX5_write : ByteArray := prog_7_method_2_code
def yX5_write : MethodName := ⟨RX5, "write", "(LFsckDesk$Image;JI)V"⟩
abbrev cX5_writeSum : ByteArray := prog_7_method_3_code
def yX5_writeSum : MethodName := ⟨RX5, "writeSum", "(LFsckDesk$Image;)V"⟩
abbrev cX5_replay : ByteArray := prog_7_method_4_code
def yX5_replay : MethodName := ⟨RX5, "replay", "(LFsckDesk$Image;)V"⟩
abbrev cX5_isGood : ByteArray := prog_7_method_5_code
def yX5_isGood : MethodName := ⟨RX5, "isGood", "(LFsckDesk$Image;)Z"⟩
abbrev cX5_hasGoodTargets : ByteArray := prog_7_method_6_code
def yX5_hasGoodTargets : MethodName := ⟨RX5, "hasGoodTargets", "(LFsckDesk$Image;I)Z"⟩
abbrev cX5_rightSum : ByteArray := prog_7_method_7_code
def yX5_rightSum : MethodName := ⟨RX5, "rightSum", "(LFsckDesk$Image;)I"⟩
def RX6 : String := "FsckDesk$Name"
def TX6 : u_T := fun k => match k with
  | 0 => ("FsckDesk$Name", "bytes", "[I", true)
  | _ => ("FsckDesk$Name", "length", "I", false)
def tyX6 : Nat → FieldType := fun k => match k with
  | 0 => .array .int
  | _ => .int
theorem nmX6 : ∀ a, a < 2 → ∀ b, b < 2 → a ≠ b → (TX6 a).2.1 ≠ (TX6 b).2.1 := by decide +kernel
theorem tyX6_ok : ∀ k, k < 2 → parseFieldDescriptor (TX6 k).2.2.1 = some (tyX6 k) := by decide +kernel
abbrev cX6_init : ByteArray := prog_8_method_1_code
def yX6_init : MethodName := ⟨RX6, "<init>", "()V"⟩
abbrev cX6_length : ByteArray := prog_8_method_2_code
def yX6_length : MethodName := ⟨RX6, "length", "()I"⟩
abbrev cX6_at : ByteArray := prog_8_method_3_code
def yX6_at : MethodName := ⟨RX6, "at", "(I)I"⟩
abbrev cX6_add : ByteArray := prog_8_method_4_code
def yX6_add : MethodName := ⟨RX6, "add", "(I)V"⟩
abbrev cX6_spell : ByteArray := prog_8_method_5_code
def yX6_spell : MethodName := ⟨RX6, "spell", "(Ljava/lang/String;)V"⟩
abbrev cX6_unpack : ByteArray := prog_8_method_6_code
def yX6_unpack : MethodName := ⟨RX6, "unpack", "(J)V"⟩
abbrev cX6_load : ByteArray := prog_8_method_7_code
def yX6_load : MethodName := ⟨RX6, "load", "(LFsckDesk$Image;II)V"⟩
abbrev cX6_number : ByteArray := prog_8_method_8_code
def yX6_number : MethodName := ⟨RX6, "number", "(II)V"⟩
abbrev cX6_isAllowed : ByteArray := prog_8_method_9_code
def yX6_isAllowed : MethodName := ⟨RX6, "isAllowed", "()Z"⟩
def RX7 : String := "FsckDesk$Repairer"
def TX7 : u_T := fun k => match k with
  | 0 => ("FsckDesk$Repairer", "disk", "LFsckDesk$Image;", true)
  | 1 => ("FsckDesk$Repairer", "planned", "LFsckDesk$Image;", true)
  | 2 => ("FsckDesk$Repairer", "inodes", "LFsckDesk$Inodes;", true)
  | 3 => ("FsckDesk$Repairer", "directories", "LFsckDesk$Directories;", true)
  | 4 => ("FsckDesk$Repairer", "inodePass", "LFsckDesk$InodePass;", true)
  | _ => ("FsckDesk$Repairer", "connector", "LFsckDesk$Connector;", true)
def tyX7 : Nat → FieldType := fun k => match k with
  | 0 => .object "FsckDesk$Image"
  | 1 => .object "FsckDesk$Image"
  | 2 => .object "FsckDesk$Inodes"
  | 3 => .object "FsckDesk$Directories"
  | 4 => .object "FsckDesk$InodePass"
  | _ => .object "FsckDesk$Connector"
theorem nmX7 : ∀ a, a < 6 → ∀ b, b < 6 → a ≠ b → (TX7 a).2.1 ≠ (TX7 b).2.1 := by decide +kernel
theorem tyX7_ok : ∀ k, k < 6 → parseFieldDescriptor (TX7 k).2.2.1 = some (tyX7 k) := by decide +kernel
abbrev cX7_init : ByteArray := prog_9_method_1_code
def yX7_init : MethodName := ⟨RX7, "<init>", "(LFsckDesk$Image;LFsckDesk$Image;LFsckDesk$Inodes;LFsckDesk$Directories;)V"⟩
abbrev cX7_plan : ByteArray := prog_9_method_2_code
def yX7_plan : MethodName := ⟨RX7, "plan", "()I"⟩
abbrev cX7_settle : ByteArray := prog_9_method_3_code
def yX7_settle : MethodName := ⟨RX7, "settle", "()V"⟩
abbrev cX7_writeMaps : ByteArray := prog_9_method_4_code
def yX7_writeMaps : MethodName := ⟨RX7, "writeMaps", "()V"⟩
abbrev cX7_markUsed : ByteArray := prog_9_method_5_code
def yX7_markUsed : MethodName := ⟨RX7, "markUsed", "(II)V"⟩
abbrev cX7_countDiffering : ByteArray := prog_9_method_6_code
def yX7_countDiffering : MethodName := ⟨RX7, "countDiffering", "()I"⟩
abbrev cX7_writeBlocks : ByteArray := prog_9_method_7_code
def yX7_writeBlocks : MethodName := ⟨RX7, "writeBlocks", "(I)I"⟩
abbrev cX7_keepPlan : ByteArray := prog_9_method_8_code
def yX7_keepPlan : MethodName := ⟨RX7, "keepPlan", "()V"⟩
def RX8 : String := "FsckDesk$Super"
def TX8 : u_T := fun k => match k with
  | _ => ("", "", "", false)
def tyX8 : Nat → FieldType := fun k => match k with
  | _ => .int
theorem nmX8 : ∀ a, a < 0 → ∀ b, b < 0 → a ≠ b → (TX8 a).2.1 ≠ (TX8 b).2.1 := by decide +kernel
theorem tyX8_ok : ∀ k, k < 0 → parseFieldDescriptor (TX8 k).2.2.1 = some (tyX8 k) := by decide +kernel
abbrev cX8_isGood : ByteArray := prog_10_method_2_code
def yX8_isGood : MethodName := ⟨RX8, "isGood", "(LFsckDesk$Image;I)Z"⟩
abbrev cX8_write : ByteArray := prog_10_method_3_code
def yX8_write : MethodName := ⟨RX8, "write", "(LFsckDesk$Image;III)V"⟩
abbrev cX8_writeSum : ByteArray := prog_10_method_4_code
def yX8_writeSum : MethodName := ⟨RX8, "writeSum", "(LFsckDesk$Image;I)V"⟩
def RX9 : String := "FsckDesk$Writer"
def TX9 : u_T := fun k => match k with
  | 0 => ("FsckDesk$Writer", "image", "LFsckDesk$Image;", true)
  | 1 => ("FsckDesk$Writer", "inodes", "LFsckDesk$Inodes;", true)
  | _ => ("FsckDesk$Writer", "directories", "LFsckDesk$Directories;", true)
def tyX9 : Nat → FieldType := fun k => match k with
  | 0 => .object "FsckDesk$Image"
  | 1 => .object "FsckDesk$Inodes"
  | _ => .object "FsckDesk$Directories"
theorem nmX9 : ∀ a, a < 3 → ∀ b, b < 3 → a ≠ b → (TX9 a).2.1 ≠ (TX9 b).2.1 := by decide +kernel
theorem tyX9_ok : ∀ k, k < 3 → parseFieldDescriptor (TX9 k).2.2.1 = some (tyX9 k) := by decide +kernel
abbrev cX9_init : ByteArray := prog_11_method_1_code
def yX9_init : MethodName := ⟨RX9, "<init>", "(LFsckDesk$Image;LFsckDesk$Inodes;LFsckDesk$Directories;)V"⟩
abbrev cX9_create : ByteArray := prog_11_method_2_code
def yX9_create : MethodName := ⟨RX9, "create", "(ILFsckDesk$Name;I)I"⟩
abbrev cX9_addEntry : ByteArray := prog_11_method_3_code
def yX9_addEntry : MethodName := ⟨RX9, "addEntry", "(ILFsckDesk$Name;I)Z"⟩
abbrev cX9_mayEnter : ByteArray := prog_11_method_4_code
def yX9_mayEnter : MethodName := ⟨RX9, "mayEnter", "(ILFsckDesk$Name;)Z"⟩
abbrev cX9_enter : ByteArray := prog_11_method_5_code
def yX9_enter : MethodName := ⟨RX9, "enter", "(ILFsckDesk$Name;I)Z"⟩
abbrev cX9_lengthen : ByteArray := prog_11_method_6_code
def yX9_lengthen : MethodName := ⟨RX9, "lengthen", "(II)Z"⟩
abbrev cX9_removeEntry : ByteArray := prog_11_method_7_code
def yX9_removeEntry : MethodName := ⟨RX9, "removeEntry", "(ILFsckDesk$Name;)Z"⟩
def RX10 : String := "FsckDesk"
def TX10 : u_T := fun k => match k with
  | 0 => ("FsckDesk", "disk", "LFsckDesk$Image;", true)
  | 1 => ("FsckDesk", "diskInodes", "LFsckDesk$Inodes;", true)
  | 2 => ("FsckDesk", "diskDirectories", "LFsckDesk$Directories;", true)
  | 3 => ("FsckDesk", "repairer", "LFsckDesk$Repairer;", true)
  | 4 => ("FsckDesk", "writer", "LFsckDesk$Writer;", true)
  | _ => ("FsckDesk", "wanted", "LFsckDesk$Name;", true)
def tyX10 : Nat → FieldType := fun k => match k with
  | 0 => .object "FsckDesk$Image"
  | 1 => .object "FsckDesk$Inodes"
  | 2 => .object "FsckDesk$Directories"
  | 3 => .object "FsckDesk$Repairer"
  | 4 => .object "FsckDesk$Writer"
  | _ => .object "FsckDesk$Name"
theorem nmX10 : ∀ a, a < 6 → ∀ b, b < 6 → a ≠ b → (TX10 a).2.1 ≠ (TX10 b).2.1 := by decide +kernel
theorem tyX10_ok : ∀ k, k < 6 → parseFieldDescriptor (TX10 k).2.2.1 = some (tyX10 k) := by decide +kernel
abbrev cX10_init : ByteArray := prog_1_method_1_code
def yX10_init : MethodName := ⟨RX10, "<init>", "()V"⟩
abbrev cX10_format : ByteArray := prog_1_method_2_code
def yX10_format : MethodName := ⟨RX10, "format", "()I"⟩
abbrev cX10_poke : ByteArray := prog_1_method_3_code
def yX10_poke : MethodName := ⟨RX10, "poke", "(II)Z"⟩
abbrev cX10_peek : ByteArray := prog_1_method_4_code
def yX10_peek : MethodName := ⟨RX10, "peek", "(I)I"⟩
abbrev cX10_seal : ByteArray := prog_1_method_5_code
def yX10_seal : MethodName := ⟨RX10, "seal", "(I)Z"⟩
abbrev cX10_commit : ByteArray := prog_1_method_6_code
def yX10_commit : MethodName := ⟨RX10, "commit", "(JI)Z"⟩
abbrev cX10_check : ByteArray := prog_1_method_7_code
def yX10_check : MethodName := ⟨RX10, "check", "()I"⟩
abbrev cX10_repair : ByteArray := prog_1_method_8_code
def yX10_repair : MethodName := ⟨RX10, "repair", "(I)I"⟩
abbrev cX10_inode : ByteArray := prog_1_method_9_code
def yX10_inode : MethodName := ⟨RX10, "inode", "(II)I"⟩
abbrev cX10_read : ByteArray := prog_1_method_10_code
def yX10_read : MethodName := ⟨RX10, "read", "(II)I"⟩
abbrev cX10_find : ByteArray := prog_1_method_11_code
def yX10_find : MethodName := ⟨RX10, "find", "(IJ)I"⟩
abbrev cX10_make : ByteArray := prog_1_method_12_code
def yX10_make : MethodName := ⟨RX10, "make", "(IJI)I"⟩
abbrev cX10_append : ByteArray := prog_1_method_13_code
def yX10_append : MethodName := ⟨RX10, "append", "(II)Z"⟩
abbrev cX10_link : ByteArray := prog_1_method_14_code
def yX10_link : MethodName := ⟨RX10, "link", "(IJI)Z"⟩
abbrev cX10_unlink : ByteArray := prog_1_method_15_code
def yX10_unlink : MethodName := ⟨RX10, "unlink", "(IJ)Z"⟩
abbrev cX10_isPlace : ByteArray := prog_1_method_16_code
def yX10_isPlace : MethodName := ⟨RX10, "isPlace", "(I)Z"⟩
abbrev cX10_isByte : ByteArray := prog_1_method_17_code
def yX10_isByte : MethodName := ⟨RX10, "isByte", "(I)Z"⟩
abbrev cX10_isDataBlock : ByteArray := prog_1_method_18_code
def yX10_isDataBlock : MethodName := ⟨RX10, "isDataBlock", "(I)Z"⟩
def RX11 : String := "FsckDeskModel"
def TX11 : u_T := fun k => match k with
  | 0 => ("FsckDeskModel", "disk", "[I", true)
  | 1 => ("FsckDeskModel", "w", "[I", true)
  | 2 => ("FsckDeskModel", "taken", "[Z", true)
  | 3 => ("FsckDeskModel", "reached", "[Z", true)
  | 4 => ("FsckDeskModel", "queue", "[I", true)
  | 5 => ("FsckDeskModel", "head", "I", false)
  | 6 => ("FsckDeskModel", "tail", "I", false)
  | 7 => ("FsckDeskModel", "name", "[I", true)
  | _ => ("FsckDeskModel", "nameLength", "I", false)
def tyX11 : Nat → FieldType := fun k => match k with
  | 0 => .array .int
  | 1 => .array .int
  | 2 => .array .boolean
  | 3 => .array .boolean
  | 4 => .array .int
  | 5 => .int
  | 6 => .int
  | 7 => .array .int
  | _ => .int
theorem nmX11 : ∀ a, a < 9 → ∀ b, b < 9 → a ≠ b → (TX11 a).2.1 ≠ (TX11 b).2.1 := by decide +kernel
theorem tyX11_ok : ∀ k, k < 9 → parseFieldDescriptor (TX11 k).2.2.1 = some (tyX11 k) := by decide +kernel
abbrev cX11_init : ByteArray := prog_13_method_1_code
def yX11_init : MethodName := ⟨RX11, "<init>", "()V"⟩
abbrev cX11_two : ByteArray := prog_13_method_2_code
def yX11_two : MethodName := ⟨RX11, "two", "(I)I"⟩
abbrev cX11_put : ByteArray := prog_13_method_3_code
def yX11_put : MethodName := ⟨RX11, "put", "(II)V"⟩
abbrev cX11_sum : ByteArray := prog_13_method_4_code
def yX11_sum : MethodName := ⟨RX11, "sum", "(II)I"⟩
abbrev cX11_clear : ByteArray := prog_13_method_5_code
def yX11_clear : MethodName := ⟨RX11, "clear", "(II)V"⟩
abbrev cX11_isClear : ByteArray := prog_13_method_6_code
def yX11_isClear : MethodName := ⟨RX11, "isClear", "(II)Z"⟩
abbrev cX11_has : ByteArray := prog_13_method_7_code
def yX11_has : MethodName := ⟨RX11, "has", "(IIIII)Z"⟩
abbrev cX11_load : ByteArray := prog_13_method_8_code
def yX11_load : MethodName := ⟨RX11, "load", "()V"⟩
abbrev cX11_store : ByteArray := prog_13_method_9_code
def yX11_store : MethodName := ⟨RX11, "store", "()V"⟩
abbrev cX11_isSuper : ByteArray := prog_13_method_10_code
def yX11_isSuper : MethodName := ⟨RX11, "isSuper", "(I)Z"⟩
abbrev cX11_base : ByteArray := prog_13_method_11_code
def yX11_base : MethodName := ⟨RX11, "base", "(I)I"⟩
abbrev cX11_kind : ByteArray := prog_13_method_12_code
def yX11_kind : MethodName := ⟨RX11, "kind", "(I)I"⟩
abbrev cX11_size : ByteArray := prog_13_method_13_code
def yX11_size : MethodName := ⟨RX11, "size", "(I)I"⟩
abbrev cX11_blocks : ByteArray := prog_13_method_14_code
def yX11_blocks : MethodName := ⟨RX11, "blocks", "(I)I"⟩
abbrev cX11_block : ByteArray := prog_13_method_15_code
def yX11_block : MethodName := ⟨RX11, "block", "(II)I"⟩
abbrev cX11_mark : ByteArray := prog_13_method_16_code
def yX11_mark : MethodName := ⟨RX11, "mark", "(I)Z"⟩
abbrev cX11_isSound : ByteArray := prog_13_method_17_code
def yX11_isSound : MethodName := ⟨RX11, "isSound", "(I)Z"⟩
abbrev cX11_free : ByteArray := prog_13_method_18_code
def yX11_free : MethodName := ⟨RX11, "free", "(I)I"⟩
abbrev cX11_places : ByteArray := prog_13_method_19_code
def yX11_places : MethodName := ⟨RX11, "places", "(I)I"⟩
abbrev cX11_entry : ByteArray := prog_13_method_20_code
def yX11_entry : MethodName := ⟨RX11, "entry", "(II)I"⟩
abbrev cX11_write : ByteArray := prog_13_method_21_code
def yX11_write : MethodName := ⟨RX11, "write", "(II)V"⟩
abbrev cX11_dots : ByteArray := prog_13_method_22_code
def yX11_dots : MethodName := ⟨RX11, "dots", "(I)V"⟩
abbrev cX11_isName : ByteArray := prog_13_method_23_code
def yX11_isName : MethodName := ⟨RX11, "isName", "(I)Z"⟩
abbrev cX11_find : ByteArray := prog_13_method_24_code
def yX11_find : MethodName := ⟨RX11, "find", "(II)I"⟩
abbrev cX11_isValid : ByteArray := prog_13_method_25_code
def yX11_isValid : MethodName := ⟨RX11, "isValid", "(II)Z"⟩
abbrev cX11_lostName : ByteArray := prog_13_method_26_code
def yX11_lostName : MethodName := ⟨RX11, "lostName", "()V"⟩
abbrev cX11_replay : ByteArray := prog_13_method_27_code
def yX11_replay : MethodName := ⟨RX11, "replay", "()V"⟩
abbrev cX11_inodes : ByteArray := prog_13_method_28_code
def yX11_inodes : MethodName := ⟨RX11, "inodes", "()V"⟩
abbrev cX11_make : ByteArray := prog_13_method_29_code
def yX11_make : MethodName := ⟨RX11, "make", "(I)V"⟩
abbrev cX11_directory : ByteArray := prog_13_method_30_code
def yX11_directory : MethodName := ⟨RX11, "directory", "(II)V"⟩
abbrev cX11_entries : ByteArray := prog_13_method_31_code
def yX11_entries : MethodName := ⟨RX11, "entries", "()V"⟩
abbrev cX11_reach : ByteArray := prog_13_method_32_code
def yX11_reach : MethodName := ⟨RX11, "reach", "(I)V"⟩
abbrev cX11_go : ByteArray := prog_13_method_33_code
def yX11_go : MethodName := ⟨RX11, "go", "()V"⟩
abbrev cX11_connect : ByteArray := prog_13_method_34_code
def yX11_connect : MethodName := ⟨RX11, "connect", "()V"⟩
abbrev cX11_lostNameOf : ByteArray := prog_13_method_35_code
def yX11_lostNameOf : MethodName := ⟨RX11, "lostNameOf", "(I)Z"⟩
abbrev cX11_grow : ByteArray := prog_13_method_36_code
def yX11_grow : MethodName := ⟨RX11, "grow", "(II)Z"⟩
abbrev cX11_putEntry : ByteArray := prog_13_method_37_code
def yX11_putEntry : MethodName := ⟨RX11, "putEntry", "(II)Z"⟩
abbrev cX11_drop : ByteArray := prog_13_method_38_code
def yX11_drop : MethodName := ⟨RX11, "drop", "(I)V"⟩
abbrev cX11_count : ByteArray := prog_13_method_39_code
def yX11_count : MethodName := ⟨RX11, "count", "(I)I"⟩
abbrev cX11_finish : ByteArray := prog_13_method_40_code
def yX11_finish : MethodName := ⟨RX11, "finish", "()V"⟩
abbrev cX11_superAt : ByteArray := prog_13_method_41_code
def yX11_superAt : MethodName := ⟨RX11, "superAt", "(III)V"⟩
abbrev cX11_passes : ByteArray := prog_13_method_42_code
def yX11_passes : MethodName := ⟨RX11, "passes", "()Z"⟩
abbrev cX11_differs : ByteArray := prog_13_method_43_code
def yX11_differs : MethodName := ⟨RX11, "differs", "(I)Z"⟩
abbrev cX11_written : ByteArray := prog_13_method_44_code
def yX11_written : MethodName := ⟨RX11, "written", "(IZ)I"⟩
abbrev cX11_format : ByteArray := prog_13_method_45_code
def yX11_format : MethodName := ⟨RX11, "format", "()I"⟩
abbrev cX11_poke : ByteArray := prog_13_method_46_code
def yX11_poke : MethodName := ⟨RX11, "poke", "(II)Z"⟩
abbrev cX11_peek : ByteArray := prog_13_method_47_code
def yX11_peek : MethodName := ⟨RX11, "peek", "(I)I"⟩
abbrev cX11_seal : ByteArray := prog_13_method_48_code
def yX11_seal : MethodName := ⟨RX11, "seal", "(I)Z"⟩
abbrev cX11_commit : ByteArray := prog_13_method_49_code
def yX11_commit : MethodName := ⟨RX11, "commit", "(JI)Z"⟩
abbrev cX11_check : ByteArray := prog_13_method_50_code
def yX11_check : MethodName := ⟨RX11, "check", "()I"⟩
abbrev cX11_repair : ByteArray := prog_13_method_51_code
def yX11_repair : MethodName := ⟨RX11, "repair", "(I)I"⟩
abbrev cX11_inode : ByteArray := prog_13_method_52_code
def yX11_inode : MethodName := ⟨RX11, "inode", "(II)I"⟩
abbrev cX11_read : ByteArray := prog_13_method_53_code
def yX11_read : MethodName := ⟨RX11, "read", "(II)I"⟩
abbrev cX11_nameOf : ByteArray := prog_13_method_54_code
def yX11_nameOf : MethodName := ⟨RX11, "nameOf", "(J)V"⟩
abbrev cX11_find_ : ByteArray := prog_13_method_55_code
def yX11_find_ : MethodName := ⟨RX11, "find", "(IJ)I"⟩
abbrev cX11_mayPut : ByteArray := prog_13_method_56_code
def yX11_mayPut : MethodName := ⟨RX11, "mayPut", "(IJ)Z"⟩
abbrev cX11_make_ : ByteArray := prog_13_method_57_code
def yX11_make_ : MethodName := ⟨RX11, "make", "(IJI)I"⟩
abbrev cX11_append : ByteArray := prog_13_method_58_code
def yX11_append : MethodName := ⟨RX11, "append", "(II)Z"⟩
abbrev cX11_link : ByteArray := prog_13_method_59_code
def yX11_link : MethodName := ⟨RX11, "link", "(IJI)Z"⟩
abbrev cX11_unlink : ByteArray := prog_13_method_60_code
def yX11_unlink : MethodName := ⟨RX11, "unlink", "(IJ)Z"⟩
def RJ13 : String := "java/lang/Long"
def TJ13 : u_T := fun k => match k with
  | _ => ("", "", "", false)
def tyJ13 : Nat → FieldType := fun k => match k with
  | _ => .int
theorem nmJ13 : ∀ a, a < 0 → ∀ b, b < 0 → a ≠ b → (TJ13 a).2.1 ≠ (TJ13 b).2.1 := by decide +kernel
theorem tyJ13_ok : ∀ k, k < 0 → parseFieldDescriptor (TJ13 k).2.2.1 = some (tyJ13 k) := by decide +kernel
abbrev cJ13_bitCount_95d88 : ByteArray := prog_14_method_50_code
def yJ13_bitCount_95d88 : MethodName := ⟨RJ13, "bitCount", "(J)I"⟩
def RJ9 : String := "java/lang/Math"
def TJ9 : u_T := fun k => match k with
  | _ => ("", "", "", false)
def tyJ9 : Nat → FieldType := fun k => match k with
  | _ => .int
theorem nmJ9 : ∀ a, a < 0 → ∀ b, b < 0 → a ≠ b → (TJ9 a).2.1 ≠ (TJ9 b).2.1 := by decide +kernel
theorem tyJ9_ok : ∀ k, k < 0 → parseFieldDescriptor (TJ9 k).2.2.1 = some (tyJ9 k) := by decide +kernel
abbrev cJ9_min_7cf53 : ByteArray := prog_15_method_69_code
def yJ9_min_7cf53 : MethodName := ⟨RJ9, "min", "(II)I"⟩
def RJ0 : String := "java/lang/String"
def TJ0 : u_T := fun k => match k with
  | _ => ("", "", "", false)
def tyJ0 : Nat → FieldType := fun k => match k with
  | _ => .int
theorem nmJ0 : ∀ a, a < 0 → ∀ b, b < 0 → a ≠ b → (TJ0 a).2.1 ≠ (TJ0 b).2.1 := by decide +kernel
theorem tyJ0_ok : ∀ k, k < 0 → parseFieldDescriptor (TJ0 k).2.2.1 = some (tyJ0 k) := by decide +kernel
abbrev cJ0_length_8abf5 : ByteArray := prog_16_method_54_code
def yJ0_length_8abf5 : MethodName := ⟨RJ0, "length", "()I"⟩
abbrev cJ0_charAt_5068e : ByteArray := prog_16_method_56_code
def yJ0_charAt_5068e : MethodName := ⟨RJ0, "charAt", "(I)C"⟩
abbrev cJ0_coder_7d493 : ByteArray := prog_16_method_152_code
def yJ0_coder_7d493 : MethodName := ⟨RJ0, "coder", "()B"⟩
abbrev cJ0_isLatin1_aae02 : ByteArray := prog_16_method_154_code
def yJ0_isLatin1_aae02 : MethodName := ⟨RJ0, "isLatin1", "()Z"⟩
abbrev cJ0_checkIndex_df160 : ByteArray := prog_16_method_155_code
def yJ0_checkIndex_df160 : MethodName := ⟨RJ0, "checkIndex", "(II)V"⟩
def RJ1 : String := "java/lang/StringLatin1"
def TJ1 : u_T := fun k => match k with
  | _ => ("", "", "", false)
def tyJ1 : Nat → FieldType := fun k => match k with
  | _ => .int
theorem nmJ1 : ∀ a, a < 0 → ∀ b, b < 0 → a ≠ b → (TJ1 a).2.1 ≠ (TJ1 b).2.1 := by decide +kernel
theorem tyJ1_ok : ∀ k, k < 0 → parseFieldDescriptor (TJ1 k).2.2.1 = some (tyJ1 k) := by decide +kernel
abbrev cJ1_charAt_3b067 : ByteArray := prog_17_method_2_code
def yJ1_charAt_3b067 : MethodName := ⟨RJ1, "charAt", "([BI)C"⟩
def RJ2 : String := "java/lang/StringUTF16"
def TJ2 : u_T := fun k => match k with
  | _ => ("", "", "", false)
def tyJ2 : Nat → FieldType := fun k => match k with
  | _ => .int
theorem nmJ2 : ∀ a, a < 0 → ∀ b, b < 0 → a ≠ b → (TJ2 a).2.1 ≠ (TJ2 b).2.1 := by decide +kernel
theorem tyJ2_ok : ∀ k, k < 0 → parseFieldDescriptor (TJ2 k).2.2.1 = some (tyJ2 k) := by decide +kernel
abbrev cJ2_getChar_3b067 : ByteArray := prog_18_method_5_code
def yJ2_getChar_3b067 : MethodName := ⟨RJ2, "getChar", "([BI)C"⟩
abbrev cJ2_length_9d52b : ByteArray := prog_18_method_6_code
def yJ2_length_9d52b : MethodName := ⟨RJ2, "length", "([B)I"⟩
abbrev cJ2_charAt_3b067 : ByteArray := prog_18_method_83_code
def yJ2_charAt_3b067 : MethodName := ⟨RJ2, "charAt", "([BI)C"⟩
abbrev cJ2_checkIndex_2214a : ByteArray := prog_18_method_91_code
def yJ2_checkIndex_2214a : MethodName := ⟨RJ2, "checkIndex", "(I[B)V"⟩
def RJ10 : String := "java/lang/System"
def TJ10 : u_T := fun k => match k with
  | _ => ("", "", "", false)
def tyJ10 : Nat → FieldType := fun k => match k with
  | _ => .int
theorem nmJ10 : ∀ a, a < 0 → ∀ b, b < 0 → a ≠ b → (TJ10 a).2.1 ≠ (TJ10 b).2.1 := by decide +kernel
theorem tyJ10_ok : ∀ k, k < 0 → parseFieldDescriptor (TJ10 k).2.2.1 = some (tyJ10 k) := by decide +kernel
def RJ7 : String := "java/util/Arrays"
def TJ7 : u_T := fun k => match k with
  | _ => ("", "", "", false)
def tyJ7 : Nat → FieldType := fun k => match k with
  | _ => .int
theorem nmJ7 : ∀ a, a < 0 → ∀ b, b < 0 → a ≠ b → (TJ7 a).2.1 ≠ (TJ7 b).2.1 := by decide +kernel
theorem tyJ7_ok : ∀ k, k < 0 → parseFieldDescriptor (TJ7 k).2.2.1 = some (tyJ7 k) := by decide +kernel
abbrev cJ7_rangeCheck_23922 : ByteArray := prog_20_method_30_code
def yJ7_rangeCheck_23922 : MethodName := ⟨RJ7, "rangeCheck", "(III)V"⟩
abbrev cJ7_fill_fda19 : ByteArray := prog_20_method_104_code
def yJ7_fill_fda19 : MethodName := ⟨RJ7, "fill", "([IIII)V"⟩
def RJ3 : String := "jdk/internal/util/Preconditions"
def TJ3 : u_T := fun k => match k with
  | _ => ("", "", "", false)
def tyJ3 : Nat → FieldType := fun k => match k with
  | _ => .int
theorem nmJ3 : ∀ a, a < 0 → ∀ b, b < 0 → a ≠ b → (TJ3 a).2.1 ≠ (TJ3 b).2.1 := by decide +kernel
theorem tyJ3_ok : ∀ k, k < 0 → parseFieldDescriptor (TJ3 k).2.2.1 = some (tyJ3 k) := by decide +kernel
abbrev cJ3_checkIndex_8e157 : ByteArray := prog_21_method_11_code
def yJ3_checkIndex_8e157 : MethodName := ⟨RJ3, "checkIndex", "(IILjava/util/function/BiFunction;)I"⟩
def RL : String := "FsckDeskLaw"
abbrev cL_law : ByteArray := code
def yL_law : MethodName := ⟨RL, "law", "([I)Z"⟩
abbrev vwCl : List vw_C := [(RX0, TX0, 8), (RX1, TX1, 3), (RX2, TX2, 1), (RX3, TX3, 3), (RX4, TX4, 2), (RX6, TX6, 2), (RX7, TX7, 6), (RX9, TX9, 3), (RX10, TX10, 6), (RX11, TX11, 9)]
end
section
theorem dX0_init_0 : decode cX0_init 0 = .ok (.aload_n 0, 1) := by decide +kernel
theorem dX0_init_1 : decode cX0_init 1 = .ok (.invokespecial 3, 3) := by decide +kernel
theorem dX0_init_4 : decode cX0_init 4 = .ok (.aload_n 0, 1) := by decide +kernel
theorem dX0_init_5 : decode cX0_init 5 = .ok (.aload_n 1, 1) := by decide +kernel
theorem dX0_init_6 : decode cX0_init 6 = .ok (.putfield 9, 3) := by decide +kernel
theorem dX0_init_9 : decode cX0_init 9 = .ok (.aload_n 0, 1) := by decide +kernel
theorem dX0_init_10 : decode cX0_init 10 = .ok (.aload_n 2, 1) := by decide +kernel
theorem dX0_init_11 : decode cX0_init 11 = .ok (.putfield 15, 3) := by decide +kernel
theorem dX0_init_14 : decode cX0_init 14 = .ok (.aload_n 0, 1) := by decide +kernel
theorem dX0_init_15 : decode cX0_init 15 = .ok (.aload_n 3, 1) := by decide +kernel
theorem dX0_init_16 : decode cX0_init 16 = .ok (.putfield 19, 3) := by decide +kernel
theorem dX0_init_19 : decode cX0_init 19 = .ok (.aload_n 0, 1) := by decide +kernel
theorem dX0_init_20 : decode cX0_init 20 = .ok (.new 23, 3) := by decide +kernel
theorem dX0_init_23 : decode cX0_init 23 = .ok (.dup, 1) := by decide +kernel
theorem dX0_init_24 : decode cX0_init 24 = .ok (.invokespecial 25, 3) := by decide +kernel
theorem dX0_init_27 : decode cX0_init 27 = .ok (.putfield 26, 3) := by decide +kernel
theorem dX0_init_30 : decode cX0_init 30 = .ok (.aload_n 0, 1) := by decide +kernel
theorem dX0_init_31 : decode cX0_init 31 = .ok (.bipush 32, 2) := by decide +kernel
theorem dX0_init_33 : decode cX0_init 33 = .ok (.newarray .int, 2) := by decide +kernel
theorem dX0_init_35 : decode cX0_init 35 = .ok (.putfield 30, 3) := by decide +kernel
theorem dX0_init_38 : decode cX0_init 38 = .ok (.return_, 1) := by decide +kernel
theorem dX0_connect_0 : decode cX0_connect 0 = .ok (.aload_n 0, 1) := by decide +kernel
theorem dX0_connect_1 : decode cX0_connect 1 = .ok (.iconst 0, 1) := by decide +kernel
theorem dX0_connect_2 : decode cX0_connect 2 = .ok (.putfield 34, 3) := by decide +kernel
theorem dX0_connect_5 : decode cX0_connect 5 = .ok (.aload_n 0, 1) := by decide +kernel
theorem dX0_connect_6 : decode cX0_connect 6 = .ok (.iconst 0, 1) := by decide +kernel
theorem dX0_connect_7 : decode cX0_connect 7 = .ok (.putfield 38, 3) := by decide +kernel
theorem dX0_connect_10 : decode cX0_connect 10 = .ok (.aload_n 0, 1) := by decide +kernel
theorem dX0_connect_11 : decode cX0_connect 11 = .ok (.iconst 0, 1) := by decide +kernel
theorem dX0_connect_12 : decode cX0_connect 12 = .ok (.putfield 41, 3) := by decide +kernel
theorem dX0_connect_15 : decode cX0_connect 15 = .ok (.aload_n 0, 1) := by decide +kernel
theorem dX0_connect_16 : decode cX0_connect 16 = .ok (.getfield 15, 3) := by decide +kernel
theorem dX0_connect_19 : decode cX0_connect 19 = .ok (.iconst 1, 1) := by decide +kernel
theorem dX0_connect_20 : decode cX0_connect 20 = .ok (.invokevirtual 44, 3) := by decide +kernel
theorem dX0_connect_23 : decode cX0_connect 23 = .ok (.ifCond .eq 12, 3) := by decide +kernel
theorem dX0_connect_26 : decode cX0_connect 26 = .ok (.aload_n 0, 1) := by decide +kernel
theorem dX0_connect_27 : decode cX0_connect 27 = .ok (.iconst 1, 1) := by decide +kernel
theorem dX0_connect_28 : decode cX0_connect 28 = .ok (.invokevirtual 50, 3) := by decide +kernel
theorem dX0_connect_31 : decode cX0_connect 31 = .ok (.aload_n 0, 1) := by decide +kernel
theorem dX0_connect_32 : decode cX0_connect 32 = .ok (.invokevirtual 54, 3) := by decide +kernel
theorem dX0_connect_35 : decode cX0_connect 35 = .ok (.iconst 1, 1) := by decide +kernel
theorem dX0_connect_36 : decode cX0_connect 36 = .ok (.istore_n 1, 1) := by decide +kernel
theorem dX0_connect_37 : decode cX0_connect 37 = .ok (.iload_n 1, 1) := by decide +kernel
theorem dX0_connect_38 : decode cX0_connect 38 = .ok (.bipush 32, 2) := by decide +kernel
theorem dX0_connect_40 : decode cX0_connect 40 = .ok (.if_icmp .ge 86, 3) := by decide +kernel
theorem dX0_connect_43 : decode cX0_connect 43 = .ok (.aload_n 0, 1) := by decide +kernel
theorem dX0_connect_44 : decode cX0_connect 44 = .ok (.getfield 15, 3) := by decide +kernel
theorem dX0_connect_47 : decode cX0_connect 47 = .ok (.iload_n 1, 1) := by decide +kernel
theorem dX0_connect_48 : decode cX0_connect 48 = .ok (.invokevirtual 44, 3) := by decide +kernel
theorem dX0_connect_51 : decode cX0_connect 51 = .ok (.ifCond .eq 69, 3) := by decide +kernel
theorem dX0_connect_54 : decode cX0_connect 54 = .ok (.aload_n 0, 1) := by decide +kernel
theorem dX0_connect_55 : decode cX0_connect 55 = .ok (.iload_n 1, 1) := by decide +kernel
theorem dX0_connect_56 : decode cX0_connect 56 = .ok (.invokevirtual 57, 3) := by decide +kernel
theorem dX0_connect_59 : decode cX0_connect 59 = .ok (.ifCond .eq 6, 3) := by decide +kernel
theorem dX0_connect_62 : decode cX0_connect 62 = .ok (.goto 58, 3) := by decide +kernel
theorem dX0_connect_65 : decode cX0_connect 65 = .ok (.aload_n 0, 1) := by decide +kernel
theorem dX0_connect_66 : decode cX0_connect 66 = .ok (.iload_n 1, 1) := by decide +kernel
theorem dX0_connect_67 : decode cX0_connect 67 = .ok (.invokevirtual 61, 3) := by decide +kernel
theorem dX0_connect_70 : decode cX0_connect 70 = .ok (.ifCond .eq 14, 3) := by decide +kernel
theorem dX0_connect_73 : decode cX0_connect 73 = .ok (.aload_n 0, 1) := by decide +kernel
theorem dX0_connect_74 : decode cX0_connect 74 = .ok (.getfield 19, 3) := by decide +kernel
theorem dX0_connect_77 : decode cX0_connect 77 = .ok (.iconst 2, 1) := by decide +kernel
theorem dX0_connect_78 : decode cX0_connect 78 = .ok (.invokevirtual 64, 3) := by decide +kernel
theorem dX0_connect_81 : decode cX0_connect 81 = .ok (.goto 4, 3) := by decide +kernel
theorem dX0_connect_84 : decode cX0_connect 84 = .ok (.iconst (-1), 1) := by decide +kernel
theorem dX0_connect_85 : decode cX0_connect 85 = .ok (.istore_n 2, 1) := by decide +kernel
theorem dX0_connect_86 : decode cX0_connect 86 = .ok (.iload_n 2, 1) := by decide +kernel
theorem dX0_connect_87 : decode cX0_connect 87 = .ok (.iconst (-1), 1) := by decide +kernel
theorem dX0_connect_88 : decode cX0_connect 88 = .ok (.if_icmp .eq 16, 3) := by decide +kernel
theorem dX0_connect_91 : decode cX0_connect 91 = .ok (.aload_n 0, 1) := by decide +kernel
theorem dX0_connect_92 : decode cX0_connect 92 = .ok (.iload_n 1, 1) := by decide +kernel
theorem dX0_connect_93 : decode cX0_connect 93 = .ok (.iload_n 2, 1) := by decide +kernel
theorem dX0_connect_94 : decode cX0_connect 94 = .ok (.invokevirtual 69, 3) := by decide +kernel
theorem dX0_connect_97 : decode cX0_connect 97 = .ok (.aload_n 0, 1) := by decide +kernel
theorem dX0_connect_98 : decode cX0_connect 98 = .ok (.invokevirtual 54, 3) := by decide +kernel
theorem dX0_connect_101 : decode cX0_connect 101 = .ok (.goto 19, 3) := by decide +kernel
theorem dX0_connect_104 : decode cX0_connect 104 = .ok (.aload_n 0, 1) := by decide +kernel
theorem dX0_connect_105 : decode cX0_connect 105 = .ok (.getfield 15, 3) := by decide +kernel
theorem dX0_connect_108 : decode cX0_connect 108 = .ok (.iload_n 1, 1) := by decide +kernel
theorem dX0_connect_109 : decode cX0_connect 109 = .ok (.invokevirtual 73, 3) := by decide +kernel
theorem dX0_connect_112 : decode cX0_connect 112 = .ok (.aload_n 0, 1) := by decide +kernel
theorem dX0_connect_113 : decode cX0_connect 113 = .ok (.getfield 19, 3) := by decide +kernel
theorem dX0_connect_116 : decode cX0_connect 116 = .ok (.iload_n 1, 1) := by decide +kernel
theorem dX0_connect_117 : decode cX0_connect 117 = .ok (.invokevirtual 76, 3) := by decide +kernel
theorem dX0_connect_120 : decode cX0_connect 120 = .ok (.iinc 1 1, 3) := by decide +kernel
theorem dX0_connect_123 : decode cX0_connect 123 = .ok (.goto (-86), 3) := by decide +kernel
theorem dX0_connect_126 : decode cX0_connect 126 = .ok (.return_, 1) := by decide +kernel
theorem dX0_isReached_0 : decode cX0_isReached 0 = .ok (.aload_n 0, 1) := by decide +kernel
theorem dX0_isReached_1 : decode cX0_isReached 1 = .ok (.getfield 41, 3) := by decide +kernel
theorem dX0_isReached_4 : decode cX0_isReached 4 = .ok (.iload_n 1, 1) := by decide +kernel
theorem dX0_isReached_5 : decode cX0_isReached 5 = .ok (.ishr, 1) := by decide +kernel
theorem dX0_isReached_6 : decode cX0_isReached 6 = .ok (.iconst 1, 1) := by decide +kernel
theorem dX0_isReached_7 : decode cX0_isReached 7 = .ok (.iand, 1) := by decide +kernel
theorem dX0_isReached_8 : decode cX0_isReached 8 = .ok (.ifCond .eq 7, 3) := by decide +kernel
theorem dX0_isReached_11 : decode cX0_isReached 11 = .ok (.iconst 1, 1) := by decide +kernel
theorem dX0_isReached_12 : decode cX0_isReached 12 = .ok (.goto 4, 3) := by decide +kernel
theorem dX0_isReached_15 : decode cX0_isReached 15 = .ok (.iconst 0, 1) := by decide +kernel
theorem dX0_isReached_16 : decode cX0_isReached 16 = .ok (.ireturn, 1) := by decide +kernel
theorem dX0_reach_0 : decode cX0_reach 0 = .ok (.aload_n 0, 1) := by decide +kernel
theorem dX0_reach_1 : decode cX0_reach 1 = .ok (.dup, 1) := by decide +kernel
theorem dX0_reach_2 : decode cX0_reach 2 = .ok (.getfield 41, 3) := by decide +kernel
theorem dX0_reach_5 : decode cX0_reach 5 = .ok (.iconst 1, 1) := by decide +kernel
theorem dX0_reach_6 : decode cX0_reach 6 = .ok (.iload_n 1, 1) := by decide +kernel
theorem dX0_reach_7 : decode cX0_reach 7 = .ok (.ishl, 1) := by decide +kernel
theorem dX0_reach_8 : decode cX0_reach 8 = .ok (.ior, 1) := by decide +kernel
theorem dX0_reach_9 : decode cX0_reach 9 = .ok (.putfield 41, 3) := by decide +kernel
theorem dX0_reach_12 : decode cX0_reach 12 = .ok (.aload_n 0, 1) := by decide +kernel
theorem dX0_reach_13 : decode cX0_reach 13 = .ok (.getfield 15, 3) := by decide +kernel
theorem dX0_reach_16 : decode cX0_reach 16 = .ok (.iload_n 1, 1) := by decide +kernel
theorem dX0_reach_17 : decode cX0_reach 17 = .ok (.invokevirtual 44, 3) := by decide +kernel
theorem dX0_reach_20 : decode cX0_reach 20 = .ok (.iconst 2, 1) := by decide +kernel
theorem dX0_reach_21 : decode cX0_reach 21 = .ok (.if_icmp .ne 39, 3) := by decide +kernel
theorem dX0_reach_24 : decode cX0_reach 24 = .ok (.aload_n 0, 1) := by decide +kernel
theorem dX0_reach_25 : decode cX0_reach 25 = .ok (.getfield 38, 3) := by decide +kernel
theorem dX0_reach_28 : decode cX0_reach 28 = .ok (.ifCond .lt 32, 3) := by decide +kernel
theorem dX0_reach_31 : decode cX0_reach 31 = .ok (.aload_n 0, 1) := by decide +kernel
theorem dX0_reach_32 : decode cX0_reach 32 = .ok (.getfield 38, 3) := by decide +kernel
theorem dX0_reach_35 : decode cX0_reach 35 = .ok (.bipush 32, 2) := by decide +kernel
theorem dX0_reach_37 : decode cX0_reach 37 = .ok (.if_icmp .ge 23, 3) := by decide +kernel
theorem dX0_reach_40 : decode cX0_reach 40 = .ok (.aload_n 0, 1) := by decide +kernel
theorem dX0_reach_41 : decode cX0_reach 41 = .ok (.getfield 30, 3) := by decide +kernel
theorem dX0_reach_44 : decode cX0_reach 44 = .ok (.aload_n 0, 1) := by decide +kernel
theorem dX0_reach_45 : decode cX0_reach 45 = .ok (.getfield 38, 3) := by decide +kernel
theorem dX0_reach_48 : decode cX0_reach 48 = .ok (.iload_n 1, 1) := by decide +kernel
theorem dX0_reach_49 : decode cX0_reach 49 = .ok (.iastore, 1) := by decide +kernel
theorem dX0_reach_50 : decode cX0_reach 50 = .ok (.aload_n 0, 1) := by decide +kernel
theorem dX0_reach_51 : decode cX0_reach 51 = .ok (.dup, 1) := by decide +kernel
theorem dX0_reach_52 : decode cX0_reach 52 = .ok (.getfield 38, 3) := by decide +kernel
theorem dX0_reach_55 : decode cX0_reach 55 = .ok (.iconst 1, 1) := by decide +kernel
theorem dX0_reach_56 : decode cX0_reach 56 = .ok (.iadd, 1) := by decide +kernel
theorem dX0_reach_57 : decode cX0_reach 57 = .ok (.putfield 38, 3) := by decide +kernel
theorem dX0_reach_60 : decode cX0_reach 60 = .ok (.return_, 1) := by decide +kernel
theorem dX0_goThrough_0 : decode cX0_goThrough 0 = .ok (.aload_n 0, 1) := by decide +kernel
theorem dX0_goThrough_1 : decode cX0_goThrough 1 = .ok (.getfield 34, 3) := by decide +kernel
theorem dX0_goThrough_4 : decode cX0_goThrough 4 = .ok (.ifCond .lt 82, 3) := by decide +kernel
theorem dX0_goThrough_7 : decode cX0_goThrough 7 = .ok (.aload_n 0, 1) := by decide +kernel
theorem dX0_goThrough_8 : decode cX0_goThrough 8 = .ok (.getfield 34, 3) := by decide +kernel
theorem dX0_goThrough_11 : decode cX0_goThrough 11 = .ok (.aload_n 0, 1) := by decide +kernel
theorem dX0_goThrough_12 : decode cX0_goThrough 12 = .ok (.getfield 38, 3) := by decide +kernel
theorem dX0_goThrough_15 : decode cX0_goThrough 15 = .ok (.if_icmp .ge 71, 3) := by decide +kernel
theorem dX0_goThrough_18 : decode cX0_goThrough 18 = .ok (.aload_n 0, 1) := by decide +kernel
theorem dX0_goThrough_19 : decode cX0_goThrough 19 = .ok (.getfield 34, 3) := by decide +kernel
theorem dX0_goThrough_22 : decode cX0_goThrough 22 = .ok (.bipush 32, 2) := by decide +kernel
theorem dX0_goThrough_24 : decode cX0_goThrough 24 = .ok (.if_icmp .ge 62, 3) := by decide +kernel
theorem dX0_goThrough_27 : decode cX0_goThrough 27 = .ok (.aload_n 0, 1) := by decide +kernel
theorem dX0_goThrough_28 : decode cX0_goThrough 28 = .ok (.getfield 30, 3) := by decide +kernel
theorem dX0_goThrough_31 : decode cX0_goThrough 31 = .ok (.aload_n 0, 1) := by decide +kernel
theorem dX0_goThrough_32 : decode cX0_goThrough 32 = .ok (.getfield 34, 3) := by decide +kernel
theorem dX0_goThrough_35 : decode cX0_goThrough 35 = .ok (.iaload, 1) := by decide +kernel
theorem dX0_goThrough_36 : decode cX0_goThrough 36 = .ok (.istore_n 1, 1) := by decide +kernel
theorem dX0_goThrough_37 : decode cX0_goThrough 37 = .ok (.aload_n 0, 1) := by decide +kernel
theorem dX0_goThrough_38 : decode cX0_goThrough 38 = .ok (.getfield 19, 3) := by decide +kernel
theorem dX0_goThrough_41 : decode cX0_goThrough 41 = .ok (.iload_n 1, 1) := by decide +kernel
theorem dX0_goThrough_42 : decode cX0_goThrough 42 = .ok (.invokevirtual 79, 3) := by decide +kernel
theorem dX0_goThrough_45 : decode cX0_goThrough 45 = .ok (.istore_n 2, 1) := by decide +kernel
theorem dX0_goThrough_46 : decode cX0_goThrough 46 = .ok (.iconst 2, 1) := by decide +kernel
theorem dX0_goThrough_47 : decode cX0_goThrough 47 = .ok (.istore_n 3, 1) := by decide +kernel
theorem dX0_goThrough_48 : decode cX0_goThrough 48 = .ok (.iload_n 3, 1) := by decide +kernel
theorem dX0_goThrough_49 : decode cX0_goThrough 49 = .ok (.iload_n 2, 1) := by decide +kernel
theorem dX0_goThrough_50 : decode cX0_goThrough 50 = .ok (.if_icmp .ge 23, 3) := by decide +kernel
theorem dX0_goThrough_53 : decode cX0_goThrough 53 = .ok (.aload_n 0, 1) := by decide +kernel
theorem dX0_goThrough_54 : decode cX0_goThrough 54 = .ok (.iload_n 1, 1) := by decide +kernel
theorem dX0_goThrough_55 : decode cX0_goThrough 55 = .ok (.aload_n 0, 1) := by decide +kernel
theorem dX0_goThrough_56 : decode cX0_goThrough 56 = .ok (.getfield 19, 3) := by decide +kernel
theorem dX0_goThrough_59 : decode cX0_goThrough 59 = .ok (.iload_n 1, 1) := by decide +kernel
theorem dX0_goThrough_60 : decode cX0_goThrough 60 = .ok (.iload_n 3, 1) := by decide +kernel
theorem dX0_goThrough_61 : decode cX0_goThrough 61 = .ok (.invokevirtual 82, 3) := by decide +kernel
theorem dX0_goThrough_64 : decode cX0_goThrough 64 = .ok (.invokevirtual 86, 3) := by decide +kernel
theorem dX0_goThrough_67 : decode cX0_goThrough 67 = .ok (.iinc 3 1, 3) := by decide +kernel
theorem dX0_goThrough_70 : decode cX0_goThrough 70 = .ok (.goto (-22), 3) := by decide +kernel
theorem dX0_goThrough_73 : decode cX0_goThrough 73 = .ok (.aload_n 0, 1) := by decide +kernel
theorem dX0_goThrough_74 : decode cX0_goThrough 74 = .ok (.dup, 1) := by decide +kernel
theorem dX0_goThrough_75 : decode cX0_goThrough 75 = .ok (.getfield 34, 3) := by decide +kernel
theorem dX0_goThrough_78 : decode cX0_goThrough 78 = .ok (.iconst 1, 1) := by decide +kernel
theorem dX0_goThrough_79 : decode cX0_goThrough 79 = .ok (.iadd, 1) := by decide +kernel
theorem dX0_goThrough_80 : decode cX0_goThrough 80 = .ok (.putfield 34, 3) := by decide +kernel
theorem dX0_goThrough_83 : decode cX0_goThrough 83 = .ok (.goto (-83), 3) := by decide +kernel
theorem dX0_goThrough_86 : decode cX0_goThrough 86 = .ok (.return_, 1) := by decide +kernel
theorem dX0_follow_0 : decode cX0_follow 0 = .ok (.aload_n 0, 1) := by decide +kernel
theorem dX0_follow_1 : decode cX0_follow 1 = .ok (.getfield 9, 3) := by decide +kernel
theorem dX0_follow_4 : decode cX0_follow 4 = .ok (.iload_n 2, 1) := by decide +kernel
theorem dX0_follow_5 : decode cX0_follow 5 = .ok (.invokevirtual 89, 3) := by decide +kernel
theorem dX0_follow_8 : decode cX0_follow 8 = .ok (.istore_n 3, 1) := by decide +kernel
theorem dX0_follow_9 : decode cX0_follow 9 = .ok (.aload_n 0, 1) := by decide +kernel
theorem dX0_follow_10 : decode cX0_follow 10 = .ok (.getfield 15, 3) := by decide +kernel
theorem dX0_follow_13 : decode cX0_follow 13 = .ok (.iload_n 3, 1) := by decide +kernel
theorem dX0_follow_14 : decode cX0_follow 14 = .ok (.invokevirtual 44, 3) := by decide +kernel
theorem dX0_follow_17 : decode cX0_follow 17 = .ok (.istore 4, 2) := by decide +kernel
theorem dX0_follow_19 : decode cX0_follow 19 = .ok (.iload 4, 2) := by decide +kernel
theorem dX0_follow_21 : decode cX0_follow 21 = .ok (.iconst 2, 1) := by decide +kernel
theorem dX0_follow_22 : decode cX0_follow 22 = .ok (.if_icmp .ne 22, 3) := by decide +kernel
theorem dX0_follow_25 : decode cX0_follow 25 = .ok (.aload_n 0, 1) := by decide +kernel
theorem dX0_follow_26 : decode cX0_follow 26 = .ok (.iload_n 3, 1) := by decide +kernel
theorem dX0_follow_27 : decode cX0_follow 27 = .ok (.invokevirtual 57, 3) := by decide +kernel
theorem dX0_follow_30 : decode cX0_follow 30 = .ok (.ifCond .eq 14, 3) := by decide +kernel
theorem dX0_follow_33 : decode cX0_follow 33 = .ok (.aload_n 0, 1) := by decide +kernel
theorem dX0_follow_34 : decode cX0_follow 34 = .ok (.getfield 19, 3) := by decide +kernel
theorem dX0_follow_37 : decode cX0_follow 37 = .ok (.iload_n 2, 1) := by decide +kernel
theorem dX0_follow_38 : decode cX0_follow 38 = .ok (.invokevirtual 94, 3) := by decide +kernel
theorem dX0_follow_41 : decode cX0_follow 41 = .ok (.goto 22, 3) := by decide +kernel
theorem dX0_follow_44 : decode cX0_follow 44 = .ok (.iload 4, 2) := by decide +kernel
theorem dX0_follow_46 : decode cX0_follow 46 = .ok (.ifCond .eq 17, 3) := by decide +kernel
theorem dX0_follow_49 : decode cX0_follow 49 = .ok (.aload_n 0, 1) := by decide +kernel
theorem dX0_follow_50 : decode cX0_follow 50 = .ok (.iload_n 3, 1) := by decide +kernel
theorem dX0_follow_51 : decode cX0_follow 51 = .ok (.invokevirtual 50, 3) := by decide +kernel
theorem dX0_follow_54 : decode cX0_follow 54 = .ok (.aload_n 0, 1) := by decide +kernel
theorem dX0_follow_55 : decode cX0_follow 55 = .ok (.getfield 19, 3) := by decide +kernel
theorem dX0_follow_58 : decode cX0_follow 58 = .ok (.iload_n 3, 1) := by decide +kernel
theorem dX0_follow_59 : decode cX0_follow 59 = .ok (.iload_n 1, 1) := by decide +kernel
theorem dX0_follow_60 : decode cX0_follow 60 = .ok (.invokevirtual 97, 3) := by decide +kernel
theorem dX0_follow_63 : decode cX0_follow 63 = .ok (.return_, 1) := by decide +kernel
theorem dX0_findName_0 : decode cX0_findName 0 = .ok (.aload_n 0, 1) := by decide +kernel
theorem dX0_findName_1 : decode cX0_findName 1 = .ok (.iconst 2, 1) := by decide +kernel
theorem dX0_findName_2 : decode cX0_findName 2 = .ok (.invokevirtual 57, 3) := by decide +kernel
theorem dX0_findName_5 : decode cX0_findName 5 = .ok (.ifCond .eq 8, 3) := by decide +kernel
theorem dX0_findName_8 : decode cX0_findName 8 = .ok (.bipush 12, 2) := by decide +kernel
theorem dX0_findName_10 : decode cX0_findName 10 = .ok (.goto 4, 3) := by decide +kernel
theorem dX0_findName_13 : decode cX0_findName 13 = .ok (.iconst 0, 1) := by decide +kernel
theorem dX0_findName_14 : decode cX0_findName 14 = .ok (.istore_n 2, 1) := by decide +kernel
theorem dX0_findName_15 : decode cX0_findName 15 = .ok (.iconst 1, 1) := by decide +kernel
theorem dX0_findName_16 : decode cX0_findName 16 = .ok (.istore_n 3, 1) := by decide +kernel
theorem dX0_findName_17 : decode cX0_findName 17 = .ok (.iload_n 3, 1) := by decide +kernel
theorem dX0_findName_18 : decode cX0_findName 18 = .ok (.iload_n 2, 1) := by decide +kernel
theorem dX0_findName_19 : decode cX0_findName 19 = .ok (.if_icmp .gt 36, 3) := by decide +kernel
theorem dX0_findName_22 : decode cX0_findName 22 = .ok (.aload_n 0, 1) := by decide +kernel
theorem dX0_findName_23 : decode cX0_findName 23 = .ok (.getfield 26, 3) := by decide +kernel
theorem dX0_findName_26 : decode cX0_findName 26 = .ok (.iload_n 3, 1) := by decide +kernel
theorem dX0_findName_27 : decode cX0_findName 27 = .ok (.iload_n 1, 1) := by decide +kernel
theorem dX0_findName_28 : decode cX0_findName 28 = .ok (.invokevirtual 100, 3) := by decide +kernel
theorem dX0_findName_31 : decode cX0_findName 31 = .ok (.aload_n 0, 1) := by decide +kernel
theorem dX0_findName_32 : decode cX0_findName 32 = .ok (.getfield 19, 3) := by decide +kernel
theorem dX0_findName_35 : decode cX0_findName 35 = .ok (.iconst 2, 1) := by decide +kernel
theorem dX0_findName_36 : decode cX0_findName 36 = .ok (.aload_n 0, 1) := by decide +kernel
theorem dX0_findName_37 : decode cX0_findName 37 = .ok (.getfield 26, 3) := by decide +kernel
theorem dX0_findName_40 : decode cX0_findName 40 = .ok (.invokevirtual 103, 3) := by decide +kernel
theorem dX0_findName_43 : decode cX0_findName 43 = .ok (.iconst (-1), 1) := by decide +kernel
theorem dX0_findName_44 : decode cX0_findName 44 = .ok (.if_icmp .ne 5, 3) := by decide +kernel
theorem dX0_findName_47 : decode cX0_findName 47 = .ok (.iconst 1, 1) := by decide +kernel
theorem dX0_findName_48 : decode cX0_findName 48 = .ok (.ireturn, 1) := by decide +kernel
theorem dX0_findName_49 : decode cX0_findName 49 = .ok (.iinc 3 1, 3) := by decide +kernel
theorem dX0_findName_52 : decode cX0_findName 52 = .ok (.goto (-35), 3) := by decide +kernel
theorem dX0_findName_55 : decode cX0_findName 55 = .ok (.iconst 0, 1) := by decide +kernel
theorem dX0_findName_56 : decode cX0_findName 56 = .ok (.ireturn, 1) := by decide +kernel
theorem dX0_putAway_0 : decode cX0_putAway 0 = .ok (.aload_n 0, 1) := by decide +kernel
theorem dX0_putAway_1 : decode cX0_putAway 1 = .ok (.getfield 19, 3) := by decide +kernel
theorem dX0_putAway_4 : decode cX0_putAway 4 = .ok (.iload_n 2, 1) := by decide +kernel
theorem dX0_putAway_5 : decode cX0_putAway 5 = .ok (.iload_n 1, 1) := by decide +kernel
theorem dX0_putAway_6 : decode cX0_putAway 6 = .ok (.aload_n 0, 1) := by decide +kernel
theorem dX0_putAway_7 : decode cX0_putAway 7 = .ok (.getfield 26, 3) := by decide +kernel
theorem dX0_putAway_10 : decode cX0_putAway 10 = .ok (.invokevirtual 107, 3) := by decide +kernel
theorem dX0_putAway_13 : decode cX0_putAway 13 = .ok (.aload_n 0, 1) := by decide +kernel
theorem dX0_putAway_14 : decode cX0_putAway 14 = .ok (.iload_n 1, 1) := by decide +kernel
theorem dX0_putAway_15 : decode cX0_putAway 15 = .ok (.invokevirtual 50, 3) := by decide +kernel
theorem dX0_putAway_18 : decode cX0_putAway 18 = .ok (.aload_n 0, 1) := by decide +kernel
theorem dX0_putAway_19 : decode cX0_putAway 19 = .ok (.getfield 19, 3) := by decide +kernel
theorem dX0_putAway_22 : decode cX0_putAway 22 = .ok (.iload_n 1, 1) := by decide +kernel
theorem dX0_putAway_23 : decode cX0_putAway 23 = .ok (.iconst 2, 1) := by decide +kernel
theorem dX0_putAway_24 : decode cX0_putAway 24 = .ok (.invokevirtual 97, 3) := by decide +kernel
theorem dX0_putAway_27 : decode cX0_putAway 27 = .ok (.return_, 1) := by decide +kernel
theorem dX1_init_0 : decode cX1_init 0 = .ok (.aload_n 0, 1) := by decide +kernel
theorem dX1_init_1 : decode cX1_init 1 = .ok (.invokespecial 3, 3) := by decide +kernel
theorem dX1_init_4 : decode cX1_init 4 = .ok (.aload_n 0, 1) := by decide +kernel
theorem dX1_init_5 : decode cX1_init 5 = .ok (.aload_n 1, 1) := by decide +kernel
theorem dX1_init_6 : decode cX1_init 6 = .ok (.putfield 9, 3) := by decide +kernel
theorem dX1_init_9 : decode cX1_init 9 = .ok (.aload_n 0, 1) := by decide +kernel
theorem dX1_init_10 : decode cX1_init 10 = .ok (.aload_n 2, 1) := by decide +kernel
theorem dX1_init_11 : decode cX1_init 11 = .ok (.putfield 15, 3) := by decide +kernel
theorem dX1_init_14 : decode cX1_init 14 = .ok (.aload_n 0, 1) := by decide +kernel
theorem dX1_init_15 : decode cX1_init 15 = .ok (.new 19, 3) := by decide +kernel
theorem dX1_init_18 : decode cX1_init 18 = .ok (.dup, 1) := by decide +kernel
theorem dX1_init_19 : decode cX1_init 19 = .ok (.invokespecial 21, 3) := by decide +kernel
theorem dX1_init_22 : decode cX1_init 22 = .ok (.putfield 22, 3) := by decide +kernel
theorem dX1_init_25 : decode cX1_init 25 = .ok (.return_, 1) := by decide +kernel
theorem dX1_entryCount_0 : decode cX1_entryCount 0 = .ok (.aload_n 0, 1) := by decide +kernel
theorem dX1_entryCount_1 : decode cX1_entryCount 1 = .ok (.getfield 15, 3) := by decide +kernel
theorem dX1_entryCount_4 : decode cX1_entryCount 4 = .ok (.iload_n 1, 1) := by decide +kernel
theorem dX1_entryCount_5 : decode cX1_entryCount 5 = .ok (.invokevirtual 26, 3) := by decide +kernel
theorem dX1_entryCount_8 : decode cX1_entryCount 8 = .ok (.bipush 16, 2) := by decide +kernel
theorem dX1_entryCount_10 : decode cX1_entryCount 10 = .ok (.idiv, 1) := by decide +kernel
theorem dX1_entryCount_11 : decode cX1_entryCount 11 = .ok (.sipush 184, 3) := by decide +kernel
theorem dX1_entryCount_14 : decode cX1_entryCount 14 = .ok (.invokestatic 32, 3) := by decide +kernel
theorem dX1_entryCount_17 : decode cX1_entryCount 17 = .ok (.ireturn, 1) := by decide +kernel
theorem dX1_entryPlace_0 : decode cX1_entryPlace 0 = .ok (.aload_n 0, 1) := by decide +kernel
theorem dX1_entryPlace_1 : decode cX1_entryPlace 1 = .ok (.getfield 15, 3) := by decide +kernel
theorem dX1_entryPlace_4 : decode cX1_entryPlace 4 = .ok (.iload_n 1, 1) := by decide +kernel
theorem dX1_entryPlace_5 : decode cX1_entryPlace 5 = .ok (.iload_n 2, 1) := by decide +kernel
theorem dX1_entryPlace_6 : decode cX1_entryPlace 6 = .ok (.bipush 16, 2) := by decide +kernel
theorem dX1_entryPlace_8 : decode cX1_entryPlace 8 = .ok (.imul, 1) := by decide +kernel
theorem dX1_entryPlace_9 : decode cX1_entryPlace 9 = .ok (.invokevirtual 38, 3) := by decide +kernel
theorem dX1_entryPlace_12 : decode cX1_entryPlace 12 = .ok (.ireturn, 1) := by decide +kernel
theorem dX1_seek_0 : decode cX1_seek 0 = .ok (.aload_n 2, 1) := by decide +kernel
theorem dX1_seek_1 : decode cX1_seek 1 = .ok (.invokevirtual 41, 3) := by decide +kernel
theorem dX1_seek_4 : decode cX1_seek 4 = .ok (.ifCond .ne 5, 3) := by decide +kernel
theorem dX1_seek_7 : decode cX1_seek 7 = .ok (.iconst (-1), 1) := by decide +kernel
theorem dX1_seek_8 : decode cX1_seek 8 = .ok (.ireturn, 1) := by decide +kernel
theorem dX1_seek_9 : decode cX1_seek 9 = .ok (.aload_n 0, 1) := by decide +kernel
theorem dX1_seek_10 : decode cX1_seek 10 = .ok (.iload_n 1, 1) := by decide +kernel
theorem dX1_seek_11 : decode cX1_seek 11 = .ok (.invokevirtual 45, 3) := by decide +kernel
theorem dX1_seek_14 : decode cX1_seek 14 = .ok (.istore_n 3, 1) := by decide +kernel
theorem dX1_seek_15 : decode cX1_seek 15 = .ok (.iconst 2, 1) := by decide +kernel
theorem dX1_seek_16 : decode cX1_seek 16 = .ok (.istore 4, 2) := by decide +kernel
theorem dX1_seek_18 : decode cX1_seek 18 = .ok (.iload 4, 2) := by decide +kernel
theorem dX1_seek_20 : decode cX1_seek 20 = .ok (.iload_n 3, 1) := by decide +kernel
theorem dX1_seek_21 : decode cX1_seek 21 = .ok (.if_icmp .ge 37, 3) := by decide +kernel
theorem dX1_seek_24 : decode cX1_seek 24 = .ok (.aload_n 0, 1) := by decide +kernel
theorem dX1_seek_25 : decode cX1_seek 25 = .ok (.iload_n 1, 1) := by decide +kernel
theorem dX1_seek_26 : decode cX1_seek 26 = .ok (.iload 4, 2) := by decide +kernel
theorem dX1_seek_28 : decode cX1_seek 28 = .ok (.invokevirtual 48, 3) := by decide +kernel
theorem dX1_seek_31 : decode cX1_seek 31 = .ok (.istore 5, 2) := by decide +kernel
theorem dX1_seek_33 : decode cX1_seek 33 = .ok (.iload 5, 2) := by decide +kernel
theorem dX1_seek_35 : decode cX1_seek 35 = .ok (.iconst (-1), 1) := by decide +kernel
theorem dX1_seek_36 : decode cX1_seek 36 = .ok (.if_icmp .eq 16, 3) := by decide +kernel
theorem dX1_seek_39 : decode cX1_seek 39 = .ok (.aload_n 0, 1) := by decide +kernel
theorem dX1_seek_40 : decode cX1_seek 40 = .ok (.iload 5, 2) := by decide +kernel
theorem dX1_seek_42 : decode cX1_seek 42 = .ok (.aload_n 2, 1) := by decide +kernel
theorem dX1_seek_43 : decode cX1_seek 43 = .ok (.invokevirtual 51, 3) := by decide +kernel
theorem dX1_seek_46 : decode cX1_seek 46 = .ok (.ifCond .eq 6, 3) := by decide +kernel
theorem dX1_seek_49 : decode cX1_seek 49 = .ok (.iload 5, 2) := by decide +kernel
theorem dX1_seek_51 : decode cX1_seek 51 = .ok (.ireturn, 1) := by decide +kernel
theorem dX1_seek_52 : decode cX1_seek 52 = .ok (.iinc 4 1, 3) := by decide +kernel
theorem dX1_seek_55 : decode cX1_seek 55 = .ok (.goto (-37), 3) := by decide +kernel
theorem dX1_seek_58 : decode cX1_seek 58 = .ok (.iconst (-1), 1) := by decide +kernel
theorem dX1_seek_59 : decode cX1_seek 59 = .ok (.ireturn, 1) := by decide +kernel
theorem dX1_isNamed_0 : decode cX1_isNamed 0 = .ok (.aload_n 2, 1) := by decide +kernel
theorem dX1_isNamed_1 : decode cX1_isNamed 1 = .ok (.invokevirtual 41, 3) := by decide +kernel
theorem dX1_isNamed_4 : decode cX1_isNamed 4 = .ok (.istore_n 3, 1) := by decide +kernel
theorem dX1_isNamed_5 : decode cX1_isNamed 5 = .ok (.aload_n 0, 1) := by decide +kernel
theorem dX1_isNamed_6 : decode cX1_isNamed 6 = .ok (.getfield 9, 3) := by decide +kernel
theorem dX1_isNamed_9 : decode cX1_isNamed 9 = .ok (.iload_n 1, 1) := by decide +kernel
theorem dX1_isNamed_10 : decode cX1_isNamed 10 = .ok (.iconst 1, 1) := by decide +kernel
theorem dX1_isNamed_11 : decode cX1_isNamed 11 = .ok (.iadd, 1) := by decide +kernel
theorem dX1_isNamed_12 : decode cX1_isNamed 12 = .ok (.invokevirtual 55, 3) := by decide +kernel
theorem dX1_isNamed_15 : decode cX1_isNamed 15 = .ok (.iload_n 3, 1) := by decide +kernel
theorem dX1_isNamed_16 : decode cX1_isNamed 16 = .ok (.if_icmp .eq 5, 3) := by decide +kernel
theorem dX1_isNamed_19 : decode cX1_isNamed 19 = .ok (.iconst 0, 1) := by decide +kernel
theorem dX1_isNamed_20 : decode cX1_isNamed 20 = .ok (.ireturn, 1) := by decide +kernel
theorem dX1_isNamed_21 : decode cX1_isNamed 21 = .ok (.iconst 0, 1) := by decide +kernel
theorem dX1_isNamed_22 : decode cX1_isNamed 22 = .ok (.istore 4, 2) := by decide +kernel
theorem dX1_isNamed_24 : decode cX1_isNamed 24 = .ok (.iload 4, 2) := by decide +kernel
theorem dX1_isNamed_26 : decode cX1_isNamed 26 = .ok (.iload_n 3, 1) := by decide +kernel
theorem dX1_isNamed_27 : decode cX1_isNamed 27 = .ok (.if_icmp .ge 33, 3) := by decide +kernel
theorem dX1_isNamed_30 : decode cX1_isNamed 30 = .ok (.aload_n 0, 1) := by decide +kernel
theorem dX1_isNamed_31 : decode cX1_isNamed 31 = .ok (.getfield 9, 3) := by decide +kernel
theorem dX1_isNamed_34 : decode cX1_isNamed 34 = .ok (.iload_n 1, 1) := by decide +kernel
theorem dX1_isNamed_35 : decode cX1_isNamed 35 = .ok (.iconst 2, 1) := by decide +kernel
theorem dX1_isNamed_36 : decode cX1_isNamed 36 = .ok (.iadd, 1) := by decide +kernel
theorem dX1_isNamed_37 : decode cX1_isNamed 37 = .ok (.iload 4, 2) := by decide +kernel
theorem dX1_isNamed_39 : decode cX1_isNamed 39 = .ok (.iadd, 1) := by decide +kernel
theorem dX1_isNamed_40 : decode cX1_isNamed 40 = .ok (.invokevirtual 55, 3) := by decide +kernel
theorem dX1_isNamed_43 : decode cX1_isNamed 43 = .ok (.aload_n 2, 1) := by decide +kernel
theorem dX1_isNamed_44 : decode cX1_isNamed 44 = .ok (.iload 4, 2) := by decide +kernel
theorem dX1_isNamed_46 : decode cX1_isNamed 46 = .ok (.invokevirtual 60, 3) := by decide +kernel
theorem dX1_isNamed_49 : decode cX1_isNamed 49 = .ok (.if_icmp .eq 5, 3) := by decide +kernel
theorem dX1_isNamed_52 : decode cX1_isNamed 52 = .ok (.iconst 0, 1) := by decide +kernel
theorem dX1_isNamed_53 : decode cX1_isNamed 53 = .ok (.ireturn, 1) := by decide +kernel
theorem dX1_isNamed_54 : decode cX1_isNamed 54 = .ok (.iinc 4 1, 3) := by decide +kernel
theorem dX1_isNamed_57 : decode cX1_isNamed 57 = .ok (.goto (-33), 3) := by decide +kernel
theorem dX1_isNamed_60 : decode cX1_isNamed 60 = .ok (.iconst 1, 1) := by decide +kernel
theorem dX1_isNamed_61 : decode cX1_isNamed 61 = .ok (.ireturn, 1) := by decide +kernel
theorem dX1_writeEntry_0 : decode cX1_writeEntry 0 = .ok (.aload_n 0, 1) := by decide +kernel
theorem dX1_writeEntry_1 : decode cX1_writeEntry 1 = .ok (.getfield 9, 3) := by decide +kernel
theorem dX1_writeEntry_4 : decode cX1_writeEntry 4 = .ok (.iload_n 1, 1) := by decide +kernel
theorem dX1_writeEntry_5 : decode cX1_writeEntry 5 = .ok (.bipush 16, 2) := by decide +kernel
theorem dX1_writeEntry_7 : decode cX1_writeEntry 7 = .ok (.invokevirtual 61, 3) := by decide +kernel
theorem dX1_writeEntry_10 : decode cX1_writeEntry 10 = .ok (.aload_n 0, 1) := by decide +kernel
theorem dX1_writeEntry_11 : decode cX1_writeEntry 11 = .ok (.getfield 9, 3) := by decide +kernel
theorem dX1_writeEntry_14 : decode cX1_writeEntry 14 = .ok (.iload_n 1, 1) := by decide +kernel
theorem dX1_writeEntry_15 : decode cX1_writeEntry 15 = .ok (.iload_n 2, 1) := by decide +kernel
theorem dX1_writeEntry_16 : decode cX1_writeEntry 16 = .ok (.invokevirtual 65, 3) := by decide +kernel
theorem dX1_writeEntry_19 : decode cX1_writeEntry 19 = .ok (.aload_n 0, 1) := by decide +kernel
theorem dX1_writeEntry_20 : decode cX1_writeEntry 20 = .ok (.getfield 9, 3) := by decide +kernel
theorem dX1_writeEntry_23 : decode cX1_writeEntry 23 = .ok (.iload_n 1, 1) := by decide +kernel
theorem dX1_writeEntry_24 : decode cX1_writeEntry 24 = .ok (.iconst 1, 1) := by decide +kernel
theorem dX1_writeEntry_25 : decode cX1_writeEntry 25 = .ok (.iadd, 1) := by decide +kernel
theorem dX1_writeEntry_26 : decode cX1_writeEntry 26 = .ok (.aload_n 3, 1) := by decide +kernel
theorem dX1_writeEntry_27 : decode cX1_writeEntry 27 = .ok (.invokevirtual 41, 3) := by decide +kernel
theorem dX1_writeEntry_30 : decode cX1_writeEntry 30 = .ok (.invokevirtual 65, 3) := by decide +kernel
theorem dX1_writeEntry_33 : decode cX1_writeEntry 33 = .ok (.iconst 0, 1) := by decide +kernel
theorem dX1_writeEntry_34 : decode cX1_writeEntry 34 = .ok (.istore 4, 2) := by decide +kernel
theorem dX1_writeEntry_36 : decode cX1_writeEntry 36 = .ok (.iload 4, 2) := by decide +kernel
theorem dX1_writeEntry_38 : decode cX1_writeEntry 38 = .ok (.aload_n 3, 1) := by decide +kernel
theorem dX1_writeEntry_39 : decode cX1_writeEntry 39 = .ok (.invokevirtual 41, 3) := by decide +kernel
theorem dX1_writeEntry_42 : decode cX1_writeEntry 42 = .ok (.if_icmp .ge 28, 3) := by decide +kernel
theorem dX1_writeEntry_45 : decode cX1_writeEntry 45 = .ok (.aload_n 0, 1) := by decide +kernel
theorem dX1_writeEntry_46 : decode cX1_writeEntry 46 = .ok (.getfield 9, 3) := by decide +kernel
theorem dX1_writeEntry_49 : decode cX1_writeEntry 49 = .ok (.iload_n 1, 1) := by decide +kernel
theorem dX1_writeEntry_50 : decode cX1_writeEntry 50 = .ok (.iconst 2, 1) := by decide +kernel
theorem dX1_writeEntry_51 : decode cX1_writeEntry 51 = .ok (.iadd, 1) := by decide +kernel
theorem dX1_writeEntry_52 : decode cX1_writeEntry 52 = .ok (.iload 4, 2) := by decide +kernel
theorem dX1_writeEntry_54 : decode cX1_writeEntry 54 = .ok (.iadd, 1) := by decide +kernel
theorem dX1_writeEntry_55 : decode cX1_writeEntry 55 = .ok (.aload_n 3, 1) := by decide +kernel
theorem dX1_writeEntry_56 : decode cX1_writeEntry 56 = .ok (.iload 4, 2) := by decide +kernel
theorem dX1_writeEntry_58 : decode cX1_writeEntry 58 = .ok (.invokevirtual 60, 3) := by decide +kernel
theorem dX1_writeEntry_61 : decode cX1_writeEntry 61 = .ok (.invokevirtual 65, 3) := by decide +kernel
theorem dX1_writeEntry_64 : decode cX1_writeEntry 64 = .ok (.iinc 4 1, 3) := by decide +kernel
theorem dX1_writeEntry_67 : decode cX1_writeEntry 67 = .ok (.goto (-31), 3) := by decide +kernel
theorem dX1_writeEntry_70 : decode cX1_writeEntry 70 = .ok (.return_, 1) := by decide +kernel
theorem dX1_wipeEntry_0 : decode cX1_wipeEntry 0 = .ok (.aload_n 0, 1) := by decide +kernel
theorem dX1_wipeEntry_1 : decode cX1_wipeEntry 1 = .ok (.getfield 9, 3) := by decide +kernel
theorem dX1_wipeEntry_4 : decode cX1_wipeEntry 4 = .ok (.iload_n 1, 1) := by decide +kernel
theorem dX1_wipeEntry_5 : decode cX1_wipeEntry 5 = .ok (.bipush 16, 2) := by decide +kernel
theorem dX1_wipeEntry_7 : decode cX1_wipeEntry 7 = .ok (.invokevirtual 61, 3) := by decide +kernel
theorem dX1_wipeEntry_10 : decode cX1_wipeEntry 10 = .ok (.return_, 1) := by decide +kernel
theorem dX1_writeDots_0 : decode cX1_writeDots 0 = .ok (.aload_n 0, 1) := by decide +kernel
theorem dX1_writeDots_1 : decode cX1_writeDots 1 = .ok (.getfield 22, 3) := by decide +kernel
theorem dX1_writeDots_4 : decode cX1_writeDots 4 = .ok (.ldc 68, 2) := by decide +kernel
theorem dX1_writeDots_6 : decode cX1_writeDots 6 = .ok (.invokevirtual 70, 3) := by decide +kernel
theorem dX1_writeDots_9 : decode cX1_writeDots 9 = .ok (.aload_n 0, 1) := by decide +kernel
theorem dX1_writeDots_10 : decode cX1_writeDots 10 = .ok (.aload_n 0, 1) := by decide +kernel
theorem dX1_writeDots_11 : decode cX1_writeDots 11 = .ok (.iload_n 1, 1) := by decide +kernel
theorem dX1_writeDots_12 : decode cX1_writeDots 12 = .ok (.iconst 0, 1) := by decide +kernel
theorem dX1_writeDots_13 : decode cX1_writeDots 13 = .ok (.invokevirtual 48, 3) := by decide +kernel
theorem dX1_writeDots_16 : decode cX1_writeDots 16 = .ok (.iload_n 1, 1) := by decide +kernel
theorem dX1_writeDots_17 : decode cX1_writeDots 17 = .ok (.aload_n 0, 1) := by decide +kernel
theorem dX1_writeDots_18 : decode cX1_writeDots 18 = .ok (.getfield 22, 3) := by decide +kernel
theorem dX1_writeDots_21 : decode cX1_writeDots 21 = .ok (.invokevirtual 74, 3) := by decide +kernel
theorem dX1_writeDots_24 : decode cX1_writeDots 24 = .ok (.aload_n 0, 1) := by decide +kernel
theorem dX1_writeDots_25 : decode cX1_writeDots 25 = .ok (.getfield 22, 3) := by decide +kernel
theorem dX1_writeDots_28 : decode cX1_writeDots 28 = .ok (.ldc 78, 2) := by decide +kernel
theorem dX1_writeDots_30 : decode cX1_writeDots 30 = .ok (.invokevirtual 70, 3) := by decide +kernel
theorem dX1_writeDots_33 : decode cX1_writeDots 33 = .ok (.aload_n 0, 1) := by decide +kernel
theorem dX1_writeDots_34 : decode cX1_writeDots 34 = .ok (.aload_n 0, 1) := by decide +kernel
theorem dX1_writeDots_35 : decode cX1_writeDots 35 = .ok (.iload_n 1, 1) := by decide +kernel
theorem dX1_writeDots_36 : decode cX1_writeDots 36 = .ok (.iconst 1, 1) := by decide +kernel
theorem dX1_writeDots_37 : decode cX1_writeDots 37 = .ok (.invokevirtual 48, 3) := by decide +kernel
theorem dX1_writeDots_40 : decode cX1_writeDots 40 = .ok (.iload_n 2, 1) := by decide +kernel
theorem dX1_writeDots_41 : decode cX1_writeDots 41 = .ok (.aload_n 0, 1) := by decide +kernel
theorem dX1_writeDots_42 : decode cX1_writeDots 42 = .ok (.getfield 22, 3) := by decide +kernel
theorem dX1_writeDots_45 : decode cX1_writeDots 45 = .ok (.invokevirtual 74, 3) := by decide +kernel
theorem dX1_writeDots_48 : decode cX1_writeDots 48 = .ok (.return_, 1) := by decide +kernel
theorem dX1_setParent_0 : decode cX1_setParent 0 = .ok (.aload_n 0, 1) := by decide +kernel
theorem dX1_setParent_1 : decode cX1_setParent 1 = .ok (.getfield 15, 3) := by decide +kernel
theorem dX1_setParent_4 : decode cX1_setParent 4 = .ok (.iload_n 1, 1) := by decide +kernel
theorem dX1_setParent_5 : decode cX1_setParent 5 = .ok (.invokevirtual 80, 3) := by decide +kernel
theorem dX1_setParent_8 : decode cX1_setParent 8 = .ok (.iconst 2, 1) := by decide +kernel
theorem dX1_setParent_9 : decode cX1_setParent 9 = .ok (.if_icmp .ne 21, 3) := by decide +kernel
theorem dX1_setParent_12 : decode cX1_setParent 12 = .ok (.aload_n 0, 1) := by decide +kernel
theorem dX1_setParent_13 : decode cX1_setParent 13 = .ok (.getfield 9, 3) := by decide +kernel
theorem dX1_setParent_16 : decode cX1_setParent 16 = .ok (.aload_n 0, 1) := by decide +kernel
theorem dX1_setParent_17 : decode cX1_setParent 17 = .ok (.getfield 15, 3) := by decide +kernel
theorem dX1_setParent_20 : decode cX1_setParent 20 = .ok (.iload_n 1, 1) := by decide +kernel
theorem dX1_setParent_21 : decode cX1_setParent 21 = .ok (.bipush 16, 2) := by decide +kernel
theorem dX1_setParent_23 : decode cX1_setParent 23 = .ok (.invokevirtual 38, 3) := by decide +kernel
theorem dX1_setParent_26 : decode cX1_setParent 26 = .ok (.iload_n 2, 1) := by decide +kernel
theorem dX1_setParent_27 : decode cX1_setParent 27 = .ok (.invokevirtual 65, 3) := by decide +kernel
theorem dX1_setParent_30 : decode cX1_setParent 30 = .ok (.return_, 1) := by decide +kernel
theorem dX1_begin_0 : decode cX1_begin 0 = .ok (.aload_n 0, 1) := by decide +kernel
theorem dX1_begin_1 : decode cX1_begin 1 = .ok (.getfield 15, 3) := by decide +kernel
theorem dX1_begin_4 : decode cX1_begin 4 = .ok (.iload_n 1, 1) := by decide +kernel
theorem dX1_begin_5 : decode cX1_begin 5 = .ok (.iconst 2, 1) := by decide +kernel
theorem dX1_begin_6 : decode cX1_begin 6 = .ok (.invokevirtual 83, 3) := by decide +kernel
theorem dX1_begin_9 : decode cX1_begin 9 = .ok (.aload_n 0, 1) := by decide +kernel
theorem dX1_begin_10 : decode cX1_begin 10 = .ok (.getfield 15, 3) := by decide +kernel
theorem dX1_begin_13 : decode cX1_begin 13 = .ok (.iload_n 1, 1) := by decide +kernel
theorem dX1_begin_14 : decode cX1_begin 14 = .ok (.invokevirtual 86, 3) := by decide +kernel
theorem dX1_begin_17 : decode cX1_begin 17 = .ok (.iconst (-1), 1) := by decide +kernel
theorem dX1_begin_18 : decode cX1_begin 18 = .ok (.if_icmp .ne 13, 3) := by decide +kernel
theorem dX1_begin_21 : decode cX1_begin 21 = .ok (.aload_n 0, 1) := by decide +kernel
theorem dX1_begin_22 : decode cX1_begin 22 = .ok (.getfield 15, 3) := by decide +kernel
theorem dX1_begin_25 : decode cX1_begin 25 = .ok (.iload_n 1, 1) := by decide +kernel
theorem dX1_begin_26 : decode cX1_begin 26 = .ok (.invokevirtual 89, 3) := by decide +kernel
theorem dX1_begin_29 : decode cX1_begin 29 = .ok (.iconst 0, 1) := by decide +kernel
theorem dX1_begin_30 : decode cX1_begin 30 = .ok (.ireturn, 1) := by decide +kernel
theorem dX1_begin_31 : decode cX1_begin 31 = .ok (.aload_n 0, 1) := by decide +kernel
theorem dX1_begin_32 : decode cX1_begin 32 = .ok (.getfield 15, 3) := by decide +kernel
theorem dX1_begin_35 : decode cX1_begin 35 = .ok (.iload_n 1, 1) := by decide +kernel
theorem dX1_begin_36 : decode cX1_begin 36 = .ok (.bipush 64, 2) := by decide +kernel
theorem dX1_begin_38 : decode cX1_begin 38 = .ok (.invokevirtual 92, 3) := by decide +kernel
theorem dX1_begin_41 : decode cX1_begin 41 = .ok (.aload_n 0, 1) := by decide +kernel
theorem dX1_begin_42 : decode cX1_begin 42 = .ok (.iload_n 1, 1) := by decide +kernel
theorem dX1_begin_43 : decode cX1_begin 43 = .ok (.iload_n 2, 1) := by decide +kernel
theorem dX1_begin_44 : decode cX1_begin 44 = .ok (.invokevirtual 95, 3) := by decide +kernel
theorem dX1_begin_47 : decode cX1_begin 47 = .ok (.iconst 1, 1) := by decide +kernel
theorem dX1_begin_48 : decode cX1_begin 48 = .ok (.ireturn, 1) := by decide +kernel
theorem dX1_roomIn_0 : decode cX1_roomIn 0 = .ok (.aload_n 0, 1) := by decide +kernel
theorem dX1_roomIn_1 : decode cX1_roomIn 1 = .ok (.iload_n 1, 1) := by decide +kernel
theorem dX1_roomIn_2 : decode cX1_roomIn 2 = .ok (.invokevirtual 45, 3) := by decide +kernel
theorem dX1_roomIn_5 : decode cX1_roomIn 5 = .ok (.istore_n 2, 1) := by decide +kernel
theorem dX1_roomIn_6 : decode cX1_roomIn 6 = .ok (.iconst 2, 1) := by decide +kernel
theorem dX1_roomIn_7 : decode cX1_roomIn 7 = .ok (.istore_n 3, 1) := by decide +kernel
theorem dX1_roomIn_8 : decode cX1_roomIn 8 = .ok (.iload_n 3, 1) := by decide +kernel
theorem dX1_roomIn_9 : decode cX1_roomIn 9 = .ok (.iload_n 2, 1) := by decide +kernel
theorem dX1_roomIn_10 : decode cX1_roomIn 10 = .ok (.if_icmp .ge 32, 3) := by decide +kernel
theorem dX1_roomIn_13 : decode cX1_roomIn 13 = .ok (.aload_n 0, 1) := by decide +kernel
theorem dX1_roomIn_14 : decode cX1_roomIn 14 = .ok (.iload_n 1, 1) := by decide +kernel
theorem dX1_roomIn_15 : decode cX1_roomIn 15 = .ok (.iload_n 3, 1) := by decide +kernel
theorem dX1_roomIn_16 : decode cX1_roomIn 16 = .ok (.invokevirtual 48, 3) := by decide +kernel
theorem dX1_roomIn_19 : decode cX1_roomIn 19 = .ok (.istore 4, 2) := by decide +kernel
theorem dX1_roomIn_21 : decode cX1_roomIn 21 = .ok (.aload_n 0, 1) := by decide +kernel
theorem dX1_roomIn_22 : decode cX1_roomIn 22 = .ok (.getfield 9, 3) := by decide +kernel
theorem dX1_roomIn_25 : decode cX1_roomIn 25 = .ok (.iload 4, 2) := by decide +kernel
theorem dX1_roomIn_27 : decode cX1_roomIn 27 = .ok (.invokevirtual 55, 3) := by decide +kernel
theorem dX1_roomIn_30 : decode cX1_roomIn 30 = .ok (.ifCond .ne 6, 3) := by decide +kernel
theorem dX1_roomIn_33 : decode cX1_roomIn 33 = .ok (.iload 4, 2) := by decide +kernel
theorem dX1_roomIn_35 : decode cX1_roomIn 35 = .ok (.ireturn, 1) := by decide +kernel
theorem dX1_roomIn_36 : decode cX1_roomIn 36 = .ok (.iinc 3 1, 3) := by decide +kernel
theorem dX1_roomIn_39 : decode cX1_roomIn 39 = .ok (.goto (-31), 3) := by decide +kernel
theorem dX1_roomIn_42 : decode cX1_roomIn 42 = .ok (.aload_n 0, 1) := by decide +kernel
theorem dX1_roomIn_43 : decode cX1_roomIn 43 = .ok (.getfield 15, 3) := by decide +kernel
theorem dX1_roomIn_46 : decode cX1_roomIn 46 = .ok (.iload_n 1, 1) := by decide +kernel
theorem dX1_roomIn_47 : decode cX1_roomIn 47 = .ok (.invokevirtual 86, 3) := by decide +kernel
theorem dX1_roomIn_50 : decode cX1_roomIn 50 = .ok (.istore_n 3, 1) := by decide +kernel
theorem dX1_roomIn_51 : decode cX1_roomIn 51 = .ok (.iload_n 3, 1) := by decide +kernel
theorem dX1_roomIn_52 : decode cX1_roomIn 52 = .ok (.iconst (-1), 1) := by decide +kernel
theorem dX1_roomIn_53 : decode cX1_roomIn 53 = .ok (.if_icmp .ne 5, 3) := by decide +kernel
theorem dX1_roomIn_56 : decode cX1_roomIn 56 = .ok (.iconst (-1), 1) := by decide +kernel
theorem dX1_roomIn_57 : decode cX1_roomIn 57 = .ok (.ireturn, 1) := by decide +kernel
theorem dX1_roomIn_58 : decode cX1_roomIn 58 = .ok (.aload_n 0, 1) := by decide +kernel
theorem dX1_roomIn_59 : decode cX1_roomIn 59 = .ok (.getfield 15, 3) := by decide +kernel
theorem dX1_roomIn_62 : decode cX1_roomIn 62 = .ok (.iload_n 1, 1) := by decide +kernel
theorem dX1_roomIn_63 : decode cX1_roomIn 63 = .ok (.aload_n 0, 1) := by decide +kernel
theorem dX1_roomIn_64 : decode cX1_roomIn 64 = .ok (.getfield 15, 3) := by decide +kernel
theorem dX1_roomIn_67 : decode cX1_roomIn 67 = .ok (.iload_n 1, 1) := by decide +kernel
theorem dX1_roomIn_68 : decode cX1_roomIn 68 = .ok (.invokevirtual 26, 3) := by decide +kernel
theorem dX1_roomIn_71 : decode cX1_roomIn 71 = .ok (.bipush 64, 2) := by decide +kernel
theorem dX1_roomIn_73 : decode cX1_roomIn 73 = .ok (.iadd, 1) := by decide +kernel
theorem dX1_roomIn_74 : decode cX1_roomIn 74 = .ok (.invokevirtual 92, 3) := by decide +kernel
theorem dX1_roomIn_77 : decode cX1_roomIn 77 = .ok (.iload_n 3, 1) := by decide +kernel
theorem dX1_roomIn_78 : decode cX1_roomIn 78 = .ok (.bipush 64, 2) := by decide +kernel
theorem dX1_roomIn_80 : decode cX1_roomIn 80 = .ok (.imul, 1) := by decide +kernel
theorem dX1_roomIn_81 : decode cX1_roomIn 81 = .ok (.ireturn, 1) := by decide +kernel
theorem dX1_isEmpty_0 : decode cX1_isEmpty 0 = .ok (.aload_n 0, 1) := by decide +kernel
theorem dX1_isEmpty_1 : decode cX1_isEmpty 1 = .ok (.iload_n 1, 1) := by decide +kernel
theorem dX1_isEmpty_2 : decode cX1_isEmpty 2 = .ok (.invokevirtual 45, 3) := by decide +kernel
theorem dX1_isEmpty_5 : decode cX1_isEmpty 5 = .ok (.istore_n 2, 1) := by decide +kernel
theorem dX1_isEmpty_6 : decode cX1_isEmpty 6 = .ok (.iconst 2, 1) := by decide +kernel
theorem dX1_isEmpty_7 : decode cX1_isEmpty 7 = .ok (.istore_n 3, 1) := by decide +kernel
theorem dX1_isEmpty_8 : decode cX1_isEmpty 8 = .ok (.iload_n 3, 1) := by decide +kernel
theorem dX1_isEmpty_9 : decode cX1_isEmpty 9 = .ok (.iload_n 2, 1) := by decide +kernel
theorem dX1_isEmpty_10 : decode cX1_isEmpty 10 = .ok (.if_icmp .ge 27, 3) := by decide +kernel
theorem dX1_isEmpty_13 : decode cX1_isEmpty 13 = .ok (.aload_n 0, 1) := by decide +kernel
theorem dX1_isEmpty_14 : decode cX1_isEmpty 14 = .ok (.getfield 9, 3) := by decide +kernel
theorem dX1_isEmpty_17 : decode cX1_isEmpty 17 = .ok (.aload_n 0, 1) := by decide +kernel
theorem dX1_isEmpty_18 : decode cX1_isEmpty 18 = .ok (.iload_n 1, 1) := by decide +kernel
theorem dX1_isEmpty_19 : decode cX1_isEmpty 19 = .ok (.iload_n 3, 1) := by decide +kernel
theorem dX1_isEmpty_20 : decode cX1_isEmpty 20 = .ok (.invokevirtual 48, 3) := by decide +kernel
theorem dX1_isEmpty_23 : decode cX1_isEmpty 23 = .ok (.invokevirtual 55, 3) := by decide +kernel
theorem dX1_isEmpty_26 : decode cX1_isEmpty 26 = .ok (.ifCond .eq 5, 3) := by decide +kernel
theorem dX1_isEmpty_29 : decode cX1_isEmpty 29 = .ok (.iconst 0, 1) := by decide +kernel
theorem dX1_isEmpty_30 : decode cX1_isEmpty 30 = .ok (.ireturn, 1) := by decide +kernel
theorem dX1_isEmpty_31 : decode cX1_isEmpty 31 = .ok (.iinc 3 1, 3) := by decide +kernel
theorem dX1_isEmpty_34 : decode cX1_isEmpty 34 = .ok (.goto (-26), 3) := by decide +kernel
theorem dX1_isEmpty_37 : decode cX1_isEmpty 37 = .ok (.iconst 1, 1) := by decide +kernel
theorem dX1_isEmpty_38 : decode cX1_isEmpty 38 = .ok (.ireturn, 1) := by decide +kernel
theorem dX1_tidy_0 : decode cX1_tidy 0 = .ok (.aload_n 0, 1) := by decide +kernel
theorem dX1_tidy_1 : decode cX1_tidy 1 = .ok (.iload_n 1, 1) := by decide +kernel
theorem dX1_tidy_2 : decode cX1_tidy 2 = .ok (.iload_n 1, 1) := by decide +kernel
theorem dX1_tidy_3 : decode cX1_tidy 3 = .ok (.invokevirtual 95, 3) := by decide +kernel
theorem dX1_tidy_6 : decode cX1_tidy 6 = .ok (.iconst 2, 1) := by decide +kernel
theorem dX1_tidy_7 : decode cX1_tidy 7 = .ok (.istore_n 2, 1) := by decide +kernel
theorem dX1_tidy_8 : decode cX1_tidy 8 = .ok (.iload_n 1, 1) := by decide +kernel
theorem dX1_tidy_9 : decode cX1_tidy 9 = .ok (.iconst 1, 1) := by decide +kernel
theorem dX1_tidy_10 : decode cX1_tidy 10 = .ok (.if_icmp .ne 41, 3) := by decide +kernel
theorem dX1_tidy_13 : decode cX1_tidy 13 = .ok (.aload_n 0, 1) := by decide +kernel
theorem dX1_tidy_14 : decode cX1_tidy 14 = .ok (.getfield 15, 3) := by decide +kernel
theorem dX1_tidy_17 : decode cX1_tidy 17 = .ok (.iconst 2, 1) := by decide +kernel
theorem dX1_tidy_18 : decode cX1_tidy 18 = .ok (.invokevirtual 80, 3) := by decide +kernel
theorem dX1_tidy_21 : decode cX1_tidy 21 = .ok (.ifCond .eq 30, 3) := by decide +kernel
theorem dX1_tidy_24 : decode cX1_tidy 24 = .ok (.aload_n 0, 1) := by decide +kernel
theorem dX1_tidy_25 : decode cX1_tidy 25 = .ok (.getfield 22, 3) := by decide +kernel
theorem dX1_tidy_28 : decode cX1_tidy 28 = .ok (.ldc 98, 2) := by decide +kernel
theorem dX1_tidy_30 : decode cX1_tidy 30 = .ok (.invokevirtual 70, 3) := by decide +kernel
theorem dX1_tidy_33 : decode cX1_tidy 33 = .ok (.aload_n 0, 1) := by decide +kernel
theorem dX1_tidy_34 : decode cX1_tidy 34 = .ok (.aload_n 0, 1) := by decide +kernel
theorem dX1_tidy_35 : decode cX1_tidy 35 = .ok (.iconst 1, 1) := by decide +kernel
theorem dX1_tidy_36 : decode cX1_tidy 36 = .ok (.iconst 2, 1) := by decide +kernel
theorem dX1_tidy_37 : decode cX1_tidy 37 = .ok (.invokevirtual 48, 3) := by decide +kernel
theorem dX1_tidy_40 : decode cX1_tidy 40 = .ok (.iconst 2, 1) := by decide +kernel
theorem dX1_tidy_41 : decode cX1_tidy 41 = .ok (.aload_n 0, 1) := by decide +kernel
theorem dX1_tidy_42 : decode cX1_tidy 42 = .ok (.getfield 22, 3) := by decide +kernel
theorem dX1_tidy_45 : decode cX1_tidy 45 = .ok (.invokevirtual 74, 3) := by decide +kernel
theorem dX1_tidy_48 : decode cX1_tidy 48 = .ok (.iinc 2 1, 3) := by decide +kernel
theorem dX1_tidy_51 : decode cX1_tidy 51 = .ok (.aload_n 0, 1) := by decide +kernel
theorem dX1_tidy_52 : decode cX1_tidy 52 = .ok (.iload_n 1, 1) := by decide +kernel
theorem dX1_tidy_53 : decode cX1_tidy 53 = .ok (.invokevirtual 45, 3) := by decide +kernel
theorem dX1_tidy_56 : decode cX1_tidy 56 = .ok (.istore_n 3, 1) := by decide +kernel
theorem dX1_tidy_57 : decode cX1_tidy 57 = .ok (.iload_n 2, 1) := by decide +kernel
theorem dX1_tidy_58 : decode cX1_tidy 58 = .ok (.istore 4, 2) := by decide +kernel
theorem dX1_tidy_60 : decode cX1_tidy 60 = .ok (.iload 4, 2) := by decide +kernel
theorem dX1_tidy_62 : decode cX1_tidy 62 = .ok (.iload_n 3, 1) := by decide +kernel
theorem dX1_tidy_63 : decode cX1_tidy 63 = .ok (.if_icmp .ge 34, 3) := by decide +kernel
theorem dX1_tidy_66 : decode cX1_tidy 66 = .ok (.aload_n 0, 1) := by decide +kernel
theorem dX1_tidy_67 : decode cX1_tidy 67 = .ok (.iload_n 1, 1) := by decide +kernel
theorem dX1_tidy_68 : decode cX1_tidy 68 = .ok (.iload 4, 2) := by decide +kernel
theorem dX1_tidy_70 : decode cX1_tidy 70 = .ok (.invokevirtual 48, 3) := by decide +kernel
theorem dX1_tidy_73 : decode cX1_tidy 73 = .ok (.istore 5, 2) := by decide +kernel
theorem dX1_tidy_75 : decode cX1_tidy 75 = .ok (.aload_n 0, 1) := by decide +kernel
theorem dX1_tidy_76 : decode cX1_tidy 76 = .ok (.iload_n 1, 1) := by decide +kernel
theorem dX1_tidy_77 : decode cX1_tidy 77 = .ok (.iload 5, 2) := by decide +kernel
theorem dX1_tidy_79 : decode cX1_tidy 79 = .ok (.invokevirtual 100, 3) := by decide +kernel
theorem dX1_tidy_82 : decode cX1_tidy 82 = .ok (.ifCond .ne 9, 3) := by decide +kernel
theorem dX1_tidy_85 : decode cX1_tidy 85 = .ok (.aload_n 0, 1) := by decide +kernel
theorem dX1_tidy_86 : decode cX1_tidy 86 = .ok (.iload 5, 2) := by decide +kernel
theorem dX1_tidy_88 : decode cX1_tidy 88 = .ok (.invokevirtual 104, 3) := by decide +kernel
theorem dX1_tidy_91 : decode cX1_tidy 91 = .ok (.iinc 4 1, 3) := by decide +kernel
theorem dX1_tidy_94 : decode cX1_tidy 94 = .ok (.goto (-34), 3) := by decide +kernel
theorem dX1_tidy_97 : decode cX1_tidy 97 = .ok (.return_, 1) := by decide +kernel
theorem dX1_isValid_0 : decode cX1_isValid 0 = .ok (.aload_n 0, 1) := by decide +kernel
theorem dX1_isValid_1 : decode cX1_isValid 1 = .ok (.getfield 9, 3) := by decide +kernel
theorem dX1_isValid_4 : decode cX1_isValid 4 = .ok (.iload_n 2, 1) := by decide +kernel
theorem dX1_isValid_5 : decode cX1_isValid 5 = .ok (.invokevirtual 55, 3) := by decide +kernel
theorem dX1_isValid_8 : decode cX1_isValid 8 = .ok (.istore_n 3, 1) := by decide +kernel
theorem dX1_isValid_9 : decode cX1_isValid 9 = .ok (.aload_n 0, 1) := by decide +kernel
theorem dX1_isValid_10 : decode cX1_isValid 10 = .ok (.getfield 9, 3) := by decide +kernel
theorem dX1_isValid_13 : decode cX1_isValid 13 = .ok (.iload_n 2, 1) := by decide +kernel
theorem dX1_isValid_14 : decode cX1_isValid 14 = .ok (.iconst 1, 1) := by decide +kernel
theorem dX1_isValid_15 : decode cX1_isValid 15 = .ok (.iadd, 1) := by decide +kernel
theorem dX1_isValid_16 : decode cX1_isValid 16 = .ok (.invokevirtual 55, 3) := by decide +kernel
theorem dX1_isValid_19 : decode cX1_isValid 19 = .ok (.istore 4, 2) := by decide +kernel
theorem dX1_isValid_21 : decode cX1_isValid 21 = .ok (.iload_n 3, 1) := by decide +kernel
theorem dX1_isValid_22 : decode cX1_isValid 22 = .ok (.iconst 3, 1) := by decide +kernel
theorem dX1_isValid_23 : decode cX1_isValid 23 = .ok (.if_icmp .lt 27, 3) := by decide +kernel
theorem dX1_isValid_26 : decode cX1_isValid 26 = .ok (.aload_n 0, 1) := by decide +kernel
theorem dX1_isValid_27 : decode cX1_isValid 27 = .ok (.getfield 15, 3) := by decide +kernel
theorem dX1_isValid_30 : decode cX1_isValid 30 = .ok (.iload_n 3, 1) := by decide +kernel
theorem dX1_isValid_31 : decode cX1_isValid 31 = .ok (.invokevirtual 80, 3) := by decide +kernel
theorem dX1_isValid_34 : decode cX1_isValid 34 = .ok (.ifCond .eq 16, 3) := by decide +kernel
theorem dX1_isValid_37 : decode cX1_isValid 37 = .ok (.iload 4, 2) := by decide +kernel
theorem dX1_isValid_39 : decode cX1_isValid 39 = .ok (.iconst 1, 1) := by decide +kernel
theorem dX1_isValid_40 : decode cX1_isValid 40 = .ok (.if_icmp .lt 10, 3) := by decide +kernel
theorem dX1_isValid_43 : decode cX1_isValid 43 = .ok (.iload 4, 2) := by decide +kernel
theorem dX1_isValid_45 : decode cX1_isValid 45 = .ok (.bipush 14, 2) := by decide +kernel
theorem dX1_isValid_47 : decode cX1_isValid 47 = .ok (.if_icmp .le 5, 3) := by decide +kernel
theorem dX1_isValid_50 : decode cX1_isValid 50 = .ok (.iconst 0, 1) := by decide +kernel
theorem dX1_isValid_51 : decode cX1_isValid 51 = .ok (.ireturn, 1) := by decide +kernel
theorem dX1_isValid_52 : decode cX1_isValid 52 = .ok (.aload_n 0, 1) := by decide +kernel
theorem dX1_isValid_53 : decode cX1_isValid 53 = .ok (.getfield 22, 3) := by decide +kernel
theorem dX1_isValid_56 : decode cX1_isValid 56 = .ok (.aload_n 0, 1) := by decide +kernel
theorem dX1_isValid_57 : decode cX1_isValid 57 = .ok (.getfield 9, 3) := by decide +kernel
theorem dX1_isValid_60 : decode cX1_isValid 60 = .ok (.iload_n 2, 1) := by decide +kernel
theorem dX1_isValid_61 : decode cX1_isValid 61 = .ok (.iconst 2, 1) := by decide +kernel
theorem dX1_isValid_62 : decode cX1_isValid 62 = .ok (.iadd, 1) := by decide +kernel
theorem dX1_isValid_63 : decode cX1_isValid 63 = .ok (.iload 4, 2) := by decide +kernel
theorem dX1_isValid_65 : decode cX1_isValid 65 = .ok (.invokevirtual 107, 3) := by decide +kernel
theorem dX1_isValid_68 : decode cX1_isValid 68 = .ok (.aload_n 0, 1) := by decide +kernel
theorem dX1_isValid_69 : decode cX1_isValid 69 = .ok (.getfield 9, 3) := by decide +kernel
theorem dX1_isValid_72 : decode cX1_isValid 72 = .ok (.iload_n 2, 1) := by decide +kernel
theorem dX1_isValid_73 : decode cX1_isValid 73 = .ok (.iconst 2, 1) := by decide +kernel
theorem dX1_isValid_74 : decode cX1_isValid 74 = .ok (.iadd, 1) := by decide +kernel
theorem dX1_isValid_75 : decode cX1_isValid 75 = .ok (.iload 4, 2) := by decide +kernel
theorem dX1_isValid_77 : decode cX1_isValid 77 = .ok (.iadd, 1) := by decide +kernel
theorem dX1_isValid_78 : decode cX1_isValid 78 = .ok (.bipush 14, 2) := by decide +kernel
theorem dX1_isValid_80 : decode cX1_isValid 80 = .ok (.iload 4, 2) := by decide +kernel
theorem dX1_isValid_82 : decode cX1_isValid 82 = .ok (.isub, 1) := by decide +kernel
theorem dX1_isValid_83 : decode cX1_isValid 83 = .ok (.invokevirtual 111, 3) := by decide +kernel
theorem dX1_isValid_86 : decode cX1_isValid 86 = .ok (.ifCond .eq 30, 3) := by decide +kernel
theorem dX1_isValid_89 : decode cX1_isValid 89 = .ok (.aload_n 0, 1) := by decide +kernel
theorem dX1_isValid_90 : decode cX1_isValid 90 = .ok (.getfield 22, 3) := by decide +kernel
theorem dX1_isValid_93 : decode cX1_isValid 93 = .ok (.invokevirtual 114, 3) := by decide +kernel
theorem dX1_isValid_96 : decode cX1_isValid 96 = .ok (.ifCond .eq 20, 3) := by decide +kernel
theorem dX1_isValid_99 : decode cX1_isValid 99 = .ok (.aload_n 0, 1) := by decide +kernel
theorem dX1_isValid_100 : decode cX1_isValid 100 = .ok (.iload_n 1, 1) := by decide +kernel
theorem dX1_isValid_101 : decode cX1_isValid 101 = .ok (.aload_n 0, 1) := by decide +kernel
theorem dX1_isValid_102 : decode cX1_isValid 102 = .ok (.getfield 22, 3) := by decide +kernel
theorem dX1_isValid_105 : decode cX1_isValid 105 = .ok (.invokevirtual 118, 3) := by decide +kernel
theorem dX1_isValid_108 : decode cX1_isValid 108 = .ok (.iload_n 2, 1) := by decide +kernel
theorem dX1_isValid_109 : decode cX1_isValid 109 = .ok (.if_icmp .ne 7, 3) := by decide +kernel
theorem dX1_isValid_112 : decode cX1_isValid 112 = .ok (.iconst 1, 1) := by decide +kernel
theorem dX1_isValid_113 : decode cX1_isValid 113 = .ok (.goto 4, 3) := by decide +kernel
theorem dX1_isValid_116 : decode cX1_isValid 116 = .ok (.iconst 0, 1) := by decide +kernel
theorem dX1_isValid_117 : decode cX1_isValid 117 = .ok (.ireturn, 1) := by decide +kernel
theorem dX1_wipeEntriesOf_0 : decode cX1_wipeEntriesOf 0 = .ok (.iconst 1, 1) := by decide +kernel
theorem dX1_wipeEntriesOf_1 : decode cX1_wipeEntriesOf 1 = .ok (.istore_n 2, 1) := by decide +kernel
theorem dX1_wipeEntriesOf_2 : decode cX1_wipeEntriesOf 2 = .ok (.iload_n 2, 1) := by decide +kernel
theorem dX1_wipeEntriesOf_3 : decode cX1_wipeEntriesOf 3 = .ok (.bipush 32, 2) := by decide +kernel
theorem dX1_wipeEntriesOf_5 : decode cX1_wipeEntriesOf 5 = .ok (.if_icmp .ge 74, 3) := by decide +kernel
theorem dX1_wipeEntriesOf_8 : decode cX1_wipeEntriesOf 8 = .ok (.aload_n 0, 1) := by decide +kernel
theorem dX1_wipeEntriesOf_9 : decode cX1_wipeEntriesOf 9 = .ok (.getfield 15, 3) := by decide +kernel
theorem dX1_wipeEntriesOf_12 : decode cX1_wipeEntriesOf 12 = .ok (.iload_n 2, 1) := by decide +kernel
theorem dX1_wipeEntriesOf_13 : decode cX1_wipeEntriesOf 13 = .ok (.invokevirtual 80, 3) := by decide +kernel
theorem dX1_wipeEntriesOf_16 : decode cX1_wipeEntriesOf 16 = .ok (.iconst 2, 1) := by decide +kernel
theorem dX1_wipeEntriesOf_17 : decode cX1_wipeEntriesOf 17 = .ok (.if_icmp .ne 11, 3) := by decide +kernel
theorem dX1_wipeEntriesOf_20 : decode cX1_wipeEntriesOf 20 = .ok (.aload_n 0, 1) := by decide +kernel
theorem dX1_wipeEntriesOf_21 : decode cX1_wipeEntriesOf 21 = .ok (.iload_n 2, 1) := by decide +kernel
theorem dX1_wipeEntriesOf_22 : decode cX1_wipeEntriesOf 22 = .ok (.invokevirtual 45, 3) := by decide +kernel
theorem dX1_wipeEntriesOf_25 : decode cX1_wipeEntriesOf 25 = .ok (.goto 4, 3) := by decide +kernel
theorem dX1_wipeEntriesOf_28 : decode cX1_wipeEntriesOf 28 = .ok (.iconst 0, 1) := by decide +kernel
theorem dX1_wipeEntriesOf_29 : decode cX1_wipeEntriesOf 29 = .ok (.istore_n 3, 1) := by decide +kernel
theorem dX1_wipeEntriesOf_30 : decode cX1_wipeEntriesOf 30 = .ok (.iconst 2, 1) := by decide +kernel
theorem dX1_wipeEntriesOf_31 : decode cX1_wipeEntriesOf 31 = .ok (.istore 4, 2) := by decide +kernel
theorem dX1_wipeEntriesOf_33 : decode cX1_wipeEntriesOf 33 = .ok (.iload 4, 2) := by decide +kernel
theorem dX1_wipeEntriesOf_35 : decode cX1_wipeEntriesOf 35 = .ok (.iload_n 3, 1) := by decide +kernel
theorem dX1_wipeEntriesOf_36 : decode cX1_wipeEntriesOf 36 = .ok (.if_icmp .ge 37, 3) := by decide +kernel
theorem dX1_wipeEntriesOf_39 : decode cX1_wipeEntriesOf 39 = .ok (.aload_n 0, 1) := by decide +kernel
theorem dX1_wipeEntriesOf_40 : decode cX1_wipeEntriesOf 40 = .ok (.iload_n 2, 1) := by decide +kernel
theorem dX1_wipeEntriesOf_41 : decode cX1_wipeEntriesOf 41 = .ok (.iload 4, 2) := by decide +kernel
theorem dX1_wipeEntriesOf_43 : decode cX1_wipeEntriesOf 43 = .ok (.invokevirtual 48, 3) := by decide +kernel
theorem dX1_wipeEntriesOf_46 : decode cX1_wipeEntriesOf 46 = .ok (.istore 5, 2) := by decide +kernel
theorem dX1_wipeEntriesOf_48 : decode cX1_wipeEntriesOf 48 = .ok (.aload_n 0, 1) := by decide +kernel
theorem dX1_wipeEntriesOf_49 : decode cX1_wipeEntriesOf 49 = .ok (.getfield 9, 3) := by decide +kernel
theorem dX1_wipeEntriesOf_52 : decode cX1_wipeEntriesOf 52 = .ok (.iload 5, 2) := by decide +kernel
theorem dX1_wipeEntriesOf_54 : decode cX1_wipeEntriesOf 54 = .ok (.invokevirtual 55, 3) := by decide +kernel
theorem dX1_wipeEntriesOf_57 : decode cX1_wipeEntriesOf 57 = .ok (.iload_n 1, 1) := by decide +kernel
theorem dX1_wipeEntriesOf_58 : decode cX1_wipeEntriesOf 58 = .ok (.if_icmp .ne 9, 3) := by decide +kernel
theorem dX1_wipeEntriesOf_61 : decode cX1_wipeEntriesOf 61 = .ok (.aload_n 0, 1) := by decide +kernel
theorem dX1_wipeEntriesOf_62 : decode cX1_wipeEntriesOf 62 = .ok (.iload 5, 2) := by decide +kernel
theorem dX1_wipeEntriesOf_64 : decode cX1_wipeEntriesOf 64 = .ok (.invokevirtual 104, 3) := by decide +kernel
theorem dX1_wipeEntriesOf_67 : decode cX1_wipeEntriesOf 67 = .ok (.iinc 4 1, 3) := by decide +kernel
theorem dX1_wipeEntriesOf_70 : decode cX1_wipeEntriesOf 70 = .ok (.goto (-37), 3) := by decide +kernel
theorem dX1_wipeEntriesOf_73 : decode cX1_wipeEntriesOf 73 = .ok (.iinc 2 1, 3) := by decide +kernel
theorem dX1_wipeEntriesOf_76 : decode cX1_wipeEntriesOf 76 = .ok (.goto (-74), 3) := by decide +kernel
theorem dX1_wipeEntriesOf_79 : decode cX1_wipeEntriesOf 79 = .ok (.return_, 1) := by decide +kernel
theorem dX1_countLinks_0 : decode cX1_countLinks 0 = .ok (.iconst 1, 1) := by decide +kernel
theorem dX1_countLinks_1 : decode cX1_countLinks 1 = .ok (.istore_n 1, 1) := by decide +kernel
theorem dX1_countLinks_2 : decode cX1_countLinks 2 = .ok (.iload_n 1, 1) := by decide +kernel
theorem dX1_countLinks_3 : decode cX1_countLinks 3 = .ok (.bipush 32, 2) := by decide +kernel
theorem dX1_countLinks_5 : decode cX1_countLinks 5 = .ok (.if_icmp .ge 34, 3) := by decide +kernel
theorem dX1_countLinks_8 : decode cX1_countLinks 8 = .ok (.aload_n 0, 1) := by decide +kernel
theorem dX1_countLinks_9 : decode cX1_countLinks 9 = .ok (.getfield 15, 3) := by decide +kernel
theorem dX1_countLinks_12 : decode cX1_countLinks 12 = .ok (.iload_n 1, 1) := by decide +kernel
theorem dX1_countLinks_13 : decode cX1_countLinks 13 = .ok (.aload_n 0, 1) := by decide +kernel
theorem dX1_countLinks_14 : decode cX1_countLinks 14 = .ok (.getfield 15, 3) := by decide +kernel
theorem dX1_countLinks_17 : decode cX1_countLinks 17 = .ok (.iload_n 1, 1) := by decide +kernel
theorem dX1_countLinks_18 : decode cX1_countLinks 18 = .ok (.invokevirtual 80, 3) := by decide +kernel
theorem dX1_countLinks_21 : decode cX1_countLinks 21 = .ok (.iconst 2, 1) := by decide +kernel
theorem dX1_countLinks_22 : decode cX1_countLinks 22 = .ok (.if_icmp .ne 7, 3) := by decide +kernel
theorem dX1_countLinks_25 : decode cX1_countLinks 25 = .ok (.iconst 2, 1) := by decide +kernel
theorem dX1_countLinks_26 : decode cX1_countLinks 26 = .ok (.goto 4, 3) := by decide +kernel
theorem dX1_countLinks_29 : decode cX1_countLinks 29 = .ok (.iconst 0, 1) := by decide +kernel
theorem dX1_countLinks_30 : decode cX1_countLinks 30 = .ok (.invokevirtual 122, 3) := by decide +kernel
theorem dX1_countLinks_33 : decode cX1_countLinks 33 = .ok (.iinc 1 1, 3) := by decide +kernel
theorem dX1_countLinks_36 : decode cX1_countLinks 36 = .ok (.goto (-34), 3) := by decide +kernel
theorem dX1_countLinks_39 : decode cX1_countLinks 39 = .ok (.iconst 1, 1) := by decide +kernel
theorem dX1_countLinks_40 : decode cX1_countLinks 40 = .ok (.istore_n 1, 1) := by decide +kernel
theorem dX1_countLinks_41 : decode cX1_countLinks 41 = .ok (.iload_n 1, 1) := by decide +kernel
theorem dX1_countLinks_42 : decode cX1_countLinks 42 = .ok (.bipush 32, 2) := by decide +kernel
theorem dX1_countLinks_44 : decode cX1_countLinks 44 = .ok (.if_icmp .ge 62, 3) := by decide +kernel
theorem dX1_countLinks_47 : decode cX1_countLinks 47 = .ok (.aload_n 0, 1) := by decide +kernel
theorem dX1_countLinks_48 : decode cX1_countLinks 48 = .ok (.getfield 15, 3) := by decide +kernel
theorem dX1_countLinks_51 : decode cX1_countLinks 51 = .ok (.iload_n 1, 1) := by decide +kernel
theorem dX1_countLinks_52 : decode cX1_countLinks 52 = .ok (.invokevirtual 80, 3) := by decide +kernel
theorem dX1_countLinks_55 : decode cX1_countLinks 55 = .ok (.iconst 2, 1) := by decide +kernel
theorem dX1_countLinks_56 : decode cX1_countLinks 56 = .ok (.if_icmp .ne 11, 3) := by decide +kernel
theorem dX1_countLinks_59 : decode cX1_countLinks 59 = .ok (.aload_n 0, 1) := by decide +kernel
theorem dX1_countLinks_60 : decode cX1_countLinks 60 = .ok (.iload_n 1, 1) := by decide +kernel
theorem dX1_countLinks_61 : decode cX1_countLinks 61 = .ok (.invokevirtual 45, 3) := by decide +kernel
theorem dX1_countLinks_64 : decode cX1_countLinks 64 = .ok (.goto 4, 3) := by decide +kernel
theorem dX1_countLinks_67 : decode cX1_countLinks 67 = .ok (.iconst 0, 1) := by decide +kernel
theorem dX1_countLinks_68 : decode cX1_countLinks 68 = .ok (.istore_n 2, 1) := by decide +kernel
theorem dX1_countLinks_69 : decode cX1_countLinks 69 = .ok (.iconst 2, 1) := by decide +kernel
theorem dX1_countLinks_70 : decode cX1_countLinks 70 = .ok (.istore_n 3, 1) := by decide +kernel
theorem dX1_countLinks_71 : decode cX1_countLinks 71 = .ok (.iload_n 3, 1) := by decide +kernel
theorem dX1_countLinks_72 : decode cX1_countLinks 72 = .ok (.iload_n 2, 1) := by decide +kernel
theorem dX1_countLinks_73 : decode cX1_countLinks 73 = .ok (.if_icmp .ge 27, 3) := by decide +kernel
theorem dX1_countLinks_76 : decode cX1_countLinks 76 = .ok (.aload_n 0, 1) := by decide +kernel
theorem dX1_countLinks_77 : decode cX1_countLinks 77 = .ok (.iload_n 1, 1) := by decide +kernel
theorem dX1_countLinks_78 : decode cX1_countLinks 78 = .ok (.aload_n 0, 1) := by decide +kernel
theorem dX1_countLinks_79 : decode cX1_countLinks 79 = .ok (.getfield 9, 3) := by decide +kernel
theorem dX1_countLinks_82 : decode cX1_countLinks 82 = .ok (.aload_n 0, 1) := by decide +kernel
theorem dX1_countLinks_83 : decode cX1_countLinks 83 = .ok (.iload_n 1, 1) := by decide +kernel
theorem dX1_countLinks_84 : decode cX1_countLinks 84 = .ok (.iload_n 3, 1) := by decide +kernel
theorem dX1_countLinks_85 : decode cX1_countLinks 85 = .ok (.invokevirtual 48, 3) := by decide +kernel
theorem dX1_countLinks_88 : decode cX1_countLinks 88 = .ok (.invokevirtual 55, 3) := by decide +kernel
theorem dX1_countLinks_91 : decode cX1_countLinks 91 = .ok (.invokevirtual 125, 3) := by decide +kernel
theorem dX1_countLinks_94 : decode cX1_countLinks 94 = .ok (.iinc 3 1, 3) := by decide +kernel
theorem dX1_countLinks_97 : decode cX1_countLinks 97 = .ok (.goto (-26), 3) := by decide +kernel
theorem dX1_countLinks_100 : decode cX1_countLinks 100 = .ok (.iinc 1 1, 3) := by decide +kernel
theorem dX1_countLinks_103 : decode cX1_countLinks 103 = .ok (.goto (-62), 3) := by decide +kernel
theorem dX1_countLinks_106 : decode cX1_countLinks 106 = .ok (.return_, 1) := by decide +kernel
theorem dX1_countLink_0 : decode cX1_countLink 0 = .ok (.aload_n 0, 1) := by decide +kernel
theorem dX1_countLink_1 : decode cX1_countLink 1 = .ok (.getfield 15, 3) := by decide +kernel
theorem dX1_countLink_4 : decode cX1_countLink 4 = .ok (.iload_n 2, 1) := by decide +kernel
theorem dX1_countLink_5 : decode cX1_countLink 5 = .ok (.invokevirtual 80, 3) := by decide +kernel
theorem dX1_countLink_8 : decode cX1_countLink 8 = .ok (.istore_n 3, 1) := by decide +kernel
theorem dX1_countLink_9 : decode cX1_countLink 9 = .ok (.iload_n 3, 1) := by decide +kernel
theorem dX1_countLink_10 : decode cX1_countLink 10 = .ok (.ifCond .eq 35, 3) := by decide +kernel
theorem dX1_countLink_13 : decode cX1_countLink 13 = .ok (.iload_n 3, 1) := by decide +kernel
theorem dX1_countLink_14 : decode cX1_countLink 14 = .ok (.iconst 2, 1) := by decide +kernel
theorem dX1_countLink_15 : decode cX1_countLink 15 = .ok (.if_icmp .ne 7, 3) := by decide +kernel
theorem dX1_countLink_18 : decode cX1_countLink 18 = .ok (.iload_n 1, 1) := by decide +kernel
theorem dX1_countLink_19 : decode cX1_countLink 19 = .ok (.goto 4, 3) := by decide +kernel
theorem dX1_countLink_22 : decode cX1_countLink 22 = .ok (.iload_n 2, 1) := by decide +kernel
theorem dX1_countLink_23 : decode cX1_countLink 23 = .ok (.istore 4, 2) := by decide +kernel
theorem dX1_countLink_25 : decode cX1_countLink 25 = .ok (.aload_n 0, 1) := by decide +kernel
theorem dX1_countLink_26 : decode cX1_countLink 26 = .ok (.getfield 15, 3) := by decide +kernel
theorem dX1_countLink_29 : decode cX1_countLink 29 = .ok (.iload 4, 2) := by decide +kernel
theorem dX1_countLink_31 : decode cX1_countLink 31 = .ok (.aload_n 0, 1) := by decide +kernel
theorem dX1_countLink_32 : decode cX1_countLink 32 = .ok (.getfield 15, 3) := by decide +kernel
theorem dX1_countLink_35 : decode cX1_countLink 35 = .ok (.iload 4, 2) := by decide +kernel
theorem dX1_countLink_37 : decode cX1_countLink 37 = .ok (.invokevirtual 128, 3) := by decide +kernel
theorem dX1_countLink_40 : decode cX1_countLink 40 = .ok (.iconst 1, 1) := by decide +kernel
theorem dX1_countLink_41 : decode cX1_countLink 41 = .ok (.iadd, 1) := by decide +kernel
theorem dX1_countLink_42 : decode cX1_countLink 42 = .ok (.invokevirtual 122, 3) := by decide +kernel
theorem dX1_countLink_45 : decode cX1_countLink 45 = .ok (.return_, 1) := by decide +kernel
theorem dX2_init_0 : decode cX2_init 0 = .ok (.aload_n 0, 1) := by decide +kernel
theorem dX2_init_1 : decode cX2_init 1 = .ok (.invokespecial 3, 3) := by decide +kernel
theorem dX2_init_4 : decode cX2_init 4 = .ok (.aload_n 0, 1) := by decide +kernel
theorem dX2_init_5 : decode cX2_init 5 = .ok (.sipush 4096, 3) := by decide +kernel
theorem dX2_init_8 : decode cX2_init 8 = .ok (.newarray .int, 2) := by decide +kernel
theorem dX2_init_10 : decode cX2_init 10 = .ok (.putfield 9, 3) := by decide +kernel
theorem dX2_init_13 : decode cX2_init 13 = .ok (.return_, 1) := by decide +kernel
theorem dX2_at_0 : decode cX2_at 0 = .ok (.iload_n 1, 1) := by decide +kernel
theorem dX2_at_1 : decode cX2_at 1 = .ok (.ifCond .lt 19, 3) := by decide +kernel
theorem dX2_at_4 : decode cX2_at 4 = .ok (.iload_n 1, 1) := by decide +kernel
theorem dX2_at_5 : decode cX2_at 5 = .ok (.sipush 4096, 3) := by decide +kernel
theorem dX2_at_8 : decode cX2_at 8 = .ok (.if_icmp .ge 12, 3) := by decide +kernel
theorem dX2_at_11 : decode cX2_at 11 = .ok (.aload_n 0, 1) := by decide +kernel
theorem dX2_at_12 : decode cX2_at 12 = .ok (.getfield 9, 3) := by decide +kernel
theorem dX2_at_15 : decode cX2_at 15 = .ok (.iload_n 1, 1) := by decide +kernel
theorem dX2_at_16 : decode cX2_at 16 = .ok (.iaload, 1) := by decide +kernel
theorem dX2_at_17 : decode cX2_at 17 = .ok (.goto 4, 3) := by decide +kernel
theorem dX2_at_20 : decode cX2_at 20 = .ok (.iconst 0, 1) := by decide +kernel
theorem dX2_at_21 : decode cX2_at 21 = .ok (.ireturn, 1) := by decide +kernel
theorem dX2_set_0 : decode cX2_set 0 = .ok (.iload_n 1, 1) := by decide +kernel
theorem dX2_set_1 : decode cX2_set 1 = .ok (.ifCond .lt 21, 3) := by decide +kernel
theorem dX2_set_4 : decode cX2_set 4 = .ok (.iload_n 1, 1) := by decide +kernel
theorem dX2_set_5 : decode cX2_set 5 = .ok (.sipush 4096, 3) := by decide +kernel
theorem dX2_set_8 : decode cX2_set 8 = .ok (.if_icmp .ge 14, 3) := by decide +kernel
theorem dX2_set_11 : decode cX2_set 11 = .ok (.aload_n 0, 1) := by decide +kernel
theorem dX2_set_12 : decode cX2_set 12 = .ok (.getfield 9, 3) := by decide +kernel
theorem dX2_set_15 : decode cX2_set 15 = .ok (.iload_n 1, 1) := by decide +kernel
theorem dX2_set_16 : decode cX2_set 16 = .ok (.iload_n 2, 1) := by decide +kernel
theorem dX2_set_17 : decode cX2_set 17 = .ok (.sipush 255, 3) := by decide +kernel
theorem dX2_set_20 : decode cX2_set 20 = .ok (.iand, 1) := by decide +kernel
theorem dX2_set_21 : decode cX2_set 21 = .ok (.iastore, 1) := by decide +kernel
theorem dX2_set_22 : decode cX2_set 22 = .ok (.return_, 1) := by decide +kernel
theorem dX2_pairAt_0 : decode cX2_pairAt 0 = .ok (.iload_n 1, 1) := by decide +kernel
theorem dX2_pairAt_1 : decode cX2_pairAt 1 = .ok (.ifCond .lt 32, 3) := by decide +kernel
theorem dX2_pairAt_4 : decode cX2_pairAt 4 = .ok (.iload_n 1, 1) := by decide +kernel
theorem dX2_pairAt_5 : decode cX2_pairAt 5 = .ok (.sipush 4095, 3) := by decide +kernel
theorem dX2_pairAt_8 : decode cX2_pairAt 8 = .ok (.if_icmp .ge 25, 3) := by decide +kernel
theorem dX2_pairAt_11 : decode cX2_pairAt 11 = .ok (.aload_n 0, 1) := by decide +kernel
theorem dX2_pairAt_12 : decode cX2_pairAt 12 = .ok (.getfield 9, 3) := by decide +kernel
theorem dX2_pairAt_15 : decode cX2_pairAt 15 = .ok (.iload_n 1, 1) := by decide +kernel
theorem dX2_pairAt_16 : decode cX2_pairAt 16 = .ok (.iaload, 1) := by decide +kernel
theorem dX2_pairAt_17 : decode cX2_pairAt 17 = .ok (.sipush 256, 3) := by decide +kernel
theorem dX2_pairAt_20 : decode cX2_pairAt 20 = .ok (.imul, 1) := by decide +kernel
theorem dX2_pairAt_21 : decode cX2_pairAt 21 = .ok (.aload_n 0, 1) := by decide +kernel
theorem dX2_pairAt_22 : decode cX2_pairAt 22 = .ok (.getfield 9, 3) := by decide +kernel
theorem dX2_pairAt_25 : decode cX2_pairAt 25 = .ok (.iload_n 1, 1) := by decide +kernel
theorem dX2_pairAt_26 : decode cX2_pairAt 26 = .ok (.iconst 1, 1) := by decide +kernel
theorem dX2_pairAt_27 : decode cX2_pairAt 27 = .ok (.iadd, 1) := by decide +kernel
theorem dX2_pairAt_28 : decode cX2_pairAt 28 = .ok (.iaload, 1) := by decide +kernel
theorem dX2_pairAt_29 : decode cX2_pairAt 29 = .ok (.iadd, 1) := by decide +kernel
theorem dX2_pairAt_30 : decode cX2_pairAt 30 = .ok (.goto 4, 3) := by decide +kernel
theorem dX2_pairAt_33 : decode cX2_pairAt 33 = .ok (.iconst 0, 1) := by decide +kernel
theorem dX2_pairAt_34 : decode cX2_pairAt 34 = .ok (.ireturn, 1) := by decide +kernel
theorem dX2_setPair_0 : decode cX2_setPair 0 = .ok (.iload_n 1, 1) := by decide +kernel
theorem dX2_setPair_1 : decode cX2_setPair 1 = .ok (.ifCond .lt 37, 3) := by decide +kernel
theorem dX2_setPair_4 : decode cX2_setPair 4 = .ok (.iload_n 1, 1) := by decide +kernel
theorem dX2_setPair_5 : decode cX2_setPair 5 = .ok (.sipush 4095, 3) := by decide +kernel
theorem dX2_setPair_8 : decode cX2_setPair 8 = .ok (.if_icmp .ge 30, 3) := by decide +kernel
theorem dX2_setPair_11 : decode cX2_setPair 11 = .ok (.aload_n 0, 1) := by decide +kernel
theorem dX2_setPair_12 : decode cX2_setPair 12 = .ok (.getfield 9, 3) := by decide +kernel
theorem dX2_setPair_15 : decode cX2_setPair 15 = .ok (.iload_n 1, 1) := by decide +kernel
theorem dX2_setPair_16 : decode cX2_setPair 16 = .ok (.iload_n 2, 1) := by decide +kernel
theorem dX2_setPair_17 : decode cX2_setPair 17 = .ok (.bipush 8, 2) := by decide +kernel
theorem dX2_setPair_19 : decode cX2_setPair 19 = .ok (.ishr, 1) := by decide +kernel
theorem dX2_setPair_20 : decode cX2_setPair 20 = .ok (.sipush 255, 3) := by decide +kernel
theorem dX2_setPair_23 : decode cX2_setPair 23 = .ok (.iand, 1) := by decide +kernel
theorem dX2_setPair_24 : decode cX2_setPair 24 = .ok (.iastore, 1) := by decide +kernel
theorem dX2_setPair_25 : decode cX2_setPair 25 = .ok (.aload_n 0, 1) := by decide +kernel
theorem dX2_setPair_26 : decode cX2_setPair 26 = .ok (.getfield 9, 3) := by decide +kernel
theorem dX2_setPair_29 : decode cX2_setPair 29 = .ok (.iload_n 1, 1) := by decide +kernel
theorem dX2_setPair_30 : decode cX2_setPair 30 = .ok (.iconst 1, 1) := by decide +kernel
theorem dX2_setPair_31 : decode cX2_setPair 31 = .ok (.iadd, 1) := by decide +kernel
theorem dX2_setPair_32 : decode cX2_setPair 32 = .ok (.iload_n 2, 1) := by decide +kernel
theorem dX2_setPair_33 : decode cX2_setPair 33 = .ok (.sipush 255, 3) := by decide +kernel
theorem dX2_setPair_36 : decode cX2_setPair 36 = .ok (.iand, 1) := by decide +kernel
theorem dX2_setPair_37 : decode cX2_setPair 37 = .ok (.iastore, 1) := by decide +kernel
theorem dX2_setPair_38 : decode cX2_setPair 38 = .ok (.return_, 1) := by decide +kernel
theorem dX2_hasText_0 : decode cX2_hasText 0 = .ok (.iconst 0, 1) := by decide +kernel
theorem dX2_hasText_1 : decode cX2_hasText 1 = .ok (.istore_n 3, 1) := by decide +kernel
theorem dX2_hasText_2 : decode cX2_hasText 2 = .ok (.iload_n 3, 1) := by decide +kernel
theorem dX2_hasText_3 : decode cX2_hasText 3 = .ok (.aload_n 2, 1) := by decide +kernel
theorem dX2_hasText_4 : decode cX2_hasText 4 = .ok (.invokevirtual 15, 3) := by decide +kernel
theorem dX2_hasText_7 : decode cX2_hasText 7 = .ok (.if_icmp .ge 26, 3) := by decide +kernel
theorem dX2_hasText_10 : decode cX2_hasText 10 = .ok (.aload_n 0, 1) := by decide +kernel
theorem dX2_hasText_11 : decode cX2_hasText 11 = .ok (.iload_n 1, 1) := by decide +kernel
theorem dX2_hasText_12 : decode cX2_hasText 12 = .ok (.iload_n 3, 1) := by decide +kernel
theorem dX2_hasText_13 : decode cX2_hasText 13 = .ok (.iadd, 1) := by decide +kernel
theorem dX2_hasText_14 : decode cX2_hasText 14 = .ok (.invokevirtual 21, 3) := by decide +kernel
theorem dX2_hasText_17 : decode cX2_hasText 17 = .ok (.aload_n 2, 1) := by decide +kernel
theorem dX2_hasText_18 : decode cX2_hasText 18 = .ok (.iload_n 3, 1) := by decide +kernel
theorem dX2_hasText_19 : decode cX2_hasText 19 = .ok (.invokevirtual 25, 3) := by decide +kernel
theorem dX2_hasText_22 : decode cX2_hasText 22 = .ok (.if_icmp .eq 5, 3) := by decide +kernel
theorem dX2_hasText_25 : decode cX2_hasText 25 = .ok (.iconst 0, 1) := by decide +kernel
theorem dX2_hasText_26 : decode cX2_hasText 26 = .ok (.ireturn, 1) := by decide +kernel
theorem dX2_hasText_27 : decode cX2_hasText 27 = .ok (.iinc 3 1, 3) := by decide +kernel
theorem dX2_hasText_30 : decode cX2_hasText 30 = .ok (.goto (-28), 3) := by decide +kernel
theorem dX2_hasText_33 : decode cX2_hasText 33 = .ok (.iconst 1, 1) := by decide +kernel
theorem dX2_hasText_34 : decode cX2_hasText 34 = .ok (.ireturn, 1) := by decide +kernel
theorem dX2_setText_0 : decode cX2_setText 0 = .ok (.iconst 0, 1) := by decide +kernel
theorem dX2_setText_1 : decode cX2_setText 1 = .ok (.istore_n 3, 1) := by decide +kernel
theorem dX2_setText_2 : decode cX2_setText 2 = .ok (.iload_n 3, 1) := by decide +kernel
theorem dX2_setText_3 : decode cX2_setText 3 = .ok (.aload_n 2, 1) := by decide +kernel
theorem dX2_setText_4 : decode cX2_setText 4 = .ok (.invokevirtual 15, 3) := by decide +kernel
theorem dX2_setText_7 : decode cX2_setText 7 = .ok (.if_icmp .ge 21, 3) := by decide +kernel
theorem dX2_setText_10 : decode cX2_setText 10 = .ok (.aload_n 0, 1) := by decide +kernel
theorem dX2_setText_11 : decode cX2_setText 11 = .ok (.iload_n 1, 1) := by decide +kernel
theorem dX2_setText_12 : decode cX2_setText 12 = .ok (.iload_n 3, 1) := by decide +kernel
theorem dX2_setText_13 : decode cX2_setText 13 = .ok (.iadd, 1) := by decide +kernel
theorem dX2_setText_14 : decode cX2_setText 14 = .ok (.aload_n 2, 1) := by decide +kernel
theorem dX2_setText_15 : decode cX2_setText 15 = .ok (.iload_n 3, 1) := by decide +kernel
theorem dX2_setText_16 : decode cX2_setText 16 = .ok (.invokevirtual 25, 3) := by decide +kernel
theorem dX2_setText_19 : decode cX2_setText 19 = .ok (.invokevirtual 29, 3) := by decide +kernel
theorem dX2_setText_22 : decode cX2_setText 22 = .ok (.iinc 3 1, 3) := by decide +kernel
theorem dX2_setText_25 : decode cX2_setText 25 = .ok (.goto (-23), 3) := by decide +kernel
theorem dX2_setText_28 : decode cX2_setText 28 = .ok (.return_, 1) := by decide +kernel
theorem dX2_wipe_0 : decode cX2_wipe 0 = .ok (.iload_n 1, 1) := by decide +kernel
theorem dX2_wipe_1 : decode cX2_wipe 1 = .ok (.iload_n 2, 1) := by decide +kernel
theorem dX2_wipe_2 : decode cX2_wipe 2 = .ok (.invokestatic 33, 3) := by decide +kernel
theorem dX2_wipe_5 : decode cX2_wipe 5 = .ok (.ifCond .eq 15, 3) := by decide +kernel
theorem dX2_wipe_8 : decode cX2_wipe 8 = .ok (.aload_n 0, 1) := by decide +kernel
theorem dX2_wipe_9 : decode cX2_wipe 9 = .ok (.getfield 9, 3) := by decide +kernel
theorem dX2_wipe_12 : decode cX2_wipe 12 = .ok (.iload_n 1, 1) := by decide +kernel
theorem dX2_wipe_13 : decode cX2_wipe 13 = .ok (.iload_n 1, 1) := by decide +kernel
theorem dX2_wipe_14 : decode cX2_wipe 14 = .ok (.iload_n 2, 1) := by decide +kernel
theorem dX2_wipe_15 : decode cX2_wipe 15 = .ok (.iadd, 1) := by decide +kernel
theorem dX2_wipe_16 : decode cX2_wipe 16 = .ok (.iconst 0, 1) := by decide +kernel
theorem dX2_wipe_17 : decode cX2_wipe 17 = .ok (.invokestatic 37, 3) := by decide +kernel
theorem dX2_wipe_20 : decode cX2_wipe 20 = .ok (.return_, 1) := by decide +kernel
theorem dX2_isBlank_0 : decode cX2_isBlank 0 = .ok (.iload_n 1, 1) := by decide +kernel
theorem dX2_isBlank_1 : decode cX2_isBlank 1 = .ok (.iload_n 2, 1) := by decide +kernel
theorem dX2_isBlank_2 : decode cX2_isBlank 2 = .ok (.invokestatic 33, 3) := by decide +kernel
theorem dX2_isBlank_5 : decode cX2_isBlank 5 = .ok (.ifCond .ne 5, 3) := by decide +kernel
theorem dX2_isBlank_8 : decode cX2_isBlank 8 = .ok (.iconst 1, 1) := by decide +kernel
theorem dX2_isBlank_9 : decode cX2_isBlank 9 = .ok (.ireturn, 1) := by decide +kernel
theorem dX2_isBlank_10 : decode cX2_isBlank 10 = .ok (.iload_n 1, 1) := by decide +kernel
theorem dX2_isBlank_11 : decode cX2_isBlank 11 = .ok (.istore_n 3, 1) := by decide +kernel
theorem dX2_isBlank_12 : decode cX2_isBlank 12 = .ok (.iload_n 3, 1) := by decide +kernel
theorem dX2_isBlank_13 : decode cX2_isBlank 13 = .ok (.iload_n 1, 1) := by decide +kernel
theorem dX2_isBlank_14 : decode cX2_isBlank 14 = .ok (.iload_n 2, 1) := by decide +kernel
theorem dX2_isBlank_15 : decode cX2_isBlank 15 = .ok (.iadd, 1) := by decide +kernel
theorem dX2_isBlank_16 : decode cX2_isBlank 16 = .ok (.if_icmp .ge 20, 3) := by decide +kernel
theorem dX2_isBlank_19 : decode cX2_isBlank 19 = .ok (.aload_n 0, 1) := by decide +kernel
theorem dX2_isBlank_20 : decode cX2_isBlank 20 = .ok (.getfield 9, 3) := by decide +kernel
theorem dX2_isBlank_23 : decode cX2_isBlank 23 = .ok (.iload_n 3, 1) := by decide +kernel
theorem dX2_isBlank_24 : decode cX2_isBlank 24 = .ok (.iaload, 1) := by decide +kernel
theorem dX2_isBlank_25 : decode cX2_isBlank 25 = .ok (.ifCond .eq 5, 3) := by decide +kernel
theorem dX2_isBlank_28 : decode cX2_isBlank 28 = .ok (.iconst 0, 1) := by decide +kernel
theorem dX2_isBlank_29 : decode cX2_isBlank 29 = .ok (.ireturn, 1) := by decide +kernel
theorem dX2_isBlank_30 : decode cX2_isBlank 30 = .ok (.iinc 3 1, 3) := by decide +kernel
theorem dX2_isBlank_33 : decode cX2_isBlank 33 = .ok (.goto (-21), 3) := by decide +kernel
theorem dX2_isBlank_36 : decode cX2_isBlank 36 = .ok (.iconst 1, 1) := by decide +kernel
theorem dX2_isBlank_37 : decode cX2_isBlank 37 = .ok (.ireturn, 1) := by decide +kernel
theorem dX2_sum_0 : decode cX2_sum 0 = .ok (.iconst 0, 1) := by decide +kernel
theorem dX2_sum_1 : decode cX2_sum 1 = .ok (.istore_n 3, 1) := by decide +kernel
theorem dX2_sum_2 : decode cX2_sum 2 = .ok (.iload_n 1, 1) := by decide +kernel
theorem dX2_sum_3 : decode cX2_sum 3 = .ok (.iload_n 2, 1) := by decide +kernel
theorem dX2_sum_4 : decode cX2_sum 4 = .ok (.invokestatic 33, 3) := by decide +kernel
theorem dX2_sum_7 : decode cX2_sum 7 = .ok (.ifCond .eq 30, 3) := by decide +kernel
theorem dX2_sum_10 : decode cX2_sum 10 = .ok (.iload_n 1, 1) := by decide +kernel
theorem dX2_sum_11 : decode cX2_sum 11 = .ok (.istore 4, 2) := by decide +kernel
theorem dX2_sum_13 : decode cX2_sum 13 = .ok (.iload 4, 2) := by decide +kernel
theorem dX2_sum_15 : decode cX2_sum 15 = .ok (.iload_n 1, 1) := by decide +kernel
theorem dX2_sum_16 : decode cX2_sum 16 = .ok (.iload_n 2, 1) := by decide +kernel
theorem dX2_sum_17 : decode cX2_sum 17 = .ok (.iadd, 1) := by decide +kernel
theorem dX2_sum_18 : decode cX2_sum 18 = .ok (.if_icmp .ge 19, 3) := by decide +kernel
theorem dX2_sum_21 : decode cX2_sum 21 = .ok (.iload_n 3, 1) := by decide +kernel
theorem dX2_sum_22 : decode cX2_sum 22 = .ok (.aload_n 0, 1) := by decide +kernel
theorem dX2_sum_23 : decode cX2_sum 23 = .ok (.getfield 9, 3) := by decide +kernel
theorem dX2_sum_26 : decode cX2_sum 26 = .ok (.iload 4, 2) := by decide +kernel
theorem dX2_sum_28 : decode cX2_sum 28 = .ok (.iaload, 1) := by decide +kernel
theorem dX2_sum_29 : decode cX2_sum 29 = .ok (.iadd, 1) := by decide +kernel
theorem dX2_sum_30 : decode cX2_sum 30 = .ok (.istore_n 3, 1) := by decide +kernel
theorem dX2_sum_31 : decode cX2_sum 31 = .ok (.iinc 4 1, 3) := by decide +kernel
theorem dX2_sum_34 : decode cX2_sum 34 = .ok (.goto (-21), 3) := by decide +kernel
theorem dX2_sum_37 : decode cX2_sum 37 = .ok (.iload_n 3, 1) := by decide +kernel
theorem dX2_sum_38 : decode cX2_sum 38 = .ok (.ldc 43, 2) := by decide +kernel
theorem dX2_sum_40 : decode cX2_sum 40 = .ok (.iand, 1) := by decide +kernel
theorem dX2_sum_41 : decode cX2_sum 41 = .ok (.ireturn, 1) := by decide +kernel
theorem dX2_isRange_0 : decode cX2_isRange 0 = .ok (.iload_n 0, 1) := by decide +kernel
theorem dX2_isRange_1 : decode cX2_isRange 1 = .ok (.ifCond .lt 27, 3) := by decide +kernel
theorem dX2_isRange_4 : decode cX2_isRange 4 = .ok (.iload_n 0, 1) := by decide +kernel
theorem dX2_isRange_5 : decode cX2_isRange 5 = .ok (.sipush 4096, 3) := by decide +kernel
theorem dX2_isRange_8 : decode cX2_isRange 8 = .ok (.if_icmp .gt 20, 3) := by decide +kernel
theorem dX2_isRange_11 : decode cX2_isRange 11 = .ok (.iload_n 1, 1) := by decide +kernel
theorem dX2_isRange_12 : decode cX2_isRange 12 = .ok (.ifCond .lt 16, 3) := by decide +kernel
theorem dX2_isRange_15 : decode cX2_isRange 15 = .ok (.iload_n 1, 1) := by decide +kernel
theorem dX2_isRange_16 : decode cX2_isRange 16 = .ok (.sipush 4096, 3) := by decide +kernel
theorem dX2_isRange_19 : decode cX2_isRange 19 = .ok (.iload_n 0, 1) := by decide +kernel
theorem dX2_isRange_20 : decode cX2_isRange 20 = .ok (.isub, 1) := by decide +kernel
theorem dX2_isRange_21 : decode cX2_isRange 21 = .ok (.if_icmp .gt 7, 3) := by decide +kernel
theorem dX2_isRange_24 : decode cX2_isRange 24 = .ok (.iconst 1, 1) := by decide +kernel
theorem dX2_isRange_25 : decode cX2_isRange 25 = .ok (.goto 4, 3) := by decide +kernel
theorem dX2_isRange_28 : decode cX2_isRange 28 = .ok (.iconst 0, 1) := by decide +kernel
theorem dX2_isRange_29 : decode cX2_isRange 29 = .ok (.ireturn, 1) := by decide +kernel
theorem dX2_copyBlock_0 : decode cX2_copyBlock 0 = .ok (.iload_n 1, 1) := by decide +kernel
theorem dX2_copyBlock_1 : decode cX2_copyBlock 1 = .ok (.ifCond .lt 40, 3) := by decide +kernel
theorem dX2_copyBlock_4 : decode cX2_copyBlock 4 = .ok (.iload_n 1, 1) := by decide +kernel
theorem dX2_copyBlock_5 : decode cX2_copyBlock 5 = .ok (.bipush 64, 2) := by decide +kernel
theorem dX2_copyBlock_7 : decode cX2_copyBlock 7 = .ok (.if_icmp .ge 34, 3) := by decide +kernel
theorem dX2_copyBlock_10 : decode cX2_copyBlock 10 = .ok (.iload_n 3, 1) := by decide +kernel
theorem dX2_copyBlock_11 : decode cX2_copyBlock 11 = .ok (.ifCond .lt 30, 3) := by decide +kernel
theorem dX2_copyBlock_14 : decode cX2_copyBlock 14 = .ok (.iload_n 3, 1) := by decide +kernel
theorem dX2_copyBlock_15 : decode cX2_copyBlock 15 = .ok (.bipush 64, 2) := by decide +kernel
theorem dX2_copyBlock_17 : decode cX2_copyBlock 17 = .ok (.if_icmp .ge 24, 3) := by decide +kernel
theorem dX2_copyBlock_20 : decode cX2_copyBlock 20 = .ok (.aload_n 2, 1) := by decide +kernel
theorem dX2_copyBlock_21 : decode cX2_copyBlock 21 = .ok (.getfield 9, 3) := by decide +kernel
theorem dX2_copyBlock_24 : decode cX2_copyBlock 24 = .ok (.iload_n 1, 1) := by decide +kernel
theorem dX2_copyBlock_25 : decode cX2_copyBlock 25 = .ok (.bipush 64, 2) := by decide +kernel
theorem dX2_copyBlock_27 : decode cX2_copyBlock 27 = .ok (.imul, 1) := by decide +kernel
theorem dX2_copyBlock_28 : decode cX2_copyBlock 28 = .ok (.aload_n 0, 1) := by decide +kernel
theorem dX2_copyBlock_29 : decode cX2_copyBlock 29 = .ok (.getfield 9, 3) := by decide +kernel
theorem dX2_copyBlock_32 : decode cX2_copyBlock 32 = .ok (.iload_n 3, 1) := by decide +kernel
theorem dX2_copyBlock_33 : decode cX2_copyBlock 33 = .ok (.bipush 64, 2) := by decide +kernel
theorem dX2_copyBlock_35 : decode cX2_copyBlock 35 = .ok (.imul, 1) := by decide +kernel
theorem dX2_copyBlock_36 : decode cX2_copyBlock 36 = .ok (.bipush 64, 2) := by decide +kernel
theorem dX2_copyBlock_38 : decode cX2_copyBlock 38 = .ok (.invokestatic 44, 3) := by decide +kernel
theorem dX2_copyBlock_41 : decode cX2_copyBlock 41 = .ok (.return_, 1) := by decide +kernel
theorem dX2_copyAll_0 : decode cX2_copyAll 0 = .ok (.aload_n 1, 1) := by decide +kernel
theorem dX2_copyAll_1 : decode cX2_copyAll 1 = .ok (.getfield 9, 3) := by decide +kernel
theorem dX2_copyAll_4 : decode cX2_copyAll 4 = .ok (.iconst 0, 1) := by decide +kernel
theorem dX2_copyAll_5 : decode cX2_copyAll 5 = .ok (.aload_n 0, 1) := by decide +kernel
theorem dX2_copyAll_6 : decode cX2_copyAll 6 = .ok (.getfield 9, 3) := by decide +kernel
theorem dX2_copyAll_9 : decode cX2_copyAll 9 = .ok (.iconst 0, 1) := by decide +kernel
theorem dX2_copyAll_10 : decode cX2_copyAll 10 = .ok (.sipush 4096, 3) := by decide +kernel
theorem dX2_copyAll_13 : decode cX2_copyAll 13 = .ok (.invokestatic 44, 3) := by decide +kernel
theorem dX2_copyAll_16 : decode cX2_copyAll 16 = .ok (.return_, 1) := by decide +kernel
theorem dX2_sameBlock_0 : decode cX2_sameBlock 0 = .ok (.iload_n 1, 1) := by decide +kernel
theorem dX2_sameBlock_1 : decode cX2_sameBlock 1 = .ok (.ifCond .lt 9, 3) := by decide +kernel
theorem dX2_sameBlock_4 : decode cX2_sameBlock 4 = .ok (.iload_n 1, 1) := by decide +kernel
theorem dX2_sameBlock_5 : decode cX2_sameBlock 5 = .ok (.bipush 64, 2) := by decide +kernel
theorem dX2_sameBlock_7 : decode cX2_sameBlock 7 = .ok (.if_icmp .lt 5, 3) := by decide +kernel
theorem dX2_sameBlock_10 : decode cX2_sameBlock 10 = .ok (.iconst 1, 1) := by decide +kernel
theorem dX2_sameBlock_11 : decode cX2_sameBlock 11 = .ok (.ireturn, 1) := by decide +kernel
theorem dX2_sameBlock_12 : decode cX2_sameBlock 12 = .ok (.iload_n 1, 1) := by decide +kernel
theorem dX2_sameBlock_13 : decode cX2_sameBlock 13 = .ok (.bipush 64, 2) := by decide +kernel
theorem dX2_sameBlock_15 : decode cX2_sameBlock 15 = .ok (.imul, 1) := by decide +kernel
theorem dX2_sameBlock_16 : decode cX2_sameBlock 16 = .ok (.istore_n 3, 1) := by decide +kernel
theorem dX2_sameBlock_17 : decode cX2_sameBlock 17 = .ok (.iload_n 3, 1) := by decide +kernel
theorem dX2_sameBlock_18 : decode cX2_sameBlock 18 = .ok (.istore 4, 2) := by decide +kernel
theorem dX2_sameBlock_20 : decode cX2_sameBlock 20 = .ok (.iload 4, 2) := by decide +kernel
theorem dX2_sameBlock_22 : decode cX2_sameBlock 22 = .ok (.iload_n 3, 1) := by decide +kernel
theorem dX2_sameBlock_23 : decode cX2_sameBlock 23 = .ok (.bipush 64, 2) := by decide +kernel
theorem dX2_sameBlock_25 : decode cX2_sameBlock 25 = .ok (.iadd, 1) := by decide +kernel
theorem dX2_sameBlock_26 : decode cX2_sameBlock 26 = .ok (.if_icmp .ge 28, 3) := by decide +kernel
theorem dX2_sameBlock_29 : decode cX2_sameBlock 29 = .ok (.aload_n 0, 1) := by decide +kernel
theorem dX2_sameBlock_30 : decode cX2_sameBlock 30 = .ok (.getfield 9, 3) := by decide +kernel
theorem dX2_sameBlock_33 : decode cX2_sameBlock 33 = .ok (.iload 4, 2) := by decide +kernel
theorem dX2_sameBlock_35 : decode cX2_sameBlock 35 = .ok (.iaload, 1) := by decide +kernel
theorem dX2_sameBlock_36 : decode cX2_sameBlock 36 = .ok (.aload_n 2, 1) := by decide +kernel
theorem dX2_sameBlock_37 : decode cX2_sameBlock 37 = .ok (.getfield 9, 3) := by decide +kernel
theorem dX2_sameBlock_40 : decode cX2_sameBlock 40 = .ok (.iload 4, 2) := by decide +kernel
theorem dX2_sameBlock_42 : decode cX2_sameBlock 42 = .ok (.iaload, 1) := by decide +kernel
theorem dX2_sameBlock_43 : decode cX2_sameBlock 43 = .ok (.if_icmp .eq 5, 3) := by decide +kernel
theorem dX2_sameBlock_46 : decode cX2_sameBlock 46 = .ok (.iconst 0, 1) := by decide +kernel
theorem dX2_sameBlock_47 : decode cX2_sameBlock 47 = .ok (.ireturn, 1) := by decide +kernel
theorem dX2_sameBlock_48 : decode cX2_sameBlock 48 = .ok (.iinc 4 1, 3) := by decide +kernel
theorem dX2_sameBlock_51 : decode cX2_sameBlock 51 = .ok (.goto (-31), 3) := by decide +kernel
theorem dX2_sameBlock_54 : decode cX2_sameBlock 54 = .ok (.iconst 1, 1) := by decide +kernel
theorem dX2_sameBlock_55 : decode cX2_sameBlock 55 = .ok (.ireturn, 1) := by decide +kernel
theorem dX3_init_0 : decode cX3_init 0 = .ok (.aload_n 0, 1) := by decide +kernel
theorem dX3_init_1 : decode cX3_init 1 = .ok (.invokespecial 3, 3) := by decide +kernel
theorem dX3_init_4 : decode cX3_init 4 = .ok (.aload_n 0, 1) := by decide +kernel
theorem dX3_init_5 : decode cX3_init 5 = .ok (.aload_n 1, 1) := by decide +kernel
theorem dX3_init_6 : decode cX3_init 6 = .ok (.putfield 9, 3) := by decide +kernel
theorem dX3_init_9 : decode cX3_init 9 = .ok (.aload_n 0, 1) := by decide +kernel
theorem dX3_init_10 : decode cX3_init 10 = .ok (.aload_n 2, 1) := by decide +kernel
theorem dX3_init_11 : decode cX3_init 11 = .ok (.putfield 15, 3) := by decide +kernel
theorem dX3_init_14 : decode cX3_init 14 = .ok (.aload_n 0, 1) := by decide +kernel
theorem dX3_init_15 : decode cX3_init 15 = .ok (.aload_n 3, 1) := by decide +kernel
theorem dX3_init_16 : decode cX3_init 16 = .ok (.putfield 19, 3) := by decide +kernel
theorem dX3_init_19 : decode cX3_init 19 = .ok (.return_, 1) := by decide +kernel
theorem dX3_keepSound_0 : decode cX3_keepSound 0 = .ok (.aload_n 0, 1) := by decide +kernel
theorem dX3_keepSound_1 : decode cX3_keepSound 1 = .ok (.getfield 15, 3) := by decide +kernel
theorem dX3_keepSound_4 : decode cX3_keepSound 4 = .ok (.invokevirtual 23, 3) := by decide +kernel
theorem dX3_keepSound_7 : decode cX3_keepSound 7 = .ok (.aload_n 0, 1) := by decide +kernel
theorem dX3_keepSound_8 : decode cX3_keepSound 8 = .ok (.getfield 15, 3) := by decide +kernel
theorem dX3_keepSound_11 : decode cX3_keepSound 11 = .ok (.iconst 0, 1) := by decide +kernel
theorem dX3_keepSound_12 : decode cX3_keepSound 12 = .ok (.invokevirtual 28, 3) := by decide +kernel
theorem dX3_keepSound_15 : decode cX3_keepSound 15 = .ok (.iconst 1, 1) := by decide +kernel
theorem dX3_keepSound_16 : decode cX3_keepSound 16 = .ok (.istore_n 1, 1) := by decide +kernel
theorem dX3_keepSound_17 : decode cX3_keepSound 17 = .ok (.iload_n 1, 1) := by decide +kernel
theorem dX3_keepSound_18 : decode cX3_keepSound 18 = .ok (.bipush 32, 2) := by decide +kernel
theorem dX3_keepSound_20 : decode cX3_keepSound 20 = .ok (.if_icmp .ge 62, 3) := by decide +kernel
theorem dX3_keepSound_23 : decode cX3_keepSound 23 = .ok (.aload_n 0, 1) := by decide +kernel
theorem dX3_keepSound_24 : decode cX3_keepSound 24 = .ok (.iload_n 1, 1) := by decide +kernel
theorem dX3_keepSound_25 : decode cX3_keepSound 25 = .ok (.invokevirtual 32, 3) := by decide +kernel
theorem dX3_keepSound_28 : decode cX3_keepSound 28 = .ok (.ifCond .eq 34, 3) := by decide +kernel
theorem dX3_keepSound_31 : decode cX3_keepSound 31 = .ok (.aload_n 0, 1) := by decide +kernel
theorem dX3_keepSound_32 : decode cX3_keepSound 32 = .ok (.iload_n 1, 1) := by decide +kernel
theorem dX3_keepSound_33 : decode cX3_keepSound 33 = .ok (.invokevirtual 36, 3) := by decide +kernel
theorem dX3_keepSound_36 : decode cX3_keepSound 36 = .ok (.ifCond .eq 26, 3) := by decide +kernel
theorem dX3_keepSound_39 : decode cX3_keepSound 39 = .ok (.aload_n 0, 1) := by decide +kernel
theorem dX3_keepSound_40 : decode cX3_keepSound 40 = .ok (.iload_n 1, 1) := by decide +kernel
theorem dX3_keepSound_41 : decode cX3_keepSound 41 = .ok (.invokevirtual 39, 3) := by decide +kernel
theorem dX3_keepSound_44 : decode cX3_keepSound 44 = .ok (.ifCond .eq 18, 3) := by decide +kernel
theorem dX3_keepSound_47 : decode cX3_keepSound 47 = .ok (.aload_n 0, 1) := by decide +kernel
theorem dX3_keepSound_48 : decode cX3_keepSound 48 = .ok (.getfield 15, 3) := by decide +kernel
theorem dX3_keepSound_51 : decode cX3_keepSound 51 = .ok (.iload_n 1, 1) := by decide +kernel
theorem dX3_keepSound_52 : decode cX3_keepSound 52 = .ok (.invokevirtual 42, 3) := by decide +kernel
theorem dX3_keepSound_55 : decode cX3_keepSound 55 = .ok (.ifCond .eq 7, 3) := by decide +kernel
theorem dX3_keepSound_58 : decode cX3_keepSound 58 = .ok (.iconst 1, 1) := by decide +kernel
theorem dX3_keepSound_59 : decode cX3_keepSound 59 = .ok (.goto 4, 3) := by decide +kernel
theorem dX3_keepSound_62 : decode cX3_keepSound 62 = .ok (.iconst 0, 1) := by decide +kernel
theorem dX3_keepSound_63 : decode cX3_keepSound 63 = .ok (.istore_n 2, 1) := by decide +kernel
theorem dX3_keepSound_64 : decode cX3_keepSound 64 = .ok (.iload_n 2, 1) := by decide +kernel
theorem dX3_keepSound_65 : decode cX3_keepSound 65 = .ok (.ifCond .ne 11, 3) := by decide +kernel
theorem dX3_keepSound_68 : decode cX3_keepSound 68 = .ok (.aload_n 0, 1) := by decide +kernel
theorem dX3_keepSound_69 : decode cX3_keepSound 69 = .ok (.getfield 15, 3) := by decide +kernel
theorem dX3_keepSound_72 : decode cX3_keepSound 72 = .ok (.iload_n 1, 1) := by decide +kernel
theorem dX3_keepSound_73 : decode cX3_keepSound 73 = .ok (.invokevirtual 28, 3) := by decide +kernel
theorem dX3_keepSound_76 : decode cX3_keepSound 76 = .ok (.iinc 1 1, 3) := by decide +kernel
theorem dX3_keepSound_79 : decode cX3_keepSound 79 = .ok (.goto (-62), 3) := by decide +kernel
theorem dX3_keepSound_82 : decode cX3_keepSound 82 = .ok (.return_, 1) := by decide +kernel
theorem dX3_hasSoundHead_0 : decode cX3_hasSoundHead 0 = .ok (.aload_n 0, 1) := by decide +kernel
theorem dX3_hasSoundHead_1 : decode cX3_hasSoundHead 1 = .ok (.getfield 15, 3) := by decide +kernel
theorem dX3_hasSoundHead_4 : decode cX3_hasSoundHead 4 = .ok (.iload_n 1, 1) := by decide +kernel
end
section
theorem dX3_hasSoundHead_5 : decode cX3_hasSoundHead 5 = .ok (.invokevirtual 45, 3) := by decide +kernel
theorem dX3_hasSoundHead_8 : decode cX3_hasSoundHead 8 = .ok (.istore_n 2, 1) := by decide +kernel
theorem dX3_hasSoundHead_9 : decode cX3_hasSoundHead 9 = .ok (.iload_n 1, 1) := by decide +kernel
theorem dX3_hasSoundHead_10 : decode cX3_hasSoundHead 10 = .ok (.invokestatic 49, 3) := by decide +kernel
theorem dX3_hasSoundHead_13 : decode cX3_hasSoundHead 13 = .ok (.istore_n 3, 1) := by decide +kernel
theorem dX3_hasSoundHead_14 : decode cX3_hasSoundHead 14 = .ok (.iload_n 2, 1) := by decide +kernel
theorem dX3_hasSoundHead_15 : decode cX3_hasSoundHead 15 = .ok (.iconst 2, 1) := by decide +kernel
theorem dX3_hasSoundHead_16 : decode cX3_hasSoundHead 16 = .ok (.if_icmp .eq 13, 3) := by decide +kernel
theorem dX3_hasSoundHead_19 : decode cX3_hasSoundHead 19 = .ok (.iload_n 2, 1) := by decide +kernel
theorem dX3_hasSoundHead_20 : decode cX3_hasSoundHead 20 = .ok (.iconst 1, 1) := by decide +kernel
theorem dX3_hasSoundHead_21 : decode cX3_hasSoundHead 21 = .ok (.if_icmp .ne 51, 3) := by decide +kernel
theorem dX3_hasSoundHead_24 : decode cX3_hasSoundHead 24 = .ok (.iload_n 1, 1) := by decide +kernel
theorem dX3_hasSoundHead_25 : decode cX3_hasSoundHead 25 = .ok (.iconst 3, 1) := by decide +kernel
theorem dX3_hasSoundHead_26 : decode cX3_hasSoundHead 26 = .ok (.if_icmp .lt 46, 3) := by decide +kernel
theorem dX3_hasSoundHead_29 : decode cX3_hasSoundHead 29 = .ok (.aload_n 0, 1) := by decide +kernel
theorem dX3_hasSoundHead_30 : decode cX3_hasSoundHead 30 = .ok (.getfield 9, 3) := by decide +kernel
theorem dX3_hasSoundHead_33 : decode cX3_hasSoundHead 33 = .ok (.iload_n 3, 1) := by decide +kernel
theorem dX3_hasSoundHead_34 : decode cX3_hasSoundHead 34 = .ok (.bipush 9, 2) := by decide +kernel
theorem dX3_hasSoundHead_36 : decode cX3_hasSoundHead 36 = .ok (.iadd, 1) := by decide +kernel
theorem dX3_hasSoundHead_37 : decode cX3_hasSoundHead 37 = .ok (.iconst 1, 1) := by decide +kernel
theorem dX3_hasSoundHead_38 : decode cX3_hasSoundHead 38 = .ok (.iadd, 1) := by decide +kernel
theorem dX3_hasSoundHead_39 : decode cX3_hasSoundHead 39 = .ok (.iconst 4, 1) := by decide +kernel
theorem dX3_hasSoundHead_40 : decode cX3_hasSoundHead 40 = .ok (.invokevirtual 52, 3) := by decide +kernel
theorem dX3_hasSoundHead_43 : decode cX3_hasSoundHead 43 = .ok (.ifCond .eq 29, 3) := by decide +kernel
theorem dX3_hasSoundHead_46 : decode cX3_hasSoundHead 46 = .ok (.aload_n 0, 1) := by decide +kernel
theorem dX3_hasSoundHead_47 : decode cX3_hasSoundHead 47 = .ok (.getfield 9, 3) := by decide +kernel
theorem dX3_hasSoundHead_50 : decode cX3_hasSoundHead 50 = .ok (.iload_n 3, 1) := by decide +kernel
theorem dX3_hasSoundHead_51 : decode cX3_hasSoundHead 51 = .ok (.bipush 14, 2) := by decide +kernel
theorem dX3_hasSoundHead_53 : decode cX3_hasSoundHead 53 = .ok (.iadd, 1) := by decide +kernel
theorem dX3_hasSoundHead_54 : decode cX3_hasSoundHead 54 = .ok (.invokevirtual 58, 3) := by decide +kernel
theorem dX3_hasSoundHead_57 : decode cX3_hasSoundHead 57 = .ok (.aload_n 0, 1) := by decide +kernel
theorem dX3_hasSoundHead_58 : decode cX3_hasSoundHead 58 = .ok (.getfield 15, 3) := by decide +kernel
theorem dX3_hasSoundHead_61 : decode cX3_hasSoundHead 61 = .ok (.iload_n 1, 1) := by decide +kernel
theorem dX3_hasSoundHead_62 : decode cX3_hasSoundHead 62 = .ok (.invokevirtual 61, 3) := by decide +kernel
theorem dX3_hasSoundHead_65 : decode cX3_hasSoundHead 65 = .ok (.if_icmp .ne 7, 3) := by decide +kernel
theorem dX3_hasSoundHead_68 : decode cX3_hasSoundHead 68 = .ok (.iconst 1, 1) := by decide +kernel
theorem dX3_hasSoundHead_69 : decode cX3_hasSoundHead 69 = .ok (.goto 4, 3) := by decide +kernel
theorem dX3_hasSoundHead_72 : decode cX3_hasSoundHead 72 = .ok (.iconst 0, 1) := by decide +kernel
theorem dX3_hasSoundHead_73 : decode cX3_hasSoundHead 73 = .ok (.ireturn, 1) := by decide +kernel
theorem dX3_hasSoundSize_0 : decode cX3_hasSoundSize 0 = .ok (.aload_n 0, 1) := by decide +kernel
theorem dX3_hasSoundSize_1 : decode cX3_hasSoundSize 1 = .ok (.getfield 15, 3) := by decide +kernel
theorem dX3_hasSoundSize_4 : decode cX3_hasSoundSize 4 = .ok (.iload_n 1, 1) := by decide +kernel
theorem dX3_hasSoundSize_5 : decode cX3_hasSoundSize 5 = .ok (.invokevirtual 64, 3) := by decide +kernel
theorem dX3_hasSoundSize_8 : decode cX3_hasSoundSize 8 = .ok (.istore_n 2, 1) := by decide +kernel
theorem dX3_hasSoundSize_9 : decode cX3_hasSoundSize 9 = .ok (.iload_n 2, 1) := by decide +kernel
theorem dX3_hasSoundSize_10 : decode cX3_hasSoundSize 10 = .ok (.sipush 2944, 3) := by decide +kernel
theorem dX3_hasSoundSize_13 : decode cX3_hasSoundSize 13 = .ok (.if_icmp .gt 30, 3) := by decide +kernel
theorem dX3_hasSoundSize_16 : decode cX3_hasSoundSize 16 = .ok (.aload_n 0, 1) := by decide +kernel
theorem dX3_hasSoundSize_17 : decode cX3_hasSoundSize 17 = .ok (.getfield 15, 3) := by decide +kernel
theorem dX3_hasSoundSize_20 : decode cX3_hasSoundSize 20 = .ok (.iload_n 1, 1) := by decide +kernel
theorem dX3_hasSoundSize_21 : decode cX3_hasSoundSize 21 = .ok (.invokevirtual 45, 3) := by decide +kernel
theorem dX3_hasSoundSize_24 : decode cX3_hasSoundSize 24 = .ok (.iconst 1, 1) := by decide +kernel
theorem dX3_hasSoundSize_25 : decode cX3_hasSoundSize 25 = .ok (.if_icmp .eq 14, 3) := by decide +kernel
theorem dX3_hasSoundSize_28 : decode cX3_hasSoundSize 28 = .ok (.iload_n 2, 1) := by decide +kernel
theorem dX3_hasSoundSize_29 : decode cX3_hasSoundSize 29 = .ok (.ifCond .le 14, 3) := by decide +kernel
theorem dX3_hasSoundSize_32 : decode cX3_hasSoundSize 32 = .ok (.iload_n 2, 1) := by decide +kernel
theorem dX3_hasSoundSize_33 : decode cX3_hasSoundSize 33 = .ok (.bipush 64, 2) := by decide +kernel
theorem dX3_hasSoundSize_35 : decode cX3_hasSoundSize 35 = .ok (.irem, 1) := by decide +kernel
theorem dX3_hasSoundSize_36 : decode cX3_hasSoundSize 36 = .ok (.ifCond .ne 7, 3) := by decide +kernel
theorem dX3_hasSoundSize_39 : decode cX3_hasSoundSize 39 = .ok (.iconst 1, 1) := by decide +kernel
theorem dX3_hasSoundSize_40 : decode cX3_hasSoundSize 40 = .ok (.goto 4, 3) := by decide +kernel
theorem dX3_hasSoundSize_43 : decode cX3_hasSoundSize 43 = .ok (.iconst 0, 1) := by decide +kernel
theorem dX3_hasSoundSize_44 : decode cX3_hasSoundSize 44 = .ok (.ireturn, 1) := by decide +kernel
theorem dX3_hasBlankRest_0 : decode cX3_hasBlankRest 0 = .ok (.aload_n 0, 1) := by decide +kernel
theorem dX3_hasBlankRest_1 : decode cX3_hasBlankRest 1 = .ok (.getfield 15, 3) := by decide +kernel
theorem dX3_hasBlankRest_4 : decode cX3_hasBlankRest 4 = .ok (.iload_n 1, 1) := by decide +kernel
theorem dX3_hasBlankRest_5 : decode cX3_hasBlankRest 5 = .ok (.invokevirtual 67, 3) := by decide +kernel
theorem dX3_hasBlankRest_8 : decode cX3_hasBlankRest 8 = .ok (.istore_n 2, 1) := by decide +kernel
theorem dX3_hasBlankRest_9 : decode cX3_hasBlankRest 9 = .ok (.iload_n 1, 1) := by decide +kernel
theorem dX3_hasBlankRest_10 : decode cX3_hasBlankRest 10 = .ok (.invokestatic 49, 3) := by decide +kernel
theorem dX3_hasBlankRest_13 : decode cX3_hasBlankRest 13 = .ok (.istore_n 3, 1) := by decide +kernel
theorem dX3_hasBlankRest_14 : decode cX3_hasBlankRest 14 = .ok (.iload_n 2, 1) := by decide +kernel
theorem dX3_hasBlankRest_15 : decode cX3_hasBlankRest 15 = .ok (.iconst 5, 1) := by decide +kernel
theorem dX3_hasBlankRest_16 : decode cX3_hasBlankRest 16 = .ok (.if_icmp .gt 21, 3) := by decide +kernel
theorem dX3_hasBlankRest_19 : decode cX3_hasBlankRest 19 = .ok (.aload_n 0, 1) := by decide +kernel
theorem dX3_hasBlankRest_20 : decode cX3_hasBlankRest 20 = .ok (.getfield 9, 3) := by decide +kernel
theorem dX3_hasBlankRest_23 : decode cX3_hasBlankRest 23 = .ok (.iload_n 3, 1) := by decide +kernel
theorem dX3_hasBlankRest_24 : decode cX3_hasBlankRest 24 = .ok (.iconst 4, 1) := by decide +kernel
theorem dX3_hasBlankRest_25 : decode cX3_hasBlankRest 25 = .ok (.iadd, 1) := by decide +kernel
theorem dX3_hasBlankRest_26 : decode cX3_hasBlankRest 26 = .ok (.iload_n 2, 1) := by decide +kernel
theorem dX3_hasBlankRest_27 : decode cX3_hasBlankRest 27 = .ok (.iadd, 1) := by decide +kernel
theorem dX3_hasBlankRest_28 : decode cX3_hasBlankRest 28 = .ok (.iconst 5, 1) := by decide +kernel
theorem dX3_hasBlankRest_29 : decode cX3_hasBlankRest 29 = .ok (.iload_n 2, 1) := by decide +kernel
theorem dX3_hasBlankRest_30 : decode cX3_hasBlankRest 30 = .ok (.isub, 1) := by decide +kernel
theorem dX3_hasBlankRest_31 : decode cX3_hasBlankRest 31 = .ok (.iconst 1, 1) := by decide +kernel
theorem dX3_hasBlankRest_32 : decode cX3_hasBlankRest 32 = .ok (.iadd, 1) := by decide +kernel
theorem dX3_hasBlankRest_33 : decode cX3_hasBlankRest 33 = .ok (.invokevirtual 52, 3) := by decide +kernel
theorem dX3_hasBlankRest_36 : decode cX3_hasBlankRest 36 = .ok (.ireturn, 1) := by decide +kernel
theorem dX3_hasBlankRest_37 : decode cX3_hasBlankRest 37 = .ok (.iload_n 2, 1) := by decide +kernel
theorem dX3_hasBlankRest_38 : decode cX3_hasBlankRest 38 = .ok (.iconst 5, 1) := by decide +kernel
theorem dX3_hasBlankRest_39 : decode cX3_hasBlankRest 39 = .ok (.isub, 1) := by decide +kernel
theorem dX3_hasBlankRest_40 : decode cX3_hasBlankRest 40 = .ok (.istore 4, 2) := by decide +kernel
theorem dX3_hasBlankRest_42 : decode cX3_hasBlankRest 42 = .ok (.aload_n 0, 1) := by decide +kernel
theorem dX3_hasBlankRest_43 : decode cX3_hasBlankRest 43 = .ok (.getfield 9, 3) := by decide +kernel
theorem dX3_hasBlankRest_46 : decode cX3_hasBlankRest 46 = .ok (.aload_n 0, 1) := by decide +kernel
theorem dX3_hasBlankRest_47 : decode cX3_hasBlankRest 47 = .ok (.getfield 9, 3) := by decide +kernel
theorem dX3_hasBlankRest_50 : decode cX3_hasBlankRest 50 = .ok (.iload_n 3, 1) := by decide +kernel
theorem dX3_hasBlankRest_51 : decode cX3_hasBlankRest 51 = .ok (.bipush 9, 2) := by decide +kernel
theorem dX3_hasBlankRest_53 : decode cX3_hasBlankRest 53 = .ok (.iadd, 1) := by decide +kernel
theorem dX3_hasBlankRest_54 : decode cX3_hasBlankRest 54 = .ok (.invokevirtual 70, 3) := by decide +kernel
theorem dX3_hasBlankRest_57 : decode cX3_hasBlankRest 57 = .ok (.bipush 64, 2) := by decide +kernel
theorem dX3_hasBlankRest_59 : decode cX3_hasBlankRest 59 = .ok (.imul, 1) := by decide +kernel
theorem dX3_hasBlankRest_60 : decode cX3_hasBlankRest 60 = .ok (.iload 4, 2) := by decide +kernel
theorem dX3_hasBlankRest_62 : decode cX3_hasBlankRest 62 = .ok (.iadd, 1) := by decide +kernel
theorem dX3_hasBlankRest_63 : decode cX3_hasBlankRest 63 = .ok (.bipush 64, 2) := by decide +kernel
theorem dX3_hasBlankRest_65 : decode cX3_hasBlankRest 65 = .ok (.iload 4, 2) := by decide +kernel
theorem dX3_hasBlankRest_67 : decode cX3_hasBlankRest 67 = .ok (.isub, 1) := by decide +kernel
theorem dX3_hasBlankRest_68 : decode cX3_hasBlankRest 68 = .ok (.invokevirtual 52, 3) := by decide +kernel
theorem dX3_hasBlankRest_71 : decode cX3_hasBlankRest 71 = .ok (.ireturn, 1) := by decide +kernel
theorem dX3_provide_0 : decode cX3_provide 0 = .ok (.aload_n 0, 1) := by decide +kernel
theorem dX3_provide_1 : decode cX3_provide 1 = .ok (.getfield 15, 3) := by decide +kernel
theorem dX3_provide_4 : decode cX3_provide 4 = .ok (.iload_n 1, 1) := by decide +kernel
theorem dX3_provide_5 : decode cX3_provide 5 = .ok (.invokevirtual 45, 3) := by decide +kernel
theorem dX3_provide_8 : decode cX3_provide 8 = .ok (.ifCond .eq 4, 3) := by decide +kernel
theorem dX3_provide_11 : decode cX3_provide 11 = .ok (.return_, 1) := by decide +kernel
theorem dX3_provide_12 : decode cX3_provide 12 = .ok (.bipush 31, 2) := by decide +kernel
theorem dX3_provide_14 : decode cX3_provide 14 = .ok (.istore_n 2, 1) := by decide +kernel
theorem dX3_provide_15 : decode cX3_provide 15 = .ok (.iload_n 2, 1) := by decide +kernel
theorem dX3_provide_16 : decode cX3_provide 16 = .ok (.iconst 1, 1) := by decide +kernel
theorem dX3_provide_17 : decode cX3_provide 17 = .ok (.if_icmp .le 38, 3) := by decide +kernel
theorem dX3_provide_20 : decode cX3_provide 20 = .ok (.aload_n 0, 1) := by decide +kernel
theorem dX3_provide_21 : decode cX3_provide 21 = .ok (.getfield 15, 3) := by decide +kernel
theorem dX3_provide_24 : decode cX3_provide 24 = .ok (.invokevirtual 73, 3) := by decide +kernel
theorem dX3_provide_27 : decode cX3_provide 27 = .ok (.ifCond .ne 28, 3) := by decide +kernel
theorem dX3_provide_30 : decode cX3_provide 30 = .ok (.aload_n 0, 1) := by decide +kernel
theorem dX3_provide_31 : decode cX3_provide 31 = .ok (.getfield 15, 3) := by decide +kernel
theorem dX3_provide_34 : decode cX3_provide 34 = .ok (.iload_n 2, 1) := by decide +kernel
theorem dX3_provide_35 : decode cX3_provide 35 = .ok (.invokevirtual 45, 3) := by decide +kernel
theorem dX3_provide_38 : decode cX3_provide 38 = .ok (.ifCond .eq 11, 3) := by decide +kernel
theorem dX3_provide_41 : decode cX3_provide 41 = .ok (.aload_n 0, 1) := by decide +kernel
theorem dX3_provide_42 : decode cX3_provide 42 = .ok (.getfield 15, 3) := by decide +kernel
theorem dX3_provide_45 : decode cX3_provide 45 = .ok (.iload_n 2, 1) := by decide +kernel
theorem dX3_provide_46 : decode cX3_provide 46 = .ok (.invokevirtual 77, 3) := by decide +kernel
theorem dX3_provide_49 : decode cX3_provide 49 = .ok (.iinc 2 (-1), 3) := by decide +kernel
theorem dX3_provide_52 : decode cX3_provide 52 = .ok (.goto (-37), 3) := by decide +kernel
theorem dX3_provide_55 : decode cX3_provide 55 = .ok (.aload_n 0, 1) := by decide +kernel
theorem dX3_provide_56 : decode cX3_provide 56 = .ok (.getfield 19, 3) := by decide +kernel
theorem dX3_provide_59 : decode cX3_provide 59 = .ok (.iload_n 1, 1) := by decide +kernel
theorem dX3_provide_60 : decode cX3_provide 60 = .ok (.iload_n 1, 1) := by decide +kernel
theorem dX3_provide_61 : decode cX3_provide 61 = .ok (.invokevirtual 80, 3) := by decide +kernel
theorem dX3_provide_64 : decode cX3_provide 64 = .ok (.pop, 1) := by decide +kernel
theorem dX3_provide_65 : decode cX3_provide 65 = .ok (.return_, 1) := by decide +kernel
theorem dX4_init_0 : decode cX4_init 0 = .ok (.aload_n 0, 1) := by decide +kernel
theorem dX4_init_1 : decode cX4_init 1 = .ok (.invokespecial 3, 3) := by decide +kernel
theorem dX4_init_4 : decode cX4_init 4 = .ok (.aload_n 0, 1) := by decide +kernel
theorem dX4_init_5 : decode cX4_init 5 = .ok (.aload_n 1, 1) := by decide +kernel
theorem dX4_init_6 : decode cX4_init 6 = .ok (.putfield 9, 3) := by decide +kernel
theorem dX4_init_9 : decode cX4_init 9 = .ok (.return_, 1) := by decide +kernel
theorem dX4_isNumber_0 : decode cX4_isNumber 0 = .ok (.iload_n 0, 1) := by decide +kernel
theorem dX4_isNumber_1 : decode cX4_isNumber 1 = .ok (.ifCond .lt 13, 3) := by decide +kernel
theorem dX4_isNumber_4 : decode cX4_isNumber 4 = .ok (.iload_n 0, 1) := by decide +kernel
theorem dX4_isNumber_5 : decode cX4_isNumber 5 = .ok (.bipush 32, 2) := by decide +kernel
theorem dX4_isNumber_7 : decode cX4_isNumber 7 = .ok (.if_icmp .ge 7, 3) := by decide +kernel
theorem dX4_isNumber_10 : decode cX4_isNumber 10 = .ok (.iconst 1, 1) := by decide +kernel
theorem dX4_isNumber_11 : decode cX4_isNumber 11 = .ok (.goto 4, 3) := by decide +kernel
theorem dX4_isNumber_14 : decode cX4_isNumber 14 = .ok (.iconst 0, 1) := by decide +kernel
theorem dX4_isNumber_15 : decode cX4_isNumber 15 = .ok (.ireturn, 1) := by decide +kernel
theorem dX4_placeOf_0 : decode cX4_placeOf 0 = .ok (.sipush 512, 3) := by decide +kernel
theorem dX4_placeOf_3 : decode cX4_placeOf 3 = .ok (.iload_n 0, 1) := by decide +kernel
theorem dX4_placeOf_4 : decode cX4_placeOf 4 = .ok (.bipush 16, 2) := by decide +kernel
theorem dX4_placeOf_6 : decode cX4_placeOf 6 = .ok (.imul, 1) := by decide +kernel
theorem dX4_placeOf_7 : decode cX4_placeOf 7 = .ok (.iadd, 1) := by decide +kernel
theorem dX4_placeOf_8 : decode cX4_placeOf 8 = .ok (.ireturn, 1) := by decide +kernel
theorem dX4_kind_0 : decode cX4_kind 0 = .ok (.iload_n 1, 1) := by decide +kernel
theorem dX4_kind_1 : decode cX4_kind 1 = .ok (.invokestatic 15, 3) := by decide +kernel
theorem dX4_kind_4 : decode cX4_kind 4 = .ok (.ifCond .eq 17, 3) := by decide +kernel
theorem dX4_kind_7 : decode cX4_kind 7 = .ok (.aload_n 0, 1) := by decide +kernel
theorem dX4_kind_8 : decode cX4_kind 8 = .ok (.getfield 9, 3) := by decide +kernel
theorem dX4_kind_11 : decode cX4_kind 11 = .ok (.iload_n 1, 1) := by decide +kernel
theorem dX4_kind_12 : decode cX4_kind 12 = .ok (.invokestatic 19, 3) := by decide +kernel
theorem dX4_kind_15 : decode cX4_kind 15 = .ok (.invokevirtual 23, 3) := by decide +kernel
theorem dX4_kind_18 : decode cX4_kind 18 = .ok (.goto 4, 3) := by decide +kernel
theorem dX4_kind_21 : decode cX4_kind 21 = .ok (.iconst 0, 1) := by decide +kernel
theorem dX4_kind_22 : decode cX4_kind 22 = .ok (.ireturn, 1) := by decide +kernel
theorem dX4_links_0 : decode cX4_links 0 = .ok (.iload_n 1, 1) := by decide +kernel
theorem dX4_links_1 : decode cX4_links 1 = .ok (.invokestatic 15, 3) := by decide +kernel
theorem dX4_links_4 : decode cX4_links 4 = .ok (.ifCond .eq 19, 3) := by decide +kernel
theorem dX4_links_7 : decode cX4_links 7 = .ok (.aload_n 0, 1) := by decide +kernel
theorem dX4_links_8 : decode cX4_links 8 = .ok (.getfield 9, 3) := by decide +kernel
theorem dX4_links_11 : decode cX4_links 11 = .ok (.iload_n 1, 1) := by decide +kernel
theorem dX4_links_12 : decode cX4_links 12 = .ok (.invokestatic 19, 3) := by decide +kernel
theorem dX4_links_15 : decode cX4_links 15 = .ok (.iconst 1, 1) := by decide +kernel
theorem dX4_links_16 : decode cX4_links 16 = .ok (.iadd, 1) := by decide +kernel
theorem dX4_links_17 : decode cX4_links 17 = .ok (.invokevirtual 23, 3) := by decide +kernel
theorem dX4_links_20 : decode cX4_links 20 = .ok (.goto 4, 3) := by decide +kernel
theorem dX4_links_23 : decode cX4_links 23 = .ok (.iconst 0, 1) := by decide +kernel
theorem dX4_links_24 : decode cX4_links 24 = .ok (.ireturn, 1) := by decide +kernel
theorem dX4_size_0 : decode cX4_size 0 = .ok (.iload_n 1, 1) := by decide +kernel
theorem dX4_size_1 : decode cX4_size 1 = .ok (.invokestatic 15, 3) := by decide +kernel
theorem dX4_size_4 : decode cX4_size 4 = .ok (.ifCond .eq 19, 3) := by decide +kernel
theorem dX4_size_7 : decode cX4_size 7 = .ok (.aload_n 0, 1) := by decide +kernel
theorem dX4_size_8 : decode cX4_size 8 = .ok (.getfield 9, 3) := by decide +kernel
theorem dX4_size_11 : decode cX4_size 11 = .ok (.iload_n 1, 1) := by decide +kernel
theorem dX4_size_12 : decode cX4_size 12 = .ok (.invokestatic 19, 3) := by decide +kernel
theorem dX4_size_15 : decode cX4_size 15 = .ok (.iconst 2, 1) := by decide +kernel
theorem dX4_size_16 : decode cX4_size 16 = .ok (.iadd, 1) := by decide +kernel
theorem dX4_size_17 : decode cX4_size 17 = .ok (.invokevirtual 28, 3) := by decide +kernel
theorem dX4_size_20 : decode cX4_size 20 = .ok (.goto 4, 3) := by decide +kernel
theorem dX4_size_23 : decode cX4_size 23 = .ok (.iconst 0, 1) := by decide +kernel
theorem dX4_size_24 : decode cX4_size 24 = .ok (.ireturn, 1) := by decide +kernel
theorem dX4_setLinks_0 : decode cX4_setLinks 0 = .ok (.aload_n 0, 1) := by decide +kernel
theorem dX4_setLinks_1 : decode cX4_setLinks 1 = .ok (.getfield 9, 3) := by decide +kernel
theorem dX4_setLinks_4 : decode cX4_setLinks 4 = .ok (.iload_n 1, 1) := by decide +kernel
theorem dX4_setLinks_5 : decode cX4_setLinks 5 = .ok (.invokestatic 19, 3) := by decide +kernel
theorem dX4_setLinks_8 : decode cX4_setLinks 8 = .ok (.iconst 1, 1) := by decide +kernel
theorem dX4_setLinks_9 : decode cX4_setLinks 9 = .ok (.iadd, 1) := by decide +kernel
theorem dX4_setLinks_10 : decode cX4_setLinks 10 = .ok (.iload_n 2, 1) := by decide +kernel
theorem dX4_setLinks_11 : decode cX4_setLinks 11 = .ok (.invokevirtual 31, 3) := by decide +kernel
theorem dX4_setLinks_14 : decode cX4_setLinks 14 = .ok (.return_, 1) := by decide +kernel
theorem dX4_setSize_0 : decode cX4_setSize 0 = .ok (.aload_n 0, 1) := by decide +kernel
theorem dX4_setSize_1 : decode cX4_setSize 1 = .ok (.getfield 9, 3) := by decide +kernel
theorem dX4_setSize_4 : decode cX4_setSize 4 = .ok (.iload_n 1, 1) := by decide +kernel
theorem dX4_setSize_5 : decode cX4_setSize 5 = .ok (.invokestatic 19, 3) := by decide +kernel
theorem dX4_setSize_8 : decode cX4_setSize 8 = .ok (.iconst 2, 1) := by decide +kernel
theorem dX4_setSize_9 : decode cX4_setSize 9 = .ok (.iadd, 1) := by decide +kernel
theorem dX4_setSize_10 : decode cX4_setSize 10 = .ok (.iload_n 2, 1) := by decide +kernel
theorem dX4_setSize_11 : decode cX4_setSize 11 = .ok (.invokevirtual 35, 3) := by decide +kernel
theorem dX4_setSize_14 : decode cX4_setSize 14 = .ok (.return_, 1) := by decide +kernel
theorem dX4_rightSum_0 : decode cX4_rightSum 0 = .ok (.aload_n 0, 1) := by decide +kernel
theorem dX4_rightSum_1 : decode cX4_rightSum 1 = .ok (.getfield 9, 3) := by decide +kernel
theorem dX4_rightSum_4 : decode cX4_rightSum 4 = .ok (.iload_n 1, 1) := by decide +kernel
theorem dX4_rightSum_5 : decode cX4_rightSum 5 = .ok (.invokestatic 19, 3) := by decide +kernel
theorem dX4_rightSum_8 : decode cX4_rightSum 8 = .ok (.bipush 14, 2) := by decide +kernel
theorem dX4_rightSum_10 : decode cX4_rightSum 10 = .ok (.invokevirtual 38, 3) := by decide +kernel
theorem dX4_rightSum_13 : decode cX4_rightSum 13 = .ok (.ireturn, 1) := by decide +kernel
theorem dX4_writeSum_0 : decode cX4_writeSum 0 = .ok (.aload_n 0, 1) := by decide +kernel
theorem dX4_writeSum_1 : decode cX4_writeSum 1 = .ok (.getfield 9, 3) := by decide +kernel
theorem dX4_writeSum_4 : decode cX4_writeSum 4 = .ok (.iload_n 1, 1) := by decide +kernel
theorem dX4_writeSum_5 : decode cX4_writeSum 5 = .ok (.invokestatic 19, 3) := by decide +kernel
theorem dX4_writeSum_8 : decode cX4_writeSum 8 = .ok (.bipush 14, 2) := by decide +kernel
theorem dX4_writeSum_10 : decode cX4_writeSum 10 = .ok (.iadd, 1) := by decide +kernel
theorem dX4_writeSum_11 : decode cX4_writeSum 11 = .ok (.aload_n 0, 1) := by decide +kernel
theorem dX4_writeSum_12 : decode cX4_writeSum 12 = .ok (.iload_n 1, 1) := by decide +kernel
theorem dX4_writeSum_13 : decode cX4_writeSum 13 = .ok (.invokevirtual 42, 3) := by decide +kernel
theorem dX4_writeSum_16 : decode cX4_writeSum 16 = .ok (.invokevirtual 35, 3) := by decide +kernel
theorem dX4_writeSum_19 : decode cX4_writeSum 19 = .ok (.return_, 1) := by decide +kernel
theorem dX4_blockCount_0 : decode cX4_blockCount 0 = .ok (.aload_n 0, 1) := by decide +kernel
theorem dX4_blockCount_1 : decode cX4_blockCount 1 = .ok (.iload_n 1, 1) := by decide +kernel
theorem dX4_blockCount_2 : decode cX4_blockCount 2 = .ok (.invokevirtual 45, 3) := by decide +kernel
theorem dX4_blockCount_5 : decode cX4_blockCount 5 = .ok (.bipush 64, 2) := by decide +kernel
theorem dX4_blockCount_7 : decode cX4_blockCount 7 = .ok (.iadd, 1) := by decide +kernel
theorem dX4_blockCount_8 : decode cX4_blockCount 8 = .ok (.iconst 1, 1) := by decide +kernel
theorem dX4_blockCount_9 : decode cX4_blockCount 9 = .ok (.isub, 1) := by decide +kernel
theorem dX4_blockCount_10 : decode cX4_blockCount 10 = .ok (.bipush 64, 2) := by decide +kernel
theorem dX4_blockCount_12 : decode cX4_blockCount 12 = .ok (.idiv, 1) := by decide +kernel
theorem dX4_blockCount_13 : decode cX4_blockCount 13 = .ok (.ireturn, 1) := by decide +kernel
theorem dX4_contentPlace_0 : decode cX4_contentPlace 0 = .ok (.iload_n 2, 1) := by decide +kernel
theorem dX4_contentPlace_1 : decode cX4_contentPlace 1 = .ok (.bipush 64, 2) := by decide +kernel
theorem dX4_contentPlace_3 : decode cX4_contentPlace 3 = .ok (.idiv, 1) := by decide +kernel
theorem dX4_contentPlace_4 : decode cX4_contentPlace 4 = .ok (.istore_n 3, 1) := by decide +kernel
theorem dX4_contentPlace_5 : decode cX4_contentPlace 5 = .ok (.iload_n 1, 1) := by decide +kernel
theorem dX4_contentPlace_6 : decode cX4_contentPlace 6 = .ok (.invokestatic 15, 3) := by decide +kernel
theorem dX4_contentPlace_9 : decode cX4_contentPlace 9 = .ok (.ifCond .eq 13, 3) := by decide +kernel
theorem dX4_contentPlace_12 : decode cX4_contentPlace 12 = .ok (.iload_n 2, 1) := by decide +kernel
theorem dX4_contentPlace_13 : decode cX4_contentPlace 13 = .ok (.ifCond .lt 9, 3) := by decide +kernel
theorem dX4_contentPlace_16 : decode cX4_contentPlace 16 = .ok (.iload_n 3, 1) := by decide +kernel
theorem dX4_contentPlace_17 : decode cX4_contentPlace 17 = .ok (.bipush 46, 2) := by decide +kernel
theorem dX4_contentPlace_19 : decode cX4_contentPlace 19 = .ok (.if_icmp .lt 5, 3) := by decide +kernel
theorem dX4_contentPlace_22 : decode cX4_contentPlace 22 = .ok (.iconst (-1), 1) := by decide +kernel
theorem dX4_contentPlace_23 : decode cX4_contentPlace 23 = .ok (.ireturn, 1) := by decide +kernel
theorem dX4_contentPlace_24 : decode cX4_contentPlace 24 = .ok (.iload_n 1, 1) := by decide +kernel
theorem dX4_contentPlace_25 : decode cX4_contentPlace 25 = .ok (.invokestatic 19, 3) := by decide +kernel
theorem dX4_contentPlace_28 : decode cX4_contentPlace 28 = .ok (.iconst 4, 1) := by decide +kernel
theorem dX4_contentPlace_29 : decode cX4_contentPlace 29 = .ok (.iadd, 1) := by decide +kernel
theorem dX4_contentPlace_30 : decode cX4_contentPlace 30 = .ok (.iload_n 3, 1) := by decide +kernel
theorem dX4_contentPlace_31 : decode cX4_contentPlace 31 = .ok (.iadd, 1) := by decide +kernel
theorem dX4_contentPlace_32 : decode cX4_contentPlace 32 = .ok (.istore 4, 2) := by decide +kernel
theorem dX4_contentPlace_34 : decode cX4_contentPlace 34 = .ok (.iload_n 3, 1) := by decide +kernel
theorem dX4_contentPlace_35 : decode cX4_contentPlace 35 = .ok (.iconst 5, 1) := by decide +kernel
theorem dX4_contentPlace_36 : decode cX4_contentPlace 36 = .ok (.if_icmp .lt 40, 3) := by decide +kernel
theorem dX4_contentPlace_39 : decode cX4_contentPlace 39 = .ok (.aload_n 0, 1) := by decide +kernel
theorem dX4_contentPlace_40 : decode cX4_contentPlace 40 = .ok (.getfield 9, 3) := by decide +kernel
theorem dX4_contentPlace_43 : decode cX4_contentPlace 43 = .ok (.iload_n 1, 1) := by decide +kernel
theorem dX4_contentPlace_44 : decode cX4_contentPlace 44 = .ok (.invokestatic 19, 3) := by decide +kernel
theorem dX4_contentPlace_47 : decode cX4_contentPlace 47 = .ok (.bipush 9, 2) := by decide +kernel
theorem dX4_contentPlace_49 : decode cX4_contentPlace 49 = .ok (.iadd, 1) := by decide +kernel
theorem dX4_contentPlace_50 : decode cX4_contentPlace 50 = .ok (.invokevirtual 23, 3) := by decide +kernel
theorem dX4_contentPlace_53 : decode cX4_contentPlace 53 = .ok (.istore 5, 2) := by decide +kernel
theorem dX4_contentPlace_55 : decode cX4_contentPlace 55 = .ok (.iload 5, 2) := by decide +kernel
theorem dX4_contentPlace_57 : decode cX4_contentPlace 57 = .ok (.invokestatic 48, 3) := by decide +kernel
theorem dX4_contentPlace_60 : decode cX4_contentPlace 60 = .ok (.ifCond .ne 5, 3) := by decide +kernel
theorem dX4_contentPlace_63 : decode cX4_contentPlace 63 = .ok (.iconst (-1), 1) := by decide +kernel
theorem dX4_contentPlace_64 : decode cX4_contentPlace 64 = .ok (.ireturn, 1) := by decide +kernel
theorem dX4_contentPlace_65 : decode cX4_contentPlace 65 = .ok (.iload 5, 2) := by decide +kernel
theorem dX4_contentPlace_67 : decode cX4_contentPlace 67 = .ok (.bipush 64, 2) := by decide +kernel
theorem dX4_contentPlace_69 : decode cX4_contentPlace 69 = .ok (.imul, 1) := by decide +kernel
theorem dX4_contentPlace_70 : decode cX4_contentPlace 70 = .ok (.iload_n 3, 1) := by decide +kernel
theorem dX4_contentPlace_71 : decode cX4_contentPlace 71 = .ok (.iadd, 1) := by decide +kernel
theorem dX4_contentPlace_72 : decode cX4_contentPlace 72 = .ok (.iconst 5, 1) := by decide +kernel
theorem dX4_contentPlace_73 : decode cX4_contentPlace 73 = .ok (.isub, 1) := by decide +kernel
theorem dX4_contentPlace_74 : decode cX4_contentPlace 74 = .ok (.istore 4, 2) := by decide +kernel
theorem dX4_contentPlace_76 : decode cX4_contentPlace 76 = .ok (.aload_n 0, 1) := by decide +kernel
theorem dX4_contentPlace_77 : decode cX4_contentPlace 77 = .ok (.getfield 9, 3) := by decide +kernel
theorem dX4_contentPlace_80 : decode cX4_contentPlace 80 = .ok (.iload 4, 2) := by decide +kernel
theorem dX4_contentPlace_82 : decode cX4_contentPlace 82 = .ok (.invokevirtual 23, 3) := by decide +kernel
theorem dX4_contentPlace_85 : decode cX4_contentPlace 85 = .ok (.istore 5, 2) := by decide +kernel
theorem dX4_contentPlace_87 : decode cX4_contentPlace 87 = .ok (.iload 5, 2) := by decide +kernel
theorem dX4_contentPlace_89 : decode cX4_contentPlace 89 = .ok (.invokestatic 48, 3) := by decide +kernel
theorem dX4_contentPlace_92 : decode cX4_contentPlace 92 = .ok (.ifCond .eq 16, 3) := by decide +kernel
theorem dX4_contentPlace_95 : decode cX4_contentPlace 95 = .ok (.iload 5, 2) := by decide +kernel
theorem dX4_contentPlace_97 : decode cX4_contentPlace 97 = .ok (.bipush 64, 2) := by decide +kernel
theorem dX4_contentPlace_99 : decode cX4_contentPlace 99 = .ok (.imul, 1) := by decide +kernel
theorem dX4_contentPlace_100 : decode cX4_contentPlace 100 = .ok (.iload_n 2, 1) := by decide +kernel
theorem dX4_contentPlace_101 : decode cX4_contentPlace 101 = .ok (.bipush 64, 2) := by decide +kernel
theorem dX4_contentPlace_103 : decode cX4_contentPlace 103 = .ok (.irem, 1) := by decide +kernel
theorem dX4_contentPlace_104 : decode cX4_contentPlace 104 = .ok (.iadd, 1) := by decide +kernel
theorem dX4_contentPlace_105 : decode cX4_contentPlace 105 = .ok (.goto 4, 3) := by decide +kernel
theorem dX4_contentPlace_108 : decode cX4_contentPlace 108 = .ok (.iconst (-1), 1) := by decide +kernel
theorem dX4_contentPlace_109 : decode cX4_contentPlace 109 = .ok (.ireturn, 1) := by decide +kernel
theorem dX4_blocksOf_0 : decode cX4_blocksOf 0 = .ok (.aload_n 0, 1) := by decide +kernel
theorem dX4_blocksOf_1 : decode cX4_blocksOf 1 = .ok (.iload_n 1, 1) := by decide +kernel
theorem dX4_blocksOf_2 : decode cX4_blocksOf 2 = .ok (.invokevirtual 51, 3) := by decide +kernel
theorem dX4_blocksOf_5 : decode cX4_blocksOf 5 = .ok (.istore_n 2, 1) := by decide +kernel
theorem dX4_blocksOf_6 : decode cX4_blocksOf 6 = .ok (.lconst 0, 1) := by decide +kernel
theorem dX4_blocksOf_7 : decode cX4_blocksOf 7 = .ok (.lstore_n 3, 1) := by decide +kernel
theorem dX4_blocksOf_8 : decode cX4_blocksOf 8 = .ok (.iconst 0, 1) := by decide +kernel
theorem dX4_blocksOf_9 : decode cX4_blocksOf 9 = .ok (.istore 5, 2) := by decide +kernel
theorem dX4_blocksOf_11 : decode cX4_blocksOf 11 = .ok (.iload 5, 2) := by decide +kernel
theorem dX4_blocksOf_13 : decode cX4_blocksOf 13 = .ok (.iload_n 2, 1) := by decide +kernel
theorem dX4_blocksOf_14 : decode cX4_blocksOf 14 = .ok (.if_icmp .ge 48, 3) := by decide +kernel
theorem dX4_blocksOf_17 : decode cX4_blocksOf 17 = .ok (.iload 5, 2) := by decide +kernel
theorem dX4_blocksOf_19 : decode cX4_blocksOf 19 = .ok (.bipush 46, 2) := by decide +kernel
theorem dX4_blocksOf_21 : decode cX4_blocksOf 21 = .ok (.if_icmp .ge 41, 3) := by decide +kernel
theorem dX4_blocksOf_24 : decode cX4_blocksOf 24 = .ok (.aload_n 0, 1) := by decide +kernel
theorem dX4_blocksOf_25 : decode cX4_blocksOf 25 = .ok (.iload_n 1, 1) := by decide +kernel
theorem dX4_blocksOf_26 : decode cX4_blocksOf 26 = .ok (.iload 5, 2) := by decide +kernel
theorem dX4_blocksOf_28 : decode cX4_blocksOf 28 = .ok (.bipush 64, 2) := by decide +kernel
theorem dX4_blocksOf_30 : decode cX4_blocksOf 30 = .ok (.imul, 1) := by decide +kernel
theorem dX4_blocksOf_31 : decode cX4_blocksOf 31 = .ok (.invokevirtual 54, 3) := by decide +kernel
theorem dX4_blocksOf_34 : decode cX4_blocksOf 34 = .ok (.istore 6, 2) := by decide +kernel
theorem dX4_blocksOf_36 : decode cX4_blocksOf 36 = .ok (.lload_n 3, 1) := by decide +kernel
theorem dX4_blocksOf_37 : decode cX4_blocksOf 37 = .ok (.iload 6, 2) := by decide +kernel
theorem dX4_blocksOf_39 : decode cX4_blocksOf 39 = .ok (.iconst (-1), 1) := by decide +kernel
theorem dX4_blocksOf_40 : decode cX4_blocksOf 40 = .ok (.if_icmp .ne 7, 3) := by decide +kernel
theorem dX4_blocksOf_43 : decode cX4_blocksOf 43 = .ok (.iconst 0, 1) := by decide +kernel
theorem dX4_blocksOf_44 : decode cX4_blocksOf 44 = .ok (.goto 8, 3) := by decide +kernel
theorem dX4_blocksOf_47 : decode cX4_blocksOf 47 = .ok (.iload 6, 2) := by decide +kernel
theorem dX4_blocksOf_49 : decode cX4_blocksOf 49 = .ok (.bipush 64, 2) := by decide +kernel
theorem dX4_blocksOf_51 : decode cX4_blocksOf 51 = .ok (.idiv, 1) := by decide +kernel
theorem dX4_blocksOf_52 : decode cX4_blocksOf 52 = .ok (.invokestatic 57, 3) := by decide +kernel
theorem dX4_blocksOf_55 : decode cX4_blocksOf 55 = .ok (.lstore_n 3, 1) := by decide +kernel
theorem dX4_blocksOf_56 : decode cX4_blocksOf 56 = .ok (.iinc 5 1, 3) := by decide +kernel
theorem dX4_blocksOf_59 : decode cX4_blocksOf 59 = .ok (.goto (-48), 3) := by decide +kernel
theorem dX4_blocksOf_62 : decode cX4_blocksOf 62 = .ok (.iload_n 2, 1) := by decide +kernel
theorem dX4_blocksOf_63 : decode cX4_blocksOf 63 = .ok (.iconst 5, 1) := by decide +kernel
theorem dX4_blocksOf_64 : decode cX4_blocksOf 64 = .ok (.if_icmp .le 22, 3) := by decide +kernel
theorem dX4_blocksOf_67 : decode cX4_blocksOf 67 = .ok (.lload_n 3, 1) := by decide +kernel
theorem dX4_blocksOf_68 : decode cX4_blocksOf 68 = .ok (.aload_n 0, 1) := by decide +kernel
theorem dX4_blocksOf_69 : decode cX4_blocksOf 69 = .ok (.getfield 9, 3) := by decide +kernel
theorem dX4_blocksOf_72 : decode cX4_blocksOf 72 = .ok (.iload_n 1, 1) := by decide +kernel
theorem dX4_blocksOf_73 : decode cX4_blocksOf 73 = .ok (.invokestatic 19, 3) := by decide +kernel
theorem dX4_blocksOf_76 : decode cX4_blocksOf 76 = .ok (.bipush 9, 2) := by decide +kernel
theorem dX4_blocksOf_78 : decode cX4_blocksOf 78 = .ok (.iadd, 1) := by decide +kernel
theorem dX4_blocksOf_79 : decode cX4_blocksOf 79 = .ok (.invokevirtual 23, 3) := by decide +kernel
theorem dX4_blocksOf_82 : decode cX4_blocksOf 82 = .ok (.invokestatic 57, 3) := by decide +kernel
theorem dX4_blocksOf_85 : decode cX4_blocksOf 85 = .ok (.lstore_n 3, 1) := by decide +kernel
theorem dX4_blocksOf_86 : decode cX4_blocksOf 86 = .ok (.lload_n 3, 1) := by decide +kernel
theorem dX4_blocksOf_87 : decode cX4_blocksOf 87 = .ok (.lreturn, 1) := by decide +kernel
theorem dX4_withBlock_0 : decode cX4_withBlock 0 = .ok (.iload_n 2, 1) := by decide +kernel
theorem dX4_withBlock_1 : decode cX4_withBlock 1 = .ok (.invokestatic 48, 3) := by decide +kernel
theorem dX4_withBlock_4 : decode cX4_withBlock 4 = .ok (.ifCond .eq 17, 3) := by decide +kernel
theorem dX4_withBlock_7 : decode cX4_withBlock 7 = .ok (.lload_n 0, 1) := by decide +kernel
theorem dX4_withBlock_8 : decode cX4_withBlock 8 = .ok (.iload_n 2, 1) := by decide +kernel
theorem dX4_withBlock_9 : decode cX4_withBlock 9 = .ok (.lshr, 1) := by decide +kernel
theorem dX4_withBlock_10 : decode cX4_withBlock 10 = .ok (.lconst 1, 1) := by decide +kernel
theorem dX4_withBlock_11 : decode cX4_withBlock 11 = .ok (.land, 1) := by decide +kernel
theorem dX4_withBlock_12 : decode cX4_withBlock 12 = .ok (.lconst 0, 1) := by decide +kernel
theorem dX4_withBlock_13 : decode cX4_withBlock 13 = .ok (.lcmp, 1) := by decide +kernel
theorem dX4_withBlock_14 : decode cX4_withBlock 14 = .ok (.ifCond .ne 7, 3) := by decide +kernel
theorem dX4_withBlock_17 : decode cX4_withBlock 17 = .ok (.iconst 1, 1) := by decide +kernel
theorem dX4_withBlock_18 : decode cX4_withBlock 18 = .ok (.goto 4, 3) := by decide +kernel
theorem dX4_withBlock_21 : decode cX4_withBlock 21 = .ok (.iconst 0, 1) := by decide +kernel
theorem dX4_withBlock_22 : decode cX4_withBlock 22 = .ok (.istore_n 3, 1) := by decide +kernel
theorem dX4_withBlock_23 : decode cX4_withBlock 23 = .ok (.iload_n 3, 1) := by decide +kernel
theorem dX4_withBlock_24 : decode cX4_withBlock 24 = .ok (.ifCond .eq 11, 3) := by decide +kernel
theorem dX4_withBlock_27 : decode cX4_withBlock 27 = .ok (.lload_n 0, 1) := by decide +kernel
theorem dX4_withBlock_28 : decode cX4_withBlock 28 = .ok (.lconst 1, 1) := by decide +kernel
theorem dX4_withBlock_29 : decode cX4_withBlock 29 = .ok (.iload_n 2, 1) := by decide +kernel
theorem dX4_withBlock_30 : decode cX4_withBlock 30 = .ok (.lshl, 1) := by decide +kernel
theorem dX4_withBlock_31 : decode cX4_withBlock 31 = .ok (.lor, 1) := by decide +kernel
theorem dX4_withBlock_32 : decode cX4_withBlock 32 = .ok (.goto 6, 3) := by decide +kernel
theorem dX4_withBlock_35 : decode cX4_withBlock 35 = .ok (.lload_n 0, 1) := by decide +kernel
theorem dX4_withBlock_36 : decode cX4_withBlock 36 = .ok (.lconst 1, 1) := by decide +kernel
theorem dX4_withBlock_37 : decode cX4_withBlock 37 = .ok (.lor, 1) := by decide +kernel
theorem dX4_withBlock_38 : decode cX4_withBlock 38 = .ok (.lreturn, 1) := by decide +kernel
theorem dX4_taken_0 : decode cX4_taken 0 = .ok (.aload_n 0, 1) := by decide +kernel
theorem dX4_taken_1 : decode cX4_taken 1 = .ok (.getfield 61, 3) := by decide +kernel
theorem dX4_taken_4 : decode cX4_taken 4 = .ok (.lreturn, 1) := by decide +kernel
theorem dX4_forgetTaken_0 : decode cX4_forgetTaken 0 = .ok (.aload_n 0, 1) := by decide +kernel
theorem dX4_forgetTaken_1 : decode cX4_forgetTaken 1 = .ok (.lconst 0, 1) := by decide +kernel
theorem dX4_forgetTaken_2 : decode cX4_forgetTaken 2 = .ok (.putfield 61, 3) := by decide +kernel
theorem dX4_forgetTaken_5 : decode cX4_forgetTaken 5 = .ok (.return_, 1) := by decide +kernel
theorem dX4_takeBlocks_0 : decode cX4_takeBlocks 0 = .ok (.aload_n 0, 1) := by decide +kernel
theorem dX4_takeBlocks_1 : decode cX4_takeBlocks 1 = .ok (.iload_n 1, 1) := by decide +kernel
theorem dX4_takeBlocks_2 : decode cX4_takeBlocks 2 = .ok (.invokevirtual 65, 3) := by decide +kernel
theorem dX4_takeBlocks_5 : decode cX4_takeBlocks 5 = .ok (.lstore_n 2, 1) := by decide +kernel
theorem dX4_takeBlocks_6 : decode cX4_takeBlocks 6 = .ok (.lload_n 2, 1) := by decide +kernel
theorem dX4_takeBlocks_7 : decode cX4_takeBlocks 7 = .ok (.aload_n 0, 1) := by decide +kernel
theorem dX4_takeBlocks_8 : decode cX4_takeBlocks 8 = .ok (.getfield 61, 3) := by decide +kernel
theorem dX4_takeBlocks_11 : decode cX4_takeBlocks 11 = .ok (.lconst 1, 1) := by decide +kernel
theorem dX4_takeBlocks_12 : decode cX4_takeBlocks 12 = .ok (.lor, 1) := by decide +kernel
theorem dX4_takeBlocks_13 : decode cX4_takeBlocks 13 = .ok (.land, 1) := by decide +kernel
theorem dX4_takeBlocks_14 : decode cX4_takeBlocks 14 = .ok (.lconst 0, 1) := by decide +kernel
theorem dX4_takeBlocks_15 : decode cX4_takeBlocks 15 = .ok (.lcmp, 1) := by decide +kernel
theorem dX4_takeBlocks_16 : decode cX4_takeBlocks 16 = .ok (.ifCond .eq 5, 3) := by decide +kernel
theorem dX4_takeBlocks_19 : decode cX4_takeBlocks 19 = .ok (.iconst 0, 1) := by decide +kernel
theorem dX4_takeBlocks_20 : decode cX4_takeBlocks 20 = .ok (.ireturn, 1) := by decide +kernel
theorem dX4_takeBlocks_21 : decode cX4_takeBlocks 21 = .ok (.aload_n 0, 1) := by decide +kernel
theorem dX4_takeBlocks_22 : decode cX4_takeBlocks 22 = .ok (.dup, 1) := by decide +kernel
theorem dX4_takeBlocks_23 : decode cX4_takeBlocks 23 = .ok (.getfield 61, 3) := by decide +kernel
theorem dX4_takeBlocks_26 : decode cX4_takeBlocks 26 = .ok (.lload_n 2, 1) := by decide +kernel
theorem dX4_takeBlocks_27 : decode cX4_takeBlocks 27 = .ok (.lor, 1) := by decide +kernel
theorem dX4_takeBlocks_28 : decode cX4_takeBlocks 28 = .ok (.putfield 61, 3) := by decide +kernel
theorem dX4_takeBlocks_31 : decode cX4_takeBlocks 31 = .ok (.iconst 1, 1) := by decide +kernel
theorem dX4_takeBlocks_32 : decode cX4_takeBlocks 32 = .ok (.ireturn, 1) := by decide +kernel
theorem dX4_firstFree_0 : decode cX4_firstFree 0 = .ok (.iconst 3, 1) := by decide +kernel
theorem dX4_firstFree_1 : decode cX4_firstFree 1 = .ok (.istore_n 1, 1) := by decide +kernel
theorem dX4_firstFree_2 : decode cX4_firstFree 2 = .ok (.iload_n 1, 1) := by decide +kernel
theorem dX4_firstFree_3 : decode cX4_firstFree 3 = .ok (.bipush 32, 2) := by decide +kernel
theorem dX4_firstFree_5 : decode cX4_firstFree 5 = .ok (.if_icmp .ge 19, 3) := by decide +kernel
theorem dX4_firstFree_8 : decode cX4_firstFree 8 = .ok (.aload_n 0, 1) := by decide +kernel
theorem dX4_firstFree_9 : decode cX4_firstFree 9 = .ok (.iload_n 1, 1) := by decide +kernel
theorem dX4_firstFree_10 : decode cX4_firstFree 10 = .ok (.invokevirtual 69, 3) := by decide +kernel
theorem dX4_firstFree_13 : decode cX4_firstFree 13 = .ok (.ifCond .ne 5, 3) := by decide +kernel
theorem dX4_firstFree_16 : decode cX4_firstFree 16 = .ok (.iload_n 1, 1) := by decide +kernel
theorem dX4_firstFree_17 : decode cX4_firstFree 17 = .ok (.ireturn, 1) := by decide +kernel
theorem dX4_firstFree_18 : decode cX4_firstFree 18 = .ok (.iinc 1 1, 3) := by decide +kernel
theorem dX4_firstFree_21 : decode cX4_firstFree 21 = .ok (.goto (-19), 3) := by decide +kernel
theorem dX4_firstFree_24 : decode cX4_firstFree 24 = .ok (.iconst (-1), 1) := by decide +kernel
theorem dX4_firstFree_25 : decode cX4_firstFree 25 = .ok (.ireturn, 1) := by decide +kernel
theorem dX4_hasFreeBlock_0 : decode cX4_hasFreeBlock 0 = .ok (.aload_n 0, 1) := by decide +kernel
theorem dX4_hasFreeBlock_1 : decode cX4_hasFreeBlock 1 = .ok (.getfield 61, 3) := by decide +kernel
theorem dX4_hasFreeBlock_4 : decode cX4_hasFreeBlock 4 = .ok (.invokestatic 72, 3) := by decide +kernel
theorem dX4_hasFreeBlock_7 : decode cX4_hasFreeBlock 7 = .ok (.bipush 47, 2) := by decide +kernel
theorem dX4_hasFreeBlock_9 : decode cX4_hasFreeBlock 9 = .ok (.if_icmp .ge 7, 3) := by decide +kernel
theorem dX4_hasFreeBlock_12 : decode cX4_hasFreeBlock 12 = .ok (.iconst 1, 1) := by decide +kernel
theorem dX4_hasFreeBlock_13 : decode cX4_hasFreeBlock 13 = .ok (.goto 4, 3) := by decide +kernel
theorem dX4_hasFreeBlock_16 : decode cX4_hasFreeBlock 16 = .ok (.iconst 0, 1) := by decide +kernel
theorem dX4_hasFreeBlock_17 : decode cX4_hasFreeBlock 17 = .ok (.ireturn, 1) := by decide +kernel
theorem dX4_takeFreeBlock_0 : decode cX4_takeFreeBlock 0 = .ok (.bipush 16, 2) := by decide +kernel
theorem dX4_takeFreeBlock_2 : decode cX4_takeFreeBlock 2 = .ok (.istore_n 1, 1) := by decide +kernel
theorem dX4_takeFreeBlock_3 : decode cX4_takeFreeBlock 3 = .ok (.iload_n 1, 1) := by decide +kernel
theorem dX4_takeFreeBlock_4 : decode cX4_takeFreeBlock 4 = .ok (.bipush 62, 2) := by decide +kernel
theorem dX4_takeFreeBlock_6 : decode cX4_takeFreeBlock 6 = .ok (.if_icmp .gt 49, 3) := by decide +kernel
theorem dX4_takeFreeBlock_9 : decode cX4_takeFreeBlock 9 = .ok (.aload_n 0, 1) := by decide +kernel
theorem dX4_takeFreeBlock_10 : decode cX4_takeFreeBlock 10 = .ok (.getfield 61, 3) := by decide +kernel
theorem dX4_takeFreeBlock_13 : decode cX4_takeFreeBlock 13 = .ok (.iload_n 1, 1) := by decide +kernel
theorem dX4_takeFreeBlock_14 : decode cX4_takeFreeBlock 14 = .ok (.lshr, 1) := by decide +kernel
theorem dX4_takeFreeBlock_15 : decode cX4_takeFreeBlock 15 = .ok (.lconst 1, 1) := by decide +kernel
theorem dX4_takeFreeBlock_16 : decode cX4_takeFreeBlock 16 = .ok (.land, 1) := by decide +kernel
theorem dX4_takeFreeBlock_17 : decode cX4_takeFreeBlock 17 = .ok (.lconst 0, 1) := by decide +kernel
theorem dX4_takeFreeBlock_18 : decode cX4_takeFreeBlock 18 = .ok (.lcmp, 1) := by decide +kernel
theorem dX4_takeFreeBlock_19 : decode cX4_takeFreeBlock 19 = .ok (.ifCond .ne 30, 3) := by decide +kernel
theorem dX4_takeFreeBlock_22 : decode cX4_takeFreeBlock 22 = .ok (.aload_n 0, 1) := by decide +kernel
theorem dX4_takeFreeBlock_23 : decode cX4_takeFreeBlock 23 = .ok (.dup, 1) := by decide +kernel
theorem dX4_takeFreeBlock_24 : decode cX4_takeFreeBlock 24 = .ok (.getfield 61, 3) := by decide +kernel
theorem dX4_takeFreeBlock_27 : decode cX4_takeFreeBlock 27 = .ok (.lconst 1, 1) := by decide +kernel
theorem dX4_takeFreeBlock_28 : decode cX4_takeFreeBlock 28 = .ok (.iload_n 1, 1) := by decide +kernel
theorem dX4_takeFreeBlock_29 : decode cX4_takeFreeBlock 29 = .ok (.lshl, 1) := by decide +kernel
theorem dX4_takeFreeBlock_30 : decode cX4_takeFreeBlock 30 = .ok (.lor, 1) := by decide +kernel
theorem dX4_takeFreeBlock_31 : decode cX4_takeFreeBlock 31 = .ok (.putfield 61, 3) := by decide +kernel
theorem dX4_takeFreeBlock_34 : decode cX4_takeFreeBlock 34 = .ok (.aload_n 0, 1) := by decide +kernel
theorem dX4_takeFreeBlock_35 : decode cX4_takeFreeBlock 35 = .ok (.getfield 9, 3) := by decide +kernel
theorem dX4_takeFreeBlock_38 : decode cX4_takeFreeBlock 38 = .ok (.iload_n 1, 1) := by decide +kernel
theorem dX4_takeFreeBlock_39 : decode cX4_takeFreeBlock 39 = .ok (.bipush 64, 2) := by decide +kernel
theorem dX4_takeFreeBlock_41 : decode cX4_takeFreeBlock 41 = .ok (.imul, 1) := by decide +kernel
theorem dX4_takeFreeBlock_42 : decode cX4_takeFreeBlock 42 = .ok (.bipush 64, 2) := by decide +kernel
theorem dX4_takeFreeBlock_44 : decode cX4_takeFreeBlock 44 = .ok (.invokevirtual 78, 3) := by decide +kernel
theorem dX4_takeFreeBlock_47 : decode cX4_takeFreeBlock 47 = .ok (.iload_n 1, 1) := by decide +kernel
theorem dX4_takeFreeBlock_48 : decode cX4_takeFreeBlock 48 = .ok (.ireturn, 1) := by decide +kernel
theorem dX4_takeFreeBlock_49 : decode cX4_takeFreeBlock 49 = .ok (.iinc 1 1, 3) := by decide +kernel
theorem dX4_takeFreeBlock_52 : decode cX4_takeFreeBlock 52 = .ok (.goto (-49), 3) := by decide +kernel
theorem dX4_takeFreeBlock_55 : decode cX4_takeFreeBlock 55 = .ok (.iconst (-1), 1) := by decide +kernel
theorem dX4_takeFreeBlock_56 : decode cX4_takeFreeBlock 56 = .ok (.ireturn, 1) := by decide +kernel
theorem dX4_begin_0 : decode cX4_begin 0 = .ok (.aload_n 0, 1) := by decide +kernel
theorem dX4_begin_1 : decode cX4_begin 1 = .ok (.getfield 9, 3) := by decide +kernel
theorem dX4_begin_4 : decode cX4_begin 4 = .ok (.iload_n 1, 1) := by decide +kernel
theorem dX4_begin_5 : decode cX4_begin 5 = .ok (.invokestatic 19, 3) := by decide +kernel
theorem dX4_begin_8 : decode cX4_begin 8 = .ok (.iload_n 2, 1) := by decide +kernel
theorem dX4_begin_9 : decode cX4_begin 9 = .ok (.invokevirtual 31, 3) := by decide +kernel
theorem dX4_begin_12 : decode cX4_begin 12 = .ok (.return_, 1) := by decide +kernel
theorem dX4_addBlock_0 : decode cX4_addBlock 0 = .ok (.aload_n 0, 1) := by decide +kernel
theorem dX4_addBlock_1 : decode cX4_addBlock 1 = .ok (.iload_n 1, 1) := by decide +kernel
theorem dX4_addBlock_2 : decode cX4_addBlock 2 = .ok (.invokevirtual 51, 3) := by decide +kernel
theorem dX4_addBlock_5 : decode cX4_addBlock 5 = .ok (.istore_n 2, 1) := by decide +kernel
theorem dX4_addBlock_6 : decode cX4_addBlock 6 = .ok (.iload_n 2, 1) := by decide +kernel
theorem dX4_addBlock_7 : decode cX4_addBlock 7 = .ok (.iconst 5, 1) := by decide +kernel
theorem dX4_addBlock_8 : decode cX4_addBlock 8 = .ok (.if_icmp .ne 7, 3) := by decide +kernel
theorem dX4_addBlock_11 : decode cX4_addBlock 11 = .ok (.iconst 2, 1) := by decide +kernel
theorem dX4_addBlock_12 : decode cX4_addBlock 12 = .ok (.goto 4, 3) := by decide +kernel
theorem dX4_addBlock_15 : decode cX4_addBlock 15 = .ok (.iconst 1, 1) := by decide +kernel
theorem dX4_addBlock_16 : decode cX4_addBlock 16 = .ok (.istore_n 3, 1) := by decide +kernel
theorem dX4_addBlock_17 : decode cX4_addBlock 17 = .ok (.iload_n 2, 1) := by decide +kernel
theorem dX4_addBlock_18 : decode cX4_addBlock 18 = .ok (.bipush 46, 2) := by decide +kernel
theorem dX4_addBlock_20 : decode cX4_addBlock 20 = .ok (.if_icmp .ge 17, 3) := by decide +kernel
theorem dX4_addBlock_23 : decode cX4_addBlock 23 = .ok (.bipush 47, 2) := by decide +kernel
theorem dX4_addBlock_25 : decode cX4_addBlock 25 = .ok (.aload_n 0, 1) := by decide +kernel
theorem dX4_addBlock_26 : decode cX4_addBlock 26 = .ok (.getfield 61, 3) := by decide +kernel
theorem dX4_addBlock_29 : decode cX4_addBlock 29 = .ok (.invokestatic 72, 3) := by decide +kernel
theorem dX4_addBlock_32 : decode cX4_addBlock 32 = .ok (.isub, 1) := by decide +kernel
theorem dX4_addBlock_33 : decode cX4_addBlock 33 = .ok (.iload_n 3, 1) := by decide +kernel
theorem dX4_addBlock_34 : decode cX4_addBlock 34 = .ok (.if_icmp .ge 5, 3) := by decide +kernel
theorem dX4_addBlock_37 : decode cX4_addBlock 37 = .ok (.iconst (-1), 1) := by decide +kernel
theorem dX4_addBlock_38 : decode cX4_addBlock 38 = .ok (.ireturn, 1) := by decide +kernel
theorem dX4_addBlock_39 : decode cX4_addBlock 39 = .ok (.aload_n 0, 1) := by decide +kernel
theorem dX4_addBlock_40 : decode cX4_addBlock 40 = .ok (.invokevirtual 81, 3) := by decide +kernel
theorem dX4_addBlock_43 : decode cX4_addBlock 43 = .ok (.istore 4, 2) := by decide +kernel
theorem dX4_addBlock_45 : decode cX4_addBlock 45 = .ok (.iload_n 2, 1) := by decide +kernel
theorem dX4_addBlock_46 : decode cX4_addBlock 46 = .ok (.iconst 5, 1) := by decide +kernel
theorem dX4_addBlock_47 : decode cX4_addBlock 47 = .ok (.if_icmp .ge 23, 3) := by decide +kernel
theorem dX4_addBlock_50 : decode cX4_addBlock 50 = .ok (.aload_n 0, 1) := by decide +kernel
theorem dX4_addBlock_51 : decode cX4_addBlock 51 = .ok (.getfield 9, 3) := by decide +kernel
theorem dX4_addBlock_54 : decode cX4_addBlock 54 = .ok (.iload_n 1, 1) := by decide +kernel
theorem dX4_addBlock_55 : decode cX4_addBlock 55 = .ok (.invokestatic 19, 3) := by decide +kernel
theorem dX4_addBlock_58 : decode cX4_addBlock 58 = .ok (.iconst 4, 1) := by decide +kernel
theorem dX4_addBlock_59 : decode cX4_addBlock 59 = .ok (.iadd, 1) := by decide +kernel
theorem dX4_addBlock_60 : decode cX4_addBlock 60 = .ok (.iload_n 2, 1) := by decide +kernel
theorem dX4_addBlock_61 : decode cX4_addBlock 61 = .ok (.iadd, 1) := by decide +kernel
theorem dX4_addBlock_62 : decode cX4_addBlock 62 = .ok (.iload 4, 2) := by decide +kernel
theorem dX4_addBlock_64 : decode cX4_addBlock 64 = .ok (.invokevirtual 31, 3) := by decide +kernel
theorem dX4_addBlock_67 : decode cX4_addBlock 67 = .ok (.iload 4, 2) := by decide +kernel
theorem dX4_addBlock_69 : decode cX4_addBlock 69 = .ok (.ireturn, 1) := by decide +kernel
theorem dX4_addBlock_70 : decode cX4_addBlock 70 = .ok (.iload_n 2, 1) := by decide +kernel
theorem dX4_addBlock_71 : decode cX4_addBlock 71 = .ok (.iconst 5, 1) := by decide +kernel
theorem dX4_addBlock_72 : decode cX4_addBlock 72 = .ok (.if_icmp .ne 21, 3) := by decide +kernel
theorem dX4_addBlock_75 : decode cX4_addBlock 75 = .ok (.aload_n 0, 1) := by decide +kernel
theorem dX4_addBlock_76 : decode cX4_addBlock 76 = .ok (.getfield 9, 3) := by decide +kernel
theorem dX4_addBlock_79 : decode cX4_addBlock 79 = .ok (.iload_n 1, 1) := by decide +kernel
theorem dX4_addBlock_80 : decode cX4_addBlock 80 = .ok (.invokestatic 19, 3) := by decide +kernel
theorem dX4_addBlock_83 : decode cX4_addBlock 83 = .ok (.bipush 9, 2) := by decide +kernel
theorem dX4_addBlock_85 : decode cX4_addBlock 85 = .ok (.iadd, 1) := by decide +kernel
theorem dX4_addBlock_86 : decode cX4_addBlock 86 = .ok (.aload_n 0, 1) := by decide +kernel
theorem dX4_addBlock_87 : decode cX4_addBlock 87 = .ok (.invokevirtual 81, 3) := by decide +kernel
theorem dX4_addBlock_90 : decode cX4_addBlock 90 = .ok (.invokevirtual 31, 3) := by decide +kernel
theorem dX4_addBlock_93 : decode cX4_addBlock 93 = .ok (.aload_n 0, 1) := by decide +kernel
theorem dX4_addBlock_94 : decode cX4_addBlock 94 = .ok (.getfield 9, 3) := by decide +kernel
theorem dX4_addBlock_97 : decode cX4_addBlock 97 = .ok (.iload_n 1, 1) := by decide +kernel
theorem dX4_addBlock_98 : decode cX4_addBlock 98 = .ok (.invokestatic 19, 3) := by decide +kernel
theorem dX4_addBlock_101 : decode cX4_addBlock 101 = .ok (.bipush 9, 2) := by decide +kernel
theorem dX4_addBlock_103 : decode cX4_addBlock 103 = .ok (.iadd, 1) := by decide +kernel
theorem dX4_addBlock_104 : decode cX4_addBlock 104 = .ok (.invokevirtual 23, 3) := by decide +kernel
theorem dX4_addBlock_107 : decode cX4_addBlock 107 = .ok (.istore 5, 2) := by decide +kernel
theorem dX4_addBlock_109 : decode cX4_addBlock 109 = .ok (.aload_n 0, 1) := by decide +kernel
theorem dX4_addBlock_110 : decode cX4_addBlock 110 = .ok (.getfield 9, 3) := by decide +kernel
theorem dX4_addBlock_113 : decode cX4_addBlock 113 = .ok (.iload 5, 2) := by decide +kernel
theorem dX4_addBlock_115 : decode cX4_addBlock 115 = .ok (.bipush 64, 2) := by decide +kernel
theorem dX4_addBlock_117 : decode cX4_addBlock 117 = .ok (.imul, 1) := by decide +kernel
theorem dX4_addBlock_118 : decode cX4_addBlock 118 = .ok (.iload_n 2, 1) := by decide +kernel
theorem dX4_addBlock_119 : decode cX4_addBlock 119 = .ok (.iadd, 1) := by decide +kernel
theorem dX4_addBlock_120 : decode cX4_addBlock 120 = .ok (.iconst 5, 1) := by decide +kernel
theorem dX4_addBlock_121 : decode cX4_addBlock 121 = .ok (.isub, 1) := by decide +kernel
theorem dX4_addBlock_122 : decode cX4_addBlock 122 = .ok (.iload 4, 2) := by decide +kernel
theorem dX4_addBlock_124 : decode cX4_addBlock 124 = .ok (.invokevirtual 31, 3) := by decide +kernel
theorem dX4_addBlock_127 : decode cX4_addBlock 127 = .ok (.iload 4, 2) := by decide +kernel
theorem dX4_addBlock_129 : decode cX4_addBlock 129 = .ok (.ireturn, 1) := by decide +kernel
theorem dX4_erase_0 : decode cX4_erase 0 = .ok (.aload_n 0, 1) := by decide +kernel
theorem dX4_erase_1 : decode cX4_erase 1 = .ok (.dup, 1) := by decide +kernel
theorem dX4_erase_2 : decode cX4_erase 2 = .ok (.getfield 61, 3) := by decide +kernel
theorem dX4_erase_5 : decode cX4_erase 5 = .ok (.aload_n 0, 1) := by decide +kernel
theorem dX4_erase_6 : decode cX4_erase 6 = .ok (.iload_n 1, 1) := by decide +kernel
theorem dX4_erase_7 : decode cX4_erase 7 = .ok (.invokevirtual 65, 3) := by decide +kernel
theorem dX4_erase_10 : decode cX4_erase 10 = .ok (.ldc2_w 85, 3) := by decide +kernel
theorem dX4_erase_13 : decode cX4_erase 13 = .ok (.lxor, 1) := by decide +kernel
theorem dX4_erase_14 : decode cX4_erase 14 = .ok (.land, 1) := by decide +kernel
theorem dX4_erase_15 : decode cX4_erase 15 = .ok (.putfield 61, 3) := by decide +kernel
theorem dX4_erase_18 : decode cX4_erase 18 = .ok (.aload_n 0, 1) := by decide +kernel
theorem dX4_erase_19 : decode cX4_erase 19 = .ok (.iload_n 1, 1) := by decide +kernel
theorem dX4_erase_20 : decode cX4_erase 20 = .ok (.invokevirtual 87, 3) := by decide +kernel
theorem dX4_erase_23 : decode cX4_erase 23 = .ok (.return_, 1) := by decide +kernel
theorem dX4_wipe_0 : decode cX4_wipe 0 = .ok (.aload_n 0, 1) := by decide +kernel
theorem dX4_wipe_1 : decode cX4_wipe 1 = .ok (.getfield 9, 3) := by decide +kernel
theorem dX4_wipe_4 : decode cX4_wipe 4 = .ok (.iload_n 1, 1) := by decide +kernel
theorem dX4_wipe_5 : decode cX4_wipe 5 = .ok (.invokestatic 19, 3) := by decide +kernel
theorem dX4_wipe_8 : decode cX4_wipe 8 = .ok (.bipush 16, 2) := by decide +kernel
theorem dX4_wipe_10 : decode cX4_wipe 10 = .ok (.invokevirtual 78, 3) := by decide +kernel
theorem dX4_wipe_13 : decode cX4_wipe 13 = .ok (.return_, 1) := by decide +kernel
theorem dX5_write_0 : decode cX5_write 0 = .ok (.aload_n 0, 1) := by decide +kernel
theorem dX5_write_1 : decode cX5_write 1 = .ok (.bipush 64, 2) := by decide +kernel
theorem dX5_write_3 : decode cX5_write 3 = .ok (.bipush 64, 2) := by decide +kernel
theorem dX5_write_5 : decode cX5_write 5 = .ok (.invokevirtual 11, 3) := by decide +kernel
theorem dX5_write_8 : decode cX5_write 8 = .ok (.aload_n 0, 1) := by decide +kernel
theorem dX5_write_9 : decode cX5_write 9 = .ok (.bipush 64, 2) := by decide +kernel
theorem dX5_write_11 : decode cX5_write 11 = .ok (.ldc 17, 2) := by decide +kernel
theorem dX5_write_13 : decode cX5_write 13 = .ok (.invokevirtual 19, 3) := by decide +kernel
theorem dX5_write_16 : decode cX5_write 16 = .ok (.aload_n 0, 1) := by decide +kernel
theorem dX5_write_17 : decode cX5_write 17 = .ok (.bipush 68, 2) := by decide +kernel
theorem dX5_write_19 : decode cX5_write 19 = .ok (.iload_n 3, 1) := by decide +kernel
theorem dX5_write_20 : decode cX5_write 20 = .ok (.invokevirtual 23, 3) := by decide +kernel
theorem dX5_write_23 : decode cX5_write 23 = .ok (.iconst 0, 1) := by decide +kernel
theorem dX5_write_24 : decode cX5_write 24 = .ok (.istore 4, 2) := by decide +kernel
theorem dX5_write_26 : decode cX5_write 26 = .ok (.iload 4, 2) := by decide +kernel
theorem dX5_write_28 : decode cX5_write 28 = .ok (.iload_n 3, 1) := by decide +kernel
theorem dX5_write_29 : decode cX5_write 29 = .ok (.if_icmp .ge 39, 3) := by decide +kernel
theorem dX5_write_32 : decode cX5_write 32 = .ok (.iload 4, 2) := by decide +kernel
theorem dX5_write_34 : decode cX5_write 34 = .ok (.iconst 5, 1) := by decide +kernel
theorem dX5_write_35 : decode cX5_write 35 = .ok (.if_icmp .ge 33, 3) := by decide +kernel
theorem dX5_write_38 : decode cX5_write 38 = .ok (.aload_n 0, 1) := by decide +kernel
theorem dX5_write_39 : decode cX5_write 39 = .ok (.bipush 69, 2) := by decide +kernel
theorem dX5_write_41 : decode cX5_write 41 = .ok (.iload 4, 2) := by decide +kernel
theorem dX5_write_43 : decode cX5_write 43 = .ok (.iadd, 1) := by decide +kernel
theorem dX5_write_44 : decode cX5_write 44 = .ok (.lload_n 1, 1) := by decide +kernel
theorem dX5_write_45 : decode cX5_write 45 = .ok (.bipush 56, 2) := by decide +kernel
theorem dX5_write_47 : decode cX5_write 47 = .ok (.bipush 8, 2) := by decide +kernel
theorem dX5_write_49 : decode cX5_write 49 = .ok (.iload 4, 2) := by decide +kernel
theorem dX5_write_51 : decode cX5_write 51 = .ok (.imul, 1) := by decide +kernel
theorem dX5_write_52 : decode cX5_write 52 = .ok (.isub, 1) := by decide +kernel
theorem dX5_write_53 : decode cX5_write 53 = .ok (.lushr, 1) := by decide +kernel
theorem dX5_write_54 : decode cX5_write 54 = .ok (.l2i, 1) := by decide +kernel
theorem dX5_write_55 : decode cX5_write 55 = .ok (.sipush 255, 3) := by decide +kernel
theorem dX5_write_58 : decode cX5_write 58 = .ok (.iand, 1) := by decide +kernel
theorem dX5_write_59 : decode cX5_write 59 = .ok (.invokevirtual 23, 3) := by decide +kernel
theorem dX5_write_62 : decode cX5_write 62 = .ok (.iinc 4 1, 3) := by decide +kernel
theorem dX5_write_65 : decode cX5_write 65 = .ok (.goto (-39), 3) := by decide +kernel
theorem dX5_write_68 : decode cX5_write 68 = .ok (.aload_n 0, 1) := by decide +kernel
theorem dX5_write_69 : decode cX5_write 69 = .ok (.invokestatic 26, 3) := by decide +kernel
theorem dX5_write_72 : decode cX5_write 72 = .ok (.return_, 1) := by decide +kernel
theorem dX5_writeSum_0 : decode cX5_writeSum 0 = .ok (.aload_n 0, 1) := by decide +kernel
theorem dX5_writeSum_1 : decode cX5_writeSum 1 = .ok (.bipush 126, 2) := by decide +kernel
theorem dX5_writeSum_3 : decode cX5_writeSum 3 = .ok (.aload_n 0, 1) := by decide +kernel
theorem dX5_writeSum_4 : decode cX5_writeSum 4 = .ok (.invokestatic 30, 3) := by decide +kernel
theorem dX5_writeSum_7 : decode cX5_writeSum 7 = .ok (.invokevirtual 34, 3) := by decide +kernel
theorem dX5_writeSum_10 : decode cX5_writeSum 10 = .ok (.return_, 1) := by decide +kernel
theorem dX5_replay_0 : decode cX5_replay 0 = .ok (.aload_n 0, 1) := by decide +kernel
theorem dX5_replay_1 : decode cX5_replay 1 = .ok (.invokestatic 37, 3) := by decide +kernel
theorem dX5_replay_4 : decode cX5_replay 4 = .ok (.ifCond .eq 44, 3) := by decide +kernel
theorem dX5_replay_7 : decode cX5_replay 7 = .ok (.aload_n 0, 1) := by decide +kernel
theorem dX5_replay_8 : decode cX5_replay 8 = .ok (.bipush 68, 2) := by decide +kernel
theorem dX5_replay_10 : decode cX5_replay 10 = .ok (.invokevirtual 41, 3) := by decide +kernel
theorem dX5_replay_13 : decode cX5_replay 13 = .ok (.istore_n 1, 1) := by decide +kernel
theorem dX5_replay_14 : decode cX5_replay 14 = .ok (.iconst 0, 1) := by decide +kernel
theorem dX5_replay_15 : decode cX5_replay 15 = .ok (.istore_n 2, 1) := by decide +kernel
theorem dX5_replay_16 : decode cX5_replay 16 = .ok (.iload_n 2, 1) := by decide +kernel
theorem dX5_replay_17 : decode cX5_replay 17 = .ok (.iload_n 1, 1) := by decide +kernel
theorem dX5_replay_18 : decode cX5_replay 18 = .ok (.if_icmp .ge 30, 3) := by decide +kernel
theorem dX5_replay_21 : decode cX5_replay 21 = .ok (.iload_n 2, 1) := by decide +kernel
theorem dX5_replay_22 : decode cX5_replay 22 = .ok (.iconst 5, 1) := by decide +kernel
theorem dX5_replay_23 : decode cX5_replay 23 = .ok (.if_icmp .ge 25, 3) := by decide +kernel
theorem dX5_replay_26 : decode cX5_replay 26 = .ok (.aload_n 0, 1) := by decide +kernel
theorem dX5_replay_27 : decode cX5_replay 27 = .ok (.iconst 2, 1) := by decide +kernel
theorem dX5_replay_28 : decode cX5_replay 28 = .ok (.iload_n 2, 1) := by decide +kernel
theorem dX5_replay_29 : decode cX5_replay 29 = .ok (.iadd, 1) := by decide +kernel
theorem dX5_replay_30 : decode cX5_replay 30 = .ok (.aload_n 0, 1) := by decide +kernel
theorem dX5_replay_31 : decode cX5_replay 31 = .ok (.aload_n 0, 1) := by decide +kernel
theorem dX5_replay_32 : decode cX5_replay 32 = .ok (.bipush 69, 2) := by decide +kernel
theorem dX5_replay_34 : decode cX5_replay 34 = .ok (.iload_n 2, 1) := by decide +kernel
theorem dX5_replay_35 : decode cX5_replay 35 = .ok (.iadd, 1) := by decide +kernel
theorem dX5_replay_36 : decode cX5_replay 36 = .ok (.invokevirtual 41, 3) := by decide +kernel
theorem dX5_replay_39 : decode cX5_replay 39 = .ok (.invokevirtual 45, 3) := by decide +kernel
theorem dX5_replay_42 : decode cX5_replay 42 = .ok (.iinc 2 1, 3) := by decide +kernel
theorem dX5_replay_45 : decode cX5_replay 45 = .ok (.goto (-29), 3) := by decide +kernel
theorem dX5_replay_48 : decode cX5_replay 48 = .ok (.aload_n 0, 1) := by decide +kernel
theorem dX5_replay_49 : decode cX5_replay 49 = .ok (.bipush 64, 2) := by decide +kernel
theorem dX5_replay_51 : decode cX5_replay 51 = .ok (.bipush 64, 2) := by decide +kernel
theorem dX5_replay_53 : decode cX5_replay 53 = .ok (.invokevirtual 11, 3) := by decide +kernel
theorem dX5_replay_56 : decode cX5_replay 56 = .ok (.return_, 1) := by decide +kernel
theorem dX5_isGood_0 : decode cX5_isGood 0 = .ok (.aload_n 0, 1) := by decide +kernel
theorem dX5_isGood_1 : decode cX5_isGood 1 = .ok (.bipush 68, 2) := by decide +kernel
theorem dX5_isGood_3 : decode cX5_isGood 3 = .ok (.invokevirtual 41, 3) := by decide +kernel
theorem dX5_isGood_6 : decode cX5_isGood 6 = .ok (.istore_n 1, 1) := by decide +kernel
theorem dX5_isGood_7 : decode cX5_isGood 7 = .ok (.aload_n 0, 1) := by decide +kernel
theorem dX5_isGood_8 : decode cX5_isGood 8 = .ok (.bipush 64, 2) := by decide +kernel
theorem dX5_isGood_10 : decode cX5_isGood 10 = .ok (.ldc 17, 2) := by decide +kernel
theorem dX5_isGood_12 : decode cX5_isGood 12 = .ok (.invokevirtual 49, 3) := by decide +kernel
theorem dX5_isGood_15 : decode cX5_isGood 15 = .ok (.ifCond .eq 53, 3) := by decide +kernel
theorem dX5_isGood_18 : decode cX5_isGood 18 = .ok (.iload_n 1, 1) := by decide +kernel
theorem dX5_isGood_19 : decode cX5_isGood 19 = .ok (.iconst 1, 1) := by decide +kernel
theorem dX5_isGood_20 : decode cX5_isGood 20 = .ok (.if_icmp .lt 48, 3) := by decide +kernel
theorem dX5_isGood_23 : decode cX5_isGood 23 = .ok (.iload_n 1, 1) := by decide +kernel
theorem dX5_isGood_24 : decode cX5_isGood 24 = .ok (.iconst 5, 1) := by decide +kernel
theorem dX5_isGood_25 : decode cX5_isGood 25 = .ok (.if_icmp .gt 43, 3) := by decide +kernel
theorem dX5_isGood_28 : decode cX5_isGood 28 = .ok (.aload_n 0, 1) := by decide +kernel
theorem dX5_isGood_29 : decode cX5_isGood 29 = .ok (.bipush 69, 2) := by decide +kernel
theorem dX5_isGood_31 : decode cX5_isGood 31 = .ok (.iload_n 1, 1) := by decide +kernel
theorem dX5_isGood_32 : decode cX5_isGood 32 = .ok (.iadd, 1) := by decide +kernel
theorem dX5_isGood_33 : decode cX5_isGood 33 = .ok (.bipush 57, 2) := by decide +kernel
theorem dX5_isGood_35 : decode cX5_isGood 35 = .ok (.iload_n 1, 1) := by decide +kernel
theorem dX5_isGood_36 : decode cX5_isGood 36 = .ok (.isub, 1) := by decide +kernel
theorem dX5_isGood_37 : decode cX5_isGood 37 = .ok (.invokevirtual 53, 3) := by decide +kernel
theorem dX5_isGood_40 : decode cX5_isGood 40 = .ok (.ifCond .eq 28, 3) := by decide +kernel
theorem dX5_isGood_43 : decode cX5_isGood 43 = .ok (.aload_n 0, 1) := by decide +kernel
theorem dX5_isGood_44 : decode cX5_isGood 44 = .ok (.bipush 126, 2) := by decide +kernel
theorem dX5_isGood_46 : decode cX5_isGood 46 = .ok (.invokevirtual 57, 3) := by decide +kernel
theorem dX5_isGood_49 : decode cX5_isGood 49 = .ok (.aload_n 0, 1) := by decide +kernel
theorem dX5_isGood_50 : decode cX5_isGood 50 = .ok (.invokestatic 30, 3) := by decide +kernel
theorem dX5_isGood_53 : decode cX5_isGood 53 = .ok (.if_icmp .ne 15, 3) := by decide +kernel
theorem dX5_isGood_56 : decode cX5_isGood 56 = .ok (.aload_n 0, 1) := by decide +kernel
theorem dX5_isGood_57 : decode cX5_isGood 57 = .ok (.iload_n 1, 1) := by decide +kernel
theorem dX5_isGood_58 : decode cX5_isGood 58 = .ok (.invokestatic 60, 3) := by decide +kernel
theorem dX5_isGood_61 : decode cX5_isGood 61 = .ok (.ifCond .eq 7, 3) := by decide +kernel
theorem dX5_isGood_64 : decode cX5_isGood 64 = .ok (.iconst 1, 1) := by decide +kernel
theorem dX5_isGood_65 : decode cX5_isGood 65 = .ok (.goto 4, 3) := by decide +kernel
theorem dX5_isGood_68 : decode cX5_isGood 68 = .ok (.iconst 0, 1) := by decide +kernel
theorem dX5_isGood_69 : decode cX5_isGood 69 = .ok (.ireturn, 1) := by decide +kernel
theorem dX5_hasGoodTargets_0 : decode cX5_hasGoodTargets 0 = .ok (.lconst 0, 1) := by decide +kernel
theorem dX5_hasGoodTargets_1 : decode cX5_hasGoodTargets 1 = .ok (.lstore_n 2, 1) := by decide +kernel
theorem dX5_hasGoodTargets_2 : decode cX5_hasGoodTargets 2 = .ok (.iconst 0, 1) := by decide +kernel
theorem dX5_hasGoodTargets_3 : decode cX5_hasGoodTargets 3 = .ok (.istore 4, 2) := by decide +kernel
theorem dX5_hasGoodTargets_5 : decode cX5_hasGoodTargets 5 = .ok (.iload 4, 2) := by decide +kernel
theorem dX5_hasGoodTargets_7 : decode cX5_hasGoodTargets 7 = .ok (.iload_n 1, 1) := by decide +kernel
theorem dX5_hasGoodTargets_8 : decode cX5_hasGoodTargets 8 = .ok (.if_icmp .ge 60, 3) := by decide +kernel
theorem dX5_hasGoodTargets_11 : decode cX5_hasGoodTargets 11 = .ok (.iload 4, 2) := by decide +kernel
theorem dX5_hasGoodTargets_13 : decode cX5_hasGoodTargets 13 = .ok (.iconst 5, 1) := by decide +kernel
theorem dX5_hasGoodTargets_14 : decode cX5_hasGoodTargets 14 = .ok (.if_icmp .ge 54, 3) := by decide +kernel
theorem dX5_hasGoodTargets_17 : decode cX5_hasGoodTargets 17 = .ok (.aload_n 0, 1) := by decide +kernel
theorem dX5_hasGoodTargets_18 : decode cX5_hasGoodTargets 18 = .ok (.bipush 69, 2) := by decide +kernel
theorem dX5_hasGoodTargets_20 : decode cX5_hasGoodTargets 20 = .ok (.iload 4, 2) := by decide +kernel
theorem dX5_hasGoodTargets_22 : decode cX5_hasGoodTargets 22 = .ok (.iadd, 1) := by decide +kernel
theorem dX5_hasGoodTargets_23 : decode cX5_hasGoodTargets 23 = .ok (.invokevirtual 41, 3) := by decide +kernel
theorem dX5_hasGoodTargets_26 : decode cX5_hasGoodTargets 26 = .ok (.istore 5, 2) := by decide +kernel
theorem dX5_hasGoodTargets_28 : decode cX5_hasGoodTargets 28 = .ok (.iload 5, 2) := by decide +kernel
theorem dX5_hasGoodTargets_30 : decode cX5_hasGoodTargets 30 = .ok (.bipush 7, 2) := by decide +kernel
theorem dX5_hasGoodTargets_32 : decode cX5_hasGoodTargets 32 = .ok (.if_icmp .lt 21, 3) := by decide +kernel
theorem dX5_hasGoodTargets_35 : decode cX5_hasGoodTargets 35 = .ok (.iload 5, 2) := by decide +kernel
theorem dX5_hasGoodTargets_37 : decode cX5_hasGoodTargets 37 = .ok (.bipush 62, 2) := by decide +kernel
theorem dX5_hasGoodTargets_39 : decode cX5_hasGoodTargets 39 = .ok (.if_icmp .gt 14, 3) := by decide +kernel
theorem dX5_hasGoodTargets_42 : decode cX5_hasGoodTargets 42 = .ok (.lload_n 2, 1) := by decide +kernel
theorem dX5_hasGoodTargets_43 : decode cX5_hasGoodTargets 43 = .ok (.iload 5, 2) := by decide +kernel
theorem dX5_hasGoodTargets_45 : decode cX5_hasGoodTargets 45 = .ok (.lshr, 1) := by decide +kernel
theorem dX5_hasGoodTargets_46 : decode cX5_hasGoodTargets 46 = .ok (.lconst 1, 1) := by decide +kernel
theorem dX5_hasGoodTargets_47 : decode cX5_hasGoodTargets 47 = .ok (.land, 1) := by decide +kernel
theorem dX5_hasGoodTargets_48 : decode cX5_hasGoodTargets 48 = .ok (.lconst 0, 1) := by decide +kernel
theorem dX5_hasGoodTargets_49 : decode cX5_hasGoodTargets 49 = .ok (.lcmp, 1) := by decide +kernel
theorem dX5_hasGoodTargets_50 : decode cX5_hasGoodTargets 50 = .ok (.ifCond .eq 5, 3) := by decide +kernel
theorem dX5_hasGoodTargets_53 : decode cX5_hasGoodTargets 53 = .ok (.iconst 0, 1) := by decide +kernel
theorem dX5_hasGoodTargets_54 : decode cX5_hasGoodTargets 54 = .ok (.ireturn, 1) := by decide +kernel
theorem dX5_hasGoodTargets_55 : decode cX5_hasGoodTargets 55 = .ok (.lload_n 2, 1) := by decide +kernel
theorem dX5_hasGoodTargets_56 : decode cX5_hasGoodTargets 56 = .ok (.lconst 1, 1) := by decide +kernel
theorem dX5_hasGoodTargets_57 : decode cX5_hasGoodTargets 57 = .ok (.iload 5, 2) := by decide +kernel
theorem dX5_hasGoodTargets_59 : decode cX5_hasGoodTargets 59 = .ok (.lshl, 1) := by decide +kernel
theorem dX5_hasGoodTargets_60 : decode cX5_hasGoodTargets 60 = .ok (.lor, 1) := by decide +kernel
theorem dX5_hasGoodTargets_61 : decode cX5_hasGoodTargets 61 = .ok (.lstore_n 2, 1) := by decide +kernel
theorem dX5_hasGoodTargets_62 : decode cX5_hasGoodTargets 62 = .ok (.iinc 4 1, 3) := by decide +kernel
theorem dX5_hasGoodTargets_65 : decode cX5_hasGoodTargets 65 = .ok (.goto (-60), 3) := by decide +kernel
theorem dX5_hasGoodTargets_68 : decode cX5_hasGoodTargets 68 = .ok (.iconst 1, 1) := by decide +kernel
theorem dX5_hasGoodTargets_69 : decode cX5_hasGoodTargets 69 = .ok (.ireturn, 1) := by decide +kernel
theorem dX5_rightSum_0 : decode cX5_rightSum 0 = .ok (.aload_n 0, 1) := by decide +kernel
theorem dX5_rightSum_1 : decode cX5_rightSum 1 = .ok (.bipush 68, 2) := by decide +kernel
theorem dX5_rightSum_3 : decode cX5_rightSum 3 = .ok (.invokevirtual 41, 3) := by decide +kernel
theorem dX5_rightSum_6 : decode cX5_rightSum 6 = .ok (.iconst 5, 1) := by decide +kernel
theorem dX5_rightSum_7 : decode cX5_rightSum 7 = .ok (.invokestatic 64, 3) := by decide +kernel
theorem dX5_rightSum_10 : decode cX5_rightSum 10 = .ok (.istore_n 1, 1) := by decide +kernel
theorem dX5_rightSum_11 : decode cX5_rightSum 11 = .ok (.aload_n 0, 1) := by decide +kernel
theorem dX5_rightSum_12 : decode cX5_rightSum 12 = .ok (.sipush 128, 3) := by decide +kernel
theorem dX5_rightSum_15 : decode cX5_rightSum 15 = .ok (.iload_n 1, 1) := by decide +kernel
theorem dX5_rightSum_16 : decode cX5_rightSum 16 = .ok (.bipush 64, 2) := by decide +kernel
theorem dX5_rightSum_18 : decode cX5_rightSum 18 = .ok (.imul, 1) := by decide +kernel
theorem dX5_rightSum_19 : decode cX5_rightSum 19 = .ok (.invokevirtual 70, 3) := by decide +kernel
theorem dX5_rightSum_22 : decode cX5_rightSum 22 = .ok (.istore_n 2, 1) := by decide +kernel
theorem dX5_rightSum_23 : decode cX5_rightSum 23 = .ok (.aload_n 0, 1) := by decide +kernel
theorem dX5_rightSum_24 : decode cX5_rightSum 24 = .ok (.bipush 64, 2) := by decide +kernel
theorem dX5_rightSum_26 : decode cX5_rightSum 26 = .ok (.bipush 62, 2) := by decide +kernel
theorem dX5_rightSum_28 : decode cX5_rightSum 28 = .ok (.invokevirtual 70, 3) := by decide +kernel
theorem dX5_rightSum_31 : decode cX5_rightSum 31 = .ok (.iload_n 2, 1) := by decide +kernel
theorem dX5_rightSum_32 : decode cX5_rightSum 32 = .ok (.iadd, 1) := by decide +kernel
theorem dX5_rightSum_33 : decode cX5_rightSum 33 = .ok (.ldc 73, 2) := by decide +kernel
theorem dX5_rightSum_35 : decode cX5_rightSum 35 = .ok (.iand, 1) := by decide +kernel
theorem dX5_rightSum_36 : decode cX5_rightSum 36 = .ok (.ireturn, 1) := by decide +kernel
theorem dX6_init_0 : decode cX6_init 0 = .ok (.aload_n 0, 1) := by decide +kernel
theorem dX6_init_1 : decode cX6_init 1 = .ok (.invokespecial 3, 3) := by decide +kernel
theorem dX6_init_4 : decode cX6_init 4 = .ok (.aload_n 0, 1) := by decide +kernel
theorem dX6_init_5 : decode cX6_init 5 = .ok (.bipush 14, 2) := by decide +kernel
theorem dX6_init_7 : decode cX6_init 7 = .ok (.newarray .int, 2) := by decide +kernel
theorem dX6_init_9 : decode cX6_init 9 = .ok (.putfield 9, 3) := by decide +kernel
theorem dX6_init_12 : decode cX6_init 12 = .ok (.return_, 1) := by decide +kernel
theorem dX6_length_0 : decode cX6_length 0 = .ok (.aload_n 0, 1) := by decide +kernel
theorem dX6_length_1 : decode cX6_length 1 = .ok (.getfield 15, 3) := by decide +kernel
theorem dX6_length_4 : decode cX6_length 4 = .ok (.ireturn, 1) := by decide +kernel
theorem dX6_at_0 : decode cX6_at 0 = .ok (.iload_n 1, 1) := by decide +kernel
theorem dX6_at_1 : decode cX6_at 1 = .ok (.ifCond .lt 26, 3) := by decide +kernel
theorem dX6_at_4 : decode cX6_at 4 = .ok (.iload_n 1, 1) := by decide +kernel
theorem dX6_at_5 : decode cX6_at 5 = .ok (.aload_n 0, 1) := by decide +kernel
theorem dX6_at_6 : decode cX6_at 6 = .ok (.getfield 15, 3) := by decide +kernel
theorem dX6_at_9 : decode cX6_at 9 = .ok (.if_icmp .ge 18, 3) := by decide +kernel
theorem dX6_at_12 : decode cX6_at 12 = .ok (.iload_n 1, 1) := by decide +kernel
theorem dX6_at_13 : decode cX6_at 13 = .ok (.bipush 14, 2) := by decide +kernel
theorem dX6_at_15 : decode cX6_at 15 = .ok (.if_icmp .ge 12, 3) := by decide +kernel
theorem dX6_at_18 : decode cX6_at 18 = .ok (.aload_n 0, 1) := by decide +kernel
theorem dX6_at_19 : decode cX6_at 19 = .ok (.getfield 9, 3) := by decide +kernel
theorem dX6_at_22 : decode cX6_at 22 = .ok (.iload_n 1, 1) := by decide +kernel
theorem dX6_at_23 : decode cX6_at 23 = .ok (.iaload, 1) := by decide +kernel
theorem dX6_at_24 : decode cX6_at 24 = .ok (.goto 4, 3) := by decide +kernel
theorem dX6_at_27 : decode cX6_at 27 = .ok (.iconst 0, 1) := by decide +kernel
theorem dX6_at_28 : decode cX6_at 28 = .ok (.ireturn, 1) := by decide +kernel
theorem dX6_add_0 : decode cX6_add 0 = .ok (.aload_n 0, 1) := by decide +kernel
theorem dX6_add_1 : decode cX6_add 1 = .ok (.getfield 15, 3) := by decide +kernel
theorem dX6_add_4 : decode cX6_add 4 = .ok (.ifCond .lt 32, 3) := by decide +kernel
theorem dX6_add_7 : decode cX6_add 7 = .ok (.aload_n 0, 1) := by decide +kernel
theorem dX6_add_8 : decode cX6_add 8 = .ok (.getfield 15, 3) := by decide +kernel
theorem dX6_add_11 : decode cX6_add 11 = .ok (.bipush 14, 2) := by decide +kernel
theorem dX6_add_13 : decode cX6_add 13 = .ok (.if_icmp .ge 23, 3) := by decide +kernel
theorem dX6_add_16 : decode cX6_add 16 = .ok (.aload_n 0, 1) := by decide +kernel
theorem dX6_add_17 : decode cX6_add 17 = .ok (.getfield 9, 3) := by decide +kernel
theorem dX6_add_20 : decode cX6_add 20 = .ok (.aload_n 0, 1) := by decide +kernel
theorem dX6_add_21 : decode cX6_add 21 = .ok (.getfield 15, 3) := by decide +kernel
theorem dX6_add_24 : decode cX6_add 24 = .ok (.iload_n 1, 1) := by decide +kernel
theorem dX6_add_25 : decode cX6_add 25 = .ok (.iastore, 1) := by decide +kernel
theorem dX6_add_26 : decode cX6_add 26 = .ok (.aload_n 0, 1) := by decide +kernel
theorem dX6_add_27 : decode cX6_add 27 = .ok (.dup, 1) := by decide +kernel
theorem dX6_add_28 : decode cX6_add 28 = .ok (.getfield 15, 3) := by decide +kernel
theorem dX6_add_31 : decode cX6_add 31 = .ok (.iconst 1, 1) := by decide +kernel
theorem dX6_add_32 : decode cX6_add 32 = .ok (.iadd, 1) := by decide +kernel
theorem dX6_add_33 : decode cX6_add 33 = .ok (.putfield 15, 3) := by decide +kernel
theorem dX6_add_36 : decode cX6_add 36 = .ok (.return_, 1) := by decide +kernel
theorem dX6_spell_0 : decode cX6_spell 0 = .ok (.aload_n 0, 1) := by decide +kernel
theorem dX6_spell_1 : decode cX6_spell 1 = .ok (.iconst 0, 1) := by decide +kernel
theorem dX6_spell_2 : decode cX6_spell 2 = .ok (.putfield 15, 3) := by decide +kernel
theorem dX6_spell_5 : decode cX6_spell 5 = .ok (.iconst 0, 1) := by decide +kernel
theorem dX6_spell_6 : decode cX6_spell 6 = .ok (.istore_n 2, 1) := by decide +kernel
theorem dX6_spell_7 : decode cX6_spell 7 = .ok (.iload_n 2, 1) := by decide +kernel
theorem dX6_spell_8 : decode cX6_spell 8 = .ok (.aload_n 1, 1) := by decide +kernel
theorem dX6_spell_9 : decode cX6_spell 9 = .ok (.invokevirtual 19, 3) := by decide +kernel
theorem dX6_spell_12 : decode cX6_spell 12 = .ok (.if_icmp .ge 18, 3) := by decide +kernel
theorem dX6_spell_15 : decode cX6_spell 15 = .ok (.aload_n 0, 1) := by decide +kernel
theorem dX6_spell_16 : decode cX6_spell 16 = .ok (.aload_n 1, 1) := by decide +kernel
theorem dX6_spell_17 : decode cX6_spell 17 = .ok (.iload_n 2, 1) := by decide +kernel
theorem dX6_spell_18 : decode cX6_spell 18 = .ok (.invokevirtual 24, 3) := by decide +kernel
theorem dX6_spell_21 : decode cX6_spell 21 = .ok (.invokevirtual 28, 3) := by decide +kernel
theorem dX6_spell_24 : decode cX6_spell 24 = .ok (.iinc 2 1, 3) := by decide +kernel
theorem dX6_spell_27 : decode cX6_spell 27 = .ok (.goto (-20), 3) := by decide +kernel
theorem dX6_spell_30 : decode cX6_spell 30 = .ok (.return_, 1) := by decide +kernel
theorem dX6_unpack_0 : decode cX6_unpack 0 = .ok (.aload_n 0, 1) := by decide +kernel
theorem dX6_unpack_1 : decode cX6_unpack 1 = .ok (.iconst 0, 1) := by decide +kernel
theorem dX6_unpack_2 : decode cX6_unpack 2 = .ok (.putfield 15, 3) := by decide +kernel
theorem dX6_unpack_5 : decode cX6_unpack 5 = .ok (.bipush 56, 2) := by decide +kernel
theorem dX6_unpack_7 : decode cX6_unpack 7 = .ok (.istore_n 3, 1) := by decide +kernel
theorem dX6_unpack_8 : decode cX6_unpack 8 = .ok (.iload_n 3, 1) := by decide +kernel
theorem dX6_unpack_9 : decode cX6_unpack 9 = .ok (.ifCond .lt 37, 3) := by decide +kernel
theorem dX6_unpack_12 : decode cX6_unpack 12 = .ok (.lload_n 1, 1) := by decide +kernel
theorem dX6_unpack_13 : decode cX6_unpack 13 = .ok (.iload_n 3, 1) := by decide +kernel
theorem dX6_unpack_14 : decode cX6_unpack 14 = .ok (.lushr, 1) := by decide +kernel
theorem dX6_unpack_15 : decode cX6_unpack 15 = .ok (.l2i, 1) := by decide +kernel
theorem dX6_unpack_16 : decode cX6_unpack 16 = .ok (.sipush 255, 3) := by decide +kernel
theorem dX6_unpack_19 : decode cX6_unpack 19 = .ok (.iand, 1) := by decide +kernel
theorem dX6_unpack_20 : decode cX6_unpack 20 = .ok (.istore 4, 2) := by decide +kernel
theorem dX6_unpack_22 : decode cX6_unpack 22 = .ok (.iload 4, 2) := by decide +kernel
theorem dX6_unpack_24 : decode cX6_unpack 24 = .ok (.ifCond .ne 10, 3) := by decide +kernel
theorem dX6_unpack_27 : decode cX6_unpack 27 = .ok (.aload_n 0, 1) := by decide +kernel
theorem dX6_unpack_28 : decode cX6_unpack 28 = .ok (.getfield 15, 3) := by decide +kernel
theorem dX6_unpack_31 : decode cX6_unpack 31 = .ok (.ifCond .le 9, 3) := by decide +kernel
theorem dX6_unpack_34 : decode cX6_unpack 34 = .ok (.aload_n 0, 1) := by decide +kernel
theorem dX6_unpack_35 : decode cX6_unpack 35 = .ok (.iload 4, 2) := by decide +kernel
theorem dX6_unpack_37 : decode cX6_unpack 37 = .ok (.invokevirtual 28, 3) := by decide +kernel
theorem dX6_unpack_40 : decode cX6_unpack 40 = .ok (.iinc 3 (-8), 3) := by decide +kernel
theorem dX6_unpack_43 : decode cX6_unpack 43 = .ok (.goto (-35), 3) := by decide +kernel
theorem dX6_unpack_46 : decode cX6_unpack 46 = .ok (.return_, 1) := by decide +kernel
theorem dX6_load_0 : decode cX6_load 0 = .ok (.aload_n 0, 1) := by decide +kernel
theorem dX6_load_1 : decode cX6_load 1 = .ok (.iconst 0, 1) := by decide +kernel
theorem dX6_load_2 : decode cX6_load 2 = .ok (.putfield 15, 3) := by decide +kernel
theorem dX6_load_5 : decode cX6_load 5 = .ok (.iconst 0, 1) := by decide +kernel
theorem dX6_load_6 : decode cX6_load 6 = .ok (.istore 4, 2) := by decide +kernel
theorem dX6_load_8 : decode cX6_load 8 = .ok (.iload 4, 2) := by decide +kernel
theorem dX6_load_10 : decode cX6_load 10 = .ok (.iload_n 3, 1) := by decide +kernel
theorem dX6_load_11 : decode cX6_load 11 = .ok (.if_icmp .ge 28, 3) := by decide +kernel
theorem dX6_load_14 : decode cX6_load 14 = .ok (.iload 4, 2) := by decide +kernel
theorem dX6_load_16 : decode cX6_load 16 = .ok (.bipush 14, 2) := by decide +kernel
theorem dX6_load_18 : decode cX6_load 18 = .ok (.if_icmp .ge 21, 3) := by decide +kernel
theorem dX6_load_21 : decode cX6_load 21 = .ok (.aload_n 0, 1) := by decide +kernel
theorem dX6_load_22 : decode cX6_load 22 = .ok (.aload_n 1, 1) := by decide +kernel
theorem dX6_load_23 : decode cX6_load 23 = .ok (.iload_n 2, 1) := by decide +kernel
theorem dX6_load_24 : decode cX6_load 24 = .ok (.iload 4, 2) := by decide +kernel
theorem dX6_load_26 : decode cX6_load 26 = .ok (.iadd, 1) := by decide +kernel
theorem dX6_load_27 : decode cX6_load 27 = .ok (.invokevirtual 32, 3) := by decide +kernel
theorem dX6_load_30 : decode cX6_load 30 = .ok (.invokevirtual 28, 3) := by decide +kernel
theorem dX6_load_33 : decode cX6_load 33 = .ok (.iinc 4 1, 3) := by decide +kernel
theorem dX6_load_36 : decode cX6_load 36 = .ok (.goto (-28), 3) := by decide +kernel
theorem dX6_load_39 : decode cX6_load 39 = .ok (.return_, 1) := by decide +kernel
theorem dX6_number_0 : decode cX6_number 0 = .ok (.aload_n 0, 1) := by decide +kernel
theorem dX6_number_1 : decode cX6_number 1 = .ok (.iconst 0, 1) := by decide +kernel
theorem dX6_number_2 : decode cX6_number 2 = .ok (.putfield 15, 3) := by decide +kernel
theorem dX6_number_5 : decode cX6_number 5 = .ok (.iconst 0, 1) := by decide +kernel
theorem dX6_number_6 : decode cX6_number 6 = .ok (.istore_n 3, 1) := by decide +kernel
theorem dX6_number_7 : decode cX6_number 7 = .ok (.iload_n 3, 1) := by decide +kernel
theorem dX6_number_8 : decode cX6_number 8 = .ok (.iload_n 1, 1) := by decide +kernel
theorem dX6_number_9 : decode cX6_number 9 = .ok (.if_icmp .ge 15, 3) := by decide +kernel
theorem dX6_number_12 : decode cX6_number 12 = .ok (.aload_n 0, 1) := by decide +kernel
theorem dX6_number_13 : decode cX6_number 13 = .ok (.bipush 35, 2) := by decide +kernel
theorem dX6_number_15 : decode cX6_number 15 = .ok (.invokevirtual 28, 3) := by decide +kernel
theorem dX6_number_18 : decode cX6_number 18 = .ok (.iinc 3 1, 3) := by decide +kernel
theorem dX6_number_21 : decode cX6_number 21 = .ok (.goto (-14), 3) := by decide +kernel
theorem dX6_number_24 : decode cX6_number 24 = .ok (.aload_n 0, 1) := by decide +kernel
theorem dX6_number_25 : decode cX6_number 25 = .ok (.bipush 48, 2) := by decide +kernel
theorem dX6_number_27 : decode cX6_number 27 = .ok (.iload_n 2, 1) := by decide +kernel
theorem dX6_number_28 : decode cX6_number 28 = .ok (.bipush 10, 2) := by decide +kernel
theorem dX6_number_30 : decode cX6_number 30 = .ok (.idiv, 1) := by decide +kernel
theorem dX6_number_31 : decode cX6_number 31 = .ok (.iadd, 1) := by decide +kernel
theorem dX6_number_32 : decode cX6_number 32 = .ok (.invokevirtual 28, 3) := by decide +kernel
theorem dX6_number_35 : decode cX6_number 35 = .ok (.aload_n 0, 1) := by decide +kernel
theorem dX6_number_36 : decode cX6_number 36 = .ok (.bipush 48, 2) := by decide +kernel
theorem dX6_number_38 : decode cX6_number 38 = .ok (.iload_n 2, 1) := by decide +kernel
theorem dX6_number_39 : decode cX6_number 39 = .ok (.bipush 10, 2) := by decide +kernel
theorem dX6_number_41 : decode cX6_number 41 = .ok (.irem, 1) := by decide +kernel
theorem dX6_number_42 : decode cX6_number 42 = .ok (.iadd, 1) := by decide +kernel
theorem dX6_number_43 : decode cX6_number 43 = .ok (.invokevirtual 28, 3) := by decide +kernel
theorem dX6_number_46 : decode cX6_number 46 = .ok (.return_, 1) := by decide +kernel
theorem dX6_isAllowed_0 : decode cX6_isAllowed 0 = .ok (.iconst 0, 1) := by decide +kernel
theorem dX6_isAllowed_1 : decode cX6_isAllowed 1 = .ok (.istore_n 1, 1) := by decide +kernel
theorem dX6_isAllowed_2 : decode cX6_isAllowed 2 = .ok (.iconst 0, 1) := by decide +kernel
theorem dX6_isAllowed_3 : decode cX6_isAllowed 3 = .ok (.istore_n 2, 1) := by decide +kernel
theorem dX6_isAllowed_4 : decode cX6_isAllowed 4 = .ok (.iload_n 2, 1) := by decide +kernel
theorem dX6_isAllowed_5 : decode cX6_isAllowed 5 = .ok (.aload_n 0, 1) := by decide +kernel
theorem dX6_isAllowed_6 : decode cX6_isAllowed 6 = .ok (.getfield 15, 3) := by decide +kernel
theorem dX6_isAllowed_9 : decode cX6_isAllowed 9 = .ok (.if_icmp .ge 36, 3) := by decide +kernel
theorem dX6_isAllowed_12 : decode cX6_isAllowed 12 = .ok (.aload_n 0, 1) := by decide +kernel
theorem dX6_isAllowed_13 : decode cX6_isAllowed 13 = .ok (.iload_n 2, 1) := by decide +kernel
theorem dX6_isAllowed_14 : decode cX6_isAllowed 14 = .ok (.invokevirtual 38, 3) := by decide +kernel
theorem dX6_isAllowed_17 : decode cX6_isAllowed 17 = .ok (.istore_n 3, 1) := by decide +kernel
theorem dX6_isAllowed_18 : decode cX6_isAllowed 18 = .ok (.iload_n 3, 1) := by decide +kernel
theorem dX6_isAllowed_19 : decode cX6_isAllowed 19 = .ok (.ifCond .eq 9, 3) := by decide +kernel
theorem dX6_isAllowed_22 : decode cX6_isAllowed 22 = .ok (.iload_n 3, 1) := by decide +kernel
theorem dX6_isAllowed_23 : decode cX6_isAllowed 23 = .ok (.bipush 47, 2) := by decide +kernel
theorem dX6_isAllowed_25 : decode cX6_isAllowed 25 = .ok (.if_icmp .ne 5, 3) := by decide +kernel
theorem dX6_isAllowed_28 : decode cX6_isAllowed 28 = .ok (.iconst 0, 1) := by decide +kernel
theorem dX6_isAllowed_29 : decode cX6_isAllowed 29 = .ok (.ireturn, 1) := by decide +kernel
theorem dX6_isAllowed_30 : decode cX6_isAllowed 30 = .ok (.iload_n 3, 1) := by decide +kernel
theorem dX6_isAllowed_31 : decode cX6_isAllowed 31 = .ok (.bipush 46, 2) := by decide +kernel
theorem dX6_isAllowed_33 : decode cX6_isAllowed 33 = .ok (.if_icmp .ne 6, 3) := by decide +kernel
theorem dX6_isAllowed_36 : decode cX6_isAllowed 36 = .ok (.iinc 1 1, 3) := by decide +kernel
theorem dX6_isAllowed_39 : decode cX6_isAllowed 39 = .ok (.iinc 2 1, 3) := by decide +kernel
theorem dX6_isAllowed_42 : decode cX6_isAllowed 42 = .ok (.goto (-38), 3) := by decide +kernel
theorem dX6_isAllowed_45 : decode cX6_isAllowed 45 = .ok (.aload_n 0, 1) := by decide +kernel
theorem dX6_isAllowed_46 : decode cX6_isAllowed 46 = .ok (.getfield 15, 3) := by decide +kernel
theorem dX6_isAllowed_49 : decode cX6_isAllowed 49 = .ok (.iconst 2, 1) := by decide +kernel
theorem dX6_isAllowed_50 : decode cX6_isAllowed 50 = .ok (.if_icmp .gt 11, 3) := by decide +kernel
theorem dX6_isAllowed_53 : decode cX6_isAllowed 53 = .ok (.iload_n 1, 1) := by decide +kernel
theorem dX6_isAllowed_54 : decode cX6_isAllowed 54 = .ok (.aload_n 0, 1) := by decide +kernel
theorem dX6_isAllowed_55 : decode cX6_isAllowed 55 = .ok (.getfield 15, 3) := by decide +kernel
theorem dX6_isAllowed_58 : decode cX6_isAllowed 58 = .ok (.if_icmp .ge 7, 3) := by decide +kernel
theorem dX6_isAllowed_61 : decode cX6_isAllowed 61 = .ok (.iconst 1, 1) := by decide +kernel
theorem dX6_isAllowed_62 : decode cX6_isAllowed 62 = .ok (.goto 4, 3) := by decide +kernel
theorem dX6_isAllowed_65 : decode cX6_isAllowed 65 = .ok (.iconst 0, 1) := by decide +kernel
theorem dX6_isAllowed_66 : decode cX6_isAllowed 66 = .ok (.ireturn, 1) := by decide +kernel
theorem dX7_init_0 : decode cX7_init 0 = .ok (.aload_n 0, 1) := by decide +kernel
theorem dX7_init_1 : decode cX7_init 1 = .ok (.invokespecial 3, 3) := by decide +kernel
theorem dX7_init_4 : decode cX7_init 4 = .ok (.aload_n 0, 1) := by decide +kernel
theorem dX7_init_5 : decode cX7_init 5 = .ok (.aload_n 1, 1) := by decide +kernel
theorem dX7_init_6 : decode cX7_init 6 = .ok (.putfield 9, 3) := by decide +kernel
theorem dX7_init_9 : decode cX7_init 9 = .ok (.aload_n 0, 1) := by decide +kernel
theorem dX7_init_10 : decode cX7_init 10 = .ok (.aload_n 2, 1) := by decide +kernel
theorem dX7_init_11 : decode cX7_init 11 = .ok (.putfield 15, 3) := by decide +kernel
theorem dX7_init_14 : decode cX7_init 14 = .ok (.aload_n 0, 1) := by decide +kernel
theorem dX7_init_15 : decode cX7_init 15 = .ok (.aload_n 3, 1) := by decide +kernel
theorem dX7_init_16 : decode cX7_init 16 = .ok (.putfield 18, 3) := by decide +kernel
theorem dX7_init_19 : decode cX7_init 19 = .ok (.aload_n 0, 1) := by decide +kernel
theorem dX7_init_20 : decode cX7_init 20 = .ok (.aload 4, 2) := by decide +kernel
theorem dX7_init_22 : decode cX7_init 22 = .ok (.putfield 22, 3) := by decide +kernel
theorem dX7_init_25 : decode cX7_init 25 = .ok (.aload_n 0, 1) := by decide +kernel
theorem dX7_init_26 : decode cX7_init 26 = .ok (.new 26, 3) := by decide +kernel
theorem dX7_init_29 : decode cX7_init 29 = .ok (.dup, 1) := by decide +kernel
theorem dX7_init_30 : decode cX7_init 30 = .ok (.aload_n 2, 1) := by decide +kernel
theorem dX7_init_31 : decode cX7_init 31 = .ok (.aload_n 3, 1) := by decide +kernel
theorem dX7_init_32 : decode cX7_init 32 = .ok (.aload 4, 2) := by decide +kernel
theorem dX7_init_34 : decode cX7_init 34 = .ok (.invokespecial 28, 3) := by decide +kernel
theorem dX7_init_37 : decode cX7_init 37 = .ok (.putfield 31, 3) := by decide +kernel
theorem dX7_init_40 : decode cX7_init 40 = .ok (.aload_n 0, 1) := by decide +kernel
theorem dX7_init_41 : decode cX7_init 41 = .ok (.new 35, 3) := by decide +kernel
theorem dX7_init_44 : decode cX7_init 44 = .ok (.dup, 1) := by decide +kernel
theorem dX7_init_45 : decode cX7_init 45 = .ok (.aload_n 2, 1) := by decide +kernel
theorem dX7_init_46 : decode cX7_init 46 = .ok (.aload_n 3, 1) := by decide +kernel
theorem dX7_init_47 : decode cX7_init 47 = .ok (.aload 4, 2) := by decide +kernel
theorem dX7_init_49 : decode cX7_init 49 = .ok (.invokespecial 37, 3) := by decide +kernel
theorem dX7_init_52 : decode cX7_init 52 = .ok (.putfield 38, 3) := by decide +kernel
theorem dX7_init_55 : decode cX7_init 55 = .ok (.return_, 1) := by decide +kernel
theorem dX7_plan_0 : decode cX7_plan 0 = .ok (.aload_n 0, 1) := by decide +kernel
theorem dX7_plan_1 : decode cX7_plan 1 = .ok (.getfield 9, 3) := by decide +kernel
theorem dX7_plan_4 : decode cX7_plan 4 = .ok (.iconst 0, 1) := by decide +kernel
theorem dX7_plan_5 : decode cX7_plan 5 = .ok (.invokestatic 42, 3) := by decide +kernel
theorem dX7_plan_8 : decode cX7_plan 8 = .ok (.ifCond .ne 17, 3) := by decide +kernel
theorem dX7_plan_11 : decode cX7_plan 11 = .ok (.aload_n 0, 1) := by decide +kernel
theorem dX7_plan_12 : decode cX7_plan 12 = .ok (.getfield 9, 3) := by decide +kernel
theorem dX7_plan_15 : decode cX7_plan 15 = .ok (.bipush 63, 2) := by decide +kernel
theorem dX7_plan_17 : decode cX7_plan 17 = .ok (.invokestatic 42, 3) := by decide +kernel
theorem dX7_plan_20 : decode cX7_plan 20 = .ok (.ifCond .ne 5, 3) := by decide +kernel
theorem dX7_plan_23 : decode cX7_plan 23 = .ok (.iconst (-1), 1) := by decide +kernel
theorem dX7_plan_24 : decode cX7_plan 24 = .ok (.ireturn, 1) := by decide +kernel
theorem dX7_plan_25 : decode cX7_plan 25 = .ok (.aload_n 0, 1) := by decide +kernel
theorem dX7_plan_26 : decode cX7_plan 26 = .ok (.getfield 15, 3) := by decide +kernel
theorem dX7_plan_29 : decode cX7_plan 29 = .ok (.aload_n 0, 1) := by decide +kernel
theorem dX7_plan_30 : decode cX7_plan 30 = .ok (.getfield 9, 3) := by decide +kernel
theorem dX7_plan_33 : decode cX7_plan 33 = .ok (.invokevirtual 48, 3) := by decide +kernel
theorem dX7_plan_36 : decode cX7_plan 36 = .ok (.aload_n 0, 1) := by decide +kernel
theorem dX7_plan_37 : decode cX7_plan 37 = .ok (.getfield 15, 3) := by decide +kernel
theorem dX7_plan_40 : decode cX7_plan 40 = .ok (.invokestatic 54, 3) := by decide +kernel
theorem dX7_plan_43 : decode cX7_plan 43 = .ok (.aload_n 0, 1) := by decide +kernel
theorem dX7_plan_44 : decode cX7_plan 44 = .ok (.getfield 31, 3) := by decide +kernel
theorem dX7_plan_47 : decode cX7_plan 47 = .ok (.invokevirtual 59, 3) := by decide +kernel
theorem dX7_plan_50 : decode cX7_plan 50 = .ok (.aload_n 0, 1) := by decide +kernel
theorem dX7_plan_51 : decode cX7_plan 51 = .ok (.getfield 31, 3) := by decide +kernel
theorem dX7_plan_54 : decode cX7_plan 54 = .ok (.iconst 1, 1) := by decide +kernel
theorem dX7_plan_55 : decode cX7_plan 55 = .ok (.invokevirtual 62, 3) := by decide +kernel
theorem dX7_plan_58 : decode cX7_plan 58 = .ok (.aload_n 0, 1) := by decide +kernel
theorem dX7_plan_59 : decode cX7_plan 59 = .ok (.getfield 31, 3) := by decide +kernel
theorem dX7_plan_62 : decode cX7_plan 62 = .ok (.iconst 2, 1) := by decide +kernel
theorem dX7_plan_63 : decode cX7_plan 63 = .ok (.invokevirtual 62, 3) := by decide +kernel
theorem dX7_plan_66 : decode cX7_plan 66 = .ok (.iconst 1, 1) := by decide +kernel
theorem dX7_plan_67 : decode cX7_plan 67 = .ok (.istore_n 1, 1) := by decide +kernel
theorem dX7_plan_68 : decode cX7_plan 68 = .ok (.iload_n 1, 1) := by decide +kernel
theorem dX7_plan_69 : decode cX7_plan 69 = .ok (.bipush 32, 2) := by decide +kernel
theorem dX7_plan_71 : decode cX7_plan 71 = .ok (.if_icmp .ge 29, 3) := by decide +kernel
theorem dX7_plan_74 : decode cX7_plan 74 = .ok (.aload_n 0, 1) := by decide +kernel
theorem dX7_plan_75 : decode cX7_plan 75 = .ok (.getfield 18, 3) := by decide +kernel
theorem dX7_plan_78 : decode cX7_plan 78 = .ok (.iload_n 1, 1) := by decide +kernel
theorem dX7_plan_79 : decode cX7_plan 79 = .ok (.invokevirtual 66, 3) := by decide +kernel
theorem dX7_plan_82 : decode cX7_plan 82 = .ok (.iconst 2, 1) := by decide +kernel
theorem dX7_plan_83 : decode cX7_plan 83 = .ok (.if_icmp .ne 11, 3) := by decide +kernel
theorem dX7_plan_86 : decode cX7_plan 86 = .ok (.aload_n 0, 1) := by decide +kernel
theorem dX7_plan_87 : decode cX7_plan 87 = .ok (.getfield 22, 3) := by decide +kernel
theorem dX7_plan_90 : decode cX7_plan 90 = .ok (.iload_n 1, 1) := by decide +kernel
theorem dX7_plan_91 : decode cX7_plan 91 = .ok (.invokevirtual 72, 3) := by decide +kernel
theorem dX7_plan_94 : decode cX7_plan 94 = .ok (.iinc 1 1, 3) := by decide +kernel
theorem dX7_plan_97 : decode cX7_plan 97 = .ok (.goto (-29), 3) := by decide +kernel
theorem dX7_plan_100 : decode cX7_plan 100 = .ok (.aload_n 0, 1) := by decide +kernel
theorem dX7_plan_101 : decode cX7_plan 101 = .ok (.getfield 38, 3) := by decide +kernel
theorem dX7_plan_104 : decode cX7_plan 104 = .ok (.invokevirtual 77, 3) := by decide +kernel
theorem dX7_plan_107 : decode cX7_plan 107 = .ok (.aload_n 0, 1) := by decide +kernel
theorem dX7_plan_108 : decode cX7_plan 108 = .ok (.invokevirtual 80, 3) := by decide +kernel
theorem dX7_plan_111 : decode cX7_plan 111 = .ok (.aload_n 0, 1) := by decide +kernel
theorem dX7_plan_112 : decode cX7_plan 112 = .ok (.invokevirtual 83, 3) := by decide +kernel
theorem dX7_plan_115 : decode cX7_plan 115 = .ok (.ireturn, 1) := by decide +kernel
theorem dX7_settle_0 : decode cX7_settle 0 = .ok (.aload_n 0, 1) := by decide +kernel
theorem dX7_settle_1 : decode cX7_settle 1 = .ok (.getfield 22, 3) := by decide +kernel
theorem dX7_settle_4 : decode cX7_settle 4 = .ok (.invokevirtual 87, 3) := by decide +kernel
theorem dX7_settle_7 : decode cX7_settle 7 = .ok (.iconst 0, 1) := by decide +kernel
theorem dX7_settle_8 : decode cX7_settle 8 = .ok (.istore_n 1, 1) := by decide +kernel
theorem dX7_settle_9 : decode cX7_settle 9 = .ok (.iconst 1, 1) := by decide +kernel
theorem dX7_settle_10 : decode cX7_settle 10 = .ok (.istore_n 2, 1) := by decide +kernel
theorem dX7_settle_11 : decode cX7_settle 11 = .ok (.iload_n 2, 1) := by decide +kernel
theorem dX7_settle_12 : decode cX7_settle 12 = .ok (.bipush 32, 2) := by decide +kernel
theorem dX7_settle_14 : decode cX7_settle 14 = .ok (.if_icmp .ge 36, 3) := by decide +kernel
theorem dX7_settle_17 : decode cX7_settle 17 = .ok (.aload_n 0, 1) := by decide +kernel
theorem dX7_settle_18 : decode cX7_settle 18 = .ok (.getfield 18, 3) := by decide +kernel
theorem dX7_settle_21 : decode cX7_settle 21 = .ok (.iload_n 2, 1) := by decide +kernel
theorem dX7_settle_22 : decode cX7_settle 22 = .ok (.invokevirtual 90, 3) := by decide +kernel
theorem dX7_settle_25 : decode cX7_settle 25 = .ok (.iload_n 1, 1) := by decide +kernel
theorem dX7_settle_26 : decode cX7_settle 26 = .ok (.aload_n 0, 1) := by decide +kernel
theorem dX7_settle_27 : decode cX7_settle 27 = .ok (.getfield 18, 3) := by decide +kernel
theorem dX7_settle_30 : decode cX7_settle 30 = .ok (.iload_n 2, 1) := by decide +kernel
theorem dX7_settle_31 : decode cX7_settle 31 = .ok (.invokevirtual 66, 3) := by decide +kernel
theorem dX7_settle_34 : decode cX7_settle 34 = .ok (.ifCond .ne 7, 3) := by decide +kernel
theorem dX7_settle_37 : decode cX7_settle 37 = .ok (.iconst 1, 1) := by decide +kernel
theorem dX7_settle_38 : decode cX7_settle 38 = .ok (.goto 4, 3) := by decide +kernel
theorem dX7_settle_41 : decode cX7_settle 41 = .ok (.iconst 0, 1) := by decide +kernel
theorem dX7_settle_42 : decode cX7_settle 42 = .ok (.iadd, 1) := by decide +kernel
theorem dX7_settle_43 : decode cX7_settle 43 = .ok (.istore_n 1, 1) := by decide +kernel
theorem dX7_settle_44 : decode cX7_settle 44 = .ok (.iinc 2 1, 3) := by decide +kernel
theorem dX7_settle_47 : decode cX7_settle 47 = .ok (.goto (-36), 3) := by decide +kernel
theorem dX7_settle_50 : decode cX7_settle 50 = .ok (.aload_n 0, 1) := by decide +kernel
theorem dX7_settle_51 : decode cX7_settle 51 = .ok (.invokevirtual 93, 3) := by decide +kernel
theorem dX7_settle_54 : decode cX7_settle 54 = .ok (.bipush 47, 2) := by decide +kernel
theorem dX7_settle_56 : decode cX7_settle 56 = .ok (.aload_n 0, 1) := by decide +kernel
theorem dX7_settle_57 : decode cX7_settle 57 = .ok (.getfield 18, 3) := by decide +kernel
theorem dX7_settle_60 : decode cX7_settle 60 = .ok (.invokevirtual 96, 3) := by decide +kernel
theorem dX7_settle_63 : decode cX7_settle 63 = .ok (.invokestatic 100, 3) := by decide +kernel
theorem dX7_settle_66 : decode cX7_settle 66 = .ok (.isub, 1) := by decide +kernel
theorem dX7_settle_67 : decode cX7_settle 67 = .ok (.istore_n 2, 1) := by decide +kernel
theorem dX7_settle_68 : decode cX7_settle 68 = .ok (.aload_n 0, 1) := by decide +kernel
theorem dX7_settle_69 : decode cX7_settle 69 = .ok (.getfield 15, 3) := by decide +kernel
theorem dX7_settle_72 : decode cX7_settle 72 = .ok (.iconst 0, 1) := by decide +kernel
theorem dX7_settle_73 : decode cX7_settle 73 = .ok (.iload_n 2, 1) := by decide +kernel
theorem dX7_settle_74 : decode cX7_settle 74 = .ok (.iload_n 1, 1) := by decide +kernel
theorem dX7_settle_75 : decode cX7_settle 75 = .ok (.invokestatic 106, 3) := by decide +kernel
theorem dX7_settle_78 : decode cX7_settle 78 = .ok (.aload_n 0, 1) := by decide +kernel
theorem dX7_settle_79 : decode cX7_settle 79 = .ok (.getfield 15, 3) := by decide +kernel
theorem dX7_settle_82 : decode cX7_settle 82 = .ok (.bipush 63, 2) := by decide +kernel
theorem dX7_settle_84 : decode cX7_settle 84 = .ok (.iload_n 2, 1) := by decide +kernel
theorem dX7_settle_85 : decode cX7_settle 85 = .ok (.iload_n 1, 1) := by decide +kernel
theorem dX7_settle_86 : decode cX7_settle 86 = .ok (.invokestatic 106, 3) := by decide +kernel
theorem dX7_settle_89 : decode cX7_settle 89 = .ok (.return_, 1) := by decide +kernel
theorem dX7_writeMaps_0 : decode cX7_writeMaps 0 = .ok (.sipush 448, 3) := by decide +kernel
theorem dX7_writeMaps_3 : decode cX7_writeMaps 3 = .ok (.istore_n 1, 1) := by decide +kernel
theorem dX7_writeMaps_4 : decode cX7_writeMaps 4 = .ok (.aload_n 0, 1) := by decide +kernel
theorem dX7_writeMaps_5 : decode cX7_writeMaps 5 = .ok (.getfield 15, 3) := by decide +kernel
theorem dX7_writeMaps_8 : decode cX7_writeMaps 8 = .ok (.iload_n 1, 1) := by decide +kernel
theorem dX7_writeMaps_9 : decode cX7_writeMaps 9 = .ok (.bipush 64, 2) := by decide +kernel
theorem dX7_writeMaps_11 : decode cX7_writeMaps 11 = .ok (.invokevirtual 110, 3) := by decide +kernel
theorem dX7_writeMaps_14 : decode cX7_writeMaps 14 = .ok (.iconst 0, 1) := by decide +kernel
theorem dX7_writeMaps_15 : decode cX7_writeMaps 15 = .ok (.istore_n 2, 1) := by decide +kernel
theorem dX7_writeMaps_16 : decode cX7_writeMaps 16 = .ok (.iload_n 2, 1) := by decide +kernel
theorem dX7_writeMaps_17 : decode cX7_writeMaps 17 = .ok (.bipush 64, 2) := by decide +kernel
theorem dX7_writeMaps_19 : decode cX7_writeMaps 19 = .ok (.if_icmp .ge 38, 3) := by decide +kernel
theorem dX7_writeMaps_22 : decode cX7_writeMaps 22 = .ok (.iload_n 2, 1) := by decide +kernel
theorem dX7_writeMaps_23 : decode cX7_writeMaps 23 = .ok (.invokestatic 114, 3) := by decide +kernel
theorem dX7_writeMaps_26 : decode cX7_writeMaps 26 = .ok (.ifCond .eq 19, 3) := by decide +kernel
theorem dX7_writeMaps_29 : decode cX7_writeMaps 29 = .ok (.aload_n 0, 1) := by decide +kernel
theorem dX7_writeMaps_30 : decode cX7_writeMaps 30 = .ok (.getfield 18, 3) := by decide +kernel
theorem dX7_writeMaps_33 : decode cX7_writeMaps 33 = .ok (.invokevirtual 96, 3) := by decide +kernel
theorem dX7_writeMaps_36 : decode cX7_writeMaps 36 = .ok (.iload_n 2, 1) := by decide +kernel
theorem dX7_writeMaps_37 : decode cX7_writeMaps 37 = .ok (.lshr, 1) := by decide +kernel
theorem dX7_writeMaps_38 : decode cX7_writeMaps 38 = .ok (.lconst 1, 1) := by decide +kernel
theorem dX7_writeMaps_39 : decode cX7_writeMaps 39 = .ok (.land, 1) := by decide +kernel
theorem dX7_writeMaps_40 : decode cX7_writeMaps 40 = .ok (.lconst 0, 1) := by decide +kernel
theorem dX7_writeMaps_41 : decode cX7_writeMaps 41 = .ok (.lcmp, 1) := by decide +kernel
theorem dX7_writeMaps_42 : decode cX7_writeMaps 42 = .ok (.ifCond .eq 9, 3) := by decide +kernel
theorem dX7_writeMaps_45 : decode cX7_writeMaps 45 = .ok (.aload_n 0, 1) := by decide +kernel
theorem dX7_writeMaps_46 : decode cX7_writeMaps 46 = .ok (.iload_n 1, 1) := by decide +kernel
theorem dX7_writeMaps_47 : decode cX7_writeMaps 47 = .ok (.iload_n 2, 1) := by decide +kernel
theorem dX7_writeMaps_48 : decode cX7_writeMaps 48 = .ok (.invokevirtual 118, 3) := by decide +kernel
theorem dX7_writeMaps_51 : decode cX7_writeMaps 51 = .ok (.iinc 2 1, 3) := by decide +kernel
theorem dX7_writeMaps_54 : decode cX7_writeMaps 54 = .ok (.goto (-38), 3) := by decide +kernel
theorem dX7_writeMaps_57 : decode cX7_writeMaps 57 = .ok (.iconst 0, 1) := by decide +kernel
theorem dX7_writeMaps_58 : decode cX7_writeMaps 58 = .ok (.istore_n 2, 1) := by decide +kernel
end
section
theorem dX7_writeMaps_59 : decode cX7_writeMaps 59 = .ok (.iload_n 2, 1) := by decide +kernel
theorem dX7_writeMaps_60 : decode cX7_writeMaps 60 = .ok (.bipush 32, 2) := by decide +kernel
theorem dX7_writeMaps_62 : decode cX7_writeMaps 62 = .ok (.if_icmp .ge 33, 3) := by decide +kernel
theorem dX7_writeMaps_65 : decode cX7_writeMaps 65 = .ok (.iload_n 2, 1) := by decide +kernel
theorem dX7_writeMaps_66 : decode cX7_writeMaps 66 = .ok (.ifCond .eq 14, 3) := by decide +kernel
theorem dX7_writeMaps_69 : decode cX7_writeMaps 69 = .ok (.aload_n 0, 1) := by decide +kernel
theorem dX7_writeMaps_70 : decode cX7_writeMaps 70 = .ok (.getfield 18, 3) := by decide +kernel
theorem dX7_writeMaps_73 : decode cX7_writeMaps 73 = .ok (.iload_n 2, 1) := by decide +kernel
theorem dX7_writeMaps_74 : decode cX7_writeMaps 74 = .ok (.invokevirtual 66, 3) := by decide +kernel
theorem dX7_writeMaps_77 : decode cX7_writeMaps 77 = .ok (.ifCond .eq 12, 3) := by decide +kernel
theorem dX7_writeMaps_80 : decode cX7_writeMaps 80 = .ok (.aload_n 0, 1) := by decide +kernel
theorem dX7_writeMaps_81 : decode cX7_writeMaps 81 = .ok (.iload_n 1, 1) := by decide +kernel
theorem dX7_writeMaps_82 : decode cX7_writeMaps 82 = .ok (.bipush 8, 2) := by decide +kernel
theorem dX7_writeMaps_84 : decode cX7_writeMaps 84 = .ok (.iadd, 1) := by decide +kernel
theorem dX7_writeMaps_85 : decode cX7_writeMaps 85 = .ok (.iload_n 2, 1) := by decide +kernel
theorem dX7_writeMaps_86 : decode cX7_writeMaps 86 = .ok (.invokevirtual 118, 3) := by decide +kernel
theorem dX7_writeMaps_89 : decode cX7_writeMaps 89 = .ok (.iinc 2 1, 3) := by decide +kernel
theorem dX7_writeMaps_92 : decode cX7_writeMaps 92 = .ok (.goto (-33), 3) := by decide +kernel
theorem dX7_writeMaps_95 : decode cX7_writeMaps 95 = .ok (.return_, 1) := by decide +kernel
theorem dX7_markUsed_0 : decode cX7_markUsed 0 = .ok (.iload_n 1, 1) := by decide +kernel
theorem dX7_markUsed_1 : decode cX7_markUsed 1 = .ok (.iload_n 2, 1) := by decide +kernel
theorem dX7_markUsed_2 : decode cX7_markUsed 2 = .ok (.bipush 8, 2) := by decide +kernel
theorem dX7_markUsed_4 : decode cX7_markUsed 4 = .ok (.idiv, 1) := by decide +kernel
theorem dX7_markUsed_5 : decode cX7_markUsed 5 = .ok (.iadd, 1) := by decide +kernel
theorem dX7_markUsed_6 : decode cX7_markUsed 6 = .ok (.istore_n 3, 1) := by decide +kernel
theorem dX7_markUsed_7 : decode cX7_markUsed 7 = .ok (.aload_n 0, 1) := by decide +kernel
theorem dX7_markUsed_8 : decode cX7_markUsed 8 = .ok (.getfield 15, 3) := by decide +kernel
theorem dX7_markUsed_11 : decode cX7_markUsed 11 = .ok (.iload_n 3, 1) := by decide +kernel
theorem dX7_markUsed_12 : decode cX7_markUsed 12 = .ok (.aload_n 0, 1) := by decide +kernel
theorem dX7_markUsed_13 : decode cX7_markUsed 13 = .ok (.getfield 15, 3) := by decide +kernel
theorem dX7_markUsed_16 : decode cX7_markUsed 16 = .ok (.iload_n 3, 1) := by decide +kernel
theorem dX7_markUsed_17 : decode cX7_markUsed 17 = .ok (.invokevirtual 121, 3) := by decide +kernel
theorem dX7_markUsed_20 : decode cX7_markUsed 20 = .ok (.sipush 128, 3) := by decide +kernel
theorem dX7_markUsed_23 : decode cX7_markUsed 23 = .ok (.iload_n 2, 1) := by decide +kernel
theorem dX7_markUsed_24 : decode cX7_markUsed 24 = .ok (.bipush 8, 2) := by decide +kernel
theorem dX7_markUsed_26 : decode cX7_markUsed 26 = .ok (.irem, 1) := by decide +kernel
theorem dX7_markUsed_27 : decode cX7_markUsed 27 = .ok (.ishr, 1) := by decide +kernel
theorem dX7_markUsed_28 : decode cX7_markUsed 28 = .ok (.ior, 1) := by decide +kernel
theorem dX7_markUsed_29 : decode cX7_markUsed 29 = .ok (.invokevirtual 124, 3) := by decide +kernel
theorem dX7_markUsed_32 : decode cX7_markUsed 32 = .ok (.return_, 1) := by decide +kernel
theorem dX7_countDiffering_0 : decode cX7_countDiffering 0 = .ok (.iconst 0, 1) := by decide +kernel
theorem dX7_countDiffering_1 : decode cX7_countDiffering 1 = .ok (.istore_n 1, 1) := by decide +kernel
theorem dX7_countDiffering_2 : decode cX7_countDiffering 2 = .ok (.iconst 0, 1) := by decide +kernel
theorem dX7_countDiffering_3 : decode cX7_countDiffering 3 = .ok (.istore_n 2, 1) := by decide +kernel
theorem dX7_countDiffering_4 : decode cX7_countDiffering 4 = .ok (.iload_n 2, 1) := by decide +kernel
theorem dX7_countDiffering_5 : decode cX7_countDiffering 5 = .ok (.bipush 64, 2) := by decide +kernel
theorem dX7_countDiffering_7 : decode cX7_countDiffering 7 = .ok (.if_icmp .ge 27, 3) := by decide +kernel
theorem dX7_countDiffering_10 : decode cX7_countDiffering 10 = .ok (.aload_n 0, 1) := by decide +kernel
theorem dX7_countDiffering_11 : decode cX7_countDiffering 11 = .ok (.getfield 15, 3) := by decide +kernel
theorem dX7_countDiffering_14 : decode cX7_countDiffering 14 = .ok (.iload_n 2, 1) := by decide +kernel
theorem dX7_countDiffering_15 : decode cX7_countDiffering 15 = .ok (.aload_n 0, 1) := by decide +kernel
theorem dX7_countDiffering_16 : decode cX7_countDiffering 16 = .ok (.getfield 9, 3) := by decide +kernel
theorem dX7_countDiffering_19 : decode cX7_countDiffering 19 = .ok (.invokevirtual 127, 3) := by decide +kernel
theorem dX7_countDiffering_22 : decode cX7_countDiffering 22 = .ok (.ifCond .ne 6, 3) := by decide +kernel
theorem dX7_countDiffering_25 : decode cX7_countDiffering 25 = .ok (.iinc 1 1, 3) := by decide +kernel
theorem dX7_countDiffering_28 : decode cX7_countDiffering 28 = .ok (.iinc 2 1, 3) := by decide +kernel
theorem dX7_countDiffering_31 : decode cX7_countDiffering 31 = .ok (.goto (-27), 3) := by decide +kernel
theorem dX7_countDiffering_34 : decode cX7_countDiffering 34 = .ok (.iload_n 1, 1) := by decide +kernel
theorem dX7_countDiffering_35 : decode cX7_countDiffering 35 = .ok (.ireturn, 1) := by decide +kernel
theorem dX7_writeBlocks_0 : decode cX7_writeBlocks 0 = .ok (.iconst 0, 1) := by decide +kernel
theorem dX7_writeBlocks_1 : decode cX7_writeBlocks 1 = .ok (.istore_n 2, 1) := by decide +kernel
theorem dX7_writeBlocks_2 : decode cX7_writeBlocks 2 = .ok (.iconst 0, 1) := by decide +kernel
theorem dX7_writeBlocks_3 : decode cX7_writeBlocks 3 = .ok (.istore_n 3, 1) := by decide +kernel
theorem dX7_writeBlocks_4 : decode cX7_writeBlocks 4 = .ok (.iload_n 3, 1) := by decide +kernel
theorem dX7_writeBlocks_5 : decode cX7_writeBlocks 5 = .ok (.bipush 64, 2) := by decide +kernel
theorem dX7_writeBlocks_7 : decode cX7_writeBlocks 7 = .ok (.if_icmp .ge 45, 3) := by decide +kernel
theorem dX7_writeBlocks_10 : decode cX7_writeBlocks 10 = .ok (.iload_n 2, 1) := by decide +kernel
theorem dX7_writeBlocks_11 : decode cX7_writeBlocks 11 = .ok (.iload_n 1, 1) := by decide +kernel
theorem dX7_writeBlocks_12 : decode cX7_writeBlocks 12 = .ok (.if_icmp .ge 40, 3) := by decide +kernel
theorem dX7_writeBlocks_15 : decode cX7_writeBlocks 15 = .ok (.aload_n 0, 1) := by decide +kernel
theorem dX7_writeBlocks_16 : decode cX7_writeBlocks 16 = .ok (.getfield 15, 3) := by decide +kernel
theorem dX7_writeBlocks_19 : decode cX7_writeBlocks 19 = .ok (.iload_n 3, 1) := by decide +kernel
theorem dX7_writeBlocks_20 : decode cX7_writeBlocks 20 = .ok (.aload_n 0, 1) := by decide +kernel
theorem dX7_writeBlocks_21 : decode cX7_writeBlocks 21 = .ok (.getfield 9, 3) := by decide +kernel
theorem dX7_writeBlocks_24 : decode cX7_writeBlocks 24 = .ok (.invokevirtual 127, 3) := by decide +kernel
theorem dX7_writeBlocks_27 : decode cX7_writeBlocks 27 = .ok (.ifCond .ne 19, 3) := by decide +kernel
theorem dX7_writeBlocks_30 : decode cX7_writeBlocks 30 = .ok (.aload_n 0, 1) := by decide +kernel
theorem dX7_writeBlocks_31 : decode cX7_writeBlocks 31 = .ok (.getfield 9, 3) := by decide +kernel
theorem dX7_writeBlocks_34 : decode cX7_writeBlocks 34 = .ok (.iload_n 3, 1) := by decide +kernel
theorem dX7_writeBlocks_35 : decode cX7_writeBlocks 35 = .ok (.aload_n 0, 1) := by decide +kernel
theorem dX7_writeBlocks_36 : decode cX7_writeBlocks 36 = .ok (.getfield 15, 3) := by decide +kernel
theorem dX7_writeBlocks_39 : decode cX7_writeBlocks 39 = .ok (.iload_n 3, 1) := by decide +kernel
theorem dX7_writeBlocks_40 : decode cX7_writeBlocks 40 = .ok (.invokevirtual 131, 3) := by decide +kernel
theorem dX7_writeBlocks_43 : decode cX7_writeBlocks 43 = .ok (.iinc 2 1, 3) := by decide +kernel
theorem dX7_writeBlocks_46 : decode cX7_writeBlocks 46 = .ok (.iinc 3 1, 3) := by decide +kernel
theorem dX7_writeBlocks_49 : decode cX7_writeBlocks 49 = .ok (.goto (-45), 3) := by decide +kernel
theorem dX7_writeBlocks_52 : decode cX7_writeBlocks 52 = .ok (.iload_n 2, 1) := by decide +kernel
theorem dX7_writeBlocks_53 : decode cX7_writeBlocks 53 = .ok (.ireturn, 1) := by decide +kernel
theorem dX7_keepPlan_0 : decode cX7_keepPlan 0 = .ok (.aload_n 0, 1) := by decide +kernel
theorem dX7_keepPlan_1 : decode cX7_keepPlan 1 = .ok (.invokevirtual 80, 3) := by decide +kernel
theorem dX7_keepPlan_4 : decode cX7_keepPlan 4 = .ok (.aload_n 0, 1) := by decide +kernel
theorem dX7_keepPlan_5 : decode cX7_keepPlan 5 = .ok (.getfield 9, 3) := by decide +kernel
theorem dX7_keepPlan_8 : decode cX7_keepPlan 8 = .ok (.aload_n 0, 1) := by decide +kernel
theorem dX7_keepPlan_9 : decode cX7_keepPlan 9 = .ok (.getfield 15, 3) := by decide +kernel
theorem dX7_keepPlan_12 : decode cX7_keepPlan 12 = .ok (.invokevirtual 48, 3) := by decide +kernel
theorem dX7_keepPlan_15 : decode cX7_keepPlan 15 = .ok (.return_, 1) := by decide +kernel
theorem dX8_isGood_0 : decode cX8_isGood 0 = .ok (.iload_n 1, 1) := by decide +kernel
theorem dX8_isGood_1 : decode cX8_isGood 1 = .ok (.bipush 64, 2) := by decide +kernel
theorem dX8_isGood_3 : decode cX8_isGood 3 = .ok (.imul, 1) := by decide +kernel
theorem dX8_isGood_4 : decode cX8_isGood 4 = .ok (.istore_n 2, 1) := by decide +kernel
theorem dX8_isGood_5 : decode cX8_isGood 5 = .ok (.aload_n 0, 1) := by decide +kernel
theorem dX8_isGood_6 : decode cX8_isGood 6 = .ok (.iload_n 2, 1) := by decide +kernel
theorem dX8_isGood_7 : decode cX8_isGood 7 = .ok (.ldc 11, 2) := by decide +kernel
theorem dX8_isGood_9 : decode cX8_isGood 9 = .ok (.invokevirtual 13, 3) := by decide +kernel
theorem dX8_isGood_12 : decode cX8_isGood 12 = .ok (.ifCond .eq 25, 3) := by decide +kernel
theorem dX8_isGood_15 : decode cX8_isGood 15 = .ok (.aload_n 0, 1) := by decide +kernel
theorem dX8_isGood_16 : decode cX8_isGood 16 = .ok (.iload_n 2, 1) := by decide +kernel
theorem dX8_isGood_17 : decode cX8_isGood 17 = .ok (.bipush 62, 2) := by decide +kernel
theorem dX8_isGood_19 : decode cX8_isGood 19 = .ok (.iadd, 1) := by decide +kernel
theorem dX8_isGood_20 : decode cX8_isGood 20 = .ok (.invokevirtual 19, 3) := by decide +kernel
theorem dX8_isGood_23 : decode cX8_isGood 23 = .ok (.aload_n 0, 1) := by decide +kernel
theorem dX8_isGood_24 : decode cX8_isGood 24 = .ok (.iload_n 2, 1) := by decide +kernel
theorem dX8_isGood_25 : decode cX8_isGood 25 = .ok (.bipush 62, 2) := by decide +kernel
theorem dX8_isGood_27 : decode cX8_isGood 27 = .ok (.invokevirtual 23, 3) := by decide +kernel
theorem dX8_isGood_30 : decode cX8_isGood 30 = .ok (.if_icmp .ne 7, 3) := by decide +kernel
theorem dX8_isGood_33 : decode cX8_isGood 33 = .ok (.iconst 1, 1) := by decide +kernel
theorem dX8_isGood_34 : decode cX8_isGood 34 = .ok (.goto 4, 3) := by decide +kernel
theorem dX8_isGood_37 : decode cX8_isGood 37 = .ok (.iconst 0, 1) := by decide +kernel
theorem dX8_isGood_38 : decode cX8_isGood 38 = .ok (.ireturn, 1) := by decide +kernel
theorem dX8_write_0 : decode cX8_write 0 = .ok (.iload_n 1, 1) := by decide +kernel
theorem dX8_write_1 : decode cX8_write 1 = .ok (.bipush 64, 2) := by decide +kernel
theorem dX8_write_3 : decode cX8_write 3 = .ok (.imul, 1) := by decide +kernel
theorem dX8_write_4 : decode cX8_write 4 = .ok (.istore 4, 2) := by decide +kernel
theorem dX8_write_6 : decode cX8_write 6 = .ok (.aload_n 0, 1) := by decide +kernel
theorem dX8_write_7 : decode cX8_write 7 = .ok (.iload 4, 2) := by decide +kernel
theorem dX8_write_9 : decode cX8_write 9 = .ok (.bipush 64, 2) := by decide +kernel
theorem dX8_write_11 : decode cX8_write 11 = .ok (.invokevirtual 27, 3) := by decide +kernel
theorem dX8_write_14 : decode cX8_write 14 = .ok (.aload_n 0, 1) := by decide +kernel
theorem dX8_write_15 : decode cX8_write 15 = .ok (.iload 4, 2) := by decide +kernel
theorem dX8_write_17 : decode cX8_write 17 = .ok (.ldc 11, 2) := by decide +kernel
theorem dX8_write_19 : decode cX8_write 19 = .ok (.invokevirtual 31, 3) := by decide +kernel
theorem dX8_write_22 : decode cX8_write 22 = .ok (.aload_n 0, 1) := by decide +kernel
theorem dX8_write_23 : decode cX8_write 23 = .ok (.iload 4, 2) := by decide +kernel
theorem dX8_write_25 : decode cX8_write 25 = .ok (.iconst 4, 1) := by decide +kernel
theorem dX8_write_26 : decode cX8_write 26 = .ok (.iadd, 1) := by decide +kernel
theorem dX8_write_27 : decode cX8_write 27 = .ok (.iload_n 2, 1) := by decide +kernel
theorem dX8_write_28 : decode cX8_write 28 = .ok (.invokevirtual 35, 3) := by decide +kernel
theorem dX8_write_31 : decode cX8_write 31 = .ok (.aload_n 0, 1) := by decide +kernel
theorem dX8_write_32 : decode cX8_write 32 = .ok (.iload 4, 2) := by decide +kernel
theorem dX8_write_34 : decode cX8_write 34 = .ok (.bipush 6, 2) := by decide +kernel
theorem dX8_write_36 : decode cX8_write 36 = .ok (.iadd, 1) := by decide +kernel
theorem dX8_write_37 : decode cX8_write 37 = .ok (.iload_n 3, 1) := by decide +kernel
theorem dX8_write_38 : decode cX8_write 38 = .ok (.invokevirtual 35, 3) := by decide +kernel
theorem dX8_write_41 : decode cX8_write 41 = .ok (.aload_n 0, 1) := by decide +kernel
theorem dX8_write_42 : decode cX8_write 42 = .ok (.iload_n 1, 1) := by decide +kernel
theorem dX8_write_43 : decode cX8_write 43 = .ok (.invokestatic 38, 3) := by decide +kernel
theorem dX8_write_46 : decode cX8_write 46 = .ok (.return_, 1) := by decide +kernel
theorem dX8_writeSum_0 : decode cX8_writeSum 0 = .ok (.iload_n 1, 1) := by decide +kernel
theorem dX8_writeSum_1 : decode cX8_writeSum 1 = .ok (.bipush 64, 2) := by decide +kernel
theorem dX8_writeSum_3 : decode cX8_writeSum 3 = .ok (.imul, 1) := by decide +kernel
theorem dX8_writeSum_4 : decode cX8_writeSum 4 = .ok (.istore_n 2, 1) := by decide +kernel
theorem dX8_writeSum_5 : decode cX8_writeSum 5 = .ok (.aload_n 0, 1) := by decide +kernel
theorem dX8_writeSum_6 : decode cX8_writeSum 6 = .ok (.iload_n 2, 1) := by decide +kernel
theorem dX8_writeSum_7 : decode cX8_writeSum 7 = .ok (.bipush 62, 2) := by decide +kernel
theorem dX8_writeSum_9 : decode cX8_writeSum 9 = .ok (.iadd, 1) := by decide +kernel
theorem dX8_writeSum_10 : decode cX8_writeSum 10 = .ok (.aload_n 0, 1) := by decide +kernel
theorem dX8_writeSum_11 : decode cX8_writeSum 11 = .ok (.iload_n 2, 1) := by decide +kernel
theorem dX8_writeSum_12 : decode cX8_writeSum 12 = .ok (.bipush 62, 2) := by decide +kernel
theorem dX8_writeSum_14 : decode cX8_writeSum 14 = .ok (.invokevirtual 23, 3) := by decide +kernel
theorem dX8_writeSum_17 : decode cX8_writeSum 17 = .ok (.invokevirtual 35, 3) := by decide +kernel
theorem dX8_writeSum_20 : decode cX8_writeSum 20 = .ok (.return_, 1) := by decide +kernel
theorem dX9_init_0 : decode cX9_init 0 = .ok (.aload_n 0, 1) := by decide +kernel
theorem dX9_init_1 : decode cX9_init 1 = .ok (.invokespecial 3, 3) := by decide +kernel
theorem dX9_init_4 : decode cX9_init 4 = .ok (.aload_n 0, 1) := by decide +kernel
theorem dX9_init_5 : decode cX9_init 5 = .ok (.aload_n 1, 1) := by decide +kernel
theorem dX9_init_6 : decode cX9_init 6 = .ok (.putfield 9, 3) := by decide +kernel
theorem dX9_init_9 : decode cX9_init 9 = .ok (.aload_n 0, 1) := by decide +kernel
theorem dX9_init_10 : decode cX9_init 10 = .ok (.aload_n 2, 1) := by decide +kernel
theorem dX9_init_11 : decode cX9_init 11 = .ok (.putfield 15, 3) := by decide +kernel
theorem dX9_init_14 : decode cX9_init 14 = .ok (.aload_n 0, 1) := by decide +kernel
theorem dX9_init_15 : decode cX9_init 15 = .ok (.aload_n 3, 1) := by decide +kernel
theorem dX9_init_16 : decode cX9_init 16 = .ok (.putfield 19, 3) := by decide +kernel
theorem dX9_init_19 : decode cX9_init 19 = .ok (.return_, 1) := by decide +kernel
theorem dX9_create_0 : decode cX9_create 0 = .ok (.aload_n 0, 1) := by decide +kernel
theorem dX9_create_1 : decode cX9_create 1 = .ok (.getfield 15, 3) := by decide +kernel
theorem dX9_create_4 : decode cX9_create 4 = .ok (.invokevirtual 23, 3) := by decide +kernel
theorem dX9_create_7 : decode cX9_create 7 = .ok (.istore 4, 2) := by decide +kernel
theorem dX9_create_9 : decode cX9_create 9 = .ok (.iload 4, 2) := by decide +kernel
theorem dX9_create_11 : decode cX9_create 11 = .ok (.iconst (-1), 1) := by decide +kernel
theorem dX9_create_12 : decode cX9_create 12 = .ok (.if_icmp .eq 12, 3) := by decide +kernel
theorem dX9_create_15 : decode cX9_create 15 = .ok (.aload_n 0, 1) := by decide +kernel
theorem dX9_create_16 : decode cX9_create 16 = .ok (.iload_n 1, 1) := by decide +kernel
theorem dX9_create_17 : decode cX9_create 17 = .ok (.aload_n 2, 1) := by decide +kernel
theorem dX9_create_18 : decode cX9_create 18 = .ok (.invokevirtual 29, 3) := by decide +kernel
theorem dX9_create_21 : decode cX9_create 21 = .ok (.ifCond .ne 5, 3) := by decide +kernel
theorem dX9_create_24 : decode cX9_create 24 = .ok (.iconst (-1), 1) := by decide +kernel
theorem dX9_create_25 : decode cX9_create 25 = .ok (.ireturn, 1) := by decide +kernel
theorem dX9_create_26 : decode cX9_create 26 = .ok (.iload_n 3, 1) := by decide +kernel
theorem dX9_create_27 : decode cX9_create 27 = .ok (.iconst 1, 1) := by decide +kernel
theorem dX9_create_28 : decode cX9_create 28 = .ok (.if_icmp .ne 16, 3) := by decide +kernel
theorem dX9_create_31 : decode cX9_create 31 = .ok (.aload_n 0, 1) := by decide +kernel
theorem dX9_create_32 : decode cX9_create 32 = .ok (.getfield 15, 3) := by decide +kernel
theorem dX9_create_35 : decode cX9_create 35 = .ok (.iload 4, 2) := by decide +kernel
theorem dX9_create_37 : decode cX9_create 37 = .ok (.iconst 1, 1) := by decide +kernel
theorem dX9_create_38 : decode cX9_create 38 = .ok (.invokevirtual 33, 3) := by decide +kernel
theorem dX9_create_41 : decode cX9_create 41 = .ok (.goto 18, 3) := by decide +kernel
theorem dX9_create_44 : decode cX9_create 44 = .ok (.aload_n 0, 1) := by decide +kernel
theorem dX9_create_45 : decode cX9_create 45 = .ok (.getfield 19, 3) := by decide +kernel
theorem dX9_create_48 : decode cX9_create 48 = .ok (.iload 4, 2) := by decide +kernel
theorem dX9_create_50 : decode cX9_create 50 = .ok (.iload_n 1, 1) := by decide +kernel
theorem dX9_create_51 : decode cX9_create 51 = .ok (.invokevirtual 37, 3) := by decide +kernel
theorem dX9_create_54 : decode cX9_create 54 = .ok (.ifCond .ne 5, 3) := by decide +kernel
theorem dX9_create_57 : decode cX9_create 57 = .ok (.iconst (-1), 1) := by decide +kernel
theorem dX9_create_58 : decode cX9_create 58 = .ok (.ireturn, 1) := by decide +kernel
theorem dX9_create_59 : decode cX9_create 59 = .ok (.aload_n 0, 1) := by decide +kernel
theorem dX9_create_60 : decode cX9_create 60 = .ok (.iload_n 1, 1) := by decide +kernel
theorem dX9_create_61 : decode cX9_create 61 = .ok (.aload_n 2, 1) := by decide +kernel
theorem dX9_create_62 : decode cX9_create 62 = .ok (.iload 4, 2) := by decide +kernel
theorem dX9_create_64 : decode cX9_create 64 = .ok (.invokevirtual 42, 3) := by decide +kernel
theorem dX9_create_67 : decode cX9_create 67 = .ok (.ifCond .eq 8, 3) := by decide +kernel
theorem dX9_create_70 : decode cX9_create 70 = .ok (.iload 4, 2) := by decide +kernel
theorem dX9_create_72 : decode cX9_create 72 = .ok (.goto 4, 3) := by decide +kernel
theorem dX9_create_75 : decode cX9_create 75 = .ok (.iconst (-1), 1) := by decide +kernel
theorem dX9_create_76 : decode cX9_create 76 = .ok (.ireturn, 1) := by decide +kernel
theorem dX9_addEntry_0 : decode cX9_addEntry 0 = .ok (.aload_n 0, 1) := by decide +kernel
theorem dX9_addEntry_1 : decode cX9_addEntry 1 = .ok (.getfield 15, 3) := by decide +kernel
theorem dX9_addEntry_4 : decode cX9_addEntry 4 = .ok (.iload_n 3, 1) := by decide +kernel
theorem dX9_addEntry_5 : decode cX9_addEntry 5 = .ok (.invokevirtual 46, 3) := by decide +kernel
theorem dX9_addEntry_8 : decode cX9_addEntry 8 = .ok (.iconst 1, 1) := by decide +kernel
theorem dX9_addEntry_9 : decode cX9_addEntry 9 = .ok (.if_icmp .ne 26, 3) := by decide +kernel
theorem dX9_addEntry_12 : decode cX9_addEntry 12 = .ok (.aload_n 0, 1) := by decide +kernel
theorem dX9_addEntry_13 : decode cX9_addEntry 13 = .ok (.iload_n 1, 1) := by decide +kernel
theorem dX9_addEntry_14 : decode cX9_addEntry 14 = .ok (.aload_n 2, 1) := by decide +kernel
theorem dX9_addEntry_15 : decode cX9_addEntry 15 = .ok (.invokevirtual 29, 3) := by decide +kernel
theorem dX9_addEntry_18 : decode cX9_addEntry 18 = .ok (.ifCond .eq 17, 3) := by decide +kernel
theorem dX9_addEntry_21 : decode cX9_addEntry 21 = .ok (.aload_n 0, 1) := by decide +kernel
theorem dX9_addEntry_22 : decode cX9_addEntry 22 = .ok (.iload_n 1, 1) := by decide +kernel
theorem dX9_addEntry_23 : decode cX9_addEntry 23 = .ok (.aload_n 2, 1) := by decide +kernel
theorem dX9_addEntry_24 : decode cX9_addEntry 24 = .ok (.iload_n 3, 1) := by decide +kernel
theorem dX9_addEntry_25 : decode cX9_addEntry 25 = .ok (.invokevirtual 42, 3) := by decide +kernel
theorem dX9_addEntry_28 : decode cX9_addEntry 28 = .ok (.ifCond .eq 7, 3) := by decide +kernel
theorem dX9_addEntry_31 : decode cX9_addEntry 31 = .ok (.iconst 1, 1) := by decide +kernel
theorem dX9_addEntry_32 : decode cX9_addEntry 32 = .ok (.goto 4, 3) := by decide +kernel
theorem dX9_addEntry_35 : decode cX9_addEntry 35 = .ok (.iconst 0, 1) := by decide +kernel
theorem dX9_addEntry_36 : decode cX9_addEntry 36 = .ok (.ireturn, 1) := by decide +kernel
theorem dX9_mayEnter_0 : decode cX9_mayEnter 0 = .ok (.aload_n 0, 1) := by decide +kernel
theorem dX9_mayEnter_1 : decode cX9_mayEnter 1 = .ok (.getfield 15, 3) := by decide +kernel
theorem dX9_mayEnter_4 : decode cX9_mayEnter 4 = .ok (.iload_n 1, 1) := by decide +kernel
theorem dX9_mayEnter_5 : decode cX9_mayEnter 5 = .ok (.invokevirtual 46, 3) := by decide +kernel
theorem dX9_mayEnter_8 : decode cX9_mayEnter 8 = .ok (.iconst 2, 1) := by decide +kernel
theorem dX9_mayEnter_9 : decode cX9_mayEnter 9 = .ok (.if_icmp .ne 27, 3) := by decide +kernel
theorem dX9_mayEnter_12 : decode cX9_mayEnter 12 = .ok (.aload_n 2, 1) := by decide +kernel
theorem dX9_mayEnter_13 : decode cX9_mayEnter 13 = .ok (.invokevirtual 50, 3) := by decide +kernel
theorem dX9_mayEnter_16 : decode cX9_mayEnter 16 = .ok (.ifCond .eq 20, 3) := by decide +kernel
theorem dX9_mayEnter_19 : decode cX9_mayEnter 19 = .ok (.aload_n 0, 1) := by decide +kernel
theorem dX9_mayEnter_20 : decode cX9_mayEnter 20 = .ok (.getfield 19, 3) := by decide +kernel
theorem dX9_mayEnter_23 : decode cX9_mayEnter 23 = .ok (.iload_n 1, 1) := by decide +kernel
theorem dX9_mayEnter_24 : decode cX9_mayEnter 24 = .ok (.aload_n 2, 1) := by decide +kernel
theorem dX9_mayEnter_25 : decode cX9_mayEnter 25 = .ok (.invokevirtual 56, 3) := by decide +kernel
theorem dX9_mayEnter_28 : decode cX9_mayEnter 28 = .ok (.iconst (-1), 1) := by decide +kernel
theorem dX9_mayEnter_29 : decode cX9_mayEnter 29 = .ok (.if_icmp .ne 7, 3) := by decide +kernel
theorem dX9_mayEnter_32 : decode cX9_mayEnter 32 = .ok (.iconst 1, 1) := by decide +kernel
theorem dX9_mayEnter_33 : decode cX9_mayEnter 33 = .ok (.goto 4, 3) := by decide +kernel
theorem dX9_mayEnter_36 : decode cX9_mayEnter 36 = .ok (.iconst 0, 1) := by decide +kernel
theorem dX9_mayEnter_37 : decode cX9_mayEnter 37 = .ok (.ireturn, 1) := by decide +kernel
theorem dX9_enter_0 : decode cX9_enter 0 = .ok (.aload_n 0, 1) := by decide +kernel
theorem dX9_enter_1 : decode cX9_enter 1 = .ok (.getfield 19, 3) := by decide +kernel
theorem dX9_enter_4 : decode cX9_enter 4 = .ok (.iload_n 1, 1) := by decide +kernel
theorem dX9_enter_5 : decode cX9_enter 5 = .ok (.invokevirtual 60, 3) := by decide +kernel
theorem dX9_enter_8 : decode cX9_enter 8 = .ok (.istore 4, 2) := by decide +kernel
theorem dX9_enter_10 : decode cX9_enter 10 = .ok (.iload 4, 2) := by decide +kernel
theorem dX9_enter_12 : decode cX9_enter 12 = .ok (.iconst (-1), 1) := by decide +kernel
theorem dX9_enter_13 : decode cX9_enter 13 = .ok (.if_icmp .ne 5, 3) := by decide +kernel
theorem dX9_enter_16 : decode cX9_enter 16 = .ok (.iconst 0, 1) := by decide +kernel
theorem dX9_enter_17 : decode cX9_enter 17 = .ok (.ireturn, 1) := by decide +kernel
theorem dX9_enter_18 : decode cX9_enter 18 = .ok (.aload_n 0, 1) := by decide +kernel
theorem dX9_enter_19 : decode cX9_enter 19 = .ok (.getfield 19, 3) := by decide +kernel
theorem dX9_enter_22 : decode cX9_enter 22 = .ok (.iload 4, 2) := by decide +kernel
theorem dX9_enter_24 : decode cX9_enter 24 = .ok (.iload_n 3, 1) := by decide +kernel
theorem dX9_enter_25 : decode cX9_enter 25 = .ok (.aload_n 2, 1) := by decide +kernel
theorem dX9_enter_26 : decode cX9_enter 26 = .ok (.invokevirtual 63, 3) := by decide +kernel
theorem dX9_enter_29 : decode cX9_enter 29 = .ok (.iconst 1, 1) := by decide +kernel
theorem dX9_enter_30 : decode cX9_enter 30 = .ok (.ireturn, 1) := by decide +kernel
theorem dX9_lengthen_0 : decode cX9_lengthen 0 = .ok (.aload_n 0, 1) := by decide +kernel
theorem dX9_lengthen_1 : decode cX9_lengthen 1 = .ok (.getfield 15, 3) := by decide +kernel
theorem dX9_lengthen_4 : decode cX9_lengthen 4 = .ok (.iload_n 1, 1) := by decide +kernel
theorem dX9_lengthen_5 : decode cX9_lengthen 5 = .ok (.invokevirtual 67, 3) := by decide +kernel
theorem dX9_lengthen_8 : decode cX9_lengthen 8 = .ok (.istore_n 3, 1) := by decide +kernel
theorem dX9_lengthen_9 : decode cX9_lengthen 9 = .ok (.aload_n 0, 1) := by decide +kernel
theorem dX9_lengthen_10 : decode cX9_lengthen 10 = .ok (.getfield 15, 3) := by decide +kernel
theorem dX9_lengthen_13 : decode cX9_lengthen 13 = .ok (.iload_n 1, 1) := by decide +kernel
theorem dX9_lengthen_14 : decode cX9_lengthen 14 = .ok (.invokevirtual 46, 3) := by decide +kernel
theorem dX9_lengthen_17 : decode cX9_lengthen 17 = .ok (.iconst 1, 1) := by decide +kernel
theorem dX9_lengthen_18 : decode cX9_lengthen 18 = .ok (.if_icmp .ne 22, 3) := by decide +kernel
theorem dX9_lengthen_21 : decode cX9_lengthen 21 = .ok (.iload_n 3, 1) := by decide +kernel
theorem dX9_lengthen_22 : decode cX9_lengthen 22 = .ok (.bipush 64, 2) := by decide +kernel
theorem dX9_lengthen_24 : decode cX9_lengthen 24 = .ok (.irem, 1) := by decide +kernel
theorem dX9_lengthen_25 : decode cX9_lengthen 25 = .ok (.ifCond .ne 17, 3) := by decide +kernel
theorem dX9_lengthen_28 : decode cX9_lengthen 28 = .ok (.aload_n 0, 1) := by decide +kernel
theorem dX9_lengthen_29 : decode cX9_lengthen 29 = .ok (.getfield 15, 3) := by decide +kernel
theorem dX9_lengthen_32 : decode cX9_lengthen 32 = .ok (.iload_n 1, 1) := by decide +kernel
theorem dX9_lengthen_33 : decode cX9_lengthen 33 = .ok (.invokevirtual 70, 3) := by decide +kernel
theorem dX9_lengthen_36 : decode cX9_lengthen 36 = .ok (.iconst (-1), 1) := by decide +kernel
theorem dX9_lengthen_37 : decode cX9_lengthen 37 = .ok (.if_icmp .ne 5, 3) := by decide +kernel
theorem dX9_lengthen_40 : decode cX9_lengthen 40 = .ok (.iconst 0, 1) := by decide +kernel
theorem dX9_lengthen_41 : decode cX9_lengthen 41 = .ok (.ireturn, 1) := by decide +kernel
theorem dX9_lengthen_42 : decode cX9_lengthen 42 = .ok (.aload_n 0, 1) := by decide +kernel
theorem dX9_lengthen_43 : decode cX9_lengthen 43 = .ok (.getfield 9, 3) := by decide +kernel
theorem dX9_lengthen_46 : decode cX9_lengthen 46 = .ok (.aload_n 0, 1) := by decide +kernel
theorem dX9_lengthen_47 : decode cX9_lengthen 47 = .ok (.getfield 15, 3) := by decide +kernel
theorem dX9_lengthen_50 : decode cX9_lengthen 50 = .ok (.iload_n 1, 1) := by decide +kernel
theorem dX9_lengthen_51 : decode cX9_lengthen 51 = .ok (.iload_n 3, 1) := by decide +kernel
theorem dX9_lengthen_52 : decode cX9_lengthen 52 = .ok (.invokevirtual 73, 3) := by decide +kernel
theorem dX9_lengthen_55 : decode cX9_lengthen 55 = .ok (.iload_n 2, 1) := by decide +kernel
theorem dX9_lengthen_56 : decode cX9_lengthen 56 = .ok (.invokevirtual 77, 3) := by decide +kernel
theorem dX9_lengthen_59 : decode cX9_lengthen 59 = .ok (.aload_n 0, 1) := by decide +kernel
theorem dX9_lengthen_60 : decode cX9_lengthen 60 = .ok (.getfield 15, 3) := by decide +kernel
theorem dX9_lengthen_63 : decode cX9_lengthen 63 = .ok (.iload_n 1, 1) := by decide +kernel
theorem dX9_lengthen_64 : decode cX9_lengthen 64 = .ok (.iload_n 3, 1) := by decide +kernel
theorem dX9_lengthen_65 : decode cX9_lengthen 65 = .ok (.iconst 1, 1) := by decide +kernel
theorem dX9_lengthen_66 : decode cX9_lengthen 66 = .ok (.iadd, 1) := by decide +kernel
theorem dX9_lengthen_67 : decode cX9_lengthen 67 = .ok (.invokevirtual 82, 3) := by decide +kernel
theorem dX9_lengthen_70 : decode cX9_lengthen 70 = .ok (.iconst 1, 1) := by decide +kernel
theorem dX9_lengthen_71 : decode cX9_lengthen 71 = .ok (.ireturn, 1) := by decide +kernel
theorem dX9_removeEntry_0 : decode cX9_removeEntry 0 = .ok (.aload_n 0, 1) := by decide +kernel
theorem dX9_removeEntry_1 : decode cX9_removeEntry 1 = .ok (.getfield 15, 3) := by decide +kernel
theorem dX9_removeEntry_4 : decode cX9_removeEntry 4 = .ok (.iload_n 1, 1) := by decide +kernel
theorem dX9_removeEntry_5 : decode cX9_removeEntry 5 = .ok (.invokevirtual 46, 3) := by decide +kernel
theorem dX9_removeEntry_8 : decode cX9_removeEntry 8 = .ok (.iconst 2, 1) := by decide +kernel
theorem dX9_removeEntry_9 : decode cX9_removeEntry 9 = .ok (.if_icmp .ne 15, 3) := by decide +kernel
theorem dX9_removeEntry_12 : decode cX9_removeEntry 12 = .ok (.aload_n 0, 1) := by decide +kernel
theorem dX9_removeEntry_13 : decode cX9_removeEntry 13 = .ok (.getfield 19, 3) := by decide +kernel
theorem dX9_removeEntry_16 : decode cX9_removeEntry 16 = .ok (.iload_n 1, 1) := by decide +kernel
theorem dX9_removeEntry_17 : decode cX9_removeEntry 17 = .ok (.aload_n 2, 1) := by decide +kernel
theorem dX9_removeEntry_18 : decode cX9_removeEntry 18 = .ok (.invokevirtual 56, 3) := by decide +kernel
theorem dX9_removeEntry_21 : decode cX9_removeEntry 21 = .ok (.goto 4, 3) := by decide +kernel
theorem dX9_removeEntry_24 : decode cX9_removeEntry 24 = .ok (.iconst (-1), 1) := by decide +kernel
theorem dX9_removeEntry_25 : decode cX9_removeEntry 25 = .ok (.istore_n 3, 1) := by decide +kernel
theorem dX9_removeEntry_26 : decode cX9_removeEntry 26 = .ok (.iload_n 3, 1) := by decide +kernel
theorem dX9_removeEntry_27 : decode cX9_removeEntry 27 = .ok (.iconst (-1), 1) := by decide +kernel
theorem dX9_removeEntry_28 : decode cX9_removeEntry 28 = .ok (.if_icmp .ne 5, 3) := by decide +kernel
theorem dX9_removeEntry_31 : decode cX9_removeEntry 31 = .ok (.iconst 0, 1) := by decide +kernel
theorem dX9_removeEntry_32 : decode cX9_removeEntry 32 = .ok (.ireturn, 1) := by decide +kernel
theorem dX9_removeEntry_33 : decode cX9_removeEntry 33 = .ok (.aload_n 0, 1) := by decide +kernel
theorem dX9_removeEntry_34 : decode cX9_removeEntry 34 = .ok (.getfield 9, 3) := by decide +kernel
theorem dX9_removeEntry_37 : decode cX9_removeEntry 37 = .ok (.iload_n 3, 1) := by decide +kernel
theorem dX9_removeEntry_38 : decode cX9_removeEntry 38 = .ok (.invokevirtual 85, 3) := by decide +kernel
theorem dX9_removeEntry_41 : decode cX9_removeEntry 41 = .ok (.istore 4, 2) := by decide +kernel
theorem dX9_removeEntry_43 : decode cX9_removeEntry 43 = .ok (.aload_n 0, 1) := by decide +kernel
theorem dX9_removeEntry_44 : decode cX9_removeEntry 44 = .ok (.getfield 15, 3) := by decide +kernel
theorem dX9_removeEntry_47 : decode cX9_removeEntry 47 = .ok (.iload 4, 2) := by decide +kernel
theorem dX9_removeEntry_49 : decode cX9_removeEntry 49 = .ok (.invokevirtual 46, 3) := by decide +kernel
theorem dX9_removeEntry_52 : decode cX9_removeEntry 52 = .ok (.iconst 1, 1) := by decide +kernel
theorem dX9_removeEntry_53 : decode cX9_removeEntry 53 = .ok (.if_icmp .ne 7, 3) := by decide +kernel
theorem dX9_removeEntry_56 : decode cX9_removeEntry 56 = .ok (.iconst 1, 1) := by decide +kernel
theorem dX9_removeEntry_57 : decode cX9_removeEntry 57 = .ok (.goto 4, 3) := by decide +kernel
theorem dX9_removeEntry_60 : decode cX9_removeEntry 60 = .ok (.iconst 0, 1) := by decide +kernel
theorem dX9_removeEntry_61 : decode cX9_removeEntry 61 = .ok (.istore 5, 2) := by decide +kernel
theorem dX9_removeEntry_63 : decode cX9_removeEntry 63 = .ok (.iload 5, 2) := by decide +kernel
theorem dX9_removeEntry_65 : decode cX9_removeEntry 65 = .ok (.ifCond .ne 17, 3) := by decide +kernel
theorem dX9_removeEntry_68 : decode cX9_removeEntry 68 = .ok (.aload_n 0, 1) := by decide +kernel
theorem dX9_removeEntry_69 : decode cX9_removeEntry 69 = .ok (.getfield 19, 3) := by decide +kernel
theorem dX9_removeEntry_72 : decode cX9_removeEntry 72 = .ok (.iload 4, 2) := by decide +kernel
theorem dX9_removeEntry_74 : decode cX9_removeEntry 74 = .ok (.invokevirtual 88, 3) := by decide +kernel
theorem dX9_removeEntry_77 : decode cX9_removeEntry 77 = .ok (.ifCond .ne 5, 3) := by decide +kernel
theorem dX9_removeEntry_80 : decode cX9_removeEntry 80 = .ok (.iconst 0, 1) := by decide +kernel
theorem dX9_removeEntry_81 : decode cX9_removeEntry 81 = .ok (.ireturn, 1) := by decide +kernel
theorem dX9_removeEntry_82 : decode cX9_removeEntry 82 = .ok (.aload_n 0, 1) := by decide +kernel
theorem dX9_removeEntry_83 : decode cX9_removeEntry 83 = .ok (.getfield 19, 3) := by decide +kernel
theorem dX9_removeEntry_86 : decode cX9_removeEntry 86 = .ok (.iload_n 3, 1) := by decide +kernel
theorem dX9_removeEntry_87 : decode cX9_removeEntry 87 = .ok (.invokevirtual 92, 3) := by decide +kernel
theorem dX9_removeEntry_90 : decode cX9_removeEntry 90 = .ok (.iload 5, 2) := by decide +kernel
theorem dX9_removeEntry_92 : decode cX9_removeEntry 92 = .ok (.ifCond .eq 16, 3) := by decide +kernel
theorem dX9_removeEntry_95 : decode cX9_removeEntry 95 = .ok (.aload_n 0, 1) := by decide +kernel
theorem dX9_removeEntry_96 : decode cX9_removeEntry 96 = .ok (.getfield 15, 3) := by decide +kernel
theorem dX9_removeEntry_99 : decode cX9_removeEntry 99 = .ok (.iload 4, 2) := by decide +kernel
theorem dX9_removeEntry_101 : decode cX9_removeEntry 101 = .ok (.invokevirtual 96, 3) := by decide +kernel
theorem dX9_removeEntry_104 : decode cX9_removeEntry 104 = .ok (.iconst 1, 1) := by decide +kernel
theorem dX9_removeEntry_105 : decode cX9_removeEntry 105 = .ok (.if_icmp .ne 12, 3) := by decide +kernel
theorem dX9_removeEntry_108 : decode cX9_removeEntry 108 = .ok (.aload_n 0, 1) := by decide +kernel
theorem dX9_removeEntry_109 : decode cX9_removeEntry 109 = .ok (.getfield 15, 3) := by decide +kernel
theorem dX9_removeEntry_112 : decode cX9_removeEntry 112 = .ok (.iload 4, 2) := by decide +kernel
theorem dX9_removeEntry_114 : decode cX9_removeEntry 114 = .ok (.invokevirtual 99, 3) := by decide +kernel
theorem dX9_removeEntry_117 : decode cX9_removeEntry 117 = .ok (.iconst 1, 1) := by decide +kernel
theorem dX9_removeEntry_118 : decode cX9_removeEntry 118 = .ok (.ireturn, 1) := by decide +kernel
theorem dX10_init_0 : decode cX10_init 0 = .ok (.aload_n 0, 1) := by decide +kernel
theorem dX10_init_1 : decode cX10_init 1 = .ok (.invokespecial 1, 3) := by decide +kernel
theorem dX10_init_4 : decode cX10_init 4 = .ok (.new 7, 3) := by decide +kernel
theorem dX10_init_7 : decode cX10_init 7 = .ok (.dup, 1) := by decide +kernel
theorem dX10_init_8 : decode cX10_init 8 = .ok (.invokespecial 9, 3) := by decide +kernel
theorem dX10_init_11 : decode cX10_init 11 = .ok (.astore_n 1, 1) := by decide +kernel
theorem dX10_init_12 : decode cX10_init 12 = .ok (.new 10, 3) := by decide +kernel
theorem dX10_init_15 : decode cX10_init 15 = .ok (.dup, 1) := by decide +kernel
theorem dX10_init_16 : decode cX10_init 16 = .ok (.aload_n 1, 1) := by decide +kernel
theorem dX10_init_17 : decode cX10_init 17 = .ok (.invokespecial 12, 3) := by decide +kernel
theorem dX10_init_20 : decode cX10_init 20 = .ok (.astore_n 2, 1) := by decide +kernel
theorem dX10_init_21 : decode cX10_init 21 = .ok (.new 7, 3) := by decide +kernel
theorem dX10_init_24 : decode cX10_init 24 = .ok (.dup, 1) := by decide +kernel
theorem dX10_init_25 : decode cX10_init 25 = .ok (.invokespecial 9, 3) := by decide +kernel
theorem dX10_init_28 : decode cX10_init 28 = .ok (.astore_n 3, 1) := by decide +kernel
theorem dX10_init_29 : decode cX10_init 29 = .ok (.new 10, 3) := by decide +kernel
theorem dX10_init_32 : decode cX10_init 32 = .ok (.dup, 1) := by decide +kernel
theorem dX10_init_33 : decode cX10_init 33 = .ok (.aload_n 3, 1) := by decide +kernel
theorem dX10_init_34 : decode cX10_init 34 = .ok (.invokespecial 12, 3) := by decide +kernel
theorem dX10_init_37 : decode cX10_init 37 = .ok (.astore 4, 2) := by decide +kernel
theorem dX10_init_39 : decode cX10_init 39 = .ok (.new 15, 3) := by decide +kernel
theorem dX10_init_42 : decode cX10_init 42 = .ok (.dup, 1) := by decide +kernel
theorem dX10_init_43 : decode cX10_init 43 = .ok (.aload_n 3, 1) := by decide +kernel
theorem dX10_init_44 : decode cX10_init 44 = .ok (.aload 4, 2) := by decide +kernel
theorem dX10_init_46 : decode cX10_init 46 = .ok (.invokespecial 17, 3) := by decide +kernel
theorem dX10_init_49 : decode cX10_init 49 = .ok (.astore 5, 2) := by decide +kernel
theorem dX10_init_51 : decode cX10_init 51 = .ok (.aload_n 0, 1) := by decide +kernel
theorem dX10_init_52 : decode cX10_init 52 = .ok (.aload_n 1, 1) := by decide +kernel
theorem dX10_init_53 : decode cX10_init 53 = .ok (.putfield 20, 3) := by decide +kernel
theorem dX10_init_56 : decode cX10_init 56 = .ok (.aload_n 0, 1) := by decide +kernel
theorem dX10_init_57 : decode cX10_init 57 = .ok (.aload_n 2, 1) := by decide +kernel
theorem dX10_init_58 : decode cX10_init 58 = .ok (.putfield 26, 3) := by decide +kernel
theorem dX10_init_61 : decode cX10_init 61 = .ok (.aload_n 0, 1) := by decide +kernel
theorem dX10_init_62 : decode cX10_init 62 = .ok (.new 15, 3) := by decide +kernel
theorem dX10_init_65 : decode cX10_init 65 = .ok (.dup, 1) := by decide +kernel
theorem dX10_init_66 : decode cX10_init 66 = .ok (.aload_n 1, 1) := by decide +kernel
theorem dX10_init_67 : decode cX10_init 67 = .ok (.aload_n 2, 1) := by decide +kernel
theorem dX10_init_68 : decode cX10_init 68 = .ok (.invokespecial 17, 3) := by decide +kernel
theorem dX10_init_71 : decode cX10_init 71 = .ok (.putfield 30, 3) := by decide +kernel
theorem dX10_init_74 : decode cX10_init 74 = .ok (.aload_n 0, 1) := by decide +kernel
theorem dX10_init_75 : decode cX10_init 75 = .ok (.new 34, 3) := by decide +kernel
theorem dX10_init_78 : decode cX10_init 78 = .ok (.dup, 1) := by decide +kernel
theorem dX10_init_79 : decode cX10_init 79 = .ok (.aload_n 1, 1) := by decide +kernel
theorem dX10_init_80 : decode cX10_init 80 = .ok (.aload_n 3, 1) := by decide +kernel
theorem dX10_init_81 : decode cX10_init 81 = .ok (.aload 4, 2) := by decide +kernel
theorem dX10_init_83 : decode cX10_init 83 = .ok (.aload 5, 2) := by decide +kernel
theorem dX10_init_85 : decode cX10_init 85 = .ok (.invokespecial 36, 3) := by decide +kernel
theorem dX10_init_88 : decode cX10_init 88 = .ok (.putfield 39, 3) := by decide +kernel
theorem dX10_init_91 : decode cX10_init 91 = .ok (.aload_n 0, 1) := by decide +kernel
theorem dX10_init_92 : decode cX10_init 92 = .ok (.new 43, 3) := by decide +kernel
theorem dX10_init_95 : decode cX10_init 95 = .ok (.dup, 1) := by decide +kernel
theorem dX10_init_96 : decode cX10_init 96 = .ok (.aload_n 3, 1) := by decide +kernel
theorem dX10_init_97 : decode cX10_init 97 = .ok (.aload 4, 2) := by decide +kernel
theorem dX10_init_99 : decode cX10_init 99 = .ok (.aload 5, 2) := by decide +kernel
theorem dX10_init_101 : decode cX10_init 101 = .ok (.invokespecial 45, 3) := by decide +kernel
theorem dX10_init_104 : decode cX10_init 104 = .ok (.putfield 48, 3) := by decide +kernel
theorem dX10_init_107 : decode cX10_init 107 = .ok (.aload_n 0, 1) := by decide +kernel
theorem dX10_init_108 : decode cX10_init 108 = .ok (.new 52, 3) := by decide +kernel
theorem dX10_init_111 : decode cX10_init 111 = .ok (.dup, 1) := by decide +kernel
theorem dX10_init_112 : decode cX10_init 112 = .ok (.invokespecial 54, 3) := by decide +kernel
theorem dX10_init_115 : decode cX10_init 115 = .ok (.putfield 55, 3) := by decide +kernel
theorem dX10_init_118 : decode cX10_init 118 = .ok (.return_, 1) := by decide +kernel
theorem dX10_format_0 : decode cX10_format 0 = .ok (.aload_n 0, 1) := by decide +kernel
theorem dX10_format_1 : decode cX10_format 1 = .ok (.getfield 20, 3) := by decide +kernel
theorem dX10_format_4 : decode cX10_format 4 = .ok (.iconst 0, 1) := by decide +kernel
theorem dX10_format_5 : decode cX10_format 5 = .ok (.sipush 4096, 3) := by decide +kernel
theorem dX10_format_8 : decode cX10_format 8 = .ok (.invokevirtual 59, 3) := by decide +kernel
theorem dX10_format_11 : decode cX10_format 11 = .ok (.aload_n 0, 1) := by decide +kernel
theorem dX10_format_12 : decode cX10_format 12 = .ok (.getfield 20, 3) := by decide +kernel
theorem dX10_format_15 : decode cX10_format 15 = .ok (.iconst 0, 1) := by decide +kernel
theorem dX10_format_16 : decode cX10_format 16 = .ok (.iconst 0, 1) := by decide +kernel
theorem dX10_format_17 : decode cX10_format 17 = .ok (.iconst 0, 1) := by decide +kernel
theorem dX10_format_18 : decode cX10_format 18 = .ok (.invokestatic 63, 3) := by decide +kernel
theorem dX10_format_21 : decode cX10_format 21 = .ok (.aload_n 0, 1) := by decide +kernel
theorem dX10_format_22 : decode cX10_format 22 = .ok (.getfield 39, 3) := by decide +kernel
theorem dX10_format_25 : decode cX10_format 25 = .ok (.invokevirtual 69, 3) := by decide +kernel
theorem dX10_format_28 : decode cX10_format 28 = .ok (.pop, 1) := by decide +kernel
theorem dX10_format_29 : decode cX10_format 29 = .ok (.aload_n 0, 1) := by decide +kernel
theorem dX10_format_30 : decode cX10_format 30 = .ok (.getfield 39, 3) := by decide +kernel
theorem dX10_format_33 : decode cX10_format 33 = .ok (.bipush 64, 2) := by decide +kernel
theorem dX10_format_35 : decode cX10_format 35 = .ok (.invokevirtual 73, 3) := by decide +kernel
theorem dX10_format_38 : decode cX10_format 38 = .ok (.ireturn, 1) := by decide +kernel
theorem dX10_poke_0 : decode cX10_poke 0 = .ok (.iload_n 1, 1) := by decide +kernel
theorem dX10_poke_1 : decode cX10_poke 1 = .ok (.invokestatic 77, 3) := by decide +kernel
theorem dX10_poke_4 : decode cX10_poke 4 = .ok (.ifCond .eq 10, 3) := by decide +kernel
theorem dX10_poke_7 : decode cX10_poke 7 = .ok (.iload_n 2, 1) := by decide +kernel
theorem dX10_poke_8 : decode cX10_poke 8 = .ok (.invokestatic 81, 3) := by decide +kernel
theorem dX10_poke_11 : decode cX10_poke 11 = .ok (.ifCond .ne 5, 3) := by decide +kernel
theorem dX10_poke_14 : decode cX10_poke 14 = .ok (.iconst 0, 1) := by decide +kernel
theorem dX10_poke_15 : decode cX10_poke 15 = .ok (.ireturn, 1) := by decide +kernel
theorem dX10_poke_16 : decode cX10_poke 16 = .ok (.aload_n 0, 1) := by decide +kernel
theorem dX10_poke_17 : decode cX10_poke 17 = .ok (.getfield 20, 3) := by decide +kernel
theorem dX10_poke_20 : decode cX10_poke 20 = .ok (.iload_n 1, 1) := by decide +kernel
theorem dX10_poke_21 : decode cX10_poke 21 = .ok (.iload_n 2, 1) := by decide +kernel
theorem dX10_poke_22 : decode cX10_poke 22 = .ok (.invokevirtual 84, 3) := by decide +kernel
theorem dX10_poke_25 : decode cX10_poke 25 = .ok (.iconst 1, 1) := by decide +kernel
theorem dX10_poke_26 : decode cX10_poke 26 = .ok (.ireturn, 1) := by decide +kernel
theorem dX10_peek_0 : decode cX10_peek 0 = .ok (.iload_n 1, 1) := by decide +kernel
theorem dX10_peek_1 : decode cX10_peek 1 = .ok (.invokestatic 77, 3) := by decide +kernel
theorem dX10_peek_4 : decode cX10_peek 4 = .ok (.ifCond .eq 14, 3) := by decide +kernel
theorem dX10_peek_7 : decode cX10_peek 7 = .ok (.aload_n 0, 1) := by decide +kernel
theorem dX10_peek_8 : decode cX10_peek 8 = .ok (.getfield 20, 3) := by decide +kernel
theorem dX10_peek_11 : decode cX10_peek 11 = .ok (.iload_n 1, 1) := by decide +kernel
theorem dX10_peek_12 : decode cX10_peek 12 = .ok (.invokevirtual 87, 3) := by decide +kernel
theorem dX10_peek_15 : decode cX10_peek 15 = .ok (.goto 4, 3) := by decide +kernel
theorem dX10_peek_18 : decode cX10_peek 18 = .ok (.iconst (-1), 1) := by decide +kernel
theorem dX10_peek_19 : decode cX10_peek 19 = .ok (.ireturn, 1) := by decide +kernel
theorem dX10_seal_0 : decode cX10_seal 0 = .ok (.iload_n 1, 1) := by decide +kernel
theorem dX10_seal_1 : decode cX10_seal 1 = .ok (.ifCond .lt 9, 3) := by decide +kernel
theorem dX10_seal_4 : decode cX10_seal 4 = .ok (.iload_n 1, 1) := by decide +kernel
theorem dX10_seal_5 : decode cX10_seal 5 = .ok (.bipush 35, 2) := by decide +kernel
theorem dX10_seal_7 : decode cX10_seal 7 = .ok (.if_icmp .lt 5, 3) := by decide +kernel
theorem dX10_seal_10 : decode cX10_seal 10 = .ok (.iconst 0, 1) := by decide +kernel
theorem dX10_seal_11 : decode cX10_seal 11 = .ok (.ireturn, 1) := by decide +kernel
theorem dX10_seal_12 : decode cX10_seal 12 = .ok (.iload_n 1, 1) := by decide +kernel
theorem dX10_seal_13 : decode cX10_seal 13 = .ok (.ifCond .ne 14, 3) := by decide +kernel
theorem dX10_seal_16 : decode cX10_seal 16 = .ok (.aload_n 0, 1) := by decide +kernel
theorem dX10_seal_17 : decode cX10_seal 17 = .ok (.getfield 20, 3) := by decide +kernel
theorem dX10_seal_20 : decode cX10_seal 20 = .ok (.iconst 0, 1) := by decide +kernel
theorem dX10_seal_21 : decode cX10_seal 21 = .ok (.invokestatic 90, 3) := by decide +kernel
theorem dX10_seal_24 : decode cX10_seal 24 = .ok (.goto 45, 3) := by decide +kernel
theorem dX10_seal_27 : decode cX10_seal 27 = .ok (.iload_n 1, 1) := by decide +kernel
theorem dX10_seal_28 : decode cX10_seal 28 = .ok (.iconst 1, 1) := by decide +kernel
theorem dX10_seal_29 : decode cX10_seal 29 = .ok (.if_icmp .ne 15, 3) := by decide +kernel
theorem dX10_seal_32 : decode cX10_seal 32 = .ok (.aload_n 0, 1) := by decide +kernel
theorem dX10_seal_33 : decode cX10_seal 33 = .ok (.getfield 20, 3) := by decide +kernel
theorem dX10_seal_36 : decode cX10_seal 36 = .ok (.bipush 63, 2) := by decide +kernel
theorem dX10_seal_38 : decode cX10_seal 38 = .ok (.invokestatic 90, 3) := by decide +kernel
theorem dX10_seal_41 : decode cX10_seal 41 = .ok (.goto 28, 3) := by decide +kernel
theorem dX10_seal_44 : decode cX10_seal 44 = .ok (.iload_n 1, 1) := by decide +kernel
theorem dX10_seal_45 : decode cX10_seal 45 = .ok (.iconst 2, 1) := by decide +kernel
theorem dX10_seal_46 : decode cX10_seal 46 = .ok (.if_icmp .ne 13, 3) := by decide +kernel
theorem dX10_seal_49 : decode cX10_seal 49 = .ok (.aload_n 0, 1) := by decide +kernel
theorem dX10_seal_50 : decode cX10_seal 50 = .ok (.getfield 20, 3) := by decide +kernel
theorem dX10_seal_53 : decode cX10_seal 53 = .ok (.invokestatic 94, 3) := by decide +kernel
theorem dX10_seal_56 : decode cX10_seal 56 = .ok (.goto 13, 3) := by decide +kernel
theorem dX10_seal_59 : decode cX10_seal 59 = .ok (.aload_n 0, 1) := by decide +kernel
theorem dX10_seal_60 : decode cX10_seal 60 = .ok (.getfield 26, 3) := by decide +kernel
theorem dX10_seal_63 : decode cX10_seal 63 = .ok (.iload_n 1, 1) := by decide +kernel
theorem dX10_seal_64 : decode cX10_seal 64 = .ok (.iconst 3, 1) := by decide +kernel
theorem dX10_seal_65 : decode cX10_seal 65 = .ok (.isub, 1) := by decide +kernel
theorem dX10_seal_66 : decode cX10_seal 66 = .ok (.invokevirtual 98, 3) := by decide +kernel
theorem dX10_seal_69 : decode cX10_seal 69 = .ok (.iconst 1, 1) := by decide +kernel
theorem dX10_seal_70 : decode cX10_seal 70 = .ok (.ireturn, 1) := by decide +kernel
theorem dX10_commit_0 : decode cX10_commit 0 = .ok (.iload_n 3, 1) := by decide +kernel
theorem dX10_commit_1 : decode cX10_commit 1 = .ok (.iconst 1, 1) := by decide +kernel
theorem dX10_commit_2 : decode cX10_commit 2 = .ok (.if_icmp .lt 8, 3) := by decide +kernel
theorem dX10_commit_5 : decode cX10_commit 5 = .ok (.iload_n 3, 1) := by decide +kernel
theorem dX10_commit_6 : decode cX10_commit 6 = .ok (.iconst 5, 1) := by decide +kernel
theorem dX10_commit_7 : decode cX10_commit 7 = .ok (.if_icmp .le 5, 3) := by decide +kernel
theorem dX10_commit_10 : decode cX10_commit 10 = .ok (.iconst 0, 1) := by decide +kernel
theorem dX10_commit_11 : decode cX10_commit 11 = .ok (.ireturn, 1) := by decide +kernel
theorem dX10_commit_12 : decode cX10_commit 12 = .ok (.aload_n 0, 1) := by decide +kernel
theorem dX10_commit_13 : decode cX10_commit 13 = .ok (.getfield 20, 3) := by decide +kernel
theorem dX10_commit_16 : decode cX10_commit 16 = .ok (.lload_n 1, 1) := by decide +kernel
theorem dX10_commit_17 : decode cX10_commit 17 = .ok (.iload_n 3, 1) := by decide +kernel
theorem dX10_commit_18 : decode cX10_commit 18 = .ok (.invokestatic 101, 3) := by decide +kernel
theorem dX10_commit_21 : decode cX10_commit 21 = .ok (.iconst 1, 1) := by decide +kernel
theorem dX10_commit_22 : decode cX10_commit 22 = .ok (.ireturn, 1) := by decide +kernel
theorem dX10_check_0 : decode cX10_check 0 = .ok (.aload_n 0, 1) := by decide +kernel
theorem dX10_check_1 : decode cX10_check 1 = .ok (.getfield 39, 3) := by decide +kernel
theorem dX10_check_4 : decode cX10_check 4 = .ok (.invokevirtual 69, 3) := by decide +kernel
theorem dX10_check_7 : decode cX10_check 7 = .ok (.ireturn, 1) := by decide +kernel
theorem dX10_repair_0 : decode cX10_repair 0 = .ok (.iload_n 1, 1) := by decide +kernel
theorem dX10_repair_1 : decode cX10_repair 1 = .ok (.iconst (-1), 1) := by decide +kernel
theorem dX10_repair_2 : decode cX10_repair 2 = .ok (.if_icmp .lt 20, 3) := by decide +kernel
theorem dX10_repair_5 : decode cX10_repair 5 = .ok (.iload_n 1, 1) := by decide +kernel
theorem dX10_repair_6 : decode cX10_repair 6 = .ok (.bipush 64, 2) := by decide +kernel
theorem dX10_repair_8 : decode cX10_repair 8 = .ok (.if_icmp .gt 14, 3) := by decide +kernel
theorem dX10_repair_11 : decode cX10_repair 11 = .ok (.aload_n 0, 1) := by decide +kernel
theorem dX10_repair_12 : decode cX10_repair 12 = .ok (.getfield 39, 3) := by decide +kernel
theorem dX10_repair_15 : decode cX10_repair 15 = .ok (.invokevirtual 69, 3) := by decide +kernel
theorem dX10_repair_18 : decode cX10_repair 18 = .ok (.iconst (-1), 1) := by decide +kernel
theorem dX10_repair_19 : decode cX10_repair 19 = .ok (.if_icmp .ne 5, 3) := by decide +kernel
theorem dX10_repair_22 : decode cX10_repair 22 = .ok (.iconst (-1), 1) := by decide +kernel
theorem dX10_repair_23 : decode cX10_repair 23 = .ok (.ireturn, 1) := by decide +kernel
theorem dX10_repair_24 : decode cX10_repair 24 = .ok (.aload_n 0, 1) := by decide +kernel
theorem dX10_repair_25 : decode cX10_repair 25 = .ok (.getfield 39, 3) := by decide +kernel
theorem dX10_repair_28 : decode cX10_repair 28 = .ok (.iload_n 1, 1) := by decide +kernel
theorem dX10_repair_29 : decode cX10_repair 29 = .ok (.iconst (-1), 1) := by decide +kernel
theorem dX10_repair_30 : decode cX10_repair 30 = .ok (.if_icmp .ne 8, 3) := by decide +kernel
theorem dX10_repair_33 : decode cX10_repair 33 = .ok (.bipush 64, 2) := by decide +kernel
theorem dX10_repair_35 : decode cX10_repair 35 = .ok (.goto 4, 3) := by decide +kernel
theorem dX10_repair_38 : decode cX10_repair 38 = .ok (.iload_n 1, 1) := by decide +kernel
theorem dX10_repair_39 : decode cX10_repair 39 = .ok (.invokevirtual 73, 3) := by decide +kernel
theorem dX10_repair_42 : decode cX10_repair 42 = .ok (.ireturn, 1) := by decide +kernel
theorem dX10_inode_0 : decode cX10_inode 0 = .ok (.iload_n 1, 1) := by decide +kernel
theorem dX10_inode_1 : decode cX10_inode 1 = .ok (.invokestatic 104, 3) := by decide +kernel
theorem dX10_inode_4 : decode cX10_inode 4 = .ok (.ifCond .ne 5, 3) := by decide +kernel
theorem dX10_inode_7 : decode cX10_inode 7 = .ok (.iconst (-1), 1) := by decide +kernel
theorem dX10_inode_8 : decode cX10_inode 8 = .ok (.ireturn, 1) := by decide +kernel
theorem dX10_inode_9 : decode cX10_inode 9 = .ok (.iload_n 2, 1) := by decide +kernel
theorem dX10_inode_10 : decode cX10_inode 10 = .ok (.tableswitch 53 0 2 #[26, 35, 44], 26) := by decide +kernel
theorem dX10_inode_36 : decode cX10_inode 36 = .ok (.aload_n 0, 1) := by decide +kernel
theorem dX10_inode_37 : decode cX10_inode 37 = .ok (.getfield 26, 3) := by decide +kernel
theorem dX10_inode_40 : decode cX10_inode 40 = .ok (.iload_n 1, 1) := by decide +kernel
theorem dX10_inode_41 : decode cX10_inode 41 = .ok (.invokevirtual 107, 3) := by decide +kernel
theorem dX10_inode_44 : decode cX10_inode 44 = .ok (.ireturn, 1) := by decide +kernel
theorem dX10_inode_45 : decode cX10_inode 45 = .ok (.aload_n 0, 1) := by decide +kernel
theorem dX10_inode_46 : decode cX10_inode 46 = .ok (.getfield 26, 3) := by decide +kernel
theorem dX10_inode_49 : decode cX10_inode 49 = .ok (.iload_n 1, 1) := by decide +kernel
theorem dX10_inode_50 : decode cX10_inode 50 = .ok (.invokevirtual 110, 3) := by decide +kernel
theorem dX10_inode_53 : decode cX10_inode 53 = .ok (.ireturn, 1) := by decide +kernel
theorem dX10_inode_54 : decode cX10_inode 54 = .ok (.aload_n 0, 1) := by decide +kernel
theorem dX10_inode_55 : decode cX10_inode 55 = .ok (.getfield 26, 3) := by decide +kernel
theorem dX10_inode_58 : decode cX10_inode 58 = .ok (.iload_n 1, 1) := by decide +kernel
theorem dX10_inode_59 : decode cX10_inode 59 = .ok (.invokevirtual 113, 3) := by decide +kernel
theorem dX10_inode_62 : decode cX10_inode 62 = .ok (.ireturn, 1) := by decide +kernel
theorem dX10_inode_63 : decode cX10_inode 63 = .ok (.iconst (-1), 1) := by decide +kernel
theorem dX10_inode_64 : decode cX10_inode 64 = .ok (.ireturn, 1) := by decide +kernel
theorem dX10_read_0 : decode cX10_read 0 = .ok (.iload_n 2, 1) := by decide +kernel
theorem dX10_read_1 : decode cX10_read 1 = .ok (.ifCond .lt 15, 3) := by decide +kernel
theorem dX10_read_4 : decode cX10_read 4 = .ok (.iload_n 2, 1) := by decide +kernel
theorem dX10_read_5 : decode cX10_read 5 = .ok (.aload_n 0, 1) := by decide +kernel
theorem dX10_read_6 : decode cX10_read 6 = .ok (.getfield 26, 3) := by decide +kernel
theorem dX10_read_9 : decode cX10_read 9 = .ok (.iload_n 1, 1) := by decide +kernel
theorem dX10_read_10 : decode cX10_read 10 = .ok (.invokevirtual 113, 3) := by decide +kernel
theorem dX10_read_13 : decode cX10_read 13 = .ok (.if_icmp .lt 5, 3) := by decide +kernel
theorem dX10_read_16 : decode cX10_read 16 = .ok (.iconst (-1), 1) := by decide +kernel
theorem dX10_read_17 : decode cX10_read 17 = .ok (.ireturn, 1) := by decide +kernel
theorem dX10_read_18 : decode cX10_read 18 = .ok (.aload_n 0, 1) := by decide +kernel
theorem dX10_read_19 : decode cX10_read 19 = .ok (.getfield 26, 3) := by decide +kernel
theorem dX10_read_22 : decode cX10_read 22 = .ok (.iload_n 1, 1) := by decide +kernel
theorem dX10_read_23 : decode cX10_read 23 = .ok (.iload_n 2, 1) := by decide +kernel
theorem dX10_read_24 : decode cX10_read 24 = .ok (.invokevirtual 116, 3) := by decide +kernel
theorem dX10_read_27 : decode cX10_read 27 = .ok (.istore_n 3, 1) := by decide +kernel
theorem dX10_read_28 : decode cX10_read 28 = .ok (.iload_n 3, 1) := by decide +kernel
theorem dX10_read_29 : decode cX10_read 29 = .ok (.iconst (-1), 1) := by decide +kernel
theorem dX10_read_30 : decode cX10_read 30 = .ok (.if_icmp .ne 7, 3) := by decide +kernel
theorem dX10_read_33 : decode cX10_read 33 = .ok (.iconst (-1), 1) := by decide +kernel
theorem dX10_read_34 : decode cX10_read 34 = .ok (.goto 11, 3) := by decide +kernel
theorem dX10_read_37 : decode cX10_read 37 = .ok (.aload_n 0, 1) := by decide +kernel
theorem dX10_read_38 : decode cX10_read 38 = .ok (.getfield 20, 3) := by decide +kernel
theorem dX10_read_41 : decode cX10_read 41 = .ok (.iload_n 3, 1) := by decide +kernel
theorem dX10_read_42 : decode cX10_read 42 = .ok (.invokevirtual 87, 3) := by decide +kernel
theorem dX10_read_45 : decode cX10_read 45 = .ok (.ireturn, 1) := by decide +kernel
theorem dX10_find_0 : decode cX10_find 0 = .ok (.aload_n 0, 1) := by decide +kernel
theorem dX10_find_1 : decode cX10_find 1 = .ok (.getfield 55, 3) := by decide +kernel
theorem dX10_find_4 : decode cX10_find 4 = .ok (.lload_n 2, 1) := by decide +kernel
theorem dX10_find_5 : decode cX10_find 5 = .ok (.invokevirtual 120, 3) := by decide +kernel
theorem dX10_find_8 : decode cX10_find 8 = .ok (.aload_n 0, 1) := by decide +kernel
theorem dX10_find_9 : decode cX10_find 9 = .ok (.getfield 30, 3) := by decide +kernel
theorem dX10_find_12 : decode cX10_find 12 = .ok (.iload_n 1, 1) := by decide +kernel
theorem dX10_find_13 : decode cX10_find 13 = .ok (.aload_n 0, 1) := by decide +kernel
theorem dX10_find_14 : decode cX10_find 14 = .ok (.getfield 55, 3) := by decide +kernel
theorem dX10_find_17 : decode cX10_find 17 = .ok (.invokevirtual 124, 3) := by decide +kernel
theorem dX10_find_20 : decode cX10_find 20 = .ok (.istore 4, 2) := by decide +kernel
theorem dX10_find_22 : decode cX10_find 22 = .ok (.iload 4, 2) := by decide +kernel
theorem dX10_find_24 : decode cX10_find 24 = .ok (.iconst (-1), 1) := by decide +kernel
theorem dX10_find_25 : decode cX10_find 25 = .ok (.if_icmp .ne 7, 3) := by decide +kernel
theorem dX10_find_28 : decode cX10_find 28 = .ok (.iconst (-1), 1) := by decide +kernel
theorem dX10_find_29 : decode cX10_find 29 = .ok (.goto 12, 3) := by decide +kernel
theorem dX10_find_32 : decode cX10_find 32 = .ok (.aload_n 0, 1) := by decide +kernel
theorem dX10_find_33 : decode cX10_find 33 = .ok (.getfield 20, 3) := by decide +kernel
theorem dX10_find_36 : decode cX10_find 36 = .ok (.iload 4, 2) := by decide +kernel
theorem dX10_find_38 : decode cX10_find 38 = .ok (.invokevirtual 87, 3) := by decide +kernel
theorem dX10_find_41 : decode cX10_find 41 = .ok (.ireturn, 1) := by decide +kernel
theorem dX10_make_0 : decode cX10_make 0 = .ok (.iload 4, 2) := by decide +kernel
theorem dX10_make_2 : decode cX10_make 2 = .ok (.iconst 1, 1) := by decide +kernel
theorem dX10_make_3 : decode cX10_make 3 = .ok (.if_icmp .eq 9, 3) := by decide +kernel
theorem dX10_make_6 : decode cX10_make 6 = .ok (.iload 4, 2) := by decide +kernel
theorem dX10_make_8 : decode cX10_make 8 = .ok (.iconst 2, 1) := by decide +kernel
theorem dX10_make_9 : decode cX10_make 9 = .ok (.if_icmp .ne 13, 3) := by decide +kernel
theorem dX10_make_12 : decode cX10_make 12 = .ok (.aload_n 0, 1) := by decide +kernel
theorem dX10_make_13 : decode cX10_make 13 = .ok (.getfield 39, 3) := by decide +kernel
theorem dX10_make_16 : decode cX10_make 16 = .ok (.invokevirtual 69, 3) := by decide +kernel
theorem dX10_make_19 : decode cX10_make 19 = .ok (.ifCond .eq 5, 3) := by decide +kernel
theorem dX10_make_22 : decode cX10_make 22 = .ok (.iconst (-1), 1) := by decide +kernel
theorem dX10_make_23 : decode cX10_make 23 = .ok (.ireturn, 1) := by decide +kernel
theorem dX10_make_24 : decode cX10_make 24 = .ok (.aload_n 0, 1) := by decide +kernel
theorem dX10_make_25 : decode cX10_make 25 = .ok (.getfield 55, 3) := by decide +kernel
theorem dX10_make_28 : decode cX10_make 28 = .ok (.lload_n 2, 1) := by decide +kernel
theorem dX10_make_29 : decode cX10_make 29 = .ok (.invokevirtual 120, 3) := by decide +kernel
theorem dX10_make_32 : decode cX10_make 32 = .ok (.aload_n 0, 1) := by decide +kernel
theorem dX10_make_33 : decode cX10_make 33 = .ok (.getfield 48, 3) := by decide +kernel
theorem dX10_make_36 : decode cX10_make 36 = .ok (.iload_n 1, 1) := by decide +kernel
theorem dX10_make_37 : decode cX10_make 37 = .ok (.aload_n 0, 1) := by decide +kernel
theorem dX10_make_38 : decode cX10_make 38 = .ok (.getfield 55, 3) := by decide +kernel
theorem dX10_make_41 : decode cX10_make 41 = .ok (.iload 4, 2) := by decide +kernel
theorem dX10_make_43 : decode cX10_make 43 = .ok (.invokevirtual 128, 3) := by decide +kernel
theorem dX10_make_46 : decode cX10_make 46 = .ok (.istore 5, 2) := by decide +kernel
theorem dX10_make_48 : decode cX10_make 48 = .ok (.iload 5, 2) := by decide +kernel
theorem dX10_make_50 : decode cX10_make 50 = .ok (.iconst (-1), 1) := by decide +kernel
theorem dX10_make_51 : decode cX10_make 51 = .ok (.if_icmp .eq 10, 3) := by decide +kernel
theorem dX10_make_54 : decode cX10_make 54 = .ok (.aload_n 0, 1) := by decide +kernel
theorem dX10_make_55 : decode cX10_make 55 = .ok (.getfield 39, 3) := by decide +kernel
theorem dX10_make_58 : decode cX10_make 58 = .ok (.invokevirtual 132, 3) := by decide +kernel
theorem dX10_make_61 : decode cX10_make 61 = .ok (.iload 5, 2) := by decide +kernel
theorem dX10_make_63 : decode cX10_make 63 = .ok (.ireturn, 1) := by decide +kernel
theorem dX10_append_0 : decode cX10_append 0 = .ok (.iload_n 2, 1) := by decide +kernel
theorem dX10_append_1 : decode cX10_append 1 = .ok (.invokestatic 81, 3) := by decide +kernel
theorem dX10_append_4 : decode cX10_append 4 = .ok (.ifCond .eq 29, 3) := by decide +kernel
theorem dX10_append_7 : decode cX10_append 7 = .ok (.aload_n 0, 1) := by decide +kernel
theorem dX10_append_8 : decode cX10_append 8 = .ok (.getfield 39, 3) := by decide +kernel
theorem dX10_append_11 : decode cX10_append 11 = .ok (.invokevirtual 69, 3) := by decide +kernel
theorem dX10_append_14 : decode cX10_append 14 = .ok (.ifCond .ne 19, 3) := by decide +kernel
theorem dX10_append_17 : decode cX10_append 17 = .ok (.aload_n 0, 1) := by decide +kernel
theorem dX10_append_18 : decode cX10_append 18 = .ok (.getfield 48, 3) := by decide +kernel
theorem dX10_append_21 : decode cX10_append 21 = .ok (.iload_n 1, 1) := by decide +kernel
theorem dX10_append_22 : decode cX10_append 22 = .ok (.iload_n 2, 1) := by decide +kernel
theorem dX10_append_23 : decode cX10_append 23 = .ok (.invokevirtual 135, 3) := by decide +kernel
theorem dX10_append_26 : decode cX10_append 26 = .ok (.ifCond .eq 7, 3) := by decide +kernel
theorem dX10_append_29 : decode cX10_append 29 = .ok (.iconst 1, 1) := by decide +kernel
theorem dX10_append_30 : decode cX10_append 30 = .ok (.goto 4, 3) := by decide +kernel
theorem dX10_append_33 : decode cX10_append 33 = .ok (.iconst 0, 1) := by decide +kernel
theorem dX10_append_34 : decode cX10_append 34 = .ok (.istore_n 3, 1) := by decide +kernel
theorem dX10_append_35 : decode cX10_append 35 = .ok (.iload_n 3, 1) := by decide +kernel
theorem dX10_append_36 : decode cX10_append 36 = .ok (.ifCond .eq 10, 3) := by decide +kernel
theorem dX10_append_39 : decode cX10_append 39 = .ok (.aload_n 0, 1) := by decide +kernel
theorem dX10_append_40 : decode cX10_append 40 = .ok (.getfield 39, 3) := by decide +kernel
theorem dX10_append_43 : decode cX10_append 43 = .ok (.invokevirtual 132, 3) := by decide +kernel
theorem dX10_append_46 : decode cX10_append 46 = .ok (.iload_n 3, 1) := by decide +kernel
theorem dX10_append_47 : decode cX10_append 47 = .ok (.ireturn, 1) := by decide +kernel
theorem dX10_link_0 : decode cX10_link 0 = .ok (.aload_n 0, 1) := by decide +kernel
theorem dX10_link_1 : decode cX10_link 1 = .ok (.getfield 55, 3) := by decide +kernel
theorem dX10_link_4 : decode cX10_link 4 = .ok (.lload_n 2, 1) := by decide +kernel
theorem dX10_link_5 : decode cX10_link 5 = .ok (.invokevirtual 120, 3) := by decide +kernel
theorem dX10_link_8 : decode cX10_link 8 = .ok (.aload_n 0, 1) := by decide +kernel
theorem dX10_link_9 : decode cX10_link 9 = .ok (.getfield 39, 3) := by decide +kernel
theorem dX10_link_12 : decode cX10_link 12 = .ok (.invokevirtual 69, 3) := by decide +kernel
theorem dX10_link_15 : decode cX10_link 15 = .ok (.ifCond .ne 24, 3) := by decide +kernel
theorem dX10_link_18 : decode cX10_link 18 = .ok (.aload_n 0, 1) := by decide +kernel
theorem dX10_link_19 : decode cX10_link 19 = .ok (.getfield 48, 3) := by decide +kernel
theorem dX10_link_22 : decode cX10_link 22 = .ok (.iload_n 1, 1) := by decide +kernel
theorem dX10_link_23 : decode cX10_link 23 = .ok (.aload_n 0, 1) := by decide +kernel
theorem dX10_link_24 : decode cX10_link 24 = .ok (.getfield 55, 3) := by decide +kernel
theorem dX10_link_27 : decode cX10_link 27 = .ok (.iload 4, 2) := by decide +kernel
theorem dX10_link_29 : decode cX10_link 29 = .ok (.invokevirtual 139, 3) := by decide +kernel
theorem dX10_link_32 : decode cX10_link 32 = .ok (.ifCond .eq 7, 3) := by decide +kernel
theorem dX10_link_35 : decode cX10_link 35 = .ok (.iconst 1, 1) := by decide +kernel
theorem dX10_link_36 : decode cX10_link 36 = .ok (.goto 4, 3) := by decide +kernel
theorem dX10_link_39 : decode cX10_link 39 = .ok (.iconst 0, 1) := by decide +kernel
theorem dX10_link_40 : decode cX10_link 40 = .ok (.istore 5, 2) := by decide +kernel
theorem dX10_link_42 : decode cX10_link 42 = .ok (.iload 5, 2) := by decide +kernel
theorem dX10_link_44 : decode cX10_link 44 = .ok (.ifCond .eq 10, 3) := by decide +kernel
theorem dX10_link_47 : decode cX10_link 47 = .ok (.aload_n 0, 1) := by decide +kernel
theorem dX10_link_48 : decode cX10_link 48 = .ok (.getfield 39, 3) := by decide +kernel
theorem dX10_link_51 : decode cX10_link 51 = .ok (.invokevirtual 132, 3) := by decide +kernel
theorem dX10_link_54 : decode cX10_link 54 = .ok (.iload 5, 2) := by decide +kernel
theorem dX10_link_56 : decode cX10_link 56 = .ok (.ireturn, 1) := by decide +kernel
theorem dX10_unlink_0 : decode cX10_unlink 0 = .ok (.aload_n 0, 1) := by decide +kernel
theorem dX10_unlink_1 : decode cX10_unlink 1 = .ok (.getfield 55, 3) := by decide +kernel
theorem dX10_unlink_4 : decode cX10_unlink 4 = .ok (.lload_n 2, 1) := by decide +kernel
theorem dX10_unlink_5 : decode cX10_unlink 5 = .ok (.invokevirtual 120, 3) := by decide +kernel
theorem dX10_unlink_8 : decode cX10_unlink 8 = .ok (.aload_n 0, 1) := by decide +kernel
theorem dX10_unlink_9 : decode cX10_unlink 9 = .ok (.getfield 39, 3) := by decide +kernel
theorem dX10_unlink_12 : decode cX10_unlink 12 = .ok (.invokevirtual 69, 3) := by decide +kernel
theorem dX10_unlink_15 : decode cX10_unlink 15 = .ok (.ifCond .ne 22, 3) := by decide +kernel
theorem dX10_unlink_18 : decode cX10_unlink 18 = .ok (.aload_n 0, 1) := by decide +kernel
theorem dX10_unlink_19 : decode cX10_unlink 19 = .ok (.getfield 48, 3) := by decide +kernel
theorem dX10_unlink_22 : decode cX10_unlink 22 = .ok (.iload_n 1, 1) := by decide +kernel
theorem dX10_unlink_23 : decode cX10_unlink 23 = .ok (.aload_n 0, 1) := by decide +kernel
theorem dX10_unlink_24 : decode cX10_unlink 24 = .ok (.getfield 55, 3) := by decide +kernel
theorem dX10_unlink_27 : decode cX10_unlink 27 = .ok (.invokevirtual 143, 3) := by decide +kernel
theorem dX10_unlink_30 : decode cX10_unlink 30 = .ok (.ifCond .eq 7, 3) := by decide +kernel
theorem dX10_unlink_33 : decode cX10_unlink 33 = .ok (.iconst 1, 1) := by decide +kernel
theorem dX10_unlink_34 : decode cX10_unlink 34 = .ok (.goto 4, 3) := by decide +kernel
theorem dX10_unlink_37 : decode cX10_unlink 37 = .ok (.iconst 0, 1) := by decide +kernel
theorem dX10_unlink_38 : decode cX10_unlink 38 = .ok (.istore 4, 2) := by decide +kernel
theorem dX10_unlink_40 : decode cX10_unlink 40 = .ok (.iload 4, 2) := by decide +kernel
theorem dX10_unlink_42 : decode cX10_unlink 42 = .ok (.ifCond .eq 10, 3) := by decide +kernel
theorem dX10_unlink_45 : decode cX10_unlink 45 = .ok (.aload_n 0, 1) := by decide +kernel
theorem dX10_unlink_46 : decode cX10_unlink 46 = .ok (.getfield 39, 3) := by decide +kernel
theorem dX10_unlink_49 : decode cX10_unlink 49 = .ok (.invokevirtual 132, 3) := by decide +kernel
theorem dX10_unlink_52 : decode cX10_unlink 52 = .ok (.iload 4, 2) := by decide +kernel
theorem dX10_unlink_54 : decode cX10_unlink 54 = .ok (.ireturn, 1) := by decide +kernel
theorem dX10_isPlace_0 : decode cX10_isPlace 0 = .ok (.iload_n 0, 1) := by decide +kernel
theorem dX10_isPlace_1 : decode cX10_isPlace 1 = .ok (.ifCond .lt 14, 3) := by decide +kernel
theorem dX10_isPlace_4 : decode cX10_isPlace 4 = .ok (.iload_n 0, 1) := by decide +kernel
theorem dX10_isPlace_5 : decode cX10_isPlace 5 = .ok (.sipush 4096, 3) := by decide +kernel
theorem dX10_isPlace_8 : decode cX10_isPlace 8 = .ok (.if_icmp .ge 7, 3) := by decide +kernel
theorem dX10_isPlace_11 : decode cX10_isPlace 11 = .ok (.iconst 1, 1) := by decide +kernel
theorem dX10_isPlace_12 : decode cX10_isPlace 12 = .ok (.goto 4, 3) := by decide +kernel
theorem dX10_isPlace_15 : decode cX10_isPlace 15 = .ok (.iconst 0, 1) := by decide +kernel
theorem dX10_isPlace_16 : decode cX10_isPlace 16 = .ok (.ireturn, 1) := by decide +kernel
theorem dX10_isByte_0 : decode cX10_isByte 0 = .ok (.iload_n 0, 1) := by decide +kernel
theorem dX10_isByte_1 : decode cX10_isByte 1 = .ok (.ifCond .lt 14, 3) := by decide +kernel
theorem dX10_isByte_4 : decode cX10_isByte 4 = .ok (.iload_n 0, 1) := by decide +kernel
theorem dX10_isByte_5 : decode cX10_isByte 5 = .ok (.sipush 255, 3) := by decide +kernel
theorem dX10_isByte_8 : decode cX10_isByte 8 = .ok (.if_icmp .gt 7, 3) := by decide +kernel
theorem dX10_isByte_11 : decode cX10_isByte 11 = .ok (.iconst 1, 1) := by decide +kernel
theorem dX10_isByte_12 : decode cX10_isByte 12 = .ok (.goto 4, 3) := by decide +kernel
theorem dX10_isByte_15 : decode cX10_isByte 15 = .ok (.iconst 0, 1) := by decide +kernel
theorem dX10_isByte_16 : decode cX10_isByte 16 = .ok (.ireturn, 1) := by decide +kernel
theorem dX10_isDataBlock_0 : decode cX10_isDataBlock 0 = .ok (.iload_n 0, 1) := by decide +kernel
theorem dX10_isDataBlock_1 : decode cX10_isDataBlock 1 = .ok (.bipush 16, 2) := by decide +kernel
theorem dX10_isDataBlock_3 : decode cX10_isDataBlock 3 = .ok (.if_icmp .lt 13, 3) := by decide +kernel
theorem dX10_isDataBlock_6 : decode cX10_isDataBlock 6 = .ok (.iload_n 0, 1) := by decide +kernel
theorem dX10_isDataBlock_7 : decode cX10_isDataBlock 7 = .ok (.bipush 62, 2) := by decide +kernel
theorem dX10_isDataBlock_9 : decode cX10_isDataBlock 9 = .ok (.if_icmp .gt 7, 3) := by decide +kernel
theorem dX10_isDataBlock_12 : decode cX10_isDataBlock 12 = .ok (.iconst 1, 1) := by decide +kernel
theorem dX10_isDataBlock_13 : decode cX10_isDataBlock 13 = .ok (.goto 4, 3) := by decide +kernel
theorem dX10_isDataBlock_16 : decode cX10_isDataBlock 16 = .ok (.iconst 0, 1) := by decide +kernel
theorem dX10_isDataBlock_17 : decode cX10_isDataBlock 17 = .ok (.ireturn, 1) := by decide +kernel
theorem dX11_init_0 : decode cX11_init 0 = .ok (.aload_n 0, 1) := by decide +kernel
theorem dX11_init_1 : decode cX11_init 1 = .ok (.invokespecial 1, 3) := by decide +kernel
theorem dX11_init_4 : decode cX11_init 4 = .ok (.aload_n 0, 1) := by decide +kernel
theorem dX11_init_5 : decode cX11_init 5 = .ok (.sipush 4096, 3) := by decide +kernel
theorem dX11_init_8 : decode cX11_init 8 = .ok (.newarray .int, 2) := by decide +kernel
theorem dX11_init_10 : decode cX11_init 10 = .ok (.putfield 7, 3) := by decide +kernel
theorem dX11_init_13 : decode cX11_init 13 = .ok (.aload_n 0, 1) := by decide +kernel
theorem dX11_init_14 : decode cX11_init 14 = .ok (.sipush 4096, 3) := by decide +kernel
theorem dX11_init_17 : decode cX11_init 17 = .ok (.newarray .int, 2) := by decide +kernel
theorem dX11_init_19 : decode cX11_init 19 = .ok (.putfield 13, 3) := by decide +kernel
theorem dX11_init_22 : decode cX11_init 22 = .ok (.aload_n 0, 1) := by decide +kernel
theorem dX11_init_23 : decode cX11_init 23 = .ok (.bipush 64, 2) := by decide +kernel
theorem dX11_init_25 : decode cX11_init 25 = .ok (.newarray .boolean, 2) := by decide +kernel
theorem dX11_init_27 : decode cX11_init 27 = .ok (.putfield 16, 3) := by decide +kernel
theorem dX11_init_30 : decode cX11_init 30 = .ok (.aload_n 0, 1) := by decide +kernel
theorem dX11_init_31 : decode cX11_init 31 = .ok (.bipush 32, 2) := by decide +kernel
theorem dX11_init_33 : decode cX11_init 33 = .ok (.newarray .boolean, 2) := by decide +kernel
theorem dX11_init_35 : decode cX11_init 35 = .ok (.putfield 20, 3) := by decide +kernel
theorem dX11_init_38 : decode cX11_init 38 = .ok (.aload_n 0, 1) := by decide +kernel
theorem dX11_init_39 : decode cX11_init 39 = .ok (.bipush 32, 2) := by decide +kernel
theorem dX11_init_41 : decode cX11_init 41 = .ok (.newarray .int, 2) := by decide +kernel
theorem dX11_init_43 : decode cX11_init 43 = .ok (.putfield 23, 3) := by decide +kernel
theorem dX11_init_46 : decode cX11_init 46 = .ok (.aload_n 0, 1) := by decide +kernel
theorem dX11_init_47 : decode cX11_init 47 = .ok (.bipush 14, 2) := by decide +kernel
theorem dX11_init_49 : decode cX11_init 49 = .ok (.newarray .int, 2) := by decide +kernel
theorem dX11_init_51 : decode cX11_init 51 = .ok (.putfield 26, 3) := by decide +kernel
theorem dX11_init_54 : decode cX11_init 54 = .ok (.return_, 1) := by decide +kernel
theorem dX11_two_0 : decode cX11_two 0 = .ok (.aload_n 0, 1) := by decide +kernel
theorem dX11_two_1 : decode cX11_two 1 = .ok (.getfield 13, 3) := by decide +kernel
theorem dX11_two_4 : decode cX11_two 4 = .ok (.iload_n 1, 1) := by decide +kernel
theorem dX11_two_5 : decode cX11_two 5 = .ok (.iaload, 1) := by decide +kernel
theorem dX11_two_6 : decode cX11_two 6 = .ok (.sipush 256, 3) := by decide +kernel
theorem dX11_two_9 : decode cX11_two 9 = .ok (.imul, 1) := by decide +kernel
theorem dX11_two_10 : decode cX11_two 10 = .ok (.aload_n 0, 1) := by decide +kernel
theorem dX11_two_11 : decode cX11_two 11 = .ok (.getfield 13, 3) := by decide +kernel
theorem dX11_two_14 : decode cX11_two 14 = .ok (.iload_n 1, 1) := by decide +kernel
theorem dX11_two_15 : decode cX11_two 15 = .ok (.iconst 1, 1) := by decide +kernel
theorem dX11_two_16 : decode cX11_two 16 = .ok (.iadd, 1) := by decide +kernel
theorem dX11_two_17 : decode cX11_two 17 = .ok (.iaload, 1) := by decide +kernel
theorem dX11_two_18 : decode cX11_two 18 = .ok (.iadd, 1) := by decide +kernel
theorem dX11_two_19 : decode cX11_two 19 = .ok (.ireturn, 1) := by decide +kernel
theorem dX11_put_0 : decode cX11_put 0 = .ok (.aload_n 0, 1) := by decide +kernel
theorem dX11_put_1 : decode cX11_put 1 = .ok (.getfield 13, 3) := by decide +kernel
theorem dX11_put_4 : decode cX11_put 4 = .ok (.iload_n 1, 1) := by decide +kernel
theorem dX11_put_5 : decode cX11_put 5 = .ok (.iload_n 2, 1) := by decide +kernel
theorem dX11_put_6 : decode cX11_put 6 = .ok (.sipush 256, 3) := by decide +kernel
theorem dX11_put_9 : decode cX11_put 9 = .ok (.idiv, 1) := by decide +kernel
theorem dX11_put_10 : decode cX11_put 10 = .ok (.sipush 256, 3) := by decide +kernel
theorem dX11_put_13 : decode cX11_put 13 = .ok (.irem, 1) := by decide +kernel
theorem dX11_put_14 : decode cX11_put 14 = .ok (.iastore, 1) := by decide +kernel
theorem dX11_put_15 : decode cX11_put 15 = .ok (.aload_n 0, 1) := by decide +kernel
theorem dX11_put_16 : decode cX11_put 16 = .ok (.getfield 13, 3) := by decide +kernel
theorem dX11_put_19 : decode cX11_put 19 = .ok (.iload_n 1, 1) := by decide +kernel
theorem dX11_put_20 : decode cX11_put 20 = .ok (.iconst 1, 1) := by decide +kernel
theorem dX11_put_21 : decode cX11_put 21 = .ok (.iadd, 1) := by decide +kernel
theorem dX11_put_22 : decode cX11_put 22 = .ok (.iload_n 2, 1) := by decide +kernel
theorem dX11_put_23 : decode cX11_put 23 = .ok (.sipush 256, 3) := by decide +kernel
theorem dX11_put_26 : decode cX11_put 26 = .ok (.irem, 1) := by decide +kernel
theorem dX11_put_27 : decode cX11_put 27 = .ok (.iastore, 1) := by decide +kernel
theorem dX11_put_28 : decode cX11_put 28 = .ok (.return_, 1) := by decide +kernel
theorem dX11_sum_0 : decode cX11_sum 0 = .ok (.iconst 0, 1) := by decide +kernel
theorem dX11_sum_1 : decode cX11_sum 1 = .ok (.istore_n 3, 1) := by decide +kernel
theorem dX11_sum_2 : decode cX11_sum 2 = .ok (.iload_n 1, 1) := by decide +kernel
theorem dX11_sum_3 : decode cX11_sum 3 = .ok (.istore 4, 2) := by decide +kernel
theorem dX11_sum_5 : decode cX11_sum 5 = .ok (.iload 4, 2) := by decide +kernel
theorem dX11_sum_7 : decode cX11_sum 7 = .ok (.iload_n 1, 1) := by decide +kernel
theorem dX11_sum_8 : decode cX11_sum 8 = .ok (.iload_n 2, 1) := by decide +kernel
theorem dX11_sum_9 : decode cX11_sum 9 = .ok (.iadd, 1) := by decide +kernel
theorem dX11_sum_10 : decode cX11_sum 10 = .ok (.if_icmp .ge 19, 3) := by decide +kernel
theorem dX11_sum_13 : decode cX11_sum 13 = .ok (.iload_n 3, 1) := by decide +kernel
theorem dX11_sum_14 : decode cX11_sum 14 = .ok (.aload_n 0, 1) := by decide +kernel
theorem dX11_sum_15 : decode cX11_sum 15 = .ok (.getfield 13, 3) := by decide +kernel
theorem dX11_sum_18 : decode cX11_sum 18 = .ok (.iload 4, 2) := by decide +kernel
theorem dX11_sum_20 : decode cX11_sum 20 = .ok (.iaload, 1) := by decide +kernel
theorem dX11_sum_21 : decode cX11_sum 21 = .ok (.iadd, 1) := by decide +kernel
theorem dX11_sum_22 : decode cX11_sum 22 = .ok (.istore_n 3, 1) := by decide +kernel
theorem dX11_sum_23 : decode cX11_sum 23 = .ok (.iinc 4 1, 3) := by decide +kernel
theorem dX11_sum_26 : decode cX11_sum 26 = .ok (.goto (-21), 3) := by decide +kernel
theorem dX11_sum_29 : decode cX11_sum 29 = .ok (.iload_n 3, 1) := by decide +kernel
theorem dX11_sum_30 : decode cX11_sum 30 = .ok (.ldc 29, 2) := by decide +kernel
theorem dX11_sum_32 : decode cX11_sum 32 = .ok (.irem, 1) := by decide +kernel
theorem dX11_sum_33 : decode cX11_sum 33 = .ok (.ireturn, 1) := by decide +kernel
theorem dX11_clear_0 : decode cX11_clear 0 = .ok (.iload_n 1, 1) := by decide +kernel
theorem dX11_clear_1 : decode cX11_clear 1 = .ok (.istore_n 3, 1) := by decide +kernel
theorem dX11_clear_2 : decode cX11_clear 2 = .ok (.iload_n 3, 1) := by decide +kernel
theorem dX11_clear_3 : decode cX11_clear 3 = .ok (.iload_n 1, 1) := by decide +kernel
theorem dX11_clear_4 : decode cX11_clear 4 = .ok (.iload_n 2, 1) := by decide +kernel
theorem dX11_clear_5 : decode cX11_clear 5 = .ok (.iadd, 1) := by decide +kernel
theorem dX11_clear_6 : decode cX11_clear 6 = .ok (.if_icmp .ge 16, 3) := by decide +kernel
theorem dX11_clear_9 : decode cX11_clear 9 = .ok (.aload_n 0, 1) := by decide +kernel
theorem dX11_clear_10 : decode cX11_clear 10 = .ok (.getfield 13, 3) := by decide +kernel
theorem dX11_clear_13 : decode cX11_clear 13 = .ok (.iload_n 3, 1) := by decide +kernel
theorem dX11_clear_14 : decode cX11_clear 14 = .ok (.iconst 0, 1) := by decide +kernel
theorem dX11_clear_15 : decode cX11_clear 15 = .ok (.iastore, 1) := by decide +kernel
theorem dX11_clear_16 : decode cX11_clear 16 = .ok (.iinc 3 1, 3) := by decide +kernel
theorem dX11_clear_19 : decode cX11_clear 19 = .ok (.goto (-17), 3) := by decide +kernel
theorem dX11_clear_22 : decode cX11_clear 22 = .ok (.return_, 1) := by decide +kernel
theorem dX11_isClear_0 : decode cX11_isClear 0 = .ok (.iconst 1, 1) := by decide +kernel
theorem dX11_isClear_1 : decode cX11_isClear 1 = .ok (.istore_n 3, 1) := by decide +kernel
theorem dX11_isClear_2 : decode cX11_isClear 2 = .ok (.iload_n 1, 1) := by decide +kernel
theorem dX11_isClear_3 : decode cX11_isClear 3 = .ok (.istore 4, 2) := by decide +kernel
theorem dX11_isClear_5 : decode cX11_isClear 5 = .ok (.iload 4, 2) := by decide +kernel
theorem dX11_isClear_7 : decode cX11_isClear 7 = .ok (.iload_n 1, 1) := by decide +kernel
theorem dX11_isClear_8 : decode cX11_isClear 8 = .ok (.iload_n 2, 1) := by decide +kernel
theorem dX11_isClear_9 : decode cX11_isClear 9 = .ok (.iadd, 1) := by decide +kernel
theorem dX11_isClear_10 : decode cX11_isClear 10 = .ok (.if_icmp .ge 29, 3) := by decide +kernel
theorem dX11_isClear_13 : decode cX11_isClear 13 = .ok (.iload_n 3, 1) := by decide +kernel
theorem dX11_isClear_14 : decode cX11_isClear 14 = .ok (.ifCond .eq 17, 3) := by decide +kernel
theorem dX11_isClear_17 : decode cX11_isClear 17 = .ok (.aload_n 0, 1) := by decide +kernel
theorem dX11_isClear_18 : decode cX11_isClear 18 = .ok (.getfield 13, 3) := by decide +kernel
theorem dX11_isClear_21 : decode cX11_isClear 21 = .ok (.iload 4, 2) := by decide +kernel
theorem dX11_isClear_23 : decode cX11_isClear 23 = .ok (.iaload, 1) := by decide +kernel
theorem dX11_isClear_24 : decode cX11_isClear 24 = .ok (.ifCond .ne 7, 3) := by decide +kernel
theorem dX11_isClear_27 : decode cX11_isClear 27 = .ok (.iconst 1, 1) := by decide +kernel
theorem dX11_isClear_28 : decode cX11_isClear 28 = .ok (.goto 4, 3) := by decide +kernel
theorem dX11_isClear_31 : decode cX11_isClear 31 = .ok (.iconst 0, 1) := by decide +kernel
theorem dX11_isClear_32 : decode cX11_isClear 32 = .ok (.istore_n 3, 1) := by decide +kernel
theorem dX11_isClear_33 : decode cX11_isClear 33 = .ok (.iinc 4 1, 3) := by decide +kernel
theorem dX11_isClear_36 : decode cX11_isClear 36 = .ok (.goto (-31), 3) := by decide +kernel
theorem dX11_isClear_39 : decode cX11_isClear 39 = .ok (.iload_n 3, 1) := by decide +kernel
theorem dX11_isClear_40 : decode cX11_isClear 40 = .ok (.ireturn, 1) := by decide +kernel
theorem dX11_has_0 : decode cX11_has 0 = .ok (.aload_n 0, 1) := by decide +kernel
theorem dX11_has_1 : decode cX11_has 1 = .ok (.getfield 13, 3) := by decide +kernel
theorem dX11_has_4 : decode cX11_has 4 = .ok (.iload_n 1, 1) := by decide +kernel
theorem dX11_has_5 : decode cX11_has 5 = .ok (.iaload, 1) := by decide +kernel
theorem dX11_has_6 : decode cX11_has 6 = .ok (.iload_n 2, 1) := by decide +kernel
theorem dX11_has_7 : decode cX11_has 7 = .ok (.if_icmp .ne 45, 3) := by decide +kernel
theorem dX11_has_10 : decode cX11_has 10 = .ok (.aload_n 0, 1) := by decide +kernel
theorem dX11_has_11 : decode cX11_has 11 = .ok (.getfield 13, 3) := by decide +kernel
theorem dX11_has_14 : decode cX11_has 14 = .ok (.iload_n 1, 1) := by decide +kernel
theorem dX11_has_15 : decode cX11_has 15 = .ok (.iconst 1, 1) := by decide +kernel
theorem dX11_has_16 : decode cX11_has 16 = .ok (.iadd, 1) := by decide +kernel
theorem dX11_has_17 : decode cX11_has 17 = .ok (.iaload, 1) := by decide +kernel
theorem dX11_has_18 : decode cX11_has 18 = .ok (.iload_n 3, 1) := by decide +kernel
theorem dX11_has_19 : decode cX11_has 19 = .ok (.if_icmp .ne 33, 3) := by decide +kernel
theorem dX11_has_22 : decode cX11_has 22 = .ok (.aload_n 0, 1) := by decide +kernel
theorem dX11_has_23 : decode cX11_has 23 = .ok (.getfield 13, 3) := by decide +kernel
theorem dX11_has_26 : decode cX11_has 26 = .ok (.iload_n 1, 1) := by decide +kernel
theorem dX11_has_27 : decode cX11_has 27 = .ok (.iconst 2, 1) := by decide +kernel
theorem dX11_has_28 : decode cX11_has 28 = .ok (.iadd, 1) := by decide +kernel
theorem dX11_has_29 : decode cX11_has 29 = .ok (.iaload, 1) := by decide +kernel
theorem dX11_has_30 : decode cX11_has 30 = .ok (.iload 4, 2) := by decide +kernel
theorem dX11_has_32 : decode cX11_has 32 = .ok (.if_icmp .ne 20, 3) := by decide +kernel
theorem dX11_has_35 : decode cX11_has 35 = .ok (.aload_n 0, 1) := by decide +kernel
theorem dX11_has_36 : decode cX11_has 36 = .ok (.getfield 13, 3) := by decide +kernel
theorem dX11_has_39 : decode cX11_has 39 = .ok (.iload_n 1, 1) := by decide +kernel
theorem dX11_has_40 : decode cX11_has 40 = .ok (.iconst 3, 1) := by decide +kernel
theorem dX11_has_41 : decode cX11_has 41 = .ok (.iadd, 1) := by decide +kernel
theorem dX11_has_42 : decode cX11_has 42 = .ok (.iaload, 1) := by decide +kernel
theorem dX11_has_43 : decode cX11_has 43 = .ok (.iload 5, 2) := by decide +kernel
theorem dX11_has_45 : decode cX11_has 45 = .ok (.if_icmp .ne 7, 3) := by decide +kernel
theorem dX11_has_48 : decode cX11_has 48 = .ok (.iconst 1, 1) := by decide +kernel
theorem dX11_has_49 : decode cX11_has 49 = .ok (.goto 4, 3) := by decide +kernel
theorem dX11_has_52 : decode cX11_has 52 = .ok (.iconst 0, 1) := by decide +kernel
theorem dX11_has_53 : decode cX11_has 53 = .ok (.ireturn, 1) := by decide +kernel
theorem dX11_load_0 : decode cX11_load 0 = .ok (.iconst 0, 1) := by decide +kernel
theorem dX11_load_1 : decode cX11_load 1 = .ok (.istore_n 1, 1) := by decide +kernel
theorem dX11_load_2 : decode cX11_load 2 = .ok (.iload_n 1, 1) := by decide +kernel
theorem dX11_load_3 : decode cX11_load 3 = .ok (.sipush 4096, 3) := by decide +kernel
theorem dX11_load_6 : decode cX11_load 6 = .ok (.if_icmp .ge 21, 3) := by decide +kernel
theorem dX11_load_9 : decode cX11_load 9 = .ok (.aload_n 0, 1) := by decide +kernel
theorem dX11_load_10 : decode cX11_load 10 = .ok (.getfield 13, 3) := by decide +kernel
theorem dX11_load_13 : decode cX11_load 13 = .ok (.iload_n 1, 1) := by decide +kernel
theorem dX11_load_14 : decode cX11_load 14 = .ok (.aload_n 0, 1) := by decide +kernel
theorem dX11_load_15 : decode cX11_load 15 = .ok (.getfield 7, 3) := by decide +kernel
theorem dX11_load_18 : decode cX11_load 18 = .ok (.iload_n 1, 1) := by decide +kernel
theorem dX11_load_19 : decode cX11_load 19 = .ok (.iaload, 1) := by decide +kernel
theorem dX11_load_20 : decode cX11_load 20 = .ok (.iastore, 1) := by decide +kernel
theorem dX11_load_21 : decode cX11_load 21 = .ok (.iinc 1 1, 3) := by decide +kernel
theorem dX11_load_24 : decode cX11_load 24 = .ok (.goto (-22), 3) := by decide +kernel
theorem dX11_load_27 : decode cX11_load 27 = .ok (.return_, 1) := by decide +kernel
theorem dX11_store_0 : decode cX11_store 0 = .ok (.iconst 0, 1) := by decide +kernel
theorem dX11_store_1 : decode cX11_store 1 = .ok (.istore_n 1, 1) := by decide +kernel
theorem dX11_store_2 : decode cX11_store 2 = .ok (.iload_n 1, 1) := by decide +kernel
theorem dX11_store_3 : decode cX11_store 3 = .ok (.sipush 4096, 3) := by decide +kernel
theorem dX11_store_6 : decode cX11_store 6 = .ok (.if_icmp .ge 21, 3) := by decide +kernel
theorem dX11_store_9 : decode cX11_store 9 = .ok (.aload_n 0, 1) := by decide +kernel
theorem dX11_store_10 : decode cX11_store 10 = .ok (.getfield 7, 3) := by decide +kernel
theorem dX11_store_13 : decode cX11_store 13 = .ok (.iload_n 1, 1) := by decide +kernel
theorem dX11_store_14 : decode cX11_store 14 = .ok (.aload_n 0, 1) := by decide +kernel
theorem dX11_store_15 : decode cX11_store 15 = .ok (.getfield 13, 3) := by decide +kernel
theorem dX11_store_18 : decode cX11_store 18 = .ok (.iload_n 1, 1) := by decide +kernel
theorem dX11_store_19 : decode cX11_store 19 = .ok (.iaload, 1) := by decide +kernel
theorem dX11_store_20 : decode cX11_store 20 = .ok (.iastore, 1) := by decide +kernel
theorem dX11_store_21 : decode cX11_store 21 = .ok (.iinc 1 1, 3) := by decide +kernel
theorem dX11_store_24 : decode cX11_store 24 = .ok (.goto (-22), 3) := by decide +kernel
theorem dX11_store_27 : decode cX11_store 27 = .ok (.return_, 1) := by decide +kernel
theorem dX11_isSuper_0 : decode cX11_isSuper 0 = .ok (.aload_n 0, 1) := by decide +kernel
theorem dX11_isSuper_1 : decode cX11_isSuper 1 = .ok (.iload_n 1, 1) := by decide +kernel
theorem dX11_isSuper_2 : decode cX11_isSuper 2 = .ok (.bipush 83, 2) := by decide +kernel
theorem dX11_isSuper_4 : decode cX11_isSuper 4 = .ok (.bipush 70, 2) := by decide +kernel
theorem dX11_isSuper_6 : decode cX11_isSuper 6 = .ok (.bipush 83, 2) := by decide +kernel
theorem dX11_isSuper_8 : decode cX11_isSuper 8 = .ok (.bipush 75, 2) := by decide +kernel
theorem dX11_isSuper_10 : decode cX11_isSuper 10 = .ok (.invokevirtual 30, 3) := by decide +kernel
theorem dX11_isSuper_13 : decode cX11_isSuper 13 = .ok (.ifCond .eq 25, 3) := by decide +kernel
theorem dX11_isSuper_16 : decode cX11_isSuper 16 = .ok (.aload_n 0, 1) := by decide +kernel
theorem dX11_isSuper_17 : decode cX11_isSuper 17 = .ok (.iload_n 1, 1) := by decide +kernel
theorem dX11_isSuper_18 : decode cX11_isSuper 18 = .ok (.bipush 62, 2) := by decide +kernel
theorem dX11_isSuper_20 : decode cX11_isSuper 20 = .ok (.iadd, 1) := by decide +kernel
theorem dX11_isSuper_21 : decode cX11_isSuper 21 = .ok (.invokevirtual 34, 3) := by decide +kernel
theorem dX11_isSuper_24 : decode cX11_isSuper 24 = .ok (.aload_n 0, 1) := by decide +kernel
theorem dX11_isSuper_25 : decode cX11_isSuper 25 = .ok (.iload_n 1, 1) := by decide +kernel
theorem dX11_isSuper_26 : decode cX11_isSuper 26 = .ok (.bipush 62, 2) := by decide +kernel
theorem dX11_isSuper_28 : decode cX11_isSuper 28 = .ok (.invokevirtual 38, 3) := by decide +kernel
theorem dX11_isSuper_31 : decode cX11_isSuper 31 = .ok (.if_icmp .ne 7, 3) := by decide +kernel
theorem dX11_isSuper_34 : decode cX11_isSuper 34 = .ok (.iconst 1, 1) := by decide +kernel
theorem dX11_isSuper_35 : decode cX11_isSuper 35 = .ok (.goto 4, 3) := by decide +kernel
theorem dX11_isSuper_38 : decode cX11_isSuper 38 = .ok (.iconst 0, 1) := by decide +kernel
theorem dX11_isSuper_39 : decode cX11_isSuper 39 = .ok (.ireturn, 1) := by decide +kernel
theorem dX11_base_0 : decode cX11_base 0 = .ok (.sipush 512, 3) := by decide +kernel
theorem dX11_base_3 : decode cX11_base 3 = .ok (.bipush 16, 2) := by decide +kernel
theorem dX11_base_5 : decode cX11_base 5 = .ok (.iload_n 0, 1) := by decide +kernel
theorem dX11_base_6 : decode cX11_base 6 = .ok (.imul, 1) := by decide +kernel
theorem dX11_base_7 : decode cX11_base 7 = .ok (.iadd, 1) := by decide +kernel
theorem dX11_base_8 : decode cX11_base 8 = .ok (.ireturn, 1) := by decide +kernel
theorem dX11_kind_0 : decode cX11_kind 0 = .ok (.aload_n 0, 1) := by decide +kernel
theorem dX11_kind_1 : decode cX11_kind 1 = .ok (.getfield 13, 3) := by decide +kernel
theorem dX11_kind_4 : decode cX11_kind 4 = .ok (.iload_n 1, 1) := by decide +kernel
theorem dX11_kind_5 : decode cX11_kind 5 = .ok (.invokestatic 42, 3) := by decide +kernel
theorem dX11_kind_8 : decode cX11_kind 8 = .ok (.iaload, 1) := by decide +kernel
theorem dX11_kind_9 : decode cX11_kind 9 = .ok (.ireturn, 1) := by decide +kernel
theorem dX11_size_0 : decode cX11_size 0 = .ok (.aload_n 0, 1) := by decide +kernel
theorem dX11_size_1 : decode cX11_size 1 = .ok (.iload_n 1, 1) := by decide +kernel
theorem dX11_size_2 : decode cX11_size 2 = .ok (.invokestatic 42, 3) := by decide +kernel
theorem dX11_size_5 : decode cX11_size 5 = .ok (.iconst 2, 1) := by decide +kernel
theorem dX11_size_6 : decode cX11_size 6 = .ok (.iadd, 1) := by decide +kernel
theorem dX11_size_7 : decode cX11_size 7 = .ok (.invokevirtual 34, 3) := by decide +kernel
theorem dX11_size_10 : decode cX11_size 10 = .ok (.ireturn, 1) := by decide +kernel
theorem dX11_blocks_0 : decode cX11_blocks 0 = .ok (.aload_n 0, 1) := by decide +kernel
theorem dX11_blocks_1 : decode cX11_blocks 1 = .ok (.iload_n 1, 1) := by decide +kernel
theorem dX11_blocks_2 : decode cX11_blocks 2 = .ok (.invokevirtual 45, 3) := by decide +kernel
theorem dX11_blocks_5 : decode cX11_blocks 5 = .ok (.bipush 63, 2) := by decide +kernel
theorem dX11_blocks_7 : decode cX11_blocks 7 = .ok (.iadd, 1) := by decide +kernel
theorem dX11_blocks_8 : decode cX11_blocks 8 = .ok (.bipush 64, 2) := by decide +kernel
theorem dX11_blocks_10 : decode cX11_blocks 10 = .ok (.idiv, 1) := by decide +kernel
theorem dX11_blocks_11 : decode cX11_blocks 11 = .ok (.ireturn, 1) := by decide +kernel
theorem dX11_block_0 : decode cX11_block 0 = .ok (.iload_n 2, 1) := by decide +kernel
theorem dX11_block_1 : decode cX11_block 1 = .ok (.iconst 5, 1) := by decide +kernel
theorem dX11_block_2 : decode cX11_block 2 = .ok (.if_icmp .ge 19, 3) := by decide +kernel
theorem dX11_block_5 : decode cX11_block 5 = .ok (.aload_n 0, 1) := by decide +kernel
theorem dX11_block_6 : decode cX11_block 6 = .ok (.getfield 13, 3) := by decide +kernel
theorem dX11_block_9 : decode cX11_block 9 = .ok (.iload_n 1, 1) := by decide +kernel
theorem dX11_block_10 : decode cX11_block 10 = .ok (.invokestatic 42, 3) := by decide +kernel
theorem dX11_block_13 : decode cX11_block 13 = .ok (.iconst 4, 1) := by decide +kernel
theorem dX11_block_14 : decode cX11_block 14 = .ok (.iadd, 1) := by decide +kernel
theorem dX11_block_15 : decode cX11_block 15 = .ok (.iload_n 2, 1) := by decide +kernel
theorem dX11_block_16 : decode cX11_block 16 = .ok (.iadd, 1) := by decide +kernel
theorem dX11_block_17 : decode cX11_block 17 = .ok (.iaload, 1) := by decide +kernel
theorem dX11_block_18 : decode cX11_block 18 = .ok (.goto 27, 3) := by decide +kernel
theorem dX11_block_21 : decode cX11_block 21 = .ok (.aload_n 0, 1) := by decide +kernel
theorem dX11_block_22 : decode cX11_block 22 = .ok (.getfield 13, 3) := by decide +kernel
theorem dX11_block_25 : decode cX11_block 25 = .ok (.bipush 64, 2) := by decide +kernel
theorem dX11_block_27 : decode cX11_block 27 = .ok (.aload_n 0, 1) := by decide +kernel
theorem dX11_block_28 : decode cX11_block 28 = .ok (.getfield 13, 3) := by decide +kernel
theorem dX11_block_31 : decode cX11_block 31 = .ok (.iload_n 1, 1) := by decide +kernel
theorem dX11_block_32 : decode cX11_block 32 = .ok (.invokestatic 42, 3) := by decide +kernel
theorem dX11_block_35 : decode cX11_block 35 = .ok (.bipush 9, 2) := by decide +kernel
theorem dX11_block_37 : decode cX11_block 37 = .ok (.iadd, 1) := by decide +kernel
theorem dX11_block_38 : decode cX11_block 38 = .ok (.iaload, 1) := by decide +kernel
theorem dX11_block_39 : decode cX11_block 39 = .ok (.imul, 1) := by decide +kernel
theorem dX11_block_40 : decode cX11_block 40 = .ok (.iload_n 2, 1) := by decide +kernel
theorem dX11_block_41 : decode cX11_block 41 = .ok (.iadd, 1) := by decide +kernel
theorem dX11_block_42 : decode cX11_block 42 = .ok (.iconst 5, 1) := by decide +kernel
theorem dX11_block_43 : decode cX11_block 43 = .ok (.isub, 1) := by decide +kernel
theorem dX11_block_44 : decode cX11_block 44 = .ok (.iaload, 1) := by decide +kernel
theorem dX11_block_45 : decode cX11_block 45 = .ok (.ireturn, 1) := by decide +kernel
theorem dX11_mark_0 : decode cX11_mark 0 = .ok (.iload_n 1, 1) := by decide +kernel
theorem dX11_mark_1 : decode cX11_mark 1 = .ok (.bipush 16, 2) := by decide +kernel
theorem dX11_mark_3 : decode cX11_mark 3 = .ok (.if_icmp .lt 18, 3) := by decide +kernel
theorem dX11_mark_6 : decode cX11_mark 6 = .ok (.iload_n 1, 1) := by decide +kernel
theorem dX11_mark_7 : decode cX11_mark 7 = .ok (.bipush 63, 2) := by decide +kernel
theorem dX11_mark_9 : decode cX11_mark 9 = .ok (.if_icmp .ge 12, 3) := by decide +kernel
theorem dX11_mark_12 : decode cX11_mark 12 = .ok (.aload_n 0, 1) := by decide +kernel
theorem dX11_mark_13 : decode cX11_mark 13 = .ok (.getfield 16, 3) := by decide +kernel
theorem dX11_mark_16 : decode cX11_mark 16 = .ok (.iload_n 1, 1) := by decide +kernel
theorem dX11_mark_17 : decode cX11_mark 17 = .ok (.baload, 1) := by decide +kernel
theorem dX11_mark_18 : decode cX11_mark 18 = .ok (.ifCond .eq 5, 3) := by decide +kernel
theorem dX11_mark_21 : decode cX11_mark 21 = .ok (.iconst 0, 1) := by decide +kernel
theorem dX11_mark_22 : decode cX11_mark 22 = .ok (.ireturn, 1) := by decide +kernel
theorem dX11_mark_23 : decode cX11_mark 23 = .ok (.aload_n 0, 1) := by decide +kernel
theorem dX11_mark_24 : decode cX11_mark 24 = .ok (.getfield 16, 3) := by decide +kernel
theorem dX11_mark_27 : decode cX11_mark 27 = .ok (.iload_n 1, 1) := by decide +kernel
theorem dX11_mark_28 : decode cX11_mark 28 = .ok (.iconst 1, 1) := by decide +kernel
theorem dX11_mark_29 : decode cX11_mark 29 = .ok (.bastore, 1) := by decide +kernel
theorem dX11_mark_30 : decode cX11_mark 30 = .ok (.iconst 1, 1) := by decide +kernel
theorem dX11_mark_31 : decode cX11_mark 31 = .ok (.ireturn, 1) := by decide +kernel
theorem dX11_isSound_0 : decode cX11_isSound 0 = .ok (.iload_n 1, 1) := by decide +kernel
theorem dX11_isSound_1 : decode cX11_isSound 1 = .ok (.invokestatic 42, 3) := by decide +kernel
theorem dX11_isSound_4 : decode cX11_isSound 4 = .ok (.istore_n 2, 1) := by decide +kernel
theorem dX11_isSound_5 : decode cX11_isSound 5 = .ok (.aload_n 0, 1) := by decide +kernel
theorem dX11_isSound_6 : decode cX11_isSound 6 = .ok (.getfield 13, 3) := by decide +kernel
theorem dX11_isSound_9 : decode cX11_isSound 9 = .ok (.iload_n 2, 1) := by decide +kernel
theorem dX11_isSound_10 : decode cX11_isSound 10 = .ok (.iaload, 1) := by decide +kernel
theorem dX11_isSound_11 : decode cX11_isSound 11 = .ok (.istore_n 3, 1) := by decide +kernel
theorem dX11_isSound_12 : decode cX11_isSound 12 = .ok (.aload_n 0, 1) := by decide +kernel
theorem dX11_isSound_13 : decode cX11_isSound 13 = .ok (.iload_n 1, 1) := by decide +kernel
theorem dX11_isSound_14 : decode cX11_isSound 14 = .ok (.invokevirtual 45, 3) := by decide +kernel
theorem dX11_isSound_17 : decode cX11_isSound 17 = .ok (.istore 4, 2) := by decide +kernel
theorem dX11_isSound_19 : decode cX11_isSound 19 = .ok (.iload_n 3, 1) := by decide +kernel
theorem dX11_isSound_20 : decode cX11_isSound 20 = .ok (.iconst 1, 1) := by decide +kernel
theorem dX11_isSound_21 : decode cX11_isSound 21 = .ok (.if_icmp .lt 74, 3) := by decide +kernel
theorem dX11_isSound_24 : decode cX11_isSound 24 = .ok (.iload_n 3, 1) := by decide +kernel
theorem dX11_isSound_25 : decode cX11_isSound 25 = .ok (.iconst 2, 1) := by decide +kernel
theorem dX11_isSound_26 : decode cX11_isSound 26 = .ok (.if_icmp .gt 69, 3) := by decide +kernel
theorem dX11_isSound_29 : decode cX11_isSound 29 = .ok (.iload_n 1, 1) := by decide +kernel
theorem dX11_isSound_30 : decode cX11_isSound 30 = .ok (.iconst 3, 1) := by decide +kernel
theorem dX11_isSound_31 : decode cX11_isSound 31 = .ok (.if_icmp .ge 8, 3) := by decide +kernel
theorem dX11_isSound_34 : decode cX11_isSound 34 = .ok (.iload_n 3, 1) := by decide +kernel
theorem dX11_isSound_35 : decode cX11_isSound 35 = .ok (.iconst 2, 1) := by decide +kernel
theorem dX11_isSound_36 : decode cX11_isSound 36 = .ok (.if_icmp .ne 59, 3) := by decide +kernel
theorem dX11_isSound_39 : decode cX11_isSound 39 = .ok (.aload_n 0, 1) := by decide +kernel
theorem dX11_isSound_40 : decode cX11_isSound 40 = .ok (.iload_n 2, 1) := by decide +kernel
theorem dX11_isSound_41 : decode cX11_isSound 41 = .ok (.bipush 14, 2) := by decide +kernel
theorem dX11_isSound_43 : decode cX11_isSound 43 = .ok (.iadd, 1) := by decide +kernel
theorem dX11_isSound_44 : decode cX11_isSound 44 = .ok (.invokevirtual 34, 3) := by decide +kernel
theorem dX11_isSound_47 : decode cX11_isSound 47 = .ok (.aload_n 0, 1) := by decide +kernel
theorem dX11_isSound_48 : decode cX11_isSound 48 = .ok (.iload_n 2, 1) := by decide +kernel
theorem dX11_isSound_49 : decode cX11_isSound 49 = .ok (.bipush 14, 2) := by decide +kernel
theorem dX11_isSound_51 : decode cX11_isSound 51 = .ok (.invokevirtual 38, 3) := by decide +kernel
theorem dX11_isSound_54 : decode cX11_isSound 54 = .ok (.if_icmp .ne 41, 3) := by decide +kernel
theorem dX11_isSound_57 : decode cX11_isSound 57 = .ok (.aload_n 0, 1) := by decide +kernel
theorem dX11_isSound_58 : decode cX11_isSound 58 = .ok (.iload_n 2, 1) := by decide +kernel
theorem dX11_isSound_59 : decode cX11_isSound 59 = .ok (.bipush 10, 2) := by decide +kernel
theorem dX11_isSound_61 : decode cX11_isSound 61 = .ok (.iadd, 1) := by decide +kernel
theorem dX11_isSound_62 : decode cX11_isSound 62 = .ok (.iconst 4, 1) := by decide +kernel
theorem dX11_isSound_63 : decode cX11_isSound 63 = .ok (.invokevirtual 48, 3) := by decide +kernel
theorem dX11_isSound_66 : decode cX11_isSound 66 = .ok (.ifCond .eq 29, 3) := by decide +kernel
theorem dX11_isSound_69 : decode cX11_isSound 69 = .ok (.iload 4, 2) := by decide +kernel
theorem dX11_isSound_71 : decode cX11_isSound 71 = .ok (.sipush 2944, 3) := by decide +kernel
theorem dX11_isSound_74 : decode cX11_isSound 74 = .ok (.if_icmp .gt 21, 3) := by decide +kernel
theorem dX11_isSound_77 : decode cX11_isSound 77 = .ok (.iload_n 3, 1) := by decide +kernel
end
section
theorem dX11_isSound_78 : decode cX11_isSound 78 = .ok (.iconst 2, 1) := by decide +kernel
theorem dX11_isSound_79 : decode cX11_isSound 79 = .ok (.if_icmp .ne 18, 3) := by decide +kernel
theorem dX11_isSound_82 : decode cX11_isSound 82 = .ok (.iload 4, 2) := by decide +kernel
theorem dX11_isSound_84 : decode cX11_isSound 84 = .ok (.ifCond .eq 11, 3) := by decide +kernel
theorem dX11_isSound_87 : decode cX11_isSound 87 = .ok (.iload 4, 2) := by decide +kernel
theorem dX11_isSound_89 : decode cX11_isSound 89 = .ok (.bipush 64, 2) := by decide +kernel
theorem dX11_isSound_91 : decode cX11_isSound 91 = .ok (.irem, 1) := by decide +kernel
theorem dX11_isSound_92 : decode cX11_isSound 92 = .ok (.ifCond .eq 5, 3) := by decide +kernel
theorem dX11_isSound_95 : decode cX11_isSound 95 = .ok (.iconst 0, 1) := by decide +kernel
theorem dX11_isSound_96 : decode cX11_isSound 96 = .ok (.ireturn, 1) := by decide +kernel
theorem dX11_isSound_97 : decode cX11_isSound 97 = .ok (.aload_n 0, 1) := by decide +kernel
theorem dX11_isSound_98 : decode cX11_isSound 98 = .ok (.iload_n 1, 1) := by decide +kernel
theorem dX11_isSound_99 : decode cX11_isSound 99 = .ok (.invokevirtual 52, 3) := by decide +kernel
theorem dX11_isSound_102 : decode cX11_isSound 102 = .ok (.istore 5, 2) := by decide +kernel
theorem dX11_isSound_104 : decode cX11_isSound 104 = .ok (.iconst 1, 1) := by decide +kernel
theorem dX11_isSound_105 : decode cX11_isSound 105 = .ok (.istore 6, 2) := by decide +kernel
theorem dX11_isSound_107 : decode cX11_isSound 107 = .ok (.iconst 0, 1) := by decide +kernel
theorem dX11_isSound_108 : decode cX11_isSound 108 = .ok (.istore 7, 2) := by decide +kernel
theorem dX11_isSound_110 : decode cX11_isSound 110 = .ok (.iload 7, 2) := by decide +kernel
theorem dX11_isSound_112 : decode cX11_isSound 112 = .ok (.iconst 5, 1) := by decide +kernel
theorem dX11_isSound_113 : decode cX11_isSound 113 = .ok (.if_icmp .ge 42, 3) := by decide +kernel
theorem dX11_isSound_116 : decode cX11_isSound 116 = .ok (.iload 6, 2) := by decide +kernel
theorem dX11_isSound_118 : decode cX11_isSound 118 = .ok (.ifCond .eq 28, 3) := by decide +kernel
theorem dX11_isSound_121 : decode cX11_isSound 121 = .ok (.iload 7, 2) := by decide +kernel
theorem dX11_isSound_123 : decode cX11_isSound 123 = .ok (.iload 5, 2) := by decide +kernel
theorem dX11_isSound_125 : decode cX11_isSound 125 = .ok (.if_icmp .lt 17, 3) := by decide +kernel
theorem dX11_isSound_128 : decode cX11_isSound 128 = .ok (.aload_n 0, 1) := by decide +kernel
theorem dX11_isSound_129 : decode cX11_isSound 129 = .ok (.getfield 13, 3) := by decide +kernel
theorem dX11_isSound_132 : decode cX11_isSound 132 = .ok (.iload_n 2, 1) := by decide +kernel
theorem dX11_isSound_133 : decode cX11_isSound 133 = .ok (.iconst 4, 1) := by decide +kernel
theorem dX11_isSound_134 : decode cX11_isSound 134 = .ok (.iadd, 1) := by decide +kernel
theorem dX11_isSound_135 : decode cX11_isSound 135 = .ok (.iload 7, 2) := by decide +kernel
theorem dX11_isSound_137 : decode cX11_isSound 137 = .ok (.iadd, 1) := by decide +kernel
theorem dX11_isSound_138 : decode cX11_isSound 138 = .ok (.iaload, 1) := by decide +kernel
theorem dX11_isSound_139 : decode cX11_isSound 139 = .ok (.ifCond .ne 7, 3) := by decide +kernel
theorem dX11_isSound_142 : decode cX11_isSound 142 = .ok (.iconst 1, 1) := by decide +kernel
theorem dX11_isSound_143 : decode cX11_isSound 143 = .ok (.goto 4, 3) := by decide +kernel
theorem dX11_isSound_146 : decode cX11_isSound 146 = .ok (.iconst 0, 1) := by decide +kernel
theorem dX11_isSound_147 : decode cX11_isSound 147 = .ok (.istore 6, 2) := by decide +kernel
theorem dX11_isSound_149 : decode cX11_isSound 149 = .ok (.iinc 7 1, 3) := by decide +kernel
theorem dX11_isSound_152 : decode cX11_isSound 152 = .ok (.goto (-42), 3) := by decide +kernel
theorem dX11_isSound_155 : decode cX11_isSound 155 = .ok (.iload 6, 2) := by decide +kernel
theorem dX11_isSound_157 : decode cX11_isSound 157 = .ok (.ifCond .eq 38, 3) := by decide +kernel
theorem dX11_isSound_160 : decode cX11_isSound 160 = .ok (.iload 5, 2) := by decide +kernel
theorem dX11_isSound_162 : decode cX11_isSound 162 = .ok (.iconst 5, 1) := by decide +kernel
theorem dX11_isSound_163 : decode cX11_isSound 163 = .ok (.if_icmp .le 7, 3) := by decide +kernel
theorem dX11_isSound_166 : decode cX11_isSound 166 = .ok (.iconst 1, 1) := by decide +kernel
theorem dX11_isSound_167 : decode cX11_isSound 167 = .ok (.goto 4, 3) := by decide +kernel
theorem dX11_isSound_170 : decode cX11_isSound 170 = .ok (.iconst 0, 1) := by decide +kernel
theorem dX11_isSound_171 : decode cX11_isSound 171 = .ok (.aload_n 0, 1) := by decide +kernel
theorem dX11_isSound_172 : decode cX11_isSound 172 = .ok (.getfield 13, 3) := by decide +kernel
theorem dX11_isSound_175 : decode cX11_isSound 175 = .ok (.iload_n 2, 1) := by decide +kernel
theorem dX11_isSound_176 : decode cX11_isSound 176 = .ok (.bipush 9, 2) := by decide +kernel
theorem dX11_isSound_178 : decode cX11_isSound 178 = .ok (.iadd, 1) := by decide +kernel
theorem dX11_isSound_179 : decode cX11_isSound 179 = .ok (.iaload, 1) := by decide +kernel
theorem dX11_isSound_180 : decode cX11_isSound 180 = .ok (.ifCond .eq 7, 3) := by decide +kernel
theorem dX11_isSound_183 : decode cX11_isSound 183 = .ok (.iconst 1, 1) := by decide +kernel
theorem dX11_isSound_184 : decode cX11_isSound 184 = .ok (.goto 4, 3) := by decide +kernel
theorem dX11_isSound_187 : decode cX11_isSound 187 = .ok (.iconst 0, 1) := by decide +kernel
theorem dX11_isSound_188 : decode cX11_isSound 188 = .ok (.if_icmp .ne 7, 3) := by decide +kernel
theorem dX11_isSound_191 : decode cX11_isSound 191 = .ok (.iconst 1, 1) := by decide +kernel
theorem dX11_isSound_192 : decode cX11_isSound 192 = .ok (.goto 4, 3) := by decide +kernel
theorem dX11_isSound_195 : decode cX11_isSound 195 = .ok (.iconst 0, 1) := by decide +kernel
theorem dX11_isSound_196 : decode cX11_isSound 196 = .ok (.istore 6, 2) := by decide +kernel
theorem dX11_isSound_198 : decode cX11_isSound 198 = .ok (.iconst 0, 1) := by decide +kernel
theorem dX11_isSound_199 : decode cX11_isSound 199 = .ok (.istore 7, 2) := by decide +kernel
theorem dX11_isSound_201 : decode cX11_isSound 201 = .ok (.aload_n 0, 1) := by decide +kernel
theorem dX11_isSound_202 : decode cX11_isSound 202 = .ok (.getfield 13, 3) := by decide +kernel
theorem dX11_isSound_205 : decode cX11_isSound 205 = .ok (.iload_n 2, 1) := by decide +kernel
theorem dX11_isSound_206 : decode cX11_isSound 206 = .ok (.bipush 9, 2) := by decide +kernel
theorem dX11_isSound_208 : decode cX11_isSound 208 = .ok (.iadd, 1) := by decide +kernel
theorem dX11_isSound_209 : decode cX11_isSound 209 = .ok (.iaload, 1) := by decide +kernel
theorem dX11_isSound_210 : decode cX11_isSound 210 = .ok (.istore 8, 2) := by decide +kernel
theorem dX11_isSound_212 : decode cX11_isSound 212 = .ok (.iload 6, 2) := by decide +kernel
theorem dX11_isSound_214 : decode cX11_isSound 214 = .ok (.ifCond .eq 76, 3) := by decide +kernel
theorem dX11_isSound_217 : decode cX11_isSound 217 = .ok (.iload 5, 2) := by decide +kernel
theorem dX11_isSound_219 : decode cX11_isSound 219 = .ok (.iconst 5, 1) := by decide +kernel
theorem dX11_isSound_220 : decode cX11_isSound 220 = .ok (.if_icmp .le 70, 3) := by decide +kernel
theorem dX11_isSound_223 : decode cX11_isSound 223 = .ok (.aload_n 0, 1) := by decide +kernel
theorem dX11_isSound_224 : decode cX11_isSound 224 = .ok (.iload 8, 2) := by decide +kernel
theorem dX11_isSound_226 : decode cX11_isSound 226 = .ok (.invokevirtual 55, 3) := by decide +kernel
theorem dX11_isSound_229 : decode cX11_isSound 229 = .ok (.istore 6, 2) := by decide +kernel
theorem dX11_isSound_231 : decode cX11_isSound 231 = .ok (.iload 6, 2) := by decide +kernel
theorem dX11_isSound_233 : decode cX11_isSound 233 = .ok (.ifCond .eq 7, 3) := by decide +kernel
theorem dX11_isSound_236 : decode cX11_isSound 236 = .ok (.iconst 1, 1) := by decide +kernel
theorem dX11_isSound_237 : decode cX11_isSound 237 = .ok (.goto 4, 3) := by decide +kernel
theorem dX11_isSound_240 : decode cX11_isSound 240 = .ok (.iconst 0, 1) := by decide +kernel
theorem dX11_isSound_241 : decode cX11_isSound 241 = .ok (.istore 7, 2) := by decide +kernel
theorem dX11_isSound_243 : decode cX11_isSound 243 = .ok (.iload 5, 2) := by decide +kernel
theorem dX11_isSound_245 : decode cX11_isSound 245 = .ok (.iconst 5, 1) := by decide +kernel
theorem dX11_isSound_246 : decode cX11_isSound 246 = .ok (.isub, 1) := by decide +kernel
theorem dX11_isSound_247 : decode cX11_isSound 247 = .ok (.istore 9, 2) := by decide +kernel
theorem dX11_isSound_249 : decode cX11_isSound 249 = .ok (.iload 9, 2) := by decide +kernel
theorem dX11_isSound_251 : decode cX11_isSound 251 = .ok (.bipush 64, 2) := by decide +kernel
theorem dX11_isSound_253 : decode cX11_isSound 253 = .ok (.if_icmp .ge 37, 3) := by decide +kernel
theorem dX11_isSound_256 : decode cX11_isSound 256 = .ok (.iload 6, 2) := by decide +kernel
theorem dX11_isSound_258 : decode cX11_isSound 258 = .ok (.ifCond .eq 32, 3) := by decide +kernel
theorem dX11_isSound_261 : decode cX11_isSound 261 = .ok (.aload_n 0, 1) := by decide +kernel
theorem dX11_isSound_262 : decode cX11_isSound 262 = .ok (.getfield 13, 3) := by decide +kernel
theorem dX11_isSound_265 : decode cX11_isSound 265 = .ok (.bipush 64, 2) := by decide +kernel
theorem dX11_isSound_267 : decode cX11_isSound 267 = .ok (.iload 8, 2) := by decide +kernel
theorem dX11_isSound_269 : decode cX11_isSound 269 = .ok (.imul, 1) := by decide +kernel
theorem dX11_isSound_270 : decode cX11_isSound 270 = .ok (.iload 9, 2) := by decide +kernel
theorem dX11_isSound_272 : decode cX11_isSound 272 = .ok (.iadd, 1) := by decide +kernel
theorem dX11_isSound_273 : decode cX11_isSound 273 = .ok (.iaload, 1) := by decide +kernel
theorem dX11_isSound_274 : decode cX11_isSound 274 = .ok (.ifCond .ne 7, 3) := by decide +kernel
theorem dX11_isSound_277 : decode cX11_isSound 277 = .ok (.iconst 1, 1) := by decide +kernel
theorem dX11_isSound_278 : decode cX11_isSound 278 = .ok (.goto 4, 3) := by decide +kernel
theorem dX11_isSound_281 : decode cX11_isSound 281 = .ok (.iconst 0, 1) := by decide +kernel
theorem dX11_isSound_282 : decode cX11_isSound 282 = .ok (.istore 6, 2) := by decide +kernel
theorem dX11_isSound_284 : decode cX11_isSound 284 = .ok (.iinc 9 1, 3) := by decide +kernel
theorem dX11_isSound_287 : decode cX11_isSound 287 = .ok (.goto (-38), 3) := by decide +kernel
theorem dX11_isSound_290 : decode cX11_isSound 290 = .ok (.iconst 0, 1) := by decide +kernel
theorem dX11_isSound_291 : decode cX11_isSound 291 = .ok (.istore 9, 2) := by decide +kernel
theorem dX11_isSound_293 : decode cX11_isSound 293 = .ok (.iload 6, 2) := by decide +kernel
theorem dX11_isSound_295 : decode cX11_isSound 295 = .ok (.ifCond .eq 41, 3) := by decide +kernel
theorem dX11_isSound_298 : decode cX11_isSound 298 = .ok (.iload 9, 2) := by decide +kernel
theorem dX11_isSound_300 : decode cX11_isSound 300 = .ok (.iload 5, 2) := by decide +kernel
theorem dX11_isSound_302 : decode cX11_isSound 302 = .ok (.if_icmp .ge 34, 3) := by decide +kernel
theorem dX11_isSound_305 : decode cX11_isSound 305 = .ok (.aload_n 0, 1) := by decide +kernel
theorem dX11_isSound_306 : decode cX11_isSound 306 = .ok (.aload_n 0, 1) := by decide +kernel
theorem dX11_isSound_307 : decode cX11_isSound 307 = .ok (.iload_n 1, 1) := by decide +kernel
theorem dX11_isSound_308 : decode cX11_isSound 308 = .ok (.iload 9, 2) := by decide +kernel
theorem dX11_isSound_310 : decode cX11_isSound 310 = .ok (.invokevirtual 59, 3) := by decide +kernel
theorem dX11_isSound_313 : decode cX11_isSound 313 = .ok (.invokevirtual 55, 3) := by decide +kernel
theorem dX11_isSound_316 : decode cX11_isSound 316 = .ok (.istore 6, 2) := by decide +kernel
theorem dX11_isSound_318 : decode cX11_isSound 318 = .ok (.iload 9, 2) := by decide +kernel
theorem dX11_isSound_320 : decode cX11_isSound 320 = .ok (.iload 6, 2) := by decide +kernel
theorem dX11_isSound_322 : decode cX11_isSound 322 = .ok (.ifCond .eq 7, 3) := by decide +kernel
theorem dX11_isSound_325 : decode cX11_isSound 325 = .ok (.iconst 1, 1) := by decide +kernel
theorem dX11_isSound_326 : decode cX11_isSound 326 = .ok (.goto 4, 3) := by decide +kernel
theorem dX11_isSound_329 : decode cX11_isSound 329 = .ok (.iconst 0, 1) := by decide +kernel
theorem dX11_isSound_330 : decode cX11_isSound 330 = .ok (.iadd, 1) := by decide +kernel
theorem dX11_isSound_331 : decode cX11_isSound 331 = .ok (.istore 9, 2) := by decide +kernel
theorem dX11_isSound_333 : decode cX11_isSound 333 = .ok (.goto (-40), 3) := by decide +kernel
theorem dX11_isSound_336 : decode cX11_isSound 336 = .ok (.iload 6, 2) := by decide +kernel
theorem dX11_isSound_338 : decode cX11_isSound 338 = .ok (.ifCond .ne 46, 3) := by decide +kernel
theorem dX11_isSound_341 : decode cX11_isSound 341 = .ok (.iconst 0, 1) := by decide +kernel
theorem dX11_isSound_342 : decode cX11_isSound 342 = .ok (.istore 10, 2) := by decide +kernel
theorem dX11_isSound_344 : decode cX11_isSound 344 = .ok (.iload 10, 2) := by decide +kernel
theorem dX11_isSound_346 : decode cX11_isSound 346 = .ok (.iload 9, 2) := by decide +kernel
theorem dX11_isSound_348 : decode cX11_isSound 348 = .ok (.if_icmp .ge 22, 3) := by decide +kernel
theorem dX11_isSound_351 : decode cX11_isSound 351 = .ok (.aload_n 0, 1) := by decide +kernel
theorem dX11_isSound_352 : decode cX11_isSound 352 = .ok (.getfield 16, 3) := by decide +kernel
theorem dX11_isSound_355 : decode cX11_isSound 355 = .ok (.aload_n 0, 1) := by decide +kernel
theorem dX11_isSound_356 : decode cX11_isSound 356 = .ok (.iload_n 1, 1) := by decide +kernel
theorem dX11_isSound_357 : decode cX11_isSound 357 = .ok (.iload 10, 2) := by decide +kernel
theorem dX11_isSound_359 : decode cX11_isSound 359 = .ok (.invokevirtual 59, 3) := by decide +kernel
theorem dX11_isSound_362 : decode cX11_isSound 362 = .ok (.iconst 0, 1) := by decide +kernel
theorem dX11_isSound_363 : decode cX11_isSound 363 = .ok (.bastore, 1) := by decide +kernel
theorem dX11_isSound_364 : decode cX11_isSound 364 = .ok (.iinc 10 1, 3) := by decide +kernel
theorem dX11_isSound_367 : decode cX11_isSound 367 = .ok (.goto (-23), 3) := by decide +kernel
theorem dX11_isSound_370 : decode cX11_isSound 370 = .ok (.iload 7, 2) := by decide +kernel
theorem dX11_isSound_372 : decode cX11_isSound 372 = .ok (.iconst 1, 1) := by decide +kernel
theorem dX11_isSound_373 : decode cX11_isSound 373 = .ok (.if_icmp .ne 11, 3) := by decide +kernel
theorem dX11_isSound_376 : decode cX11_isSound 376 = .ok (.aload_n 0, 1) := by decide +kernel
theorem dX11_isSound_377 : decode cX11_isSound 377 = .ok (.getfield 16, 3) := by decide +kernel
theorem dX11_isSound_380 : decode cX11_isSound 380 = .ok (.iload 8, 2) := by decide +kernel
theorem dX11_isSound_382 : decode cX11_isSound 382 = .ok (.iconst 0, 1) := by decide +kernel
theorem dX11_isSound_383 : decode cX11_isSound 383 = .ok (.bastore, 1) := by decide +kernel
theorem dX11_isSound_384 : decode cX11_isSound 384 = .ok (.iload 6, 2) := by decide +kernel
theorem dX11_isSound_386 : decode cX11_isSound 386 = .ok (.ireturn, 1) := by decide +kernel
theorem dX11_free_0 : decode cX11_free 0 = .ok (.iconst 0, 1) := by decide +kernel
theorem dX11_free_1 : decode cX11_free 1 = .ok (.istore_n 2, 1) := by decide +kernel
theorem dX11_free_2 : decode cX11_free 2 = .ok (.iload_n 2, 1) := by decide +kernel
theorem dX11_free_3 : decode cX11_free 3 = .ok (.bipush 64, 2) := by decide +kernel
theorem dX11_free_5 : decode cX11_free 5 = .ok (.if_icmp .ge 16, 3) := by decide +kernel
theorem dX11_free_8 : decode cX11_free 8 = .ok (.aload_n 0, 1) := by decide +kernel
theorem dX11_free_9 : decode cX11_free 9 = .ok (.getfield 16, 3) := by decide +kernel
theorem dX11_free_12 : decode cX11_free 12 = .ok (.iload_n 2, 1) := by decide +kernel
theorem dX11_free_13 : decode cX11_free 13 = .ok (.iconst 0, 1) := by decide +kernel
theorem dX11_free_14 : decode cX11_free 14 = .ok (.bastore, 1) := by decide +kernel
theorem dX11_free_15 : decode cX11_free 15 = .ok (.iinc 2 1, 3) := by decide +kernel
theorem dX11_free_18 : decode cX11_free 18 = .ok (.goto (-16), 3) := by decide +kernel
theorem dX11_free_21 : decode cX11_free 21 = .ok (.iconst 1, 1) := by decide +kernel
theorem dX11_free_22 : decode cX11_free 22 = .ok (.istore_n 2, 1) := by decide +kernel
theorem dX11_free_23 : decode cX11_free 23 = .ok (.iload_n 2, 1) := by decide +kernel
theorem dX11_free_24 : decode cX11_free 24 = .ok (.bipush 32, 2) := by decide +kernel
theorem dX11_free_26 : decode cX11_free 26 = .ok (.if_icmp .ge 81, 3) := by decide +kernel
theorem dX11_free_29 : decode cX11_free 29 = .ok (.iconst 0, 1) := by decide +kernel
theorem dX11_free_30 : decode cX11_free 30 = .ok (.istore_n 3, 1) := by decide +kernel
theorem dX11_free_31 : decode cX11_free 31 = .ok (.aload_n 0, 1) := by decide +kernel
theorem dX11_free_32 : decode cX11_free 32 = .ok (.iload_n 2, 1) := by decide +kernel
theorem dX11_free_33 : decode cX11_free 33 = .ok (.invokevirtual 62, 3) := by decide +kernel
theorem dX11_free_36 : decode cX11_free 36 = .ok (.ifCond .le 30, 3) := by decide +kernel
theorem dX11_free_39 : decode cX11_free 39 = .ok (.iload_n 3, 1) := by decide +kernel
theorem dX11_free_40 : decode cX11_free 40 = .ok (.aload_n 0, 1) := by decide +kernel
theorem dX11_free_41 : decode cX11_free 41 = .ok (.iload_n 2, 1) := by decide +kernel
theorem dX11_free_42 : decode cX11_free 42 = .ok (.invokevirtual 52, 3) := by decide +kernel
theorem dX11_free_45 : decode cX11_free 45 = .ok (.if_icmp .ge 21, 3) := by decide +kernel
theorem dX11_free_48 : decode cX11_free 48 = .ok (.aload_n 0, 1) := by decide +kernel
theorem dX11_free_49 : decode cX11_free 49 = .ok (.getfield 16, 3) := by decide +kernel
theorem dX11_free_52 : decode cX11_free 52 = .ok (.aload_n 0, 1) := by decide +kernel
theorem dX11_free_53 : decode cX11_free 53 = .ok (.iload_n 2, 1) := by decide +kernel
theorem dX11_free_54 : decode cX11_free 54 = .ok (.iload_n 3, 1) := by decide +kernel
theorem dX11_free_55 : decode cX11_free 55 = .ok (.invokevirtual 59, 3) := by decide +kernel
theorem dX11_free_58 : decode cX11_free 58 = .ok (.iconst 1, 1) := by decide +kernel
theorem dX11_free_59 : decode cX11_free 59 = .ok (.bastore, 1) := by decide +kernel
theorem dX11_free_60 : decode cX11_free 60 = .ok (.iinc 3 1, 3) := by decide +kernel
theorem dX11_free_63 : decode cX11_free 63 = .ok (.goto (-32), 3) := by decide +kernel
theorem dX11_free_66 : decode cX11_free 66 = .ok (.aload_n 0, 1) := by decide +kernel
theorem dX11_free_67 : decode cX11_free 67 = .ok (.iload_n 2, 1) := by decide +kernel
theorem dX11_free_68 : decode cX11_free 68 = .ok (.invokevirtual 62, 3) := by decide +kernel
theorem dX11_free_71 : decode cX11_free 71 = .ok (.ifCond .le 30, 3) := by decide +kernel
theorem dX11_free_74 : decode cX11_free 74 = .ok (.aload_n 0, 1) := by decide +kernel
theorem dX11_free_75 : decode cX11_free 75 = .ok (.iload_n 2, 1) := by decide +kernel
theorem dX11_free_76 : decode cX11_free 76 = .ok (.invokevirtual 52, 3) := by decide +kernel
theorem dX11_free_79 : decode cX11_free 79 = .ok (.iconst 5, 1) := by decide +kernel
theorem dX11_free_80 : decode cX11_free 80 = .ok (.if_icmp .le 21, 3) := by decide +kernel
theorem dX11_free_83 : decode cX11_free 83 = .ok (.aload_n 0, 1) := by decide +kernel
theorem dX11_free_84 : decode cX11_free 84 = .ok (.getfield 16, 3) := by decide +kernel
theorem dX11_free_87 : decode cX11_free 87 = .ok (.aload_n 0, 1) := by decide +kernel
theorem dX11_free_88 : decode cX11_free 88 = .ok (.getfield 13, 3) := by decide +kernel
theorem dX11_free_91 : decode cX11_free 91 = .ok (.iload_n 2, 1) := by decide +kernel
theorem dX11_free_92 : decode cX11_free 92 = .ok (.invokestatic 42, 3) := by decide +kernel
theorem dX11_free_95 : decode cX11_free 95 = .ok (.bipush 9, 2) := by decide +kernel
theorem dX11_free_97 : decode cX11_free 97 = .ok (.iadd, 1) := by decide +kernel
theorem dX11_free_98 : decode cX11_free 98 = .ok (.iaload, 1) := by decide +kernel
theorem dX11_free_99 : decode cX11_free 99 = .ok (.iconst 1, 1) := by decide +kernel
theorem dX11_free_100 : decode cX11_free 100 = .ok (.bastore, 1) := by decide +kernel
theorem dX11_free_101 : decode cX11_free 101 = .ok (.iinc 2 1, 3) := by decide +kernel
theorem dX11_free_104 : decode cX11_free 104 = .ok (.goto (-81), 3) := by decide +kernel
theorem dX11_free_107 : decode cX11_free 107 = .ok (.iload_n 1, 1) := by decide +kernel
theorem dX11_free_108 : decode cX11_free 108 = .ok (.iconst 1, 1) := by decide +kernel
theorem dX11_free_109 : decode cX11_free 109 = .ok (.iadd, 1) := by decide +kernel
theorem dX11_free_110 : decode cX11_free 110 = .ok (.istore_n 2, 1) := by decide +kernel
theorem dX11_free_111 : decode cX11_free 111 = .ok (.iload_n 2, 1) := by decide +kernel
theorem dX11_free_112 : decode cX11_free 112 = .ok (.bipush 63, 2) := by decide +kernel
theorem dX11_free_114 : decode cX11_free 114 = .ok (.if_icmp .ge 26, 3) := by decide +kernel
theorem dX11_free_117 : decode cX11_free 117 = .ok (.iload_n 2, 1) := by decide +kernel
theorem dX11_free_118 : decode cX11_free 118 = .ok (.bipush 16, 2) := by decide +kernel
theorem dX11_free_120 : decode cX11_free 120 = .ok (.if_icmp .lt 14, 3) := by decide +kernel
theorem dX11_free_123 : decode cX11_free 123 = .ok (.aload_n 0, 1) := by decide +kernel
theorem dX11_free_124 : decode cX11_free 124 = .ok (.getfield 16, 3) := by decide +kernel
theorem dX11_free_127 : decode cX11_free 127 = .ok (.iload_n 2, 1) := by decide +kernel
theorem dX11_free_128 : decode cX11_free 128 = .ok (.baload, 1) := by decide +kernel
theorem dX11_free_129 : decode cX11_free 129 = .ok (.ifCond .ne 5, 3) := by decide +kernel
theorem dX11_free_132 : decode cX11_free 132 = .ok (.iload_n 2, 1) := by decide +kernel
theorem dX11_free_133 : decode cX11_free 133 = .ok (.ireturn, 1) := by decide +kernel
theorem dX11_free_134 : decode cX11_free 134 = .ok (.iinc 2 1, 3) := by decide +kernel
theorem dX11_free_137 : decode cX11_free 137 = .ok (.goto (-26), 3) := by decide +kernel
theorem dX11_free_140 : decode cX11_free 140 = .ok (.iconst (-1), 1) := by decide +kernel
theorem dX11_free_141 : decode cX11_free 141 = .ok (.ireturn, 1) := by decide +kernel
theorem dX11_places_0 : decode cX11_places 0 = .ok (.aload_n 0, 1) := by decide +kernel
theorem dX11_places_1 : decode cX11_places 1 = .ok (.iload_n 1, 1) := by decide +kernel
theorem dX11_places_2 : decode cX11_places 2 = .ok (.invokevirtual 45, 3) := by decide +kernel
theorem dX11_places_5 : decode cX11_places 5 = .ok (.bipush 16, 2) := by decide +kernel
theorem dX11_places_7 : decode cX11_places 7 = .ok (.idiv, 1) := by decide +kernel
theorem dX11_places_8 : decode cX11_places 8 = .ok (.ireturn, 1) := by decide +kernel
theorem dX11_entry_0 : decode cX11_entry 0 = .ok (.bipush 64, 2) := by decide +kernel
theorem dX11_entry_2 : decode cX11_entry 2 = .ok (.aload_n 0, 1) := by decide +kernel
theorem dX11_entry_3 : decode cX11_entry 3 = .ok (.iload_n 1, 1) := by decide +kernel
theorem dX11_entry_4 : decode cX11_entry 4 = .ok (.iload_n 2, 1) := by decide +kernel
theorem dX11_entry_5 : decode cX11_entry 5 = .ok (.iconst 4, 1) := by decide +kernel
theorem dX11_entry_6 : decode cX11_entry 6 = .ok (.idiv, 1) := by decide +kernel
theorem dX11_entry_7 : decode cX11_entry 7 = .ok (.invokevirtual 59, 3) := by decide +kernel
theorem dX11_entry_10 : decode cX11_entry 10 = .ok (.imul, 1) := by decide +kernel
theorem dX11_entry_11 : decode cX11_entry 11 = .ok (.bipush 16, 2) := by decide +kernel
theorem dX11_entry_13 : decode cX11_entry 13 = .ok (.iload_n 2, 1) := by decide +kernel
theorem dX11_entry_14 : decode cX11_entry 14 = .ok (.iconst 4, 1) := by decide +kernel
theorem dX11_entry_15 : decode cX11_entry 15 = .ok (.irem, 1) := by decide +kernel
theorem dX11_entry_16 : decode cX11_entry 16 = .ok (.imul, 1) := by decide +kernel
theorem dX11_entry_17 : decode cX11_entry 17 = .ok (.iadd, 1) := by decide +kernel
theorem dX11_entry_18 : decode cX11_entry 18 = .ok (.ireturn, 1) := by decide +kernel
theorem dX11_write_0 : decode cX11_write 0 = .ok (.aload_n 0, 1) := by decide +kernel
theorem dX11_write_1 : decode cX11_write 1 = .ok (.iload_n 1, 1) := by decide +kernel
theorem dX11_write_2 : decode cX11_write 2 = .ok (.bipush 16, 2) := by decide +kernel
theorem dX11_write_4 : decode cX11_write 4 = .ok (.invokevirtual 65, 3) := by decide +kernel
theorem dX11_write_7 : decode cX11_write 7 = .ok (.aload_n 0, 1) := by decide +kernel
theorem dX11_write_8 : decode cX11_write 8 = .ok (.getfield 13, 3) := by decide +kernel
theorem dX11_write_11 : decode cX11_write 11 = .ok (.iload_n 1, 1) := by decide +kernel
theorem dX11_write_12 : decode cX11_write 12 = .ok (.iload_n 2, 1) := by decide +kernel
theorem dX11_write_13 : decode cX11_write 13 = .ok (.iastore, 1) := by decide +kernel
theorem dX11_write_14 : decode cX11_write 14 = .ok (.aload_n 0, 1) := by decide +kernel
theorem dX11_write_15 : decode cX11_write 15 = .ok (.getfield 13, 3) := by decide +kernel
theorem dX11_write_18 : decode cX11_write 18 = .ok (.iload_n 1, 1) := by decide +kernel
theorem dX11_write_19 : decode cX11_write 19 = .ok (.iconst 1, 1) := by decide +kernel
theorem dX11_write_20 : decode cX11_write 20 = .ok (.iadd, 1) := by decide +kernel
theorem dX11_write_21 : decode cX11_write 21 = .ok (.aload_n 0, 1) := by decide +kernel
theorem dX11_write_22 : decode cX11_write 22 = .ok (.getfield 69, 3) := by decide +kernel
theorem dX11_write_25 : decode cX11_write 25 = .ok (.iastore, 1) := by decide +kernel
theorem dX11_write_26 : decode cX11_write 26 = .ok (.iconst 0, 1) := by decide +kernel
theorem dX11_write_27 : decode cX11_write 27 = .ok (.istore_n 3, 1) := by decide +kernel
theorem dX11_write_28 : decode cX11_write 28 = .ok (.iload_n 3, 1) := by decide +kernel
theorem dX11_write_29 : decode cX11_write 29 = .ok (.aload_n 0, 1) := by decide +kernel
theorem dX11_write_30 : decode cX11_write 30 = .ok (.getfield 69, 3) := by decide +kernel
theorem dX11_write_33 : decode cX11_write 33 = .ok (.if_icmp .ge 25, 3) := by decide +kernel
theorem dX11_write_36 : decode cX11_write 36 = .ok (.aload_n 0, 1) := by decide +kernel
theorem dX11_write_37 : decode cX11_write 37 = .ok (.getfield 13, 3) := by decide +kernel
theorem dX11_write_40 : decode cX11_write 40 = .ok (.iload_n 1, 1) := by decide +kernel
theorem dX11_write_41 : decode cX11_write 41 = .ok (.iconst 2, 1) := by decide +kernel
theorem dX11_write_42 : decode cX11_write 42 = .ok (.iadd, 1) := by decide +kernel
theorem dX11_write_43 : decode cX11_write 43 = .ok (.iload_n 3, 1) := by decide +kernel
theorem dX11_write_44 : decode cX11_write 44 = .ok (.iadd, 1) := by decide +kernel
theorem dX11_write_45 : decode cX11_write 45 = .ok (.aload_n 0, 1) := by decide +kernel
theorem dX11_write_46 : decode cX11_write 46 = .ok (.getfield 26, 3) := by decide +kernel
theorem dX11_write_49 : decode cX11_write 49 = .ok (.iload_n 3, 1) := by decide +kernel
theorem dX11_write_50 : decode cX11_write 50 = .ok (.iaload, 1) := by decide +kernel
theorem dX11_write_51 : decode cX11_write 51 = .ok (.iastore, 1) := by decide +kernel
theorem dX11_write_52 : decode cX11_write 52 = .ok (.iinc 3 1, 3) := by decide +kernel
theorem dX11_write_55 : decode cX11_write 55 = .ok (.goto (-27), 3) := by decide +kernel
theorem dX11_write_58 : decode cX11_write 58 = .ok (.return_, 1) := by decide +kernel
theorem dX11_dots_0 : decode cX11_dots 0 = .ok (.aload_n 0, 1) := by decide +kernel
theorem dX11_dots_1 : decode cX11_dots 1 = .ok (.iload_n 1, 1) := by decide +kernel
theorem dX11_dots_2 : decode cX11_dots 2 = .ok (.putfield 69, 3) := by decide +kernel
theorem dX11_dots_5 : decode cX11_dots 5 = .ok (.iconst 0, 1) := by decide +kernel
theorem dX11_dots_6 : decode cX11_dots 6 = .ok (.istore_n 2, 1) := by decide +kernel
theorem dX11_dots_7 : decode cX11_dots 7 = .ok (.iload_n 2, 1) := by decide +kernel
theorem dX11_dots_8 : decode cX11_dots 8 = .ok (.iload_n 1, 1) := by decide +kernel
theorem dX11_dots_9 : decode cX11_dots 9 = .ok (.if_icmp .ge 17, 3) := by decide +kernel
theorem dX11_dots_12 : decode cX11_dots 12 = .ok (.aload_n 0, 1) := by decide +kernel
theorem dX11_dots_13 : decode cX11_dots 13 = .ok (.getfield 26, 3) := by decide +kernel
theorem dX11_dots_16 : decode cX11_dots 16 = .ok (.iload_n 2, 1) := by decide +kernel
theorem dX11_dots_17 : decode cX11_dots 17 = .ok (.bipush 46, 2) := by decide +kernel
theorem dX11_dots_19 : decode cX11_dots 19 = .ok (.iastore, 1) := by decide +kernel
theorem dX11_dots_20 : decode cX11_dots 20 = .ok (.iinc 2 1, 3) := by decide +kernel
theorem dX11_dots_23 : decode cX11_dots 23 = .ok (.goto (-16), 3) := by decide +kernel
theorem dX11_dots_26 : decode cX11_dots 26 = .ok (.return_, 1) := by decide +kernel
theorem dX11_isName_0 : decode cX11_isName 0 = .ok (.aload_n 0, 1) := by decide +kernel
theorem dX11_isName_1 : decode cX11_isName 1 = .ok (.getfield 13, 3) := by decide +kernel
theorem dX11_isName_4 : decode cX11_isName 4 = .ok (.iload_n 1, 1) := by decide +kernel
theorem dX11_isName_5 : decode cX11_isName 5 = .ok (.iconst 1, 1) := by decide +kernel
theorem dX11_isName_6 : decode cX11_isName 6 = .ok (.iadd, 1) := by decide +kernel
theorem dX11_isName_7 : decode cX11_isName 7 = .ok (.iaload, 1) := by decide +kernel
theorem dX11_isName_8 : decode cX11_isName 8 = .ok (.aload_n 0, 1) := by decide +kernel
theorem dX11_isName_9 : decode cX11_isName 9 = .ok (.getfield 69, 3) := by decide +kernel
theorem dX11_isName_12 : decode cX11_isName 12 = .ok (.if_icmp .ne 7, 3) := by decide +kernel
theorem dX11_isName_15 : decode cX11_isName 15 = .ok (.iconst 1, 1) := by decide +kernel
theorem dX11_isName_16 : decode cX11_isName 16 = .ok (.goto 4, 3) := by decide +kernel
theorem dX11_isName_19 : decode cX11_isName 19 = .ok (.iconst 0, 1) := by decide +kernel
theorem dX11_isName_20 : decode cX11_isName 20 = .ok (.istore_n 2, 1) := by decide +kernel
theorem dX11_isName_21 : decode cX11_isName 21 = .ok (.iconst 0, 1) := by decide +kernel
theorem dX11_isName_22 : decode cX11_isName 22 = .ok (.istore_n 3, 1) := by decide +kernel
theorem dX11_isName_23 : decode cX11_isName 23 = .ok (.iload_n 3, 1) := by decide +kernel
theorem dX11_isName_24 : decode cX11_isName 24 = .ok (.aload_n 0, 1) := by decide +kernel
theorem dX11_isName_25 : decode cX11_isName 25 = .ok (.getfield 69, 3) := by decide +kernel
theorem dX11_isName_28 : decode cX11_isName 28 = .ok (.if_icmp .ge 38, 3) := by decide +kernel
theorem dX11_isName_31 : decode cX11_isName 31 = .ok (.iload_n 2, 1) := by decide +kernel
theorem dX11_isName_32 : decode cX11_isName 32 = .ok (.ifCond .eq 26, 3) := by decide +kernel
theorem dX11_isName_35 : decode cX11_isName 35 = .ok (.aload_n 0, 1) := by decide +kernel
theorem dX11_isName_36 : decode cX11_isName 36 = .ok (.getfield 13, 3) := by decide +kernel
theorem dX11_isName_39 : decode cX11_isName 39 = .ok (.iload_n 1, 1) := by decide +kernel
theorem dX11_isName_40 : decode cX11_isName 40 = .ok (.iconst 2, 1) := by decide +kernel
theorem dX11_isName_41 : decode cX11_isName 41 = .ok (.iadd, 1) := by decide +kernel
theorem dX11_isName_42 : decode cX11_isName 42 = .ok (.iload_n 3, 1) := by decide +kernel
theorem dX11_isName_43 : decode cX11_isName 43 = .ok (.iadd, 1) := by decide +kernel
theorem dX11_isName_44 : decode cX11_isName 44 = .ok (.iaload, 1) := by decide +kernel
theorem dX11_isName_45 : decode cX11_isName 45 = .ok (.aload_n 0, 1) := by decide +kernel
theorem dX11_isName_46 : decode cX11_isName 46 = .ok (.getfield 26, 3) := by decide +kernel
theorem dX11_isName_49 : decode cX11_isName 49 = .ok (.iload_n 3, 1) := by decide +kernel
theorem dX11_isName_50 : decode cX11_isName 50 = .ok (.iaload, 1) := by decide +kernel
theorem dX11_isName_51 : decode cX11_isName 51 = .ok (.if_icmp .ne 7, 3) := by decide +kernel
theorem dX11_isName_54 : decode cX11_isName 54 = .ok (.iconst 1, 1) := by decide +kernel
theorem dX11_isName_55 : decode cX11_isName 55 = .ok (.goto 4, 3) := by decide +kernel
theorem dX11_isName_58 : decode cX11_isName 58 = .ok (.iconst 0, 1) := by decide +kernel
theorem dX11_isName_59 : decode cX11_isName 59 = .ok (.istore_n 2, 1) := by decide +kernel
theorem dX11_isName_60 : decode cX11_isName 60 = .ok (.iinc 3 1, 3) := by decide +kernel
theorem dX11_isName_63 : decode cX11_isName 63 = .ok (.goto (-40), 3) := by decide +kernel
theorem dX11_isName_66 : decode cX11_isName 66 = .ok (.iload_n 2, 1) := by decide +kernel
theorem dX11_isName_67 : decode cX11_isName 67 = .ok (.ireturn, 1) := by decide +kernel
theorem dX11_find_0 : decode cX11_find 0 = .ok (.iconst 2, 1) := by decide +kernel
theorem dX11_find_1 : decode cX11_find 1 = .ok (.istore_n 3, 1) := by decide +kernel
theorem dX11_find_2 : decode cX11_find 2 = .ok (.iload_n 3, 1) := by decide +kernel
theorem dX11_find_3 : decode cX11_find 3 = .ok (.iload_n 2, 1) := by decide +kernel
theorem dX11_find_4 : decode cX11_find 4 = .ok (.if_icmp .ge 38, 3) := by decide +kernel
theorem dX11_find_7 : decode cX11_find 7 = .ok (.aload_n 0, 1) := by decide +kernel
theorem dX11_find_8 : decode cX11_find 8 = .ok (.getfield 13, 3) := by decide +kernel
theorem dX11_find_11 : decode cX11_find 11 = .ok (.aload_n 0, 1) := by decide +kernel
theorem dX11_find_12 : decode cX11_find 12 = .ok (.iload_n 1, 1) := by decide +kernel
theorem dX11_find_13 : decode cX11_find 13 = .ok (.iload_n 3, 1) := by decide +kernel
theorem dX11_find_14 : decode cX11_find 14 = .ok (.invokevirtual 73, 3) := by decide +kernel
theorem dX11_find_17 : decode cX11_find 17 = .ok (.iaload, 1) := by decide +kernel
theorem dX11_find_18 : decode cX11_find 18 = .ok (.ifCond .eq 18, 3) := by decide +kernel
theorem dX11_find_21 : decode cX11_find 21 = .ok (.aload_n 0, 1) := by decide +kernel
theorem dX11_find_22 : decode cX11_find 22 = .ok (.aload_n 0, 1) := by decide +kernel
theorem dX11_find_23 : decode cX11_find 23 = .ok (.iload_n 1, 1) := by decide +kernel
theorem dX11_find_24 : decode cX11_find 24 = .ok (.iload_n 3, 1) := by decide +kernel
theorem dX11_find_25 : decode cX11_find 25 = .ok (.invokevirtual 73, 3) := by decide +kernel
theorem dX11_find_28 : decode cX11_find 28 = .ok (.invokevirtual 76, 3) := by decide +kernel
theorem dX11_find_31 : decode cX11_find 31 = .ok (.ifCond .eq 5, 3) := by decide +kernel
theorem dX11_find_34 : decode cX11_find 34 = .ok (.iload_n 3, 1) := by decide +kernel
theorem dX11_find_35 : decode cX11_find 35 = .ok (.ireturn, 1) := by decide +kernel
theorem dX11_find_36 : decode cX11_find 36 = .ok (.iinc 3 1, 3) := by decide +kernel
theorem dX11_find_39 : decode cX11_find 39 = .ok (.goto (-37), 3) := by decide +kernel
theorem dX11_find_42 : decode cX11_find 42 = .ok (.iconst (-1), 1) := by decide +kernel
theorem dX11_find_43 : decode cX11_find 43 = .ok (.ireturn, 1) := by decide +kernel
theorem dX11_isValid_0 : decode cX11_isValid 0 = .ok (.aload_n 0, 1) := by decide +kernel
theorem dX11_isValid_1 : decode cX11_isValid 1 = .ok (.iload_n 1, 1) := by decide +kernel
theorem dX11_isValid_2 : decode cX11_isValid 2 = .ok (.iload_n 2, 1) := by decide +kernel
theorem dX11_isValid_3 : decode cX11_isValid 3 = .ok (.invokevirtual 73, 3) := by decide +kernel
theorem dX11_isValid_6 : decode cX11_isValid 6 = .ok (.istore_n 3, 1) := by decide +kernel
theorem dX11_isValid_7 : decode cX11_isValid 7 = .ok (.aload_n 0, 1) := by decide +kernel
theorem dX11_isValid_8 : decode cX11_isValid 8 = .ok (.getfield 13, 3) := by decide +kernel
theorem dX11_isValid_11 : decode cX11_isValid 11 = .ok (.iload_n 3, 1) := by decide +kernel
theorem dX11_isValid_12 : decode cX11_isValid 12 = .ok (.iaload, 1) := by decide +kernel
theorem dX11_isValid_13 : decode cX11_isValid 13 = .ok (.istore 4, 2) := by decide +kernel
theorem dX11_isValid_15 : decode cX11_isValid 15 = .ok (.aload_n 0, 1) := by decide +kernel
theorem dX11_isValid_16 : decode cX11_isValid 16 = .ok (.getfield 13, 3) := by decide +kernel
theorem dX11_isValid_19 : decode cX11_isValid 19 = .ok (.iload_n 3, 1) := by decide +kernel
theorem dX11_isValid_20 : decode cX11_isValid 20 = .ok (.iconst 1, 1) := by decide +kernel
theorem dX11_isValid_21 : decode cX11_isValid 21 = .ok (.iadd, 1) := by decide +kernel
theorem dX11_isValid_22 : decode cX11_isValid 22 = .ok (.iaload, 1) := by decide +kernel
theorem dX11_isValid_23 : decode cX11_isValid 23 = .ok (.istore 5, 2) := by decide +kernel
theorem dX11_isValid_25 : decode cX11_isValid 25 = .ok (.iload 4, 2) := by decide +kernel
theorem dX11_isValid_27 : decode cX11_isValid 27 = .ok (.iconst 3, 1) := by decide +kernel
theorem dX11_isValid_28 : decode cX11_isValid 28 = .ok (.if_icmp .lt 50, 3) := by decide +kernel
theorem dX11_isValid_31 : decode cX11_isValid 31 = .ok (.iload 4, 2) := by decide +kernel
theorem dX11_isValid_33 : decode cX11_isValid 33 = .ok (.bipush 32, 2) := by decide +kernel
theorem dX11_isValid_35 : decode cX11_isValid 35 = .ok (.if_icmp .ge 43, 3) := by decide +kernel
theorem dX11_isValid_38 : decode cX11_isValid 38 = .ok (.aload_n 0, 1) := by decide +kernel
theorem dX11_isValid_39 : decode cX11_isValid 39 = .ok (.iload 4, 2) := by decide +kernel
theorem dX11_isValid_41 : decode cX11_isValid 41 = .ok (.invokevirtual 62, 3) := by decide +kernel
theorem dX11_isValid_44 : decode cX11_isValid 44 = .ok (.ifCond .eq 34, 3) := by decide +kernel
theorem dX11_isValid_47 : decode cX11_isValid 47 = .ok (.iload 5, 2) := by decide +kernel
theorem dX11_isValid_49 : decode cX11_isValid 49 = .ok (.iconst 1, 1) := by decide +kernel
theorem dX11_isValid_50 : decode cX11_isValid 50 = .ok (.if_icmp .lt 28, 3) := by decide +kernel
theorem dX11_isValid_53 : decode cX11_isValid 53 = .ok (.iload 5, 2) := by decide +kernel
theorem dX11_isValid_55 : decode cX11_isValid 55 = .ok (.bipush 14, 2) := by decide +kernel
theorem dX11_isValid_57 : decode cX11_isValid 57 = .ok (.if_icmp .gt 21, 3) := by decide +kernel
theorem dX11_isValid_60 : decode cX11_isValid 60 = .ok (.aload_n 0, 1) := by decide +kernel
theorem dX11_isValid_61 : decode cX11_isValid 61 = .ok (.iload_n 3, 1) := by decide +kernel
theorem dX11_isValid_62 : decode cX11_isValid 62 = .ok (.iconst 2, 1) := by decide +kernel
theorem dX11_isValid_63 : decode cX11_isValid 63 = .ok (.iadd, 1) := by decide +kernel
theorem dX11_isValid_64 : decode cX11_isValid 64 = .ok (.iload 5, 2) := by decide +kernel
theorem dX11_isValid_66 : decode cX11_isValid 66 = .ok (.iadd, 1) := by decide +kernel
theorem dX11_isValid_67 : decode cX11_isValid 67 = .ok (.bipush 14, 2) := by decide +kernel
theorem dX11_isValid_69 : decode cX11_isValid 69 = .ok (.iload 5, 2) := by decide +kernel
theorem dX11_isValid_71 : decode cX11_isValid 71 = .ok (.isub, 1) := by decide +kernel
theorem dX11_isValid_72 : decode cX11_isValid 72 = .ok (.invokevirtual 48, 3) := by decide +kernel
theorem dX11_isValid_75 : decode cX11_isValid 75 = .ok (.ifCond .ne 5, 3) := by decide +kernel
theorem dX11_isValid_78 : decode cX11_isValid 78 = .ok (.iconst 0, 1) := by decide +kernel
theorem dX11_isValid_79 : decode cX11_isValid 79 = .ok (.ireturn, 1) := by decide +kernel
theorem dX11_isValid_80 : decode cX11_isValid 80 = .ok (.aload_n 0, 1) := by decide +kernel
theorem dX11_isValid_81 : decode cX11_isValid 81 = .ok (.iload 5, 2) := by decide +kernel
theorem dX11_isValid_83 : decode cX11_isValid 83 = .ok (.putfield 69, 3) := by decide +kernel
theorem dX11_isValid_86 : decode cX11_isValid 86 = .ok (.iconst 1, 1) := by decide +kernel
theorem dX11_isValid_87 : decode cX11_isValid 87 = .ok (.istore 6, 2) := by decide +kernel
theorem dX11_isValid_89 : decode cX11_isValid 89 = .ok (.iload 5, 2) := by decide +kernel
theorem dX11_isValid_91 : decode cX11_isValid 91 = .ok (.iconst 3, 1) := by decide +kernel
theorem dX11_isValid_92 : decode cX11_isValid 92 = .ok (.if_icmp .ge 7, 3) := by decide +kernel
theorem dX11_isValid_95 : decode cX11_isValid 95 = .ok (.iconst 1, 1) := by decide +kernel
theorem dX11_isValid_96 : decode cX11_isValid 96 = .ok (.goto 4, 3) := by decide +kernel
theorem dX11_isValid_99 : decode cX11_isValid 99 = .ok (.iconst 0, 1) := by decide +kernel
theorem dX11_isValid_100 : decode cX11_isValid 100 = .ok (.istore 7, 2) := by decide +kernel
theorem dX11_isValid_102 : decode cX11_isValid 102 = .ok (.iconst 0, 1) := by decide +kernel
theorem dX11_isValid_103 : decode cX11_isValid 103 = .ok (.istore 8, 2) := by decide +kernel
theorem dX11_isValid_105 : decode cX11_isValid 105 = .ok (.iload 8, 2) := by decide +kernel
theorem dX11_isValid_107 : decode cX11_isValid 107 = .ok (.iload 5, 2) := by decide +kernel
theorem dX11_isValid_109 : decode cX11_isValid 109 = .ok (.if_icmp .ge 85, 3) := by decide +kernel
theorem dX11_isValid_112 : decode cX11_isValid 112 = .ok (.aload_n 0, 1) := by decide +kernel
theorem dX11_isValid_113 : decode cX11_isValid 113 = .ok (.getfield 26, 3) := by decide +kernel
theorem dX11_isValid_116 : decode cX11_isValid 116 = .ok (.iload 8, 2) := by decide +kernel
theorem dX11_isValid_118 : decode cX11_isValid 118 = .ok (.aload_n 0, 1) := by decide +kernel
theorem dX11_isValid_119 : decode cX11_isValid 119 = .ok (.getfield 13, 3) := by decide +kernel
theorem dX11_isValid_122 : decode cX11_isValid 122 = .ok (.iload_n 3, 1) := by decide +kernel
theorem dX11_isValid_123 : decode cX11_isValid 123 = .ok (.iconst 2, 1) := by decide +kernel
theorem dX11_isValid_124 : decode cX11_isValid 124 = .ok (.iadd, 1) := by decide +kernel
theorem dX11_isValid_125 : decode cX11_isValid 125 = .ok (.iload 8, 2) := by decide +kernel
theorem dX11_isValid_127 : decode cX11_isValid 127 = .ok (.iadd, 1) := by decide +kernel
theorem dX11_isValid_128 : decode cX11_isValid 128 = .ok (.iaload, 1) := by decide +kernel
theorem dX11_isValid_129 : decode cX11_isValid 129 = .ok (.iastore, 1) := by decide +kernel
theorem dX11_isValid_130 : decode cX11_isValid 130 = .ok (.iload 6, 2) := by decide +kernel
theorem dX11_isValid_132 : decode cX11_isValid 132 = .ok (.ifCond .eq 29, 3) := by decide +kernel
theorem dX11_isValid_135 : decode cX11_isValid 135 = .ok (.aload_n 0, 1) := by decide +kernel
theorem dX11_isValid_136 : decode cX11_isValid 136 = .ok (.getfield 26, 3) := by decide +kernel
theorem dX11_isValid_139 : decode cX11_isValid 139 = .ok (.iload 8, 2) := by decide +kernel
theorem dX11_isValid_141 : decode cX11_isValid 141 = .ok (.iaload, 1) := by decide +kernel
theorem dX11_isValid_142 : decode cX11_isValid 142 = .ok (.ifCond .eq 19, 3) := by decide +kernel
theorem dX11_isValid_145 : decode cX11_isValid 145 = .ok (.aload_n 0, 1) := by decide +kernel
theorem dX11_isValid_146 : decode cX11_isValid 146 = .ok (.getfield 26, 3) := by decide +kernel
theorem dX11_isValid_149 : decode cX11_isValid 149 = .ok (.iload 8, 2) := by decide +kernel
theorem dX11_isValid_151 : decode cX11_isValid 151 = .ok (.iaload, 1) := by decide +kernel
theorem dX11_isValid_152 : decode cX11_isValid 152 = .ok (.bipush 47, 2) := by decide +kernel
theorem dX11_isValid_154 : decode cX11_isValid 154 = .ok (.if_icmp .eq 7, 3) := by decide +kernel
theorem dX11_isValid_157 : decode cX11_isValid 157 = .ok (.iconst 1, 1) := by decide +kernel
theorem dX11_isValid_158 : decode cX11_isValid 158 = .ok (.goto 4, 3) := by decide +kernel
theorem dX11_isValid_161 : decode cX11_isValid 161 = .ok (.iconst 0, 1) := by decide +kernel
theorem dX11_isValid_162 : decode cX11_isValid 162 = .ok (.istore 6, 2) := by decide +kernel
theorem dX11_isValid_164 : decode cX11_isValid 164 = .ok (.iload 7, 2) := by decide +kernel
theorem dX11_isValid_166 : decode cX11_isValid 166 = .ok (.ifCond .eq 19, 3) := by decide +kernel
theorem dX11_isValid_169 : decode cX11_isValid 169 = .ok (.aload_n 0, 1) := by decide +kernel
theorem dX11_isValid_170 : decode cX11_isValid 170 = .ok (.getfield 26, 3) := by decide +kernel
theorem dX11_isValid_173 : decode cX11_isValid 173 = .ok (.iload 8, 2) := by decide +kernel
theorem dX11_isValid_175 : decode cX11_isValid 175 = .ok (.iaload, 1) := by decide +kernel
theorem dX11_isValid_176 : decode cX11_isValid 176 = .ok (.bipush 46, 2) := by decide +kernel
theorem dX11_isValid_178 : decode cX11_isValid 178 = .ok (.if_icmp .ne 7, 3) := by decide +kernel
theorem dX11_isValid_181 : decode cX11_isValid 181 = .ok (.iconst 1, 1) := by decide +kernel
theorem dX11_isValid_182 : decode cX11_isValid 182 = .ok (.goto 4, 3) := by decide +kernel
theorem dX11_isValid_185 : decode cX11_isValid 185 = .ok (.iconst 0, 1) := by decide +kernel
theorem dX11_isValid_186 : decode cX11_isValid 186 = .ok (.istore 7, 2) := by decide +kernel
theorem dX11_isValid_188 : decode cX11_isValid 188 = .ok (.iinc 8 1, 3) := by decide +kernel
theorem dX11_isValid_191 : decode cX11_isValid 191 = .ok (.goto (-86), 3) := by decide +kernel
theorem dX11_isValid_194 : decode cX11_isValid 194 = .ok (.iload 6, 2) := by decide +kernel
theorem dX11_isValid_196 : decode cX11_isValid 196 = .ok (.ifCond .eq 22, 3) := by decide +kernel
theorem dX11_isValid_199 : decode cX11_isValid 199 = .ok (.iload 7, 2) := by decide +kernel
theorem dX11_isValid_201 : decode cX11_isValid 201 = .ok (.ifCond .ne 17, 3) := by decide +kernel
theorem dX11_isValid_204 : decode cX11_isValid 204 = .ok (.aload_n 0, 1) := by decide +kernel
theorem dX11_isValid_205 : decode cX11_isValid 205 = .ok (.iload_n 1, 1) := by decide +kernel
theorem dX11_isValid_206 : decode cX11_isValid 206 = .ok (.iload_n 2, 1) := by decide +kernel
theorem dX11_isValid_207 : decode cX11_isValid 207 = .ok (.invokevirtual 79, 3) := by decide +kernel
theorem dX11_isValid_210 : decode cX11_isValid 210 = .ok (.iconst (-1), 1) := by decide +kernel
theorem dX11_isValid_211 : decode cX11_isValid 211 = .ok (.if_icmp .ne 7, 3) := by decide +kernel
theorem dX11_isValid_214 : decode cX11_isValid 214 = .ok (.iconst 1, 1) := by decide +kernel
theorem dX11_isValid_215 : decode cX11_isValid 215 = .ok (.goto 4, 3) := by decide +kernel
theorem dX11_isValid_218 : decode cX11_isValid 218 = .ok (.iconst 0, 1) := by decide +kernel
theorem dX11_isValid_219 : decode cX11_isValid 219 = .ok (.ireturn, 1) := by decide +kernel
theorem dX11_lostName_0 : decode cX11_lostName 0 = .ok (.ldc 82, 2) := by decide +kernel
theorem dX11_lostName_2 : decode cX11_lostName 2 = .ok (.astore_n 1, 1) := by decide +kernel
theorem dX11_lostName_3 : decode cX11_lostName 3 = .ok (.aload_n 0, 1) := by decide +kernel
theorem dX11_lostName_4 : decode cX11_lostName 4 = .ok (.bipush 10, 2) := by decide +kernel
theorem dX11_lostName_6 : decode cX11_lostName 6 = .ok (.putfield 69, 3) := by decide +kernel
theorem dX11_lostName_9 : decode cX11_lostName 9 = .ok (.iconst 0, 1) := by decide +kernel
theorem dX11_lostName_10 : decode cX11_lostName 10 = .ok (.istore_n 2, 1) := by decide +kernel
theorem dX11_lostName_11 : decode cX11_lostName 11 = .ok (.iload_n 2, 1) := by decide +kernel
theorem dX11_lostName_12 : decode cX11_lostName 12 = .ok (.bipush 10, 2) := by decide +kernel
theorem dX11_lostName_14 : decode cX11_lostName 14 = .ok (.if_icmp .ge 20, 3) := by decide +kernel
theorem dX11_lostName_17 : decode cX11_lostName 17 = .ok (.aload_n 0, 1) := by decide +kernel
theorem dX11_lostName_18 : decode cX11_lostName 18 = .ok (.getfield 26, 3) := by decide +kernel
theorem dX11_lostName_21 : decode cX11_lostName 21 = .ok (.iload_n 2, 1) := by decide +kernel
theorem dX11_lostName_22 : decode cX11_lostName 22 = .ok (.aload_n 1, 1) := by decide +kernel
theorem dX11_lostName_23 : decode cX11_lostName 23 = .ok (.iload_n 2, 1) := by decide +kernel
theorem dX11_lostName_24 : decode cX11_lostName 24 = .ok (.invokevirtual 84, 3) := by decide +kernel
theorem dX11_lostName_27 : decode cX11_lostName 27 = .ok (.iastore, 1) := by decide +kernel
theorem dX11_lostName_28 : decode cX11_lostName 28 = .ok (.iinc 2 1, 3) := by decide +kernel
theorem dX11_lostName_31 : decode cX11_lostName 31 = .ok (.goto (-20), 3) := by decide +kernel
theorem dX11_lostName_34 : decode cX11_lostName 34 = .ok (.return_, 1) := by decide +kernel
theorem dX11_replay_0 : decode cX11_replay 0 = .ok (.aload_n 0, 1) := by decide +kernel
theorem dX11_replay_1 : decode cX11_replay 1 = .ok (.getfield 13, 3) := by decide +kernel
theorem dX11_replay_4 : decode cX11_replay 4 = .ok (.bipush 68, 2) := by decide +kernel
theorem dX11_replay_6 : decode cX11_replay 6 = .ok (.iaload, 1) := by decide +kernel
theorem dX11_replay_7 : decode cX11_replay 7 = .ok (.istore_n 1, 1) := by decide +kernel
theorem dX11_replay_8 : decode cX11_replay 8 = .ok (.aload_n 0, 1) := by decide +kernel
theorem dX11_replay_9 : decode cX11_replay 9 = .ok (.bipush 64, 2) := by decide +kernel
theorem dX11_replay_11 : decode cX11_replay 11 = .ok (.bipush 74, 2) := by decide +kernel
theorem dX11_replay_13 : decode cX11_replay 13 = .ok (.bipush 82, 2) := by decide +kernel
theorem dX11_replay_15 : decode cX11_replay 15 = .ok (.bipush 78, 2) := by decide +kernel
theorem dX11_replay_17 : decode cX11_replay 17 = .ok (.bipush 76, 2) := by decide +kernel
theorem dX11_replay_19 : decode cX11_replay 19 = .ok (.invokevirtual 30, 3) := by decide +kernel
theorem dX11_replay_22 : decode cX11_replay 22 = .ok (.ifCond .eq 17, 3) := by decide +kernel
theorem dX11_replay_25 : decode cX11_replay 25 = .ok (.iload_n 1, 1) := by decide +kernel
theorem dX11_replay_26 : decode cX11_replay 26 = .ok (.iconst 1, 1) := by decide +kernel
theorem dX11_replay_27 : decode cX11_replay 27 = .ok (.if_icmp .lt 12, 3) := by decide +kernel
theorem dX11_replay_30 : decode cX11_replay 30 = .ok (.iload_n 1, 1) := by decide +kernel
theorem dX11_replay_31 : decode cX11_replay 31 = .ok (.iconst 5, 1) := by decide +kernel
theorem dX11_replay_32 : decode cX11_replay 32 = .ok (.if_icmp .gt 7, 3) := by decide +kernel
theorem dX11_replay_35 : decode cX11_replay 35 = .ok (.iconst 1, 1) := by decide +kernel
theorem dX11_replay_36 : decode cX11_replay 36 = .ok (.goto 4, 3) := by decide +kernel
theorem dX11_replay_39 : decode cX11_replay 39 = .ok (.iconst 0, 1) := by decide +kernel
theorem dX11_replay_40 : decode cX11_replay 40 = .ok (.istore_n 2, 1) := by decide +kernel
theorem dX11_replay_41 : decode cX11_replay 41 = .ok (.iload_n 2, 1) := by decide +kernel
theorem dX11_replay_42 : decode cX11_replay 42 = .ok (.ifCond .eq 144, 3) := by decide +kernel
theorem dX11_replay_45 : decode cX11_replay 45 = .ok (.aload_n 0, 1) := by decide +kernel
theorem dX11_replay_46 : decode cX11_replay 46 = .ok (.bipush 69, 2) := by decide +kernel
theorem dX11_replay_48 : decode cX11_replay 48 = .ok (.iload_n 1, 1) := by decide +kernel
theorem dX11_replay_49 : decode cX11_replay 49 = .ok (.iadd, 1) := by decide +kernel
theorem dX11_replay_50 : decode cX11_replay 50 = .ok (.bipush 57, 2) := by decide +kernel
theorem dX11_replay_52 : decode cX11_replay 52 = .ok (.iload_n 1, 1) := by decide +kernel
theorem dX11_replay_53 : decode cX11_replay 53 = .ok (.isub, 1) := by decide +kernel
theorem dX11_replay_54 : decode cX11_replay 54 = .ok (.invokevirtual 48, 3) := by decide +kernel
theorem dX11_replay_57 : decode cX11_replay 57 = .ok (.ifCond .eq 39, 3) := by decide +kernel
theorem dX11_replay_60 : decode cX11_replay 60 = .ok (.aload_n 0, 1) := by decide +kernel
theorem dX11_replay_61 : decode cX11_replay 61 = .ok (.bipush 126, 2) := by decide +kernel
theorem dX11_replay_63 : decode cX11_replay 63 = .ok (.invokevirtual 34, 3) := by decide +kernel
theorem dX11_replay_66 : decode cX11_replay 66 = .ok (.aload_n 0, 1) := by decide +kernel
theorem dX11_replay_67 : decode cX11_replay 67 = .ok (.bipush 64, 2) := by decide +kernel
theorem dX11_replay_69 : decode cX11_replay 69 = .ok (.bipush 62, 2) := by decide +kernel
theorem dX11_replay_71 : decode cX11_replay 71 = .ok (.invokevirtual 38, 3) := by decide +kernel
theorem dX11_replay_74 : decode cX11_replay 74 = .ok (.aload_n 0, 1) := by decide +kernel
theorem dX11_replay_75 : decode cX11_replay 75 = .ok (.sipush 128, 3) := by decide +kernel
theorem dX11_replay_78 : decode cX11_replay 78 = .ok (.iload_n 1, 1) := by decide +kernel
theorem dX11_replay_79 : decode cX11_replay 79 = .ok (.bipush 64, 2) := by decide +kernel
theorem dX11_replay_81 : decode cX11_replay 81 = .ok (.imul, 1) := by decide +kernel
theorem dX11_replay_82 : decode cX11_replay 82 = .ok (.invokevirtual 38, 3) := by decide +kernel
theorem dX11_replay_85 : decode cX11_replay 85 = .ok (.iadd, 1) := by decide +kernel
theorem dX11_replay_86 : decode cX11_replay 86 = .ok (.ldc 29, 2) := by decide +kernel
theorem dX11_replay_88 : decode cX11_replay 88 = .ok (.irem, 1) := by decide +kernel
theorem dX11_replay_89 : decode cX11_replay 89 = .ok (.if_icmp .ne 7, 3) := by decide +kernel
theorem dX11_replay_92 : decode cX11_replay 92 = .ok (.iconst 1, 1) := by decide +kernel
theorem dX11_replay_93 : decode cX11_replay 93 = .ok (.goto 4, 3) := by decide +kernel
theorem dX11_replay_96 : decode cX11_replay 96 = .ok (.iconst 0, 1) := by decide +kernel
theorem dX11_replay_97 : decode cX11_replay 97 = .ok (.istore_n 2, 1) := by decide +kernel
theorem dX11_replay_98 : decode cX11_replay 98 = .ok (.iconst 0, 1) := by decide +kernel
theorem dX11_replay_99 : decode cX11_replay 99 = .ok (.istore_n 3, 1) := by decide +kernel
theorem dX11_replay_100 : decode cX11_replay 100 = .ok (.iload_n 3, 1) := by decide +kernel
theorem dX11_replay_101 : decode cX11_replay 101 = .ok (.iload_n 1, 1) := by decide +kernel
theorem dX11_replay_102 : decode cX11_replay 102 = .ok (.if_icmp .ge 84, 3) := by decide +kernel
theorem dX11_replay_105 : decode cX11_replay 105 = .ok (.aload_n 0, 1) := by decide +kernel
theorem dX11_replay_106 : decode cX11_replay 106 = .ok (.getfield 13, 3) := by decide +kernel
theorem dX11_replay_109 : decode cX11_replay 109 = .ok (.bipush 69, 2) := by decide +kernel
theorem dX11_replay_111 : decode cX11_replay 111 = .ok (.iload_n 3, 1) := by decide +kernel
theorem dX11_replay_112 : decode cX11_replay 112 = .ok (.iadd, 1) := by decide +kernel
theorem dX11_replay_113 : decode cX11_replay 113 = .ok (.iaload, 1) := by decide +kernel
theorem dX11_replay_114 : decode cX11_replay 114 = .ok (.istore 4, 2) := by decide +kernel
theorem dX11_replay_116 : decode cX11_replay 116 = .ok (.iload_n 2, 1) := by decide +kernel
theorem dX11_replay_117 : decode cX11_replay 117 = .ok (.ifCond .eq 21, 3) := by decide +kernel
theorem dX11_replay_120 : decode cX11_replay 120 = .ok (.iload 4, 2) := by decide +kernel
theorem dX11_replay_122 : decode cX11_replay 122 = .ok (.bipush 7, 2) := by decide +kernel
theorem dX11_replay_124 : decode cX11_replay 124 = .ok (.if_icmp .lt 14, 3) := by decide +kernel
theorem dX11_replay_127 : decode cX11_replay 127 = .ok (.iload 4, 2) := by decide +kernel
theorem dX11_replay_129 : decode cX11_replay 129 = .ok (.bipush 63, 2) := by decide +kernel
theorem dX11_replay_131 : decode cX11_replay 131 = .ok (.if_icmp .ge 7, 3) := by decide +kernel
theorem dX11_replay_134 : decode cX11_replay 134 = .ok (.iconst 1, 1) := by decide +kernel
theorem dX11_replay_135 : decode cX11_replay 135 = .ok (.goto 4, 3) := by decide +kernel
theorem dX11_replay_138 : decode cX11_replay 138 = .ok (.iconst 0, 1) := by decide +kernel
theorem dX11_replay_139 : decode cX11_replay 139 = .ok (.istore_n 2, 1) := by decide +kernel
theorem dX11_replay_140 : decode cX11_replay 140 = .ok (.iconst 0, 1) := by decide +kernel
theorem dX11_replay_141 : decode cX11_replay 141 = .ok (.istore 5, 2) := by decide +kernel
theorem dX11_replay_143 : decode cX11_replay 143 = .ok (.iload 5, 2) := by decide +kernel
theorem dX11_replay_145 : decode cX11_replay 145 = .ok (.iload_n 3, 1) := by decide +kernel
theorem dX11_replay_146 : decode cX11_replay 146 = .ok (.if_icmp .ge 34, 3) := by decide +kernel
theorem dX11_replay_149 : decode cX11_replay 149 = .ok (.iload_n 2, 1) := by decide +kernel
theorem dX11_replay_150 : decode cX11_replay 150 = .ok (.ifCond .eq 22, 3) := by decide +kernel
theorem dX11_replay_153 : decode cX11_replay 153 = .ok (.aload_n 0, 1) := by decide +kernel
theorem dX11_replay_154 : decode cX11_replay 154 = .ok (.getfield 13, 3) := by decide +kernel
theorem dX11_replay_157 : decode cX11_replay 157 = .ok (.bipush 69, 2) := by decide +kernel
theorem dX11_replay_159 : decode cX11_replay 159 = .ok (.iload 5, 2) := by decide +kernel
theorem dX11_replay_161 : decode cX11_replay 161 = .ok (.iadd, 1) := by decide +kernel
theorem dX11_replay_162 : decode cX11_replay 162 = .ok (.iaload, 1) := by decide +kernel
theorem dX11_replay_163 : decode cX11_replay 163 = .ok (.iload 4, 2) := by decide +kernel
theorem dX11_replay_165 : decode cX11_replay 165 = .ok (.if_icmp .eq 7, 3) := by decide +kernel
theorem dX11_replay_168 : decode cX11_replay 168 = .ok (.iconst 1, 1) := by decide +kernel
theorem dX11_replay_169 : decode cX11_replay 169 = .ok (.goto 4, 3) := by decide +kernel
theorem dX11_replay_172 : decode cX11_replay 172 = .ok (.iconst 0, 1) := by decide +kernel
theorem dX11_replay_173 : decode cX11_replay 173 = .ok (.istore_n 2, 1) := by decide +kernel
theorem dX11_replay_174 : decode cX11_replay 174 = .ok (.iinc 5 1, 3) := by decide +kernel
theorem dX11_replay_177 : decode cX11_replay 177 = .ok (.goto (-34), 3) := by decide +kernel
theorem dX11_replay_180 : decode cX11_replay 180 = .ok (.iinc 3 1, 3) := by decide +kernel
theorem dX11_replay_183 : decode cX11_replay 183 = .ok (.goto (-83), 3) := by decide +kernel
theorem dX11_replay_186 : decode cX11_replay 186 = .ok (.iconst 0, 1) := by decide +kernel
theorem dX11_replay_187 : decode cX11_replay 187 = .ok (.istore_n 3, 1) := by decide +kernel
theorem dX11_replay_188 : decode cX11_replay 188 = .ok (.iload_n 3, 1) := by decide +kernel
theorem dX11_replay_189 : decode cX11_replay 189 = .ok (.iload_n 1, 1) := by decide +kernel
theorem dX11_replay_190 : decode cX11_replay 190 = .ok (.if_icmp .ge 67, 3) := by decide +kernel
theorem dX11_replay_193 : decode cX11_replay 193 = .ok (.iload_n 2, 1) := by decide +kernel
theorem dX11_replay_194 : decode cX11_replay 194 = .ok (.ifCond .eq 63, 3) := by decide +kernel
theorem dX11_replay_197 : decode cX11_replay 197 = .ok (.aload_n 0, 1) := by decide +kernel
theorem dX11_replay_198 : decode cX11_replay 198 = .ok (.getfield 13, 3) := by decide +kernel
theorem dX11_replay_201 : decode cX11_replay 201 = .ok (.bipush 69, 2) := by decide +kernel
theorem dX11_replay_203 : decode cX11_replay 203 = .ok (.iload_n 3, 1) := by decide +kernel
theorem dX11_replay_204 : decode cX11_replay 204 = .ok (.iadd, 1) := by decide +kernel
theorem dX11_replay_205 : decode cX11_replay 205 = .ok (.iaload, 1) := by decide +kernel
theorem dX11_replay_206 : decode cX11_replay 206 = .ok (.istore 4, 2) := by decide +kernel
theorem dX11_replay_208 : decode cX11_replay 208 = .ok (.iconst 0, 1) := by decide +kernel
theorem dX11_replay_209 : decode cX11_replay 209 = .ok (.istore 5, 2) := by decide +kernel
theorem dX11_replay_211 : decode cX11_replay 211 = .ok (.iload 5, 2) := by decide +kernel
theorem dX11_replay_213 : decode cX11_replay 213 = .ok (.bipush 64, 2) := by decide +kernel
theorem dX11_replay_215 : decode cX11_replay 215 = .ok (.if_icmp .ge 36, 3) := by decide +kernel
theorem dX11_replay_218 : decode cX11_replay 218 = .ok (.aload_n 0, 1) := by decide +kernel
theorem dX11_replay_219 : decode cX11_replay 219 = .ok (.getfield 13, 3) := by decide +kernel
theorem dX11_replay_222 : decode cX11_replay 222 = .ok (.bipush 64, 2) := by decide +kernel
theorem dX11_replay_224 : decode cX11_replay 224 = .ok (.iload 4, 2) := by decide +kernel
theorem dX11_replay_226 : decode cX11_replay 226 = .ok (.imul, 1) := by decide +kernel
theorem dX11_replay_227 : decode cX11_replay 227 = .ok (.iload 5, 2) := by decide +kernel
theorem dX11_replay_229 : decode cX11_replay 229 = .ok (.iadd, 1) := by decide +kernel
theorem dX11_replay_230 : decode cX11_replay 230 = .ok (.aload_n 0, 1) := by decide +kernel
theorem dX11_replay_231 : decode cX11_replay 231 = .ok (.getfield 13, 3) := by decide +kernel
theorem dX11_replay_234 : decode cX11_replay 234 = .ok (.bipush 64, 2) := by decide +kernel
theorem dX11_replay_236 : decode cX11_replay 236 = .ok (.iconst 2, 1) := by decide +kernel
theorem dX11_replay_237 : decode cX11_replay 237 = .ok (.iload_n 3, 1) := by decide +kernel
theorem dX11_replay_238 : decode cX11_replay 238 = .ok (.iadd, 1) := by decide +kernel
theorem dX11_replay_239 : decode cX11_replay 239 = .ok (.imul, 1) := by decide +kernel
theorem dX11_replay_240 : decode cX11_replay 240 = .ok (.iload 5, 2) := by decide +kernel
theorem dX11_replay_242 : decode cX11_replay 242 = .ok (.iadd, 1) := by decide +kernel
theorem dX11_replay_243 : decode cX11_replay 243 = .ok (.iaload, 1) := by decide +kernel
theorem dX11_replay_244 : decode cX11_replay 244 = .ok (.iastore, 1) := by decide +kernel
theorem dX11_replay_245 : decode cX11_replay 245 = .ok (.iinc 5 1, 3) := by decide +kernel
theorem dX11_replay_248 : decode cX11_replay 248 = .ok (.goto (-37), 3) := by decide +kernel
theorem dX11_replay_251 : decode cX11_replay 251 = .ok (.iinc 3 1, 3) := by decide +kernel
theorem dX11_replay_254 : decode cX11_replay 254 = .ok (.goto (-66), 3) := by decide +kernel
theorem dX11_replay_257 : decode cX11_replay 257 = .ok (.aload_n 0, 1) := by decide +kernel
theorem dX11_replay_258 : decode cX11_replay 258 = .ok (.bipush 64, 2) := by decide +kernel
theorem dX11_replay_260 : decode cX11_replay 260 = .ok (.bipush 64, 2) := by decide +kernel
theorem dX11_replay_262 : decode cX11_replay 262 = .ok (.invokevirtual 65, 3) := by decide +kernel
theorem dX11_replay_265 : decode cX11_replay 265 = .ok (.return_, 1) := by decide +kernel
theorem dX11_inodes_0 : decode cX11_inodes 0 = .ok (.iconst 0, 1) := by decide +kernel
theorem dX11_inodes_1 : decode cX11_inodes 1 = .ok (.istore_n 1, 1) := by decide +kernel
theorem dX11_inodes_2 : decode cX11_inodes 2 = .ok (.iload_n 1, 1) := by decide +kernel
theorem dX11_inodes_3 : decode cX11_inodes 3 = .ok (.bipush 64, 2) := by decide +kernel
theorem dX11_inodes_5 : decode cX11_inodes 5 = .ok (.if_icmp .ge 16, 3) := by decide +kernel
theorem dX11_inodes_8 : decode cX11_inodes 8 = .ok (.aload_n 0, 1) := by decide +kernel
theorem dX11_inodes_9 : decode cX11_inodes 9 = .ok (.getfield 16, 3) := by decide +kernel
theorem dX11_inodes_12 : decode cX11_inodes 12 = .ok (.iload_n 1, 1) := by decide +kernel
theorem dX11_inodes_13 : decode cX11_inodes 13 = .ok (.iconst 0, 1) := by decide +kernel
theorem dX11_inodes_14 : decode cX11_inodes 14 = .ok (.bastore, 1) := by decide +kernel
theorem dX11_inodes_15 : decode cX11_inodes 15 = .ok (.iinc 1 1, 3) := by decide +kernel
theorem dX11_inodes_18 : decode cX11_inodes 18 = .ok (.goto (-16), 3) := by decide +kernel
theorem dX11_inodes_21 : decode cX11_inodes 21 = .ok (.aload_n 0, 1) := by decide +kernel
theorem dX11_inodes_22 : decode cX11_inodes 22 = .ok (.iconst 0, 1) := by decide +kernel
theorem dX11_inodes_23 : decode cX11_inodes 23 = .ok (.invokestatic 42, 3) := by decide +kernel
theorem dX11_inodes_26 : decode cX11_inodes 26 = .ok (.bipush 16, 2) := by decide +kernel
theorem dX11_inodes_28 : decode cX11_inodes 28 = .ok (.invokevirtual 65, 3) := by decide +kernel
theorem dX11_inodes_31 : decode cX11_inodes 31 = .ok (.iconst 1, 1) := by decide +kernel
theorem dX11_inodes_32 : decode cX11_inodes 32 = .ok (.istore_n 1, 1) := by decide +kernel
theorem dX11_inodes_33 : decode cX11_inodes 33 = .ok (.iload_n 1, 1) := by decide +kernel
theorem dX11_inodes_34 : decode cX11_inodes 34 = .ok (.bipush 32, 2) := by decide +kernel
theorem dX11_inodes_36 : decode cX11_inodes 36 = .ok (.if_icmp .ge 27, 3) := by decide +kernel
theorem dX11_inodes_39 : decode cX11_inodes 39 = .ok (.aload_n 0, 1) := by decide +kernel
theorem dX11_inodes_40 : decode cX11_inodes 40 = .ok (.iload_n 1, 1) := by decide +kernel
theorem dX11_inodes_41 : decode cX11_inodes 41 = .ok (.invokevirtual 90, 3) := by decide +kernel
theorem dX11_inodes_44 : decode cX11_inodes 44 = .ok (.ifCond .ne 13, 3) := by decide +kernel
theorem dX11_inodes_47 : decode cX11_inodes 47 = .ok (.aload_n 0, 1) := by decide +kernel
theorem dX11_inodes_48 : decode cX11_inodes 48 = .ok (.iload_n 1, 1) := by decide +kernel
theorem dX11_inodes_49 : decode cX11_inodes 49 = .ok (.invokestatic 42, 3) := by decide +kernel
theorem dX11_inodes_52 : decode cX11_inodes 52 = .ok (.bipush 16, 2) := by decide +kernel
theorem dX11_inodes_54 : decode cX11_inodes 54 = .ok (.invokevirtual 65, 3) := by decide +kernel
theorem dX11_inodes_57 : decode cX11_inodes 57 = .ok (.iinc 1 1, 3) := by decide +kernel
theorem dX11_inodes_60 : decode cX11_inodes 60 = .ok (.goto (-27), 3) := by decide +kernel
theorem dX11_inodes_63 : decode cX11_inodes 63 = .ok (.iconst 1, 1) := by decide +kernel
theorem dX11_inodes_64 : decode cX11_inodes 64 = .ok (.istore_n 1, 1) := by decide +kernel
theorem dX11_inodes_65 : decode cX11_inodes 65 = .ok (.iload_n 1, 1) := by decide +kernel
theorem dX11_inodes_66 : decode cX11_inodes 66 = .ok (.iconst 2, 1) := by decide +kernel
theorem dX11_inodes_67 : decode cX11_inodes 67 = .ok (.if_icmp .gt 22, 3) := by decide +kernel
theorem dX11_inodes_70 : decode cX11_inodes 70 = .ok (.aload_n 0, 1) := by decide +kernel
theorem dX11_inodes_71 : decode cX11_inodes 71 = .ok (.iload_n 1, 1) := by decide +kernel
theorem dX11_inodes_72 : decode cX11_inodes 72 = .ok (.invokevirtual 62, 3) := by decide +kernel
theorem dX11_inodes_75 : decode cX11_inodes 75 = .ok (.ifCond .ne 8, 3) := by decide +kernel
theorem dX11_inodes_78 : decode cX11_inodes 78 = .ok (.aload_n 0, 1) := by decide +kernel
theorem dX11_inodes_79 : decode cX11_inodes 79 = .ok (.iload_n 1, 1) := by decide +kernel
theorem dX11_inodes_80 : decode cX11_inodes 80 = .ok (.invokevirtual 93, 3) := by decide +kernel
theorem dX11_inodes_83 : decode cX11_inodes 83 = .ok (.iinc 1 1, 3) := by decide +kernel
theorem dX11_inodes_86 : decode cX11_inodes 86 = .ok (.goto (-21), 3) := by decide +kernel
theorem dX11_inodes_89 : decode cX11_inodes 89 = .ok (.return_, 1) := by decide +kernel
theorem dX11_make_0 : decode cX11_make 0 = .ok (.aload_n 0, 1) := by decide +kernel
theorem dX11_make_1 : decode cX11_make 1 = .ok (.iconst 0, 1) := by decide +kernel
theorem dX11_make_2 : decode cX11_make 2 = .ok (.invokevirtual 97, 3) := by decide +kernel
theorem dX11_make_5 : decode cX11_make 5 = .ok (.istore_n 2, 1) := by decide +kernel
theorem dX11_make_6 : decode cX11_make 6 = .ok (.bipush 31, 2) := by decide +kernel
theorem dX11_make_8 : decode cX11_make 8 = .ok (.istore_n 3, 1) := by decide +kernel
theorem dX11_make_9 : decode cX11_make 9 = .ok (.iload_n 3, 1) := by decide +kernel
theorem dX11_make_10 : decode cX11_make 10 = .ok (.iconst 1, 1) := by decide +kernel
theorem dX11_make_11 : decode cX11_make 11 = .ok (.if_icmp .le 38, 3) := by decide +kernel
theorem dX11_make_14 : decode cX11_make 14 = .ok (.iload_n 2, 1) := by decide +kernel
theorem dX11_make_15 : decode cX11_make 15 = .ok (.iconst (-1), 1) := by decide +kernel
theorem dX11_make_16 : decode cX11_make 16 = .ok (.if_icmp .ne 33, 3) := by decide +kernel
theorem dX11_make_19 : decode cX11_make 19 = .ok (.aload_n 0, 1) := by decide +kernel
theorem dX11_make_20 : decode cX11_make 20 = .ok (.iload_n 3, 1) := by decide +kernel
theorem dX11_make_21 : decode cX11_make 21 = .ok (.invokevirtual 62, 3) := by decide +kernel
theorem dX11_make_24 : decode cX11_make 24 = .ok (.ifCond .le 19, 3) := by decide +kernel
theorem dX11_make_27 : decode cX11_make 27 = .ok (.aload_n 0, 1) := by decide +kernel
theorem dX11_make_28 : decode cX11_make 28 = .ok (.iload_n 3, 1) := by decide +kernel
theorem dX11_make_29 : decode cX11_make 29 = .ok (.invokestatic 42, 3) := by decide +kernel
theorem dX11_make_32 : decode cX11_make 32 = .ok (.bipush 16, 2) := by decide +kernel
theorem dX11_make_34 : decode cX11_make 34 = .ok (.invokevirtual 65, 3) := by decide +kernel
theorem dX11_make_37 : decode cX11_make 37 = .ok (.aload_n 0, 1) := by decide +kernel
theorem dX11_make_38 : decode cX11_make 38 = .ok (.iconst 0, 1) := by decide +kernel
theorem dX11_make_39 : decode cX11_make 39 = .ok (.invokevirtual 97, 3) := by decide +kernel
theorem dX11_make_42 : decode cX11_make 42 = .ok (.istore_n 2, 1) := by decide +kernel
theorem dX11_make_43 : decode cX11_make 43 = .ok (.iinc 3 (-1), 3) := by decide +kernel
theorem dX11_make_46 : decode cX11_make 46 = .ok (.goto (-37), 3) := by decide +kernel
theorem dX11_make_49 : decode cX11_make 49 = .ok (.iload_n 2, 1) := by decide +kernel
theorem dX11_make_50 : decode cX11_make 50 = .ok (.iconst (-1), 1) := by decide +kernel
theorem dX11_make_51 : decode cX11_make 51 = .ok (.if_icmp .eq 9, 3) := by decide +kernel
theorem dX11_make_54 : decode cX11_make 54 = .ok (.aload_n 0, 1) := by decide +kernel
theorem dX11_make_55 : decode cX11_make 55 = .ok (.iload_n 1, 1) := by decide +kernel
theorem dX11_make_56 : decode cX11_make 56 = .ok (.iload_n 2, 1) := by decide +kernel
theorem dX11_make_57 : decode cX11_make 57 = .ok (.invokevirtual 100, 3) := by decide +kernel
theorem dX11_make_60 : decode cX11_make 60 = .ok (.return_, 1) := by decide +kernel
theorem dX11_directory_0 : decode cX11_directory 0 = .ok (.aload_n 0, 1) := by decide +kernel
theorem dX11_directory_1 : decode cX11_directory 1 = .ok (.getfield 13, 3) := by decide +kernel
theorem dX11_directory_4 : decode cX11_directory 4 = .ok (.iload_n 1, 1) := by decide +kernel
theorem dX11_directory_5 : decode cX11_directory 5 = .ok (.invokestatic 42, 3) := by decide +kernel
theorem dX11_directory_8 : decode cX11_directory 8 = .ok (.iconst 2, 1) := by decide +kernel
theorem dX11_directory_9 : decode cX11_directory 9 = .ok (.iastore, 1) := by decide +kernel
theorem dX11_directory_10 : decode cX11_directory 10 = .ok (.aload_n 0, 1) := by decide +kernel
theorem dX11_directory_11 : decode cX11_directory 11 = .ok (.iload_n 1, 1) := by decide +kernel
theorem dX11_directory_12 : decode cX11_directory 12 = .ok (.invokestatic 42, 3) := by decide +kernel
theorem dX11_directory_15 : decode cX11_directory 15 = .ok (.iconst 2, 1) := by decide +kernel
theorem dX11_directory_16 : decode cX11_directory 16 = .ok (.iadd, 1) := by decide +kernel
theorem dX11_directory_17 : decode cX11_directory 17 = .ok (.bipush 64, 2) := by decide +kernel
theorem dX11_directory_19 : decode cX11_directory 19 = .ok (.invokevirtual 103, 3) := by decide +kernel
theorem dX11_directory_22 : decode cX11_directory 22 = .ok (.aload_n 0, 1) := by decide +kernel
theorem dX11_directory_23 : decode cX11_directory 23 = .ok (.getfield 13, 3) := by decide +kernel
theorem dX11_directory_26 : decode cX11_directory 26 = .ok (.iload_n 1, 1) := by decide +kernel
theorem dX11_directory_27 : decode cX11_directory 27 = .ok (.invokestatic 42, 3) := by decide +kernel
theorem dX11_directory_30 : decode cX11_directory 30 = .ok (.iconst 4, 1) := by decide +kernel
theorem dX11_directory_31 : decode cX11_directory 31 = .ok (.iadd, 1) := by decide +kernel
theorem dX11_directory_32 : decode cX11_directory 32 = .ok (.iload_n 2, 1) := by decide +kernel
theorem dX11_directory_33 : decode cX11_directory 33 = .ok (.iastore, 1) := by decide +kernel
theorem dX11_directory_34 : decode cX11_directory 34 = .ok (.aload_n 0, 1) := by decide +kernel
theorem dX11_directory_35 : decode cX11_directory 35 = .ok (.bipush 64, 2) := by decide +kernel
theorem dX11_directory_37 : decode cX11_directory 37 = .ok (.iload_n 2, 1) := by decide +kernel
theorem dX11_directory_38 : decode cX11_directory 38 = .ok (.imul, 1) := by decide +kernel
theorem dX11_directory_39 : decode cX11_directory 39 = .ok (.bipush 64, 2) := by decide +kernel
theorem dX11_directory_41 : decode cX11_directory 41 = .ok (.invokevirtual 65, 3) := by decide +kernel
theorem dX11_directory_44 : decode cX11_directory 44 = .ok (.return_, 1) := by decide +kernel
theorem dX11_entries_0 : decode cX11_entries 0 = .ok (.iconst 1, 1) := by decide +kernel
theorem dX11_entries_1 : decode cX11_entries 1 = .ok (.istore_n 1, 1) := by decide +kernel
theorem dX11_entries_2 : decode cX11_entries 2 = .ok (.iload_n 1, 1) := by decide +kernel
theorem dX11_entries_3 : decode cX11_entries 3 = .ok (.bipush 32, 2) := by decide +kernel
theorem dX11_entries_5 : decode cX11_entries 5 = .ok (.if_icmp .ge 110, 3) := by decide +kernel
theorem dX11_entries_8 : decode cX11_entries 8 = .ok (.iconst 0, 1) := by decide +kernel
theorem dX11_entries_9 : decode cX11_entries 9 = .ok (.istore_n 2, 1) := by decide +kernel
theorem dX11_entries_10 : decode cX11_entries 10 = .ok (.aload_n 0, 1) := by decide +kernel
theorem dX11_entries_11 : decode cX11_entries 11 = .ok (.iload_n 1, 1) := by decide +kernel
theorem dX11_entries_12 : decode cX11_entries 12 = .ok (.invokevirtual 62, 3) := by decide +kernel
theorem dX11_entries_15 : decode cX11_entries 15 = .ok (.iconst 2, 1) := by decide +kernel
theorem dX11_entries_16 : decode cX11_entries 16 = .ok (.if_icmp .ne 93, 3) := by decide +kernel
theorem dX11_entries_19 : decode cX11_entries 19 = .ok (.iload_n 2, 1) := by decide +kernel
theorem dX11_entries_20 : decode cX11_entries 20 = .ok (.aload_n 0, 1) := by decide +kernel
theorem dX11_entries_21 : decode cX11_entries 21 = .ok (.iload_n 1, 1) := by decide +kernel
theorem dX11_entries_22 : decode cX11_entries 22 = .ok (.invokevirtual 106, 3) := by decide +kernel
theorem dX11_entries_25 : decode cX11_entries 25 = .ok (.if_icmp .ge 84, 3) := by decide +kernel
theorem dX11_entries_28 : decode cX11_entries 28 = .ok (.aload_n 0, 1) := by decide +kernel
theorem dX11_entries_29 : decode cX11_entries 29 = .ok (.iload_n 1, 1) := by decide +kernel
theorem dX11_entries_30 : decode cX11_entries 30 = .ok (.iload_n 2, 1) := by decide +kernel
theorem dX11_entries_31 : decode cX11_entries 31 = .ok (.invokevirtual 73, 3) := by decide +kernel
theorem dX11_entries_34 : decode cX11_entries 34 = .ok (.istore_n 3, 1) := by decide +kernel
theorem dX11_entries_35 : decode cX11_entries 35 = .ok (.iload_n 2, 1) := by decide +kernel
theorem dX11_entries_36 : decode cX11_entries 36 = .ok (.iconst 2, 1) := by decide +kernel
theorem dX11_entries_37 : decode cX11_entries 37 = .ok (.if_icmp .ge 19, 3) := by decide +kernel
theorem dX11_entries_40 : decode cX11_entries 40 = .ok (.aload_n 0, 1) := by decide +kernel
theorem dX11_entries_41 : decode cX11_entries 41 = .ok (.iload_n 2, 1) := by decide +kernel
theorem dX11_entries_42 : decode cX11_entries 42 = .ok (.iconst 1, 1) := by decide +kernel
theorem dX11_entries_43 : decode cX11_entries 43 = .ok (.iadd, 1) := by decide +kernel
theorem dX11_entries_44 : decode cX11_entries 44 = .ok (.invokevirtual 109, 3) := by decide +kernel
theorem dX11_entries_47 : decode cX11_entries 47 = .ok (.aload_n 0, 1) := by decide +kernel
theorem dX11_entries_48 : decode cX11_entries 48 = .ok (.iload_n 3, 1) := by decide +kernel
theorem dX11_entries_49 : decode cX11_entries 49 = .ok (.iload_n 1, 1) := by decide +kernel
theorem dX11_entries_50 : decode cX11_entries 50 = .ok (.invokevirtual 112, 3) := by decide +kernel
theorem dX11_entries_53 : decode cX11_entries 53 = .ok (.goto 50, 3) := by decide +kernel
theorem dX11_entries_56 : decode cX11_entries 56 = .ok (.iload_n 2, 1) := by decide +kernel
theorem dX11_entries_57 : decode cX11_entries 57 = .ok (.iconst 2, 1) := by decide +kernel
theorem dX11_entries_58 : decode cX11_entries 58 = .ok (.if_icmp .ne 29, 3) := by decide +kernel
theorem dX11_entries_61 : decode cX11_entries 61 = .ok (.iload_n 1, 1) := by decide +kernel
theorem dX11_entries_62 : decode cX11_entries 62 = .ok (.iconst 1, 1) := by decide +kernel
theorem dX11_entries_63 : decode cX11_entries 63 = .ok (.if_icmp .ne 24, 3) := by decide +kernel
theorem dX11_entries_66 : decode cX11_entries 66 = .ok (.aload_n 0, 1) := by decide +kernel
theorem dX11_entries_67 : decode cX11_entries 67 = .ok (.iconst 2, 1) := by decide +kernel
theorem dX11_entries_68 : decode cX11_entries 68 = .ok (.invokevirtual 62, 3) := by decide +kernel
theorem dX11_entries_71 : decode cX11_entries 71 = .ok (.ifCond .le 16, 3) := by decide +kernel
theorem dX11_entries_74 : decode cX11_entries 74 = .ok (.aload_n 0, 1) := by decide +kernel
theorem dX11_entries_75 : decode cX11_entries 75 = .ok (.invokevirtual 115, 3) := by decide +kernel
theorem dX11_entries_78 : decode cX11_entries 78 = .ok (.aload_n 0, 1) := by decide +kernel
theorem dX11_entries_79 : decode cX11_entries 79 = .ok (.iload_n 3, 1) := by decide +kernel
theorem dX11_entries_80 : decode cX11_entries 80 = .ok (.iconst 2, 1) := by decide +kernel
theorem dX11_entries_81 : decode cX11_entries 81 = .ok (.invokevirtual 112, 3) := by decide +kernel
theorem dX11_entries_84 : decode cX11_entries 84 = .ok (.goto 19, 3) := by decide +kernel
theorem dX11_entries_87 : decode cX11_entries 87 = .ok (.aload_n 0, 1) := by decide +kernel
theorem dX11_entries_88 : decode cX11_entries 88 = .ok (.iload_n 1, 1) := by decide +kernel
theorem dX11_entries_89 : decode cX11_entries 89 = .ok (.iload_n 2, 1) := by decide +kernel
theorem dX11_entries_90 : decode cX11_entries 90 = .ok (.invokevirtual 118, 3) := by decide +kernel
theorem dX11_entries_93 : decode cX11_entries 93 = .ok (.ifCond .ne 10, 3) := by decide +kernel
theorem dX11_entries_96 : decode cX11_entries 96 = .ok (.aload_n 0, 1) := by decide +kernel
theorem dX11_entries_97 : decode cX11_entries 97 = .ok (.iload_n 3, 1) := by decide +kernel
theorem dX11_entries_98 : decode cX11_entries 98 = .ok (.bipush 16, 2) := by decide +kernel
theorem dX11_entries_100 : decode cX11_entries 100 = .ok (.invokevirtual 65, 3) := by decide +kernel
theorem dX11_entries_103 : decode cX11_entries 103 = .ok (.iinc 2 1, 3) := by decide +kernel
theorem dX11_entries_106 : decode cX11_entries 106 = .ok (.goto (-96), 3) := by decide +kernel
theorem dX11_entries_109 : decode cX11_entries 109 = .ok (.iinc 1 1, 3) := by decide +kernel
theorem dX11_entries_112 : decode cX11_entries 112 = .ok (.goto (-110), 3) := by decide +kernel
theorem dX11_entries_115 : decode cX11_entries 115 = .ok (.return_, 1) := by decide +kernel
theorem dX11_reach_0 : decode cX11_reach 0 = .ok (.aload_n 0, 1) := by decide +kernel
theorem dX11_reach_1 : decode cX11_reach 1 = .ok (.getfield 20, 3) := by decide +kernel
theorem dX11_reach_4 : decode cX11_reach 4 = .ok (.iload_n 1, 1) := by decide +kernel
theorem dX11_reach_5 : decode cX11_reach 5 = .ok (.iconst 1, 1) := by decide +kernel
theorem dX11_reach_6 : decode cX11_reach 6 = .ok (.bastore, 1) := by decide +kernel
theorem dX11_reach_7 : decode cX11_reach 7 = .ok (.aload_n 0, 1) := by decide +kernel
theorem dX11_reach_8 : decode cX11_reach 8 = .ok (.iload_n 1, 1) := by decide +kernel
theorem dX11_reach_9 : decode cX11_reach 9 = .ok (.invokevirtual 62, 3) := by decide +kernel
theorem dX11_reach_12 : decode cX11_reach 12 = .ok (.iconst 2, 1) := by decide +kernel
theorem dX11_reach_13 : decode cX11_reach 13 = .ok (.if_icmp .ne 23, 3) := by decide +kernel
theorem dX11_reach_16 : decode cX11_reach 16 = .ok (.aload_n 0, 1) := by decide +kernel
theorem dX11_reach_17 : decode cX11_reach 17 = .ok (.getfield 23, 3) := by decide +kernel
theorem dX11_reach_20 : decode cX11_reach 20 = .ok (.aload_n 0, 1) := by decide +kernel
theorem dX11_reach_21 : decode cX11_reach 21 = .ok (.getfield 121, 3) := by decide +kernel
theorem dX11_reach_24 : decode cX11_reach 24 = .ok (.iload_n 1, 1) := by decide +kernel
theorem dX11_reach_25 : decode cX11_reach 25 = .ok (.iastore, 1) := by decide +kernel
theorem dX11_reach_26 : decode cX11_reach 26 = .ok (.aload_n 0, 1) := by decide +kernel
theorem dX11_reach_27 : decode cX11_reach 27 = .ok (.dup, 1) := by decide +kernel
theorem dX11_reach_28 : decode cX11_reach 28 = .ok (.getfield 121, 3) := by decide +kernel
theorem dX11_reach_31 : decode cX11_reach 31 = .ok (.iconst 1, 1) := by decide +kernel
theorem dX11_reach_32 : decode cX11_reach 32 = .ok (.iadd, 1) := by decide +kernel
theorem dX11_reach_33 : decode cX11_reach 33 = .ok (.putfield 121, 3) := by decide +kernel
theorem dX11_reach_36 : decode cX11_reach 36 = .ok (.return_, 1) := by decide +kernel
theorem dX11_go_0 : decode cX11_go 0 = .ok (.aload_n 0, 1) := by decide +kernel
theorem dX11_go_1 : decode cX11_go 1 = .ok (.getfield 124, 3) := by decide +kernel
theorem dX11_go_4 : decode cX11_go 4 = .ok (.aload_n 0, 1) := by decide +kernel
theorem dX11_go_5 : decode cX11_go 5 = .ok (.getfield 121, 3) := by decide +kernel
theorem dX11_go_8 : decode cX11_go 8 = .ok (.if_icmp .ge 137, 3) := by decide +kernel
theorem dX11_go_11 : decode cX11_go 11 = .ok (.aload_n 0, 1) := by decide +kernel
theorem dX11_go_12 : decode cX11_go 12 = .ok (.getfield 23, 3) := by decide +kernel
theorem dX11_go_15 : decode cX11_go 15 = .ok (.aload_n 0, 1) := by decide +kernel
theorem dX11_go_16 : decode cX11_go 16 = .ok (.getfield 124, 3) := by decide +kernel
theorem dX11_go_19 : decode cX11_go 19 = .ok (.iaload, 1) := by decide +kernel
theorem dX11_go_20 : decode cX11_go 20 = .ok (.istore_n 1, 1) := by decide +kernel
theorem dX11_go_21 : decode cX11_go 21 = .ok (.aload_n 0, 1) := by decide +kernel
theorem dX11_go_22 : decode cX11_go 22 = .ok (.dup, 1) := by decide +kernel
theorem dX11_go_23 : decode cX11_go 23 = .ok (.getfield 124, 3) := by decide +kernel
theorem dX11_go_26 : decode cX11_go 26 = .ok (.iconst 1, 1) := by decide +kernel
theorem dX11_go_27 : decode cX11_go 27 = .ok (.iadd, 1) := by decide +kernel
theorem dX11_go_28 : decode cX11_go 28 = .ok (.putfield 124, 3) := by decide +kernel
theorem dX11_go_31 : decode cX11_go 31 = .ok (.iconst 2, 1) := by decide +kernel
theorem dX11_go_32 : decode cX11_go 32 = .ok (.istore_n 2, 1) := by decide +kernel
theorem dX11_go_33 : decode cX11_go 33 = .ok (.iload_n 2, 1) := by decide +kernel
theorem dX11_go_34 : decode cX11_go 34 = .ok (.aload_n 0, 1) := by decide +kernel
theorem dX11_go_35 : decode cX11_go 35 = .ok (.iload_n 1, 1) := by decide +kernel
theorem dX11_go_36 : decode cX11_go 36 = .ok (.invokevirtual 106, 3) := by decide +kernel
theorem dX11_go_39 : decode cX11_go 39 = .ok (.if_icmp .ge 103, 3) := by decide +kernel
theorem dX11_go_42 : decode cX11_go 42 = .ok (.aload_n 0, 1) := by decide +kernel
theorem dX11_go_43 : decode cX11_go 43 = .ok (.iload_n 1, 1) := by decide +kernel
theorem dX11_go_44 : decode cX11_go 44 = .ok (.iload_n 2, 1) := by decide +kernel
theorem dX11_go_45 : decode cX11_go 45 = .ok (.invokevirtual 73, 3) := by decide +kernel
theorem dX11_go_48 : decode cX11_go 48 = .ok (.istore_n 3, 1) := by decide +kernel
theorem dX11_go_49 : decode cX11_go 49 = .ok (.aload_n 0, 1) := by decide +kernel
theorem dX11_go_50 : decode cX11_go 50 = .ok (.getfield 13, 3) := by decide +kernel
theorem dX11_go_53 : decode cX11_go 53 = .ok (.iload_n 3, 1) := by decide +kernel
theorem dX11_go_54 : decode cX11_go 54 = .ok (.iaload, 1) := by decide +kernel
theorem dX11_go_55 : decode cX11_go 55 = .ok (.istore 4, 2) := by decide +kernel
theorem dX11_go_57 : decode cX11_go 57 = .ok (.iload 4, 2) := by decide +kernel
theorem dX11_go_59 : decode cX11_go 59 = .ok (.ifCond .eq 33, 3) := by decide +kernel
theorem dX11_go_62 : decode cX11_go 62 = .ok (.aload_n 0, 1) := by decide +kernel
theorem dX11_go_63 : decode cX11_go 63 = .ok (.iload 4, 2) := by decide +kernel
theorem dX11_go_65 : decode cX11_go 65 = .ok (.invokevirtual 62, 3) := by decide +kernel
theorem dX11_go_68 : decode cX11_go 68 = .ok (.iconst 2, 1) := by decide +kernel
theorem dX11_go_69 : decode cX11_go 69 = .ok (.if_icmp .ne 23, 3) := by decide +kernel
theorem dX11_go_72 : decode cX11_go 72 = .ok (.aload_n 0, 1) := by decide +kernel
theorem dX11_go_73 : decode cX11_go 73 = .ok (.getfield 20, 3) := by decide +kernel
theorem dX11_go_76 : decode cX11_go 76 = .ok (.iload 4, 2) := by decide +kernel
theorem dX11_go_78 : decode cX11_go 78 = .ok (.baload, 1) := by decide +kernel
theorem dX11_go_79 : decode cX11_go 79 = .ok (.ifCond .eq 13, 3) := by decide +kernel
theorem dX11_go_82 : decode cX11_go 82 = .ok (.aload_n 0, 1) := by decide +kernel
theorem dX11_go_83 : decode cX11_go 83 = .ok (.iload_n 3, 1) := by decide +kernel
theorem dX11_go_84 : decode cX11_go 84 = .ok (.bipush 16, 2) := by decide +kernel
theorem dX11_go_86 : decode cX11_go 86 = .ok (.invokevirtual 65, 3) := by decide +kernel
theorem dX11_go_89 : decode cX11_go 89 = .ok (.goto 47, 3) := by decide +kernel
theorem dX11_go_92 : decode cX11_go 92 = .ok (.iload 4, 2) := by decide +kernel
theorem dX11_go_94 : decode cX11_go 94 = .ok (.ifCond .eq 42, 3) := by decide +kernel
theorem dX11_go_97 : decode cX11_go 97 = .ok (.aload_n 0, 1) := by decide +kernel
theorem dX11_go_98 : decode cX11_go 98 = .ok (.iload 4, 2) := by decide +kernel
theorem dX11_go_100 : decode cX11_go 100 = .ok (.invokevirtual 62, 3) := by decide +kernel
theorem dX11_go_103 : decode cX11_go 103 = .ok (.iconst 2, 1) := by decide +kernel
theorem dX11_go_104 : decode cX11_go 104 = .ok (.if_icmp .ne 16, 3) := by decide +kernel
theorem dX11_go_107 : decode cX11_go 107 = .ok (.aload_n 0, 1) := by decide +kernel
theorem dX11_go_108 : decode cX11_go 108 = .ok (.getfield 13, 3) := by decide +kernel
theorem dX11_go_111 : decode cX11_go 111 = .ok (.aload_n 0, 1) := by decide +kernel
theorem dX11_go_112 : decode cX11_go 112 = .ok (.iload 4, 2) := by decide +kernel
theorem dX11_go_114 : decode cX11_go 114 = .ok (.iconst 1, 1) := by decide +kernel
theorem dX11_go_115 : decode cX11_go 115 = .ok (.invokevirtual 73, 3) := by decide +kernel
theorem dX11_go_118 : decode cX11_go 118 = .ok (.iload_n 1, 1) := by decide +kernel
theorem dX11_go_119 : decode cX11_go 119 = .ok (.iastore, 1) := by decide +kernel
theorem dX11_go_120 : decode cX11_go 120 = .ok (.aload_n 0, 1) := by decide +kernel
theorem dX11_go_121 : decode cX11_go 121 = .ok (.getfield 20, 3) := by decide +kernel
theorem dX11_go_124 : decode cX11_go 124 = .ok (.iload 4, 2) := by decide +kernel
theorem dX11_go_126 : decode cX11_go 126 = .ok (.baload, 1) := by decide +kernel
theorem dX11_go_127 : decode cX11_go 127 = .ok (.ifCond .ne 9, 3) := by decide +kernel
theorem dX11_go_130 : decode cX11_go 130 = .ok (.aload_n 0, 1) := by decide +kernel
theorem dX11_go_131 : decode cX11_go 131 = .ok (.iload 4, 2) := by decide +kernel
theorem dX11_go_133 : decode cX11_go 133 = .ok (.invokevirtual 127, 3) := by decide +kernel
theorem dX11_go_136 : decode cX11_go 136 = .ok (.iinc 2 1, 3) := by decide +kernel
theorem dX11_go_139 : decode cX11_go 139 = .ok (.goto (-106), 3) := by decide +kernel
theorem dX11_go_142 : decode cX11_go 142 = .ok (.goto (-142), 3) := by decide +kernel
theorem dX11_go_145 : decode cX11_go 145 = .ok (.return_, 1) := by decide +kernel
theorem dX11_connect_0 : decode cX11_connect 0 = .ok (.aload_n 0, 1) := by decide +kernel
theorem dX11_connect_1 : decode cX11_connect 1 = .ok (.iconst 0, 1) := by decide +kernel
theorem dX11_connect_2 : decode cX11_connect 2 = .ok (.putfield 124, 3) := by decide +kernel
theorem dX11_connect_5 : decode cX11_connect 5 = .ok (.aload_n 0, 1) := by decide +kernel
theorem dX11_connect_6 : decode cX11_connect 6 = .ok (.iconst 0, 1) := by decide +kernel
theorem dX11_connect_7 : decode cX11_connect 7 = .ok (.putfield 121, 3) := by decide +kernel
theorem dX11_connect_10 : decode cX11_connect 10 = .ok (.iconst 0, 1) := by decide +kernel
theorem dX11_connect_11 : decode cX11_connect 11 = .ok (.istore_n 1, 1) := by decide +kernel
theorem dX11_connect_12 : decode cX11_connect 12 = .ok (.iload_n 1, 1) := by decide +kernel
theorem dX11_connect_13 : decode cX11_connect 13 = .ok (.bipush 32, 2) := by decide +kernel
theorem dX11_connect_15 : decode cX11_connect 15 = .ok (.if_icmp .ge 16, 3) := by decide +kernel
theorem dX11_connect_18 : decode cX11_connect 18 = .ok (.aload_n 0, 1) := by decide +kernel
theorem dX11_connect_19 : decode cX11_connect 19 = .ok (.getfield 20, 3) := by decide +kernel
theorem dX11_connect_22 : decode cX11_connect 22 = .ok (.iload_n 1, 1) := by decide +kernel
theorem dX11_connect_23 : decode cX11_connect 23 = .ok (.iconst 0, 1) := by decide +kernel
theorem dX11_connect_24 : decode cX11_connect 24 = .ok (.bastore, 1) := by decide +kernel
theorem dX11_connect_25 : decode cX11_connect 25 = .ok (.iinc 1 1, 3) := by decide +kernel
theorem dX11_connect_28 : decode cX11_connect 28 = .ok (.goto (-16), 3) := by decide +kernel
theorem dX11_connect_31 : decode cX11_connect 31 = .ok (.aload_n 0, 1) := by decide +kernel
theorem dX11_connect_32 : decode cX11_connect 32 = .ok (.iconst 1, 1) := by decide +kernel
theorem dX11_connect_33 : decode cX11_connect 33 = .ok (.invokevirtual 62, 3) := by decide +kernel
theorem dX11_connect_36 : decode cX11_connect 36 = .ok (.ifCond .le 8, 3) := by decide +kernel
theorem dX11_connect_39 : decode cX11_connect 39 = .ok (.aload_n 0, 1) := by decide +kernel
theorem dX11_connect_40 : decode cX11_connect 40 = .ok (.iconst 1, 1) := by decide +kernel
theorem dX11_connect_41 : decode cX11_connect 41 = .ok (.invokevirtual 127, 3) := by decide +kernel
theorem dX11_connect_44 : decode cX11_connect 44 = .ok (.aload_n 0, 1) := by decide +kernel
theorem dX11_connect_45 : decode cX11_connect 45 = .ok (.invokevirtual 130, 3) := by decide +kernel
theorem dX11_connect_48 : decode cX11_connect 48 = .ok (.iconst 1, 1) := by decide +kernel
theorem dX11_connect_49 : decode cX11_connect 49 = .ok (.istore_n 1, 1) := by decide +kernel
theorem dX11_connect_50 : decode cX11_connect 50 = .ok (.iload_n 1, 1) := by decide +kernel
theorem dX11_connect_51 : decode cX11_connect 51 = .ok (.bipush 32, 2) := by decide +kernel
theorem dX11_connect_53 : decode cX11_connect 53 = .ok (.if_icmp .ge 89, 3) := by decide +kernel
theorem dX11_connect_56 : decode cX11_connect 56 = .ok (.aload_n 0, 1) := by decide +kernel
theorem dX11_connect_57 : decode cX11_connect 57 = .ok (.iload_n 1, 1) := by decide +kernel
theorem dX11_connect_58 : decode cX11_connect 58 = .ok (.invokevirtual 62, 3) := by decide +kernel
theorem dX11_connect_61 : decode cX11_connect 61 = .ok (.ifCond .le 75, 3) := by decide +kernel
theorem dX11_connect_64 : decode cX11_connect 64 = .ok (.aload_n 0, 1) := by decide +kernel
theorem dX11_connect_65 : decode cX11_connect 65 = .ok (.getfield 20, 3) := by decide +kernel
theorem dX11_connect_68 : decode cX11_connect 68 = .ok (.iload_n 1, 1) := by decide +kernel
theorem dX11_connect_69 : decode cX11_connect 69 = .ok (.baload, 1) := by decide +kernel
theorem dX11_connect_70 : decode cX11_connect 70 = .ok (.ifCond .ne 66, 3) := by decide +kernel
theorem dX11_connect_73 : decode cX11_connect 73 = .ok (.aload_n 0, 1) := by decide +kernel
theorem dX11_connect_74 : decode cX11_connect 74 = .ok (.iconst 2, 1) := by decide +kernel
theorem dX11_connect_75 : decode cX11_connect 75 = .ok (.invokevirtual 62, 3) := by decide +kernel
theorem dX11_connect_78 : decode cX11_connect 78 = .ok (.ifCond .le 53, 3) := by decide +kernel
theorem dX11_connect_81 : decode cX11_connect 81 = .ok (.aload_n 0, 1) := by decide +kernel
theorem dX11_connect_82 : decode cX11_connect 82 = .ok (.iload_n 1, 1) := by decide +kernel
theorem dX11_connect_83 : decode cX11_connect 83 = .ok (.invokevirtual 133, 3) := by decide +kernel
theorem dX11_connect_86 : decode cX11_connect 86 = .ok (.ifCond .eq 45, 3) := by decide +kernel
theorem dX11_connect_89 : decode cX11_connect 89 = .ok (.aload_n 0, 1) := by decide +kernel
theorem dX11_connect_90 : decode cX11_connect 90 = .ok (.iconst 2, 1) := by decide +kernel
theorem dX11_connect_91 : decode cX11_connect 91 = .ok (.iload_n 1, 1) := by decide +kernel
theorem dX11_connect_92 : decode cX11_connect 92 = .ok (.invokevirtual 136, 3) := by decide +kernel
theorem dX11_connect_95 : decode cX11_connect 95 = .ok (.ifCond .eq 36, 3) := by decide +kernel
theorem dX11_connect_98 : decode cX11_connect 98 = .ok (.aload_n 0, 1) := by decide +kernel
theorem dX11_connect_99 : decode cX11_connect 99 = .ok (.iload_n 1, 1) := by decide +kernel
theorem dX11_connect_100 : decode cX11_connect 100 = .ok (.invokevirtual 62, 3) := by decide +kernel
theorem dX11_connect_103 : decode cX11_connect 103 = .ok (.iconst 2, 1) := by decide +kernel
theorem dX11_connect_104 : decode cX11_connect 104 = .ok (.if_icmp .ne 15, 3) := by decide +kernel
theorem dX11_connect_107 : decode cX11_connect 107 = .ok (.aload_n 0, 1) := by decide +kernel
theorem dX11_connect_108 : decode cX11_connect 108 = .ok (.getfield 13, 3) := by decide +kernel
theorem dX11_connect_111 : decode cX11_connect 111 = .ok (.aload_n 0, 1) := by decide +kernel
theorem dX11_connect_112 : decode cX11_connect 112 = .ok (.iload_n 1, 1) := by decide +kernel
theorem dX11_connect_113 : decode cX11_connect 113 = .ok (.iconst 1, 1) := by decide +kernel
theorem dX11_connect_114 : decode cX11_connect 114 = .ok (.invokevirtual 73, 3) := by decide +kernel
theorem dX11_connect_117 : decode cX11_connect 117 = .ok (.iconst 2, 1) := by decide +kernel
theorem dX11_connect_118 : decode cX11_connect 118 = .ok (.iastore, 1) := by decide +kernel
theorem dX11_connect_119 : decode cX11_connect 119 = .ok (.aload_n 0, 1) := by decide +kernel
theorem dX11_connect_120 : decode cX11_connect 120 = .ok (.iload_n 1, 1) := by decide +kernel
theorem dX11_connect_121 : decode cX11_connect 121 = .ok (.invokevirtual 127, 3) := by decide +kernel
theorem dX11_connect_124 : decode cX11_connect 124 = .ok (.aload_n 0, 1) := by decide +kernel
theorem dX11_connect_125 : decode cX11_connect 125 = .ok (.invokevirtual 130, 3) := by decide +kernel
theorem dX11_connect_128 : decode cX11_connect 128 = .ok (.goto 8, 3) := by decide +kernel
theorem dX11_connect_131 : decode cX11_connect 131 = .ok (.aload_n 0, 1) := by decide +kernel
theorem dX11_connect_132 : decode cX11_connect 132 = .ok (.iload_n 1, 1) := by decide +kernel
theorem dX11_connect_133 : decode cX11_connect 133 = .ok (.invokevirtual 139, 3) := by decide +kernel
theorem dX11_connect_136 : decode cX11_connect 136 = .ok (.iinc 1 1, 3) := by decide +kernel
theorem dX11_connect_139 : decode cX11_connect 139 = .ok (.goto (-89), 3) := by decide +kernel
theorem dX11_connect_142 : decode cX11_connect 142 = .ok (.return_, 1) := by decide +kernel
theorem dX11_lostNameOf_0 : decode cX11_lostNameOf 0 = .ok (.iconst 1, 1) := by decide +kernel
theorem dX11_lostNameOf_1 : decode cX11_lostNameOf 1 = .ok (.istore_n 2, 1) := by decide +kernel
theorem dX11_lostNameOf_2 : decode cX11_lostNameOf 2 = .ok (.iload_n 2, 1) := by decide +kernel
theorem dX11_lostNameOf_3 : decode cX11_lostNameOf 3 = .ok (.bipush 12, 2) := by decide +kernel
theorem dX11_lostNameOf_5 : decode cX11_lostNameOf 5 = .ok (.if_icmp .gt 81, 3) := by decide +kernel
theorem dX11_lostNameOf_8 : decode cX11_lostNameOf 8 = .ok (.aload_n 0, 1) := by decide +kernel
theorem dX11_lostNameOf_9 : decode cX11_lostNameOf 9 = .ok (.iload_n 2, 1) := by decide +kernel
theorem dX11_lostNameOf_10 : decode cX11_lostNameOf 10 = .ok (.iconst 2, 1) := by decide +kernel
theorem dX11_lostNameOf_11 : decode cX11_lostNameOf 11 = .ok (.iadd, 1) := by decide +kernel
theorem dX11_lostNameOf_12 : decode cX11_lostNameOf 12 = .ok (.putfield 69, 3) := by decide +kernel
theorem dX11_lostNameOf_15 : decode cX11_lostNameOf 15 = .ok (.iconst 0, 1) := by decide +kernel
theorem dX11_lostNameOf_16 : decode cX11_lostNameOf 16 = .ok (.istore_n 3, 1) := by decide +kernel
theorem dX11_lostNameOf_17 : decode cX11_lostNameOf 17 = .ok (.iload_n 3, 1) := by decide +kernel
theorem dX11_lostNameOf_18 : decode cX11_lostNameOf 18 = .ok (.iload_n 2, 1) := by decide +kernel
theorem dX11_lostNameOf_19 : decode cX11_lostNameOf 19 = .ok (.if_icmp .ge 17, 3) := by decide +kernel
theorem dX11_lostNameOf_22 : decode cX11_lostNameOf 22 = .ok (.aload_n 0, 1) := by decide +kernel
theorem dX11_lostNameOf_23 : decode cX11_lostNameOf 23 = .ok (.getfield 26, 3) := by decide +kernel
theorem dX11_lostNameOf_26 : decode cX11_lostNameOf 26 = .ok (.iload_n 3, 1) := by decide +kernel
theorem dX11_lostNameOf_27 : decode cX11_lostNameOf 27 = .ok (.bipush 35, 2) := by decide +kernel
theorem dX11_lostNameOf_29 : decode cX11_lostNameOf 29 = .ok (.iastore, 1) := by decide +kernel
theorem dX11_lostNameOf_30 : decode cX11_lostNameOf 30 = .ok (.iinc 3 1, 3) := by decide +kernel
theorem dX11_lostNameOf_33 : decode cX11_lostNameOf 33 = .ok (.goto (-16), 3) := by decide +kernel
theorem dX11_lostNameOf_36 : decode cX11_lostNameOf 36 = .ok (.aload_n 0, 1) := by decide +kernel
theorem dX11_lostNameOf_37 : decode cX11_lostNameOf 37 = .ok (.getfield 26, 3) := by decide +kernel
theorem dX11_lostNameOf_40 : decode cX11_lostNameOf 40 = .ok (.iload_n 2, 1) := by decide +kernel
theorem dX11_lostNameOf_41 : decode cX11_lostNameOf 41 = .ok (.bipush 48, 2) := by decide +kernel
theorem dX11_lostNameOf_43 : decode cX11_lostNameOf 43 = .ok (.iload_n 1, 1) := by decide +kernel
theorem dX11_lostNameOf_44 : decode cX11_lostNameOf 44 = .ok (.bipush 10, 2) := by decide +kernel
theorem dX11_lostNameOf_46 : decode cX11_lostNameOf 46 = .ok (.idiv, 1) := by decide +kernel
theorem dX11_lostNameOf_47 : decode cX11_lostNameOf 47 = .ok (.iadd, 1) := by decide +kernel
theorem dX11_lostNameOf_48 : decode cX11_lostNameOf 48 = .ok (.iastore, 1) := by decide +kernel
theorem dX11_lostNameOf_49 : decode cX11_lostNameOf 49 = .ok (.aload_n 0, 1) := by decide +kernel
theorem dX11_lostNameOf_50 : decode cX11_lostNameOf 50 = .ok (.getfield 26, 3) := by decide +kernel
theorem dX11_lostNameOf_53 : decode cX11_lostNameOf 53 = .ok (.iload_n 2, 1) := by decide +kernel
theorem dX11_lostNameOf_54 : decode cX11_lostNameOf 54 = .ok (.iconst 1, 1) := by decide +kernel
theorem dX11_lostNameOf_55 : decode cX11_lostNameOf 55 = .ok (.iadd, 1) := by decide +kernel
theorem dX11_lostNameOf_56 : decode cX11_lostNameOf 56 = .ok (.bipush 48, 2) := by decide +kernel
theorem dX11_lostNameOf_58 : decode cX11_lostNameOf 58 = .ok (.iload_n 1, 1) := by decide +kernel
theorem dX11_lostNameOf_59 : decode cX11_lostNameOf 59 = .ok (.bipush 10, 2) := by decide +kernel
theorem dX11_lostNameOf_61 : decode cX11_lostNameOf 61 = .ok (.irem, 1) := by decide +kernel
theorem dX11_lostNameOf_62 : decode cX11_lostNameOf 62 = .ok (.iadd, 1) := by decide +kernel
theorem dX11_lostNameOf_63 : decode cX11_lostNameOf 63 = .ok (.iastore, 1) := by decide +kernel
theorem dX11_lostNameOf_64 : decode cX11_lostNameOf 64 = .ok (.aload_n 0, 1) := by decide +kernel
theorem dX11_lostNameOf_65 : decode cX11_lostNameOf 65 = .ok (.iconst 2, 1) := by decide +kernel
theorem dX11_lostNameOf_66 : decode cX11_lostNameOf 66 = .ok (.aload_n 0, 1) := by decide +kernel
theorem dX11_lostNameOf_67 : decode cX11_lostNameOf 67 = .ok (.iconst 2, 1) := by decide +kernel
theorem dX11_lostNameOf_68 : decode cX11_lostNameOf 68 = .ok (.invokevirtual 106, 3) := by decide +kernel
theorem dX11_lostNameOf_71 : decode cX11_lostNameOf 71 = .ok (.invokevirtual 79, 3) := by decide +kernel
theorem dX11_lostNameOf_74 : decode cX11_lostNameOf 74 = .ok (.iconst (-1), 1) := by decide +kernel
theorem dX11_lostNameOf_75 : decode cX11_lostNameOf 75 = .ok (.if_icmp .ne 5, 3) := by decide +kernel
theorem dX11_lostNameOf_78 : decode cX11_lostNameOf 78 = .ok (.iconst 1, 1) := by decide +kernel
theorem dX11_lostNameOf_79 : decode cX11_lostNameOf 79 = .ok (.ireturn, 1) := by decide +kernel
theorem dX11_lostNameOf_80 : decode cX11_lostNameOf 80 = .ok (.iinc 2 1, 3) := by decide +kernel
theorem dX11_lostNameOf_83 : decode cX11_lostNameOf 83 = .ok (.goto (-81), 3) := by decide +kernel
theorem dX11_lostNameOf_86 : decode cX11_lostNameOf 86 = .ok (.iconst 0, 1) := by decide +kernel
theorem dX11_lostNameOf_87 : decode cX11_lostNameOf 87 = .ok (.ireturn, 1) := by decide +kernel
theorem dX11_grow_0 : decode cX11_grow 0 = .ok (.aload_n 0, 1) := by decide +kernel
theorem dX11_grow_1 : decode cX11_grow 1 = .ok (.iload_n 1, 1) := by decide +kernel
theorem dX11_grow_2 : decode cX11_grow 2 = .ok (.invokevirtual 52, 3) := by decide +kernel
theorem dX11_grow_5 : decode cX11_grow 5 = .ok (.istore_n 3, 1) := by decide +kernel
theorem dX11_grow_6 : decode cX11_grow 6 = .ok (.aload_n 0, 1) := by decide +kernel
theorem dX11_grow_7 : decode cX11_grow 7 = .ok (.iconst 0, 1) := by decide +kernel
theorem dX11_grow_8 : decode cX11_grow 8 = .ok (.invokevirtual 97, 3) := by decide +kernel
theorem dX11_grow_11 : decode cX11_grow 11 = .ok (.istore 4, 2) := by decide +kernel
theorem dX11_grow_13 : decode cX11_grow 13 = .ok (.iload_n 3, 1) := by decide +kernel
theorem dX11_grow_14 : decode cX11_grow 14 = .ok (.iconst 5, 1) := by decide +kernel
theorem dX11_grow_15 : decode cX11_grow 15 = .ok (.if_icmp .ne 18, 3) := by decide +kernel
theorem dX11_grow_18 : decode cX11_grow 18 = .ok (.iload 4, 2) := by decide +kernel
theorem dX11_grow_20 : decode cX11_grow 20 = .ok (.iconst (-1), 1) := by decide +kernel
end
section
theorem dX11_grow_21 : decode cX11_grow 21 = .ok (.if_icmp .eq 12, 3) := by decide +kernel
theorem dX11_grow_24 : decode cX11_grow 24 = .ok (.aload_n 0, 1) := by decide +kernel
theorem dX11_grow_25 : decode cX11_grow 25 = .ok (.iload 4, 2) := by decide +kernel
theorem dX11_grow_27 : decode cX11_grow 27 = .ok (.invokevirtual 97, 3) := by decide +kernel
theorem dX11_grow_30 : decode cX11_grow 30 = .ok (.goto 4, 3) := by decide +kernel
theorem dX11_grow_33 : decode cX11_grow 33 = .ok (.iconst (-1), 1) := by decide +kernel
theorem dX11_grow_34 : decode cX11_grow 34 = .ok (.istore 5, 2) := by decide +kernel
theorem dX11_grow_36 : decode cX11_grow 36 = .ok (.iload 4, 2) := by decide +kernel
theorem dX11_grow_38 : decode cX11_grow 38 = .ok (.iconst (-1), 1) := by decide +kernel
theorem dX11_grow_39 : decode cX11_grow 39 = .ok (.if_icmp .eq 27, 3) := by decide +kernel
theorem dX11_grow_42 : decode cX11_grow 42 = .ok (.iload_n 3, 1) := by decide +kernel
theorem dX11_grow_43 : decode cX11_grow 43 = .ok (.iconst 5, 1) := by decide +kernel
theorem dX11_grow_44 : decode cX11_grow 44 = .ok (.if_icmp .ne 9, 3) := by decide +kernel
theorem dX11_grow_47 : decode cX11_grow 47 = .ok (.iload 5, 2) := by decide +kernel
theorem dX11_grow_49 : decode cX11_grow 49 = .ok (.iconst (-1), 1) := by decide +kernel
theorem dX11_grow_50 : decode cX11_grow 50 = .ok (.if_icmp .eq 16, 3) := by decide +kernel
theorem dX11_grow_53 : decode cX11_grow 53 = .ok (.aload_n 0, 1) := by decide +kernel
theorem dX11_grow_54 : decode cX11_grow 54 = .ok (.iload_n 1, 1) := by decide +kernel
theorem dX11_grow_55 : decode cX11_grow 55 = .ok (.invokevirtual 45, 3) := by decide +kernel
theorem dX11_grow_58 : decode cX11_grow 58 = .ok (.iload_n 2, 1) := by decide +kernel
theorem dX11_grow_59 : decode cX11_grow 59 = .ok (.iadd, 1) := by decide +kernel
theorem dX11_grow_60 : decode cX11_grow 60 = .ok (.sipush 2944, 3) := by decide +kernel
theorem dX11_grow_63 : decode cX11_grow 63 = .ok (.if_icmp .le 5, 3) := by decide +kernel
theorem dX11_grow_66 : decode cX11_grow 66 = .ok (.iconst 0, 1) := by decide +kernel
theorem dX11_grow_67 : decode cX11_grow 67 = .ok (.ireturn, 1) := by decide +kernel
theorem dX11_grow_68 : decode cX11_grow 68 = .ok (.aload_n 0, 1) := by decide +kernel
theorem dX11_grow_69 : decode cX11_grow 69 = .ok (.bipush 64, 2) := by decide +kernel
theorem dX11_grow_71 : decode cX11_grow 71 = .ok (.iload 4, 2) := by decide +kernel
theorem dX11_grow_73 : decode cX11_grow 73 = .ok (.imul, 1) := by decide +kernel
theorem dX11_grow_74 : decode cX11_grow 74 = .ok (.bipush 64, 2) := by decide +kernel
theorem dX11_grow_76 : decode cX11_grow 76 = .ok (.invokevirtual 65, 3) := by decide +kernel
theorem dX11_grow_79 : decode cX11_grow 79 = .ok (.iload_n 3, 1) := by decide +kernel
theorem dX11_grow_80 : decode cX11_grow 80 = .ok (.iconst 5, 1) := by decide +kernel
theorem dX11_grow_81 : decode cX11_grow 81 = .ok (.if_icmp .ge 21, 3) := by decide +kernel
theorem dX11_grow_84 : decode cX11_grow 84 = .ok (.aload_n 0, 1) := by decide +kernel
theorem dX11_grow_85 : decode cX11_grow 85 = .ok (.getfield 13, 3) := by decide +kernel
theorem dX11_grow_88 : decode cX11_grow 88 = .ok (.iload_n 1, 1) := by decide +kernel
theorem dX11_grow_89 : decode cX11_grow 89 = .ok (.invokestatic 42, 3) := by decide +kernel
theorem dX11_grow_92 : decode cX11_grow 92 = .ok (.iconst 4, 1) := by decide +kernel
theorem dX11_grow_93 : decode cX11_grow 93 = .ok (.iadd, 1) := by decide +kernel
theorem dX11_grow_94 : decode cX11_grow 94 = .ok (.iload_n 3, 1) := by decide +kernel
theorem dX11_grow_95 : decode cX11_grow 95 = .ok (.iadd, 1) := by decide +kernel
theorem dX11_grow_96 : decode cX11_grow 96 = .ok (.iload 4, 2) := by decide +kernel
theorem dX11_grow_98 : decode cX11_grow 98 = .ok (.iastore, 1) := by decide +kernel
theorem dX11_grow_99 : decode cX11_grow 99 = .ok (.goto 59, 3) := by decide +kernel
theorem dX11_grow_102 : decode cX11_grow 102 = .ok (.iload_n 3, 1) := by decide +kernel
theorem dX11_grow_103 : decode cX11_grow 103 = .ok (.iconst 5, 1) := by decide +kernel
theorem dX11_grow_104 : decode cX11_grow 104 = .ok (.if_icmp .ne 28, 3) := by decide +kernel
theorem dX11_grow_107 : decode cX11_grow 107 = .ok (.aload_n 0, 1) := by decide +kernel
theorem dX11_grow_108 : decode cX11_grow 108 = .ok (.bipush 64, 2) := by decide +kernel
theorem dX11_grow_110 : decode cX11_grow 110 = .ok (.iload 5, 2) := by decide +kernel
theorem dX11_grow_112 : decode cX11_grow 112 = .ok (.imul, 1) := by decide +kernel
theorem dX11_grow_113 : decode cX11_grow 113 = .ok (.bipush 64, 2) := by decide +kernel
theorem dX11_grow_115 : decode cX11_grow 115 = .ok (.invokevirtual 65, 3) := by decide +kernel
theorem dX11_grow_118 : decode cX11_grow 118 = .ok (.aload_n 0, 1) := by decide +kernel
theorem dX11_grow_119 : decode cX11_grow 119 = .ok (.getfield 13, 3) := by decide +kernel
theorem dX11_grow_122 : decode cX11_grow 122 = .ok (.iload_n 1, 1) := by decide +kernel
theorem dX11_grow_123 : decode cX11_grow 123 = .ok (.invokestatic 42, 3) := by decide +kernel
theorem dX11_grow_126 : decode cX11_grow 126 = .ok (.bipush 9, 2) := by decide +kernel
theorem dX11_grow_128 : decode cX11_grow 128 = .ok (.iadd, 1) := by decide +kernel
theorem dX11_grow_129 : decode cX11_grow 129 = .ok (.iload 5, 2) := by decide +kernel
theorem dX11_grow_131 : decode cX11_grow 131 = .ok (.iastore, 1) := by decide +kernel
theorem dX11_grow_132 : decode cX11_grow 132 = .ok (.aload_n 0, 1) := by decide +kernel
theorem dX11_grow_133 : decode cX11_grow 133 = .ok (.getfield 13, 3) := by decide +kernel
theorem dX11_grow_136 : decode cX11_grow 136 = .ok (.bipush 64, 2) := by decide +kernel
theorem dX11_grow_138 : decode cX11_grow 138 = .ok (.aload_n 0, 1) := by decide +kernel
theorem dX11_grow_139 : decode cX11_grow 139 = .ok (.getfield 13, 3) := by decide +kernel
theorem dX11_grow_142 : decode cX11_grow 142 = .ok (.iload_n 1, 1) := by decide +kernel
theorem dX11_grow_143 : decode cX11_grow 143 = .ok (.invokestatic 42, 3) := by decide +kernel
theorem dX11_grow_146 : decode cX11_grow 146 = .ok (.bipush 9, 2) := by decide +kernel
theorem dX11_grow_148 : decode cX11_grow 148 = .ok (.iadd, 1) := by decide +kernel
theorem dX11_grow_149 : decode cX11_grow 149 = .ok (.iaload, 1) := by decide +kernel
theorem dX11_grow_150 : decode cX11_grow 150 = .ok (.imul, 1) := by decide +kernel
theorem dX11_grow_151 : decode cX11_grow 151 = .ok (.iload_n 3, 1) := by decide +kernel
theorem dX11_grow_152 : decode cX11_grow 152 = .ok (.iadd, 1) := by decide +kernel
theorem dX11_grow_153 : decode cX11_grow 153 = .ok (.iconst 5, 1) := by decide +kernel
theorem dX11_grow_154 : decode cX11_grow 154 = .ok (.isub, 1) := by decide +kernel
theorem dX11_grow_155 : decode cX11_grow 155 = .ok (.iload 4, 2) := by decide +kernel
theorem dX11_grow_157 : decode cX11_grow 157 = .ok (.iastore, 1) := by decide +kernel
theorem dX11_grow_158 : decode cX11_grow 158 = .ok (.aload_n 0, 1) := by decide +kernel
theorem dX11_grow_159 : decode cX11_grow 159 = .ok (.iload_n 1, 1) := by decide +kernel
theorem dX11_grow_160 : decode cX11_grow 160 = .ok (.invokestatic 42, 3) := by decide +kernel
theorem dX11_grow_163 : decode cX11_grow 163 = .ok (.iconst 2, 1) := by decide +kernel
theorem dX11_grow_164 : decode cX11_grow 164 = .ok (.iadd, 1) := by decide +kernel
theorem dX11_grow_165 : decode cX11_grow 165 = .ok (.aload_n 0, 1) := by decide +kernel
theorem dX11_grow_166 : decode cX11_grow 166 = .ok (.iload_n 1, 1) := by decide +kernel
theorem dX11_grow_167 : decode cX11_grow 167 = .ok (.invokevirtual 45, 3) := by decide +kernel
theorem dX11_grow_170 : decode cX11_grow 170 = .ok (.iload_n 2, 1) := by decide +kernel
theorem dX11_grow_171 : decode cX11_grow 171 = .ok (.iadd, 1) := by decide +kernel
theorem dX11_grow_172 : decode cX11_grow 172 = .ok (.invokevirtual 103, 3) := by decide +kernel
theorem dX11_grow_175 : decode cX11_grow 175 = .ok (.iconst 1, 1) := by decide +kernel
theorem dX11_grow_176 : decode cX11_grow 176 = .ok (.ireturn, 1) := by decide +kernel
theorem dX11_putEntry_0 : decode cX11_putEntry 0 = .ok (.iconst 2, 1) := by decide +kernel
theorem dX11_putEntry_1 : decode cX11_putEntry 1 = .ok (.istore_n 3, 1) := by decide +kernel
theorem dX11_putEntry_2 : decode cX11_putEntry 2 = .ok (.iload_n 3, 1) := by decide +kernel
theorem dX11_putEntry_3 : decode cX11_putEntry 3 = .ok (.aload_n 0, 1) := by decide +kernel
theorem dX11_putEntry_4 : decode cX11_putEntry 4 = .ok (.iload_n 1, 1) := by decide +kernel
theorem dX11_putEntry_5 : decode cX11_putEntry 5 = .ok (.invokevirtual 106, 3) := by decide +kernel
theorem dX11_putEntry_8 : decode cX11_putEntry 8 = .ok (.if_icmp .ge 23, 3) := by decide +kernel
theorem dX11_putEntry_11 : decode cX11_putEntry 11 = .ok (.aload_n 0, 1) := by decide +kernel
theorem dX11_putEntry_12 : decode cX11_putEntry 12 = .ok (.getfield 13, 3) := by decide +kernel
theorem dX11_putEntry_15 : decode cX11_putEntry 15 = .ok (.aload_n 0, 1) := by decide +kernel
theorem dX11_putEntry_16 : decode cX11_putEntry 16 = .ok (.iload_n 1, 1) := by decide +kernel
theorem dX11_putEntry_17 : decode cX11_putEntry 17 = .ok (.iload_n 3, 1) := by decide +kernel
theorem dX11_putEntry_18 : decode cX11_putEntry 18 = .ok (.invokevirtual 73, 3) := by decide +kernel
theorem dX11_putEntry_21 : decode cX11_putEntry 21 = .ok (.iaload, 1) := by decide +kernel
theorem dX11_putEntry_22 : decode cX11_putEntry 22 = .ok (.ifCond .eq 9, 3) := by decide +kernel
theorem dX11_putEntry_25 : decode cX11_putEntry 25 = .ok (.iinc 3 1, 3) := by decide +kernel
theorem dX11_putEntry_28 : decode cX11_putEntry 28 = .ok (.goto (-26), 3) := by decide +kernel
theorem dX11_putEntry_31 : decode cX11_putEntry 31 = .ok (.iload_n 3, 1) := by decide +kernel
theorem dX11_putEntry_32 : decode cX11_putEntry 32 = .ok (.aload_n 0, 1) := by decide +kernel
theorem dX11_putEntry_33 : decode cX11_putEntry 33 = .ok (.iload_n 1, 1) := by decide +kernel
theorem dX11_putEntry_34 : decode cX11_putEntry 34 = .ok (.invokevirtual 106, 3) := by decide +kernel
theorem dX11_putEntry_37 : decode cX11_putEntry 37 = .ok (.if_icmp .ne 15, 3) := by decide +kernel
theorem dX11_putEntry_40 : decode cX11_putEntry 40 = .ok (.aload_n 0, 1) := by decide +kernel
theorem dX11_putEntry_41 : decode cX11_putEntry 41 = .ok (.iload_n 1, 1) := by decide +kernel
theorem dX11_putEntry_42 : decode cX11_putEntry 42 = .ok (.bipush 64, 2) := by decide +kernel
theorem dX11_putEntry_44 : decode cX11_putEntry 44 = .ok (.invokevirtual 142, 3) := by decide +kernel
theorem dX11_putEntry_47 : decode cX11_putEntry 47 = .ok (.ifCond .ne 5, 3) := by decide +kernel
theorem dX11_putEntry_50 : decode cX11_putEntry 50 = .ok (.iconst 0, 1) := by decide +kernel
theorem dX11_putEntry_51 : decode cX11_putEntry 51 = .ok (.ireturn, 1) := by decide +kernel
theorem dX11_putEntry_52 : decode cX11_putEntry 52 = .ok (.aload_n 0, 1) := by decide +kernel
theorem dX11_putEntry_53 : decode cX11_putEntry 53 = .ok (.aload_n 0, 1) := by decide +kernel
theorem dX11_putEntry_54 : decode cX11_putEntry 54 = .ok (.iload_n 1, 1) := by decide +kernel
theorem dX11_putEntry_55 : decode cX11_putEntry 55 = .ok (.iload_n 3, 1) := by decide +kernel
theorem dX11_putEntry_56 : decode cX11_putEntry 56 = .ok (.invokevirtual 73, 3) := by decide +kernel
theorem dX11_putEntry_59 : decode cX11_putEntry 59 = .ok (.iload_n 2, 1) := by decide +kernel
theorem dX11_putEntry_60 : decode cX11_putEntry 60 = .ok (.invokevirtual 112, 3) := by decide +kernel
theorem dX11_putEntry_63 : decode cX11_putEntry 63 = .ok (.iconst 1, 1) := by decide +kernel
theorem dX11_putEntry_64 : decode cX11_putEntry 64 = .ok (.ireturn, 1) := by decide +kernel
theorem dX11_drop_0 : decode cX11_drop 0 = .ok (.aload_n 0, 1) := by decide +kernel
theorem dX11_drop_1 : decode cX11_drop 1 = .ok (.iload_n 1, 1) := by decide +kernel
theorem dX11_drop_2 : decode cX11_drop 2 = .ok (.invokestatic 42, 3) := by decide +kernel
theorem dX11_drop_5 : decode cX11_drop 5 = .ok (.bipush 16, 2) := by decide +kernel
theorem dX11_drop_7 : decode cX11_drop 7 = .ok (.invokevirtual 65, 3) := by decide +kernel
theorem dX11_drop_10 : decode cX11_drop 10 = .ok (.iconst 1, 1) := by decide +kernel
theorem dX11_drop_11 : decode cX11_drop 11 = .ok (.istore_n 2, 1) := by decide +kernel
theorem dX11_drop_12 : decode cX11_drop 12 = .ok (.iload_n 2, 1) := by decide +kernel
theorem dX11_drop_13 : decode cX11_drop 13 = .ok (.bipush 32, 2) := by decide +kernel
theorem dX11_drop_15 : decode cX11_drop 15 = .ok (.if_icmp .ge 62, 3) := by decide +kernel
theorem dX11_drop_18 : decode cX11_drop 18 = .ok (.iconst 2, 1) := by decide +kernel
theorem dX11_drop_19 : decode cX11_drop 19 = .ok (.istore_n 3, 1) := by decide +kernel
theorem dX11_drop_20 : decode cX11_drop 20 = .ok (.aload_n 0, 1) := by decide +kernel
theorem dX11_drop_21 : decode cX11_drop 21 = .ok (.iload_n 2, 1) := by decide +kernel
theorem dX11_drop_22 : decode cX11_drop 22 = .ok (.invokevirtual 62, 3) := by decide +kernel
theorem dX11_drop_25 : decode cX11_drop 25 = .ok (.iconst 2, 1) := by decide +kernel
theorem dX11_drop_26 : decode cX11_drop 26 = .ok (.if_icmp .ne 45, 3) := by decide +kernel
theorem dX11_drop_29 : decode cX11_drop 29 = .ok (.iload_n 3, 1) := by decide +kernel
theorem dX11_drop_30 : decode cX11_drop 30 = .ok (.aload_n 0, 1) := by decide +kernel
theorem dX11_drop_31 : decode cX11_drop 31 = .ok (.iload_n 2, 1) := by decide +kernel
theorem dX11_drop_32 : decode cX11_drop 32 = .ok (.invokevirtual 106, 3) := by decide +kernel
theorem dX11_drop_35 : decode cX11_drop 35 = .ok (.if_icmp .ge 36, 3) := by decide +kernel
theorem dX11_drop_38 : decode cX11_drop 38 = .ok (.aload_n 0, 1) := by decide +kernel
theorem dX11_drop_39 : decode cX11_drop 39 = .ok (.getfield 13, 3) := by decide +kernel
theorem dX11_drop_42 : decode cX11_drop 42 = .ok (.aload_n 0, 1) := by decide +kernel
theorem dX11_drop_43 : decode cX11_drop 43 = .ok (.iload_n 2, 1) := by decide +kernel
theorem dX11_drop_44 : decode cX11_drop 44 = .ok (.iload_n 3, 1) := by decide +kernel
theorem dX11_drop_45 : decode cX11_drop 45 = .ok (.invokevirtual 73, 3) := by decide +kernel
theorem dX11_drop_48 : decode cX11_drop 48 = .ok (.iaload, 1) := by decide +kernel
theorem dX11_drop_49 : decode cX11_drop 49 = .ok (.iload_n 1, 1) := by decide +kernel
theorem dX11_drop_50 : decode cX11_drop 50 = .ok (.if_icmp .ne 15, 3) := by decide +kernel
theorem dX11_drop_53 : decode cX11_drop 53 = .ok (.aload_n 0, 1) := by decide +kernel
theorem dX11_drop_54 : decode cX11_drop 54 = .ok (.aload_n 0, 1) := by decide +kernel
theorem dX11_drop_55 : decode cX11_drop 55 = .ok (.iload_n 2, 1) := by decide +kernel
theorem dX11_drop_56 : decode cX11_drop 56 = .ok (.iload_n 3, 1) := by decide +kernel
theorem dX11_drop_57 : decode cX11_drop 57 = .ok (.invokevirtual 73, 3) := by decide +kernel
theorem dX11_drop_60 : decode cX11_drop 60 = .ok (.bipush 16, 2) := by decide +kernel
theorem dX11_drop_62 : decode cX11_drop 62 = .ok (.invokevirtual 65, 3) := by decide +kernel
theorem dX11_drop_65 : decode cX11_drop 65 = .ok (.iinc 3 1, 3) := by decide +kernel
theorem dX11_drop_68 : decode cX11_drop 68 = .ok (.goto (-48), 3) := by decide +kernel
theorem dX11_drop_71 : decode cX11_drop 71 = .ok (.iinc 2 1, 3) := by decide +kernel
theorem dX11_drop_74 : decode cX11_drop 74 = .ok (.goto (-62), 3) := by decide +kernel
theorem dX11_drop_77 : decode cX11_drop 77 = .ok (.return_, 1) := by decide +kernel
theorem dX11_count_0 : decode cX11_count 0 = .ok (.iconst 0, 1) := by decide +kernel
theorem dX11_count_1 : decode cX11_count 1 = .ok (.istore_n 2, 1) := by decide +kernel
theorem dX11_count_2 : decode cX11_count 2 = .ok (.iconst 1, 1) := by decide +kernel
theorem dX11_count_3 : decode cX11_count 3 = .ok (.istore_n 3, 1) := by decide +kernel
theorem dX11_count_4 : decode cX11_count 4 = .ok (.iload_n 3, 1) := by decide +kernel
theorem dX11_count_5 : decode cX11_count 5 = .ok (.bipush 32, 2) := by decide +kernel
theorem dX11_count_7 : decode cX11_count 7 = .ok (.if_icmp .ge 61, 3) := by decide +kernel
theorem dX11_count_10 : decode cX11_count 10 = .ok (.iconst 2, 1) := by decide +kernel
theorem dX11_count_11 : decode cX11_count 11 = .ok (.istore 4, 2) := by decide +kernel
theorem dX11_count_13 : decode cX11_count 13 = .ok (.aload_n 0, 1) := by decide +kernel
theorem dX11_count_14 : decode cX11_count 14 = .ok (.iload_n 3, 1) := by decide +kernel
theorem dX11_count_15 : decode cX11_count 15 = .ok (.invokevirtual 62, 3) := by decide +kernel
theorem dX11_count_18 : decode cX11_count 18 = .ok (.iconst 2, 1) := by decide +kernel
theorem dX11_count_19 : decode cX11_count 19 = .ok (.if_icmp .ne 43, 3) := by decide +kernel
theorem dX11_count_22 : decode cX11_count 22 = .ok (.iload 4, 2) := by decide +kernel
theorem dX11_count_24 : decode cX11_count 24 = .ok (.aload_n 0, 1) := by decide +kernel
theorem dX11_count_25 : decode cX11_count 25 = .ok (.iload_n 3, 1) := by decide +kernel
theorem dX11_count_26 : decode cX11_count 26 = .ok (.invokevirtual 106, 3) := by decide +kernel
theorem dX11_count_29 : decode cX11_count 29 = .ok (.if_icmp .ge 33, 3) := by decide +kernel
theorem dX11_count_32 : decode cX11_count 32 = .ok (.iload_n 2, 1) := by decide +kernel
theorem dX11_count_33 : decode cX11_count 33 = .ok (.aload_n 0, 1) := by decide +kernel
theorem dX11_count_34 : decode cX11_count 34 = .ok (.getfield 13, 3) := by decide +kernel
theorem dX11_count_37 : decode cX11_count 37 = .ok (.aload_n 0, 1) := by decide +kernel
theorem dX11_count_38 : decode cX11_count 38 = .ok (.iload_n 3, 1) := by decide +kernel
theorem dX11_count_39 : decode cX11_count 39 = .ok (.iload 4, 2) := by decide +kernel
theorem dX11_count_41 : decode cX11_count 41 = .ok (.invokevirtual 73, 3) := by decide +kernel
theorem dX11_count_44 : decode cX11_count 44 = .ok (.iaload, 1) := by decide +kernel
theorem dX11_count_45 : decode cX11_count 45 = .ok (.iload_n 1, 1) := by decide +kernel
theorem dX11_count_46 : decode cX11_count 46 = .ok (.if_icmp .ne 7, 3) := by decide +kernel
theorem dX11_count_49 : decode cX11_count 49 = .ok (.iconst 1, 1) := by decide +kernel
theorem dX11_count_50 : decode cX11_count 50 = .ok (.goto 4, 3) := by decide +kernel
theorem dX11_count_53 : decode cX11_count 53 = .ok (.iconst 0, 1) := by decide +kernel
theorem dX11_count_54 : decode cX11_count 54 = .ok (.iadd, 1) := by decide +kernel
theorem dX11_count_55 : decode cX11_count 55 = .ok (.istore_n 2, 1) := by decide +kernel
theorem dX11_count_56 : decode cX11_count 56 = .ok (.iinc 4 1, 3) := by decide +kernel
theorem dX11_count_59 : decode cX11_count 59 = .ok (.goto (-46), 3) := by decide +kernel
theorem dX11_count_62 : decode cX11_count 62 = .ok (.iinc 3 1, 3) := by decide +kernel
theorem dX11_count_65 : decode cX11_count 65 = .ok (.goto (-61), 3) := by decide +kernel
theorem dX11_count_68 : decode cX11_count 68 = .ok (.iload_n 2, 1) := by decide +kernel
theorem dX11_count_69 : decode cX11_count 69 = .ok (.ireturn, 1) := by decide +kernel
theorem dX11_finish_0 : decode cX11_finish 0 = .ok (.iconst 1, 1) := by decide +kernel
theorem dX11_finish_1 : decode cX11_finish 1 = .ok (.istore_n 1, 1) := by decide +kernel
theorem dX11_finish_2 : decode cX11_finish 2 = .ok (.iload_n 1, 1) := by decide +kernel
theorem dX11_finish_3 : decode cX11_finish 3 = .ok (.bipush 32, 2) := by decide +kernel
theorem dX11_finish_5 : decode cX11_finish 5 = .ok (.if_icmp .ge 142, 3) := by decide +kernel
theorem dX11_finish_8 : decode cX11_finish 8 = .ok (.aload_n 0, 1) := by decide +kernel
theorem dX11_finish_9 : decode cX11_finish 9 = .ok (.iload_n 1, 1) := by decide +kernel
theorem dX11_finish_10 : decode cX11_finish 10 = .ok (.invokevirtual 62, 3) := by decide +kernel
theorem dX11_finish_13 : decode cX11_finish 13 = .ok (.iconst 1, 1) := by decide +kernel
theorem dX11_finish_14 : decode cX11_finish 14 = .ok (.if_icmp .ne 22, 3) := by decide +kernel
theorem dX11_finish_17 : decode cX11_finish 17 = .ok (.aload_n 0, 1) := by decide +kernel
theorem dX11_finish_18 : decode cX11_finish 18 = .ok (.getfield 13, 3) := by decide +kernel
theorem dX11_finish_21 : decode cX11_finish 21 = .ok (.iload_n 1, 1) := by decide +kernel
theorem dX11_finish_22 : decode cX11_finish 22 = .ok (.invokestatic 42, 3) := by decide +kernel
theorem dX11_finish_25 : decode cX11_finish 25 = .ok (.iconst 1, 1) := by decide +kernel
theorem dX11_finish_26 : decode cX11_finish 26 = .ok (.iadd, 1) := by decide +kernel
theorem dX11_finish_27 : decode cX11_finish 27 = .ok (.aload_n 0, 1) := by decide +kernel
theorem dX11_finish_28 : decode cX11_finish 28 = .ok (.iload_n 1, 1) := by decide +kernel
theorem dX11_finish_29 : decode cX11_finish 29 = .ok (.invokevirtual 145, 3) := by decide +kernel
theorem dX11_finish_32 : decode cX11_finish 32 = .ok (.iastore, 1) := by decide +kernel
theorem dX11_finish_33 : decode cX11_finish 33 = .ok (.goto 79, 3) := by decide +kernel
theorem dX11_finish_36 : decode cX11_finish 36 = .ok (.aload_n 0, 1) := by decide +kernel
theorem dX11_finish_37 : decode cX11_finish 37 = .ok (.iload_n 1, 1) := by decide +kernel
theorem dX11_finish_38 : decode cX11_finish 38 = .ok (.invokevirtual 62, 3) := by decide +kernel
theorem dX11_finish_41 : decode cX11_finish 41 = .ok (.iconst 2, 1) := by decide +kernel
theorem dX11_finish_42 : decode cX11_finish 42 = .ok (.if_icmp .ne 70, 3) := by decide +kernel
theorem dX11_finish_45 : decode cX11_finish 45 = .ok (.iconst 2, 1) := by decide +kernel
theorem dX11_finish_46 : decode cX11_finish 46 = .ok (.istore_n 2, 1) := by decide +kernel
theorem dX11_finish_47 : decode cX11_finish 47 = .ok (.iconst 2, 1) := by decide +kernel
theorem dX11_finish_48 : decode cX11_finish 48 = .ok (.istore_n 3, 1) := by decide +kernel
theorem dX11_finish_49 : decode cX11_finish 49 = .ok (.iload_n 3, 1) := by decide +kernel
theorem dX11_finish_50 : decode cX11_finish 50 = .ok (.aload_n 0, 1) := by decide +kernel
theorem dX11_finish_51 : decode cX11_finish 51 = .ok (.iload_n 1, 1) := by decide +kernel
theorem dX11_finish_52 : decode cX11_finish 52 = .ok (.invokevirtual 106, 3) := by decide +kernel
theorem dX11_finish_55 : decode cX11_finish 55 = .ok (.if_icmp .ge 45, 3) := by decide +kernel
theorem dX11_finish_58 : decode cX11_finish 58 = .ok (.aload_n 0, 1) := by decide +kernel
theorem dX11_finish_59 : decode cX11_finish 59 = .ok (.getfield 13, 3) := by decide +kernel
theorem dX11_finish_62 : decode cX11_finish 62 = .ok (.aload_n 0, 1) := by decide +kernel
theorem dX11_finish_63 : decode cX11_finish 63 = .ok (.iload_n 1, 1) := by decide +kernel
theorem dX11_finish_64 : decode cX11_finish 64 = .ok (.iload_n 3, 1) := by decide +kernel
theorem dX11_finish_65 : decode cX11_finish 65 = .ok (.invokevirtual 73, 3) := by decide +kernel
theorem dX11_finish_68 : decode cX11_finish 68 = .ok (.iaload, 1) := by decide +kernel
theorem dX11_finish_69 : decode cX11_finish 69 = .ok (.istore 4, 2) := by decide +kernel
theorem dX11_finish_71 : decode cX11_finish 71 = .ok (.iload_n 2, 1) := by decide +kernel
theorem dX11_finish_72 : decode cX11_finish 72 = .ok (.iload 4, 2) := by decide +kernel
theorem dX11_finish_74 : decode cX11_finish 74 = .ok (.ifCond .eq 17, 3) := by decide +kernel
theorem dX11_finish_77 : decode cX11_finish 77 = .ok (.aload_n 0, 1) := by decide +kernel
theorem dX11_finish_78 : decode cX11_finish 78 = .ok (.iload 4, 2) := by decide +kernel
theorem dX11_finish_80 : decode cX11_finish 80 = .ok (.invokevirtual 62, 3) := by decide +kernel
theorem dX11_finish_83 : decode cX11_finish 83 = .ok (.iconst 2, 1) := by decide +kernel
theorem dX11_finish_84 : decode cX11_finish 84 = .ok (.if_icmp .ne 7, 3) := by decide +kernel
theorem dX11_finish_87 : decode cX11_finish 87 = .ok (.iconst 1, 1) := by decide +kernel
theorem dX11_finish_88 : decode cX11_finish 88 = .ok (.goto 4, 3) := by decide +kernel
theorem dX11_finish_91 : decode cX11_finish 91 = .ok (.iconst 0, 1) := by decide +kernel
theorem dX11_finish_92 : decode cX11_finish 92 = .ok (.iadd, 1) := by decide +kernel
theorem dX11_finish_93 : decode cX11_finish 93 = .ok (.istore_n 2, 1) := by decide +kernel
theorem dX11_finish_94 : decode cX11_finish 94 = .ok (.iinc 3 1, 3) := by decide +kernel
theorem dX11_finish_97 : decode cX11_finish 97 = .ok (.goto (-48), 3) := by decide +kernel
theorem dX11_finish_100 : decode cX11_finish 100 = .ok (.aload_n 0, 1) := by decide +kernel
theorem dX11_finish_101 : decode cX11_finish 101 = .ok (.getfield 13, 3) := by decide +kernel
theorem dX11_finish_104 : decode cX11_finish 104 = .ok (.iload_n 1, 1) := by decide +kernel
theorem dX11_finish_105 : decode cX11_finish 105 = .ok (.invokestatic 42, 3) := by decide +kernel
theorem dX11_finish_108 : decode cX11_finish 108 = .ok (.iconst 1, 1) := by decide +kernel
theorem dX11_finish_109 : decode cX11_finish 109 = .ok (.iadd, 1) := by decide +kernel
theorem dX11_finish_110 : decode cX11_finish 110 = .ok (.iload_n 2, 1) := by decide +kernel
theorem dX11_finish_111 : decode cX11_finish 111 = .ok (.iastore, 1) := by decide +kernel
theorem dX11_finish_112 : decode cX11_finish 112 = .ok (.aload_n 0, 1) := by decide +kernel
theorem dX11_finish_113 : decode cX11_finish 113 = .ok (.iload_n 1, 1) := by decide +kernel
theorem dX11_finish_114 : decode cX11_finish 114 = .ok (.invokevirtual 62, 3) := by decide +kernel
theorem dX11_finish_117 : decode cX11_finish 117 = .ok (.ifCond .le 24, 3) := by decide +kernel
theorem dX11_finish_120 : decode cX11_finish 120 = .ok (.aload_n 0, 1) := by decide +kernel
theorem dX11_finish_121 : decode cX11_finish 121 = .ok (.iload_n 1, 1) := by decide +kernel
theorem dX11_finish_122 : decode cX11_finish 122 = .ok (.invokestatic 42, 3) := by decide +kernel
theorem dX11_finish_125 : decode cX11_finish 125 = .ok (.bipush 14, 2) := by decide +kernel
theorem dX11_finish_127 : decode cX11_finish 127 = .ok (.iadd, 1) := by decide +kernel
theorem dX11_finish_128 : decode cX11_finish 128 = .ok (.aload_n 0, 1) := by decide +kernel
theorem dX11_finish_129 : decode cX11_finish 129 = .ok (.iload_n 1, 1) := by decide +kernel
theorem dX11_finish_130 : decode cX11_finish 130 = .ok (.invokestatic 42, 3) := by decide +kernel
theorem dX11_finish_133 : decode cX11_finish 133 = .ok (.bipush 14, 2) := by decide +kernel
theorem dX11_finish_135 : decode cX11_finish 135 = .ok (.invokevirtual 38, 3) := by decide +kernel
theorem dX11_finish_138 : decode cX11_finish 138 = .ok (.invokevirtual 103, 3) := by decide +kernel
theorem dX11_finish_141 : decode cX11_finish 141 = .ok (.iinc 1 1, 3) := by decide +kernel
theorem dX11_finish_144 : decode cX11_finish 144 = .ok (.goto (-142), 3) := by decide +kernel
theorem dX11_finish_147 : decode cX11_finish 147 = .ok (.aload_n 0, 1) := by decide +kernel
theorem dX11_finish_148 : decode cX11_finish 148 = .ok (.iconst 0, 1) := by decide +kernel
theorem dX11_finish_149 : decode cX11_finish 149 = .ok (.invokevirtual 97, 3) := by decide +kernel
theorem dX11_finish_152 : decode cX11_finish 152 = .ok (.istore_n 1, 1) := by decide +kernel
theorem dX11_finish_153 : decode cX11_finish 153 = .ok (.iconst 0, 1) := by decide +kernel
theorem dX11_finish_154 : decode cX11_finish 154 = .ok (.istore_n 2, 1) := by decide +kernel
theorem dX11_finish_155 : decode cX11_finish 155 = .ok (.iconst 0, 1) := by decide +kernel
theorem dX11_finish_156 : decode cX11_finish 156 = .ok (.istore_n 3, 1) := by decide +kernel
theorem dX11_finish_157 : decode cX11_finish 157 = .ok (.aload_n 0, 1) := by decide +kernel
theorem dX11_finish_158 : decode cX11_finish 158 = .ok (.sipush 448, 3) := by decide +kernel
theorem dX11_finish_161 : decode cX11_finish 161 = .ok (.bipush 64, 2) := by decide +kernel
theorem dX11_finish_163 : decode cX11_finish 163 = .ok (.invokevirtual 65, 3) := by decide +kernel
theorem dX11_finish_166 : decode cX11_finish 166 = .ok (.iconst 0, 1) := by decide +kernel
theorem dX11_finish_167 : decode cX11_finish 167 = .ok (.istore 4, 2) := by decide +kernel
theorem dX11_finish_169 : decode cX11_finish 169 = .ok (.iload 4, 2) := by decide +kernel
theorem dX11_finish_171 : decode cX11_finish 171 = .ok (.bipush 64, 2) := by decide +kernel
theorem dX11_finish_173 : decode cX11_finish 173 = .ok (.if_icmp .ge 88, 3) := by decide +kernel
theorem dX11_finish_176 : decode cX11_finish 176 = .ok (.iload 4, 2) := by decide +kernel
theorem dX11_finish_178 : decode cX11_finish 178 = .ok (.bipush 16, 2) := by decide +kernel
theorem dX11_finish_180 : decode cX11_finish 180 = .ok (.if_icmp .lt 20, 3) := by decide +kernel
theorem dX11_finish_183 : decode cX11_finish 183 = .ok (.iload 4, 2) := by decide +kernel
theorem dX11_finish_185 : decode cX11_finish 185 = .ok (.bipush 63, 2) := by decide +kernel
theorem dX11_finish_187 : decode cX11_finish 187 = .ok (.if_icmp .eq 13, 3) := by decide +kernel
theorem dX11_finish_190 : decode cX11_finish 190 = .ok (.aload_n 0, 1) := by decide +kernel
theorem dX11_finish_191 : decode cX11_finish 191 = .ok (.getfield 16, 3) := by decide +kernel
theorem dX11_finish_194 : decode cX11_finish 194 = .ok (.iload 4, 2) := by decide +kernel
theorem dX11_finish_196 : decode cX11_finish 196 = .ok (.baload, 1) := by decide +kernel
theorem dX11_finish_197 : decode cX11_finish 197 = .ok (.ifCond .eq 7, 3) := by decide +kernel
theorem dX11_finish_200 : decode cX11_finish 200 = .ok (.iconst 1, 1) := by decide +kernel
theorem dX11_finish_201 : decode cX11_finish 201 = .ok (.goto 4, 3) := by decide +kernel
theorem dX11_finish_204 : decode cX11_finish 204 = .ok (.iconst 0, 1) := by decide +kernel
theorem dX11_finish_205 : decode cX11_finish 205 = .ok (.istore 5, 2) := by decide +kernel
theorem dX11_finish_207 : decode cX11_finish 207 = .ok (.iload_n 2, 1) := by decide +kernel
theorem dX11_finish_208 : decode cX11_finish 208 = .ok (.iload 5, 2) := by decide +kernel
theorem dX11_finish_210 : decode cX11_finish 210 = .ok (.ifCond .eq 7, 3) := by decide +kernel
theorem dX11_finish_213 : decode cX11_finish 213 = .ok (.iconst 0, 1) := by decide +kernel
theorem dX11_finish_214 : decode cX11_finish 214 = .ok (.goto 4, 3) := by decide +kernel
theorem dX11_finish_217 : decode cX11_finish 217 = .ok (.iconst 1, 1) := by decide +kernel
theorem dX11_finish_218 : decode cX11_finish 218 = .ok (.iadd, 1) := by decide +kernel
theorem dX11_finish_219 : decode cX11_finish 219 = .ok (.istore_n 2, 1) := by decide +kernel
theorem dX11_finish_220 : decode cX11_finish 220 = .ok (.aload_n 0, 1) := by decide +kernel
theorem dX11_finish_221 : decode cX11_finish 221 = .ok (.getfield 13, 3) := by decide +kernel
theorem dX11_finish_224 : decode cX11_finish 224 = .ok (.sipush 448, 3) := by decide +kernel
theorem dX11_finish_227 : decode cX11_finish 227 = .ok (.iload 4, 2) := by decide +kernel
theorem dX11_finish_229 : decode cX11_finish 229 = .ok (.bipush 8, 2) := by decide +kernel
theorem dX11_finish_231 : decode cX11_finish 231 = .ok (.idiv, 1) := by decide +kernel
theorem dX11_finish_232 : decode cX11_finish 232 = .ok (.iadd, 1) := by decide +kernel
theorem dX11_finish_233 : decode cX11_finish 233 = .ok (.dup2, 1) := by decide +kernel
theorem dX11_finish_234 : decode cX11_finish 234 = .ok (.iaload, 1) := by decide +kernel
theorem dX11_finish_235 : decode cX11_finish 235 = .ok (.iload 5, 2) := by decide +kernel
theorem dX11_finish_237 : decode cX11_finish 237 = .ok (.ifCond .eq 15, 3) := by decide +kernel
theorem dX11_finish_240 : decode cX11_finish 240 = .ok (.sipush 128, 3) := by decide +kernel
theorem dX11_finish_243 : decode cX11_finish 243 = .ok (.iload 4, 2) := by decide +kernel
theorem dX11_finish_245 : decode cX11_finish 245 = .ok (.bipush 8, 2) := by decide +kernel
theorem dX11_finish_247 : decode cX11_finish 247 = .ok (.irem, 1) := by decide +kernel
theorem dX11_finish_248 : decode cX11_finish 248 = .ok (.ishr, 1) := by decide +kernel
theorem dX11_finish_249 : decode cX11_finish 249 = .ok (.goto 4, 3) := by decide +kernel
theorem dX11_finish_252 : decode cX11_finish 252 = .ok (.iconst 0, 1) := by decide +kernel
theorem dX11_finish_253 : decode cX11_finish 253 = .ok (.iadd, 1) := by decide +kernel
theorem dX11_finish_254 : decode cX11_finish 254 = .ok (.iastore, 1) := by decide +kernel
theorem dX11_finish_255 : decode cX11_finish 255 = .ok (.iinc 4 1, 3) := by decide +kernel
theorem dX11_finish_258 : decode cX11_finish 258 = .ok (.goto (-89), 3) := by decide +kernel
theorem dX11_finish_261 : decode cX11_finish 261 = .ok (.iconst 0, 1) := by decide +kernel
theorem dX11_finish_262 : decode cX11_finish 262 = .ok (.istore 4, 2) := by decide +kernel
theorem dX11_finish_264 : decode cX11_finish 264 = .ok (.iload 4, 2) := by decide +kernel
theorem dX11_finish_266 : decode cX11_finish 266 = .ok (.bipush 32, 2) := by decide +kernel
theorem dX11_finish_268 : decode cX11_finish 268 = .ok (.if_icmp .ge 78, 3) := by decide +kernel
theorem dX11_finish_271 : decode cX11_finish 271 = .ok (.iload 4, 2) := by decide +kernel
theorem dX11_finish_273 : decode cX11_finish 273 = .ok (.ifCond .eq 12, 3) := by decide +kernel
theorem dX11_finish_276 : decode cX11_finish 276 = .ok (.aload_n 0, 1) := by decide +kernel
theorem dX11_finish_277 : decode cX11_finish 277 = .ok (.iload 4, 2) := by decide +kernel
theorem dX11_finish_279 : decode cX11_finish 279 = .ok (.invokevirtual 62, 3) := by decide +kernel
theorem dX11_finish_282 : decode cX11_finish 282 = .ok (.ifCond .le 7, 3) := by decide +kernel
theorem dX11_finish_285 : decode cX11_finish 285 = .ok (.iconst 1, 1) := by decide +kernel
theorem dX11_finish_286 : decode cX11_finish 286 = .ok (.goto 4, 3) := by decide +kernel
theorem dX11_finish_289 : decode cX11_finish 289 = .ok (.iconst 0, 1) := by decide +kernel
theorem dX11_finish_290 : decode cX11_finish 290 = .ok (.istore 5, 2) := by decide +kernel
theorem dX11_finish_292 : decode cX11_finish 292 = .ok (.iload_n 3, 1) := by decide +kernel
theorem dX11_finish_293 : decode cX11_finish 293 = .ok (.iload 5, 2) := by decide +kernel
theorem dX11_finish_295 : decode cX11_finish 295 = .ok (.ifCond .eq 7, 3) := by decide +kernel
theorem dX11_finish_298 : decode cX11_finish 298 = .ok (.iconst 0, 1) := by decide +kernel
theorem dX11_finish_299 : decode cX11_finish 299 = .ok (.goto 4, 3) := by decide +kernel
theorem dX11_finish_302 : decode cX11_finish 302 = .ok (.iconst 1, 1) := by decide +kernel
theorem dX11_finish_303 : decode cX11_finish 303 = .ok (.iadd, 1) := by decide +kernel
theorem dX11_finish_304 : decode cX11_finish 304 = .ok (.istore_n 3, 1) := by decide +kernel
theorem dX11_finish_305 : decode cX11_finish 305 = .ok (.aload_n 0, 1) := by decide +kernel
theorem dX11_finish_306 : decode cX11_finish 306 = .ok (.getfield 13, 3) := by decide +kernel
theorem dX11_finish_309 : decode cX11_finish 309 = .ok (.sipush 456, 3) := by decide +kernel
theorem dX11_finish_312 : decode cX11_finish 312 = .ok (.iload 4, 2) := by decide +kernel
theorem dX11_finish_314 : decode cX11_finish 314 = .ok (.bipush 8, 2) := by decide +kernel
theorem dX11_finish_316 : decode cX11_finish 316 = .ok (.idiv, 1) := by decide +kernel
theorem dX11_finish_317 : decode cX11_finish 317 = .ok (.iadd, 1) := by decide +kernel
theorem dX11_finish_318 : decode cX11_finish 318 = .ok (.dup2, 1) := by decide +kernel
theorem dX11_finish_319 : decode cX11_finish 319 = .ok (.iaload, 1) := by decide +kernel
theorem dX11_finish_320 : decode cX11_finish 320 = .ok (.iload 5, 2) := by decide +kernel
theorem dX11_finish_322 : decode cX11_finish 322 = .ok (.ifCond .eq 15, 3) := by decide +kernel
theorem dX11_finish_325 : decode cX11_finish 325 = .ok (.sipush 128, 3) := by decide +kernel
theorem dX11_finish_328 : decode cX11_finish 328 = .ok (.iload 4, 2) := by decide +kernel
theorem dX11_finish_330 : decode cX11_finish 330 = .ok (.bipush 8, 2) := by decide +kernel
theorem dX11_finish_332 : decode cX11_finish 332 = .ok (.irem, 1) := by decide +kernel
theorem dX11_finish_333 : decode cX11_finish 333 = .ok (.ishr, 1) := by decide +kernel
theorem dX11_finish_334 : decode cX11_finish 334 = .ok (.goto 4, 3) := by decide +kernel
theorem dX11_finish_337 : decode cX11_finish 337 = .ok (.iconst 0, 1) := by decide +kernel
theorem dX11_finish_338 : decode cX11_finish 338 = .ok (.iadd, 1) := by decide +kernel
theorem dX11_finish_339 : decode cX11_finish 339 = .ok (.iastore, 1) := by decide +kernel
theorem dX11_finish_340 : decode cX11_finish 340 = .ok (.iinc 4 1, 3) := by decide +kernel
theorem dX11_finish_343 : decode cX11_finish 343 = .ok (.goto (-79), 3) := by decide +kernel
theorem dX11_finish_346 : decode cX11_finish 346 = .ok (.aload_n 0, 1) := by decide +kernel
theorem dX11_finish_347 : decode cX11_finish 347 = .ok (.iconst 0, 1) := by decide +kernel
theorem dX11_finish_348 : decode cX11_finish 348 = .ok (.iload_n 2, 1) := by decide +kernel
theorem dX11_finish_349 : decode cX11_finish 349 = .ok (.iload_n 3, 1) := by decide +kernel
theorem dX11_finish_350 : decode cX11_finish 350 = .ok (.invokevirtual 148, 3) := by decide +kernel
theorem dX11_finish_353 : decode cX11_finish 353 = .ok (.aload_n 0, 1) := by decide +kernel
theorem dX11_finish_354 : decode cX11_finish 354 = .ok (.sipush 4032, 3) := by decide +kernel
theorem dX11_finish_357 : decode cX11_finish 357 = .ok (.iload_n 2, 1) := by decide +kernel
theorem dX11_finish_358 : decode cX11_finish 358 = .ok (.iload_n 3, 1) := by decide +kernel
theorem dX11_finish_359 : decode cX11_finish 359 = .ok (.invokevirtual 148, 3) := by decide +kernel
theorem dX11_finish_362 : decode cX11_finish 362 = .ok (.return_, 1) := by decide +kernel
theorem dX11_superAt_0 : decode cX11_superAt 0 = .ok (.aload_n 0, 1) := by decide +kernel
theorem dX11_superAt_1 : decode cX11_superAt 1 = .ok (.iload_n 1, 1) := by decide +kernel
theorem dX11_superAt_2 : decode cX11_superAt 2 = .ok (.bipush 64, 2) := by decide +kernel
theorem dX11_superAt_4 : decode cX11_superAt 4 = .ok (.invokevirtual 65, 3) := by decide +kernel
theorem dX11_superAt_7 : decode cX11_superAt 7 = .ok (.aload_n 0, 1) := by decide +kernel
theorem dX11_superAt_8 : decode cX11_superAt 8 = .ok (.getfield 13, 3) := by decide +kernel
theorem dX11_superAt_11 : decode cX11_superAt 11 = .ok (.iload_n 1, 1) := by decide +kernel
theorem dX11_superAt_12 : decode cX11_superAt 12 = .ok (.bipush 83, 2) := by decide +kernel
theorem dX11_superAt_14 : decode cX11_superAt 14 = .ok (.iastore, 1) := by decide +kernel
theorem dX11_superAt_15 : decode cX11_superAt 15 = .ok (.aload_n 0, 1) := by decide +kernel
theorem dX11_superAt_16 : decode cX11_superAt 16 = .ok (.getfield 13, 3) := by decide +kernel
theorem dX11_superAt_19 : decode cX11_superAt 19 = .ok (.iload_n 1, 1) := by decide +kernel
theorem dX11_superAt_20 : decode cX11_superAt 20 = .ok (.iconst 1, 1) := by decide +kernel
theorem dX11_superAt_21 : decode cX11_superAt 21 = .ok (.iadd, 1) := by decide +kernel
theorem dX11_superAt_22 : decode cX11_superAt 22 = .ok (.bipush 70, 2) := by decide +kernel
theorem dX11_superAt_24 : decode cX11_superAt 24 = .ok (.iastore, 1) := by decide +kernel
theorem dX11_superAt_25 : decode cX11_superAt 25 = .ok (.aload_n 0, 1) := by decide +kernel
theorem dX11_superAt_26 : decode cX11_superAt 26 = .ok (.getfield 13, 3) := by decide +kernel
theorem dX11_superAt_29 : decode cX11_superAt 29 = .ok (.iload_n 1, 1) := by decide +kernel
theorem dX11_superAt_30 : decode cX11_superAt 30 = .ok (.iconst 2, 1) := by decide +kernel
theorem dX11_superAt_31 : decode cX11_superAt 31 = .ok (.iadd, 1) := by decide +kernel
theorem dX11_superAt_32 : decode cX11_superAt 32 = .ok (.bipush 83, 2) := by decide +kernel
theorem dX11_superAt_34 : decode cX11_superAt 34 = .ok (.iastore, 1) := by decide +kernel
theorem dX11_superAt_35 : decode cX11_superAt 35 = .ok (.aload_n 0, 1) := by decide +kernel
theorem dX11_superAt_36 : decode cX11_superAt 36 = .ok (.getfield 13, 3) := by decide +kernel
theorem dX11_superAt_39 : decode cX11_superAt 39 = .ok (.iload_n 1, 1) := by decide +kernel
theorem dX11_superAt_40 : decode cX11_superAt 40 = .ok (.iconst 3, 1) := by decide +kernel
theorem dX11_superAt_41 : decode cX11_superAt 41 = .ok (.iadd, 1) := by decide +kernel
theorem dX11_superAt_42 : decode cX11_superAt 42 = .ok (.bipush 75, 2) := by decide +kernel
theorem dX11_superAt_44 : decode cX11_superAt 44 = .ok (.iastore, 1) := by decide +kernel
theorem dX11_superAt_45 : decode cX11_superAt 45 = .ok (.aload_n 0, 1) := by decide +kernel
theorem dX11_superAt_46 : decode cX11_superAt 46 = .ok (.iload_n 1, 1) := by decide +kernel
theorem dX11_superAt_47 : decode cX11_superAt 47 = .ok (.iconst 4, 1) := by decide +kernel
theorem dX11_superAt_48 : decode cX11_superAt 48 = .ok (.iadd, 1) := by decide +kernel
theorem dX11_superAt_49 : decode cX11_superAt 49 = .ok (.iload_n 2, 1) := by decide +kernel
theorem dX11_superAt_50 : decode cX11_superAt 50 = .ok (.invokevirtual 103, 3) := by decide +kernel
theorem dX11_superAt_53 : decode cX11_superAt 53 = .ok (.aload_n 0, 1) := by decide +kernel
theorem dX11_superAt_54 : decode cX11_superAt 54 = .ok (.iload_n 1, 1) := by decide +kernel
theorem dX11_superAt_55 : decode cX11_superAt 55 = .ok (.bipush 6, 2) := by decide +kernel
theorem dX11_superAt_57 : decode cX11_superAt 57 = .ok (.iadd, 1) := by decide +kernel
theorem dX11_superAt_58 : decode cX11_superAt 58 = .ok (.iload_n 3, 1) := by decide +kernel
theorem dX11_superAt_59 : decode cX11_superAt 59 = .ok (.invokevirtual 103, 3) := by decide +kernel
theorem dX11_superAt_62 : decode cX11_superAt 62 = .ok (.aload_n 0, 1) := by decide +kernel
theorem dX11_superAt_63 : decode cX11_superAt 63 = .ok (.iload_n 1, 1) := by decide +kernel
theorem dX11_superAt_64 : decode cX11_superAt 64 = .ok (.bipush 62, 2) := by decide +kernel
theorem dX11_superAt_66 : decode cX11_superAt 66 = .ok (.iadd, 1) := by decide +kernel
theorem dX11_superAt_67 : decode cX11_superAt 67 = .ok (.aload_n 0, 1) := by decide +kernel
theorem dX11_superAt_68 : decode cX11_superAt 68 = .ok (.iload_n 1, 1) := by decide +kernel
theorem dX11_superAt_69 : decode cX11_superAt 69 = .ok (.bipush 62, 2) := by decide +kernel
theorem dX11_superAt_71 : decode cX11_superAt 71 = .ok (.invokevirtual 38, 3) := by decide +kernel
theorem dX11_superAt_74 : decode cX11_superAt 74 = .ok (.invokevirtual 103, 3) := by decide +kernel
theorem dX11_superAt_77 : decode cX11_superAt 77 = .ok (.return_, 1) := by decide +kernel
theorem dX11_passes_0 : decode cX11_passes 0 = .ok (.aload_n 0, 1) := by decide +kernel
theorem dX11_passes_1 : decode cX11_passes 1 = .ok (.invokevirtual 152, 3) := by decide +kernel
theorem dX11_passes_4 : decode cX11_passes 4 = .ok (.aload_n 0, 1) := by decide +kernel
theorem dX11_passes_5 : decode cX11_passes 5 = .ok (.iconst 0, 1) := by decide +kernel
theorem dX11_passes_6 : decode cX11_passes 6 = .ok (.invokevirtual 155, 3) := by decide +kernel
theorem dX11_passes_9 : decode cX11_passes 9 = .ok (.ifCond .ne 15, 3) := by decide +kernel
theorem dX11_passes_12 : decode cX11_passes 12 = .ok (.aload_n 0, 1) := by decide +kernel
theorem dX11_passes_13 : decode cX11_passes 13 = .ok (.sipush 4032, 3) := by decide +kernel
theorem dX11_passes_16 : decode cX11_passes 16 = .ok (.invokevirtual 155, 3) := by decide +kernel
theorem dX11_passes_19 : decode cX11_passes 19 = .ok (.ifCond .ne 5, 3) := by decide +kernel
theorem dX11_passes_22 : decode cX11_passes 22 = .ok (.iconst 0, 1) := by decide +kernel
theorem dX11_passes_23 : decode cX11_passes 23 = .ok (.ireturn, 1) := by decide +kernel
theorem dX11_passes_24 : decode cX11_passes 24 = .ok (.aload_n 0, 1) := by decide +kernel
theorem dX11_passes_25 : decode cX11_passes 25 = .ok (.invokevirtual 158, 3) := by decide +kernel
theorem dX11_passes_28 : decode cX11_passes 28 = .ok (.aload_n 0, 1) := by decide +kernel
theorem dX11_passes_29 : decode cX11_passes 29 = .ok (.invokevirtual 161, 3) := by decide +kernel
theorem dX11_passes_32 : decode cX11_passes 32 = .ok (.aload_n 0, 1) := by decide +kernel
theorem dX11_passes_33 : decode cX11_passes 33 = .ok (.invokevirtual 164, 3) := by decide +kernel
theorem dX11_passes_36 : decode cX11_passes 36 = .ok (.aload_n 0, 1) := by decide +kernel
theorem dX11_passes_37 : decode cX11_passes 37 = .ok (.invokevirtual 167, 3) := by decide +kernel
theorem dX11_passes_40 : decode cX11_passes 40 = .ok (.aload_n 0, 1) := by decide +kernel
theorem dX11_passes_41 : decode cX11_passes 41 = .ok (.invokevirtual 170, 3) := by decide +kernel
theorem dX11_passes_44 : decode cX11_passes 44 = .ok (.iconst 1, 1) := by decide +kernel
theorem dX11_passes_45 : decode cX11_passes 45 = .ok (.ireturn, 1) := by decide +kernel
theorem dX11_differs_0 : decode cX11_differs 0 = .ok (.iconst 0, 1) := by decide +kernel
theorem dX11_differs_1 : decode cX11_differs 1 = .ok (.istore_n 2, 1) := by decide +kernel
theorem dX11_differs_2 : decode cX11_differs 2 = .ok (.bipush 64, 2) := by decide +kernel
theorem dX11_differs_4 : decode cX11_differs 4 = .ok (.iload_n 1, 1) := by decide +kernel
theorem dX11_differs_5 : decode cX11_differs 5 = .ok (.imul, 1) := by decide +kernel
theorem dX11_differs_6 : decode cX11_differs 6 = .ok (.istore_n 3, 1) := by decide +kernel
theorem dX11_differs_7 : decode cX11_differs 7 = .ok (.iload_n 3, 1) := by decide +kernel
theorem dX11_differs_8 : decode cX11_differs 8 = .ok (.bipush 64, 2) := by decide +kernel
theorem dX11_differs_10 : decode cX11_differs 10 = .ok (.iload_n 1, 1) := by decide +kernel
theorem dX11_differs_11 : decode cX11_differs 11 = .ok (.imul, 1) := by decide +kernel
theorem dX11_differs_12 : decode cX11_differs 12 = .ok (.bipush 64, 2) := by decide +kernel
theorem dX11_differs_14 : decode cX11_differs 14 = .ok (.iadd, 1) := by decide +kernel
theorem dX11_differs_15 : decode cX11_differs 15 = .ok (.if_icmp .ge 34, 3) := by decide +kernel
theorem dX11_differs_18 : decode cX11_differs 18 = .ok (.iload_n 2, 1) := by decide +kernel
theorem dX11_differs_19 : decode cX11_differs 19 = .ok (.ifCond .ne 18, 3) := by decide +kernel
theorem dX11_differs_22 : decode cX11_differs 22 = .ok (.aload_n 0, 1) := by decide +kernel
theorem dX11_differs_23 : decode cX11_differs 23 = .ok (.getfield 13, 3) := by decide +kernel
theorem dX11_differs_26 : decode cX11_differs 26 = .ok (.iload_n 3, 1) := by decide +kernel
theorem dX11_differs_27 : decode cX11_differs 27 = .ok (.iaload, 1) := by decide +kernel
theorem dX11_differs_28 : decode cX11_differs 28 = .ok (.aload_n 0, 1) := by decide +kernel
theorem dX11_differs_29 : decode cX11_differs 29 = .ok (.getfield 7, 3) := by decide +kernel
theorem dX11_differs_32 : decode cX11_differs 32 = .ok (.iload_n 3, 1) := by decide +kernel
theorem dX11_differs_33 : decode cX11_differs 33 = .ok (.iaload, 1) := by decide +kernel
theorem dX11_differs_34 : decode cX11_differs 34 = .ok (.if_icmp .eq 7, 3) := by decide +kernel
theorem dX11_differs_37 : decode cX11_differs 37 = .ok (.iconst 1, 1) := by decide +kernel
theorem dX11_differs_38 : decode cX11_differs 38 = .ok (.goto 4, 3) := by decide +kernel
theorem dX11_differs_41 : decode cX11_differs 41 = .ok (.iconst 0, 1) := by decide +kernel
theorem dX11_differs_42 : decode cX11_differs 42 = .ok (.istore_n 2, 1) := by decide +kernel
theorem dX11_differs_43 : decode cX11_differs 43 = .ok (.iinc 3 1, 3) := by decide +kernel
theorem dX11_differs_46 : decode cX11_differs 46 = .ok (.goto (-39), 3) := by decide +kernel
theorem dX11_differs_49 : decode cX11_differs 49 = .ok (.iload_n 2, 1) := by decide +kernel
theorem dX11_differs_50 : decode cX11_differs 50 = .ok (.ireturn, 1) := by decide +kernel
theorem dX11_written_0 : decode cX11_written 0 = .ok (.iconst 0, 1) := by decide +kernel
theorem dX11_written_1 : decode cX11_written 1 = .ok (.istore_n 3, 1) := by decide +kernel
theorem dX11_written_2 : decode cX11_written 2 = .ok (.iconst 0, 1) := by decide +kernel
theorem dX11_written_3 : decode cX11_written 3 = .ok (.istore 4, 2) := by decide +kernel
theorem dX11_written_5 : decode cX11_written 5 = .ok (.iload 4, 2) := by decide +kernel
theorem dX11_written_7 : decode cX11_written 7 = .ok (.bipush 64, 2) := by decide +kernel
theorem dX11_written_9 : decode cX11_written 9 = .ok (.if_icmp .ge 70, 3) := by decide +kernel
theorem dX11_written_12 : decode cX11_written 12 = .ok (.iload_n 3, 1) := by decide +kernel
theorem dX11_written_13 : decode cX11_written 13 = .ok (.iload_n 1, 1) := by decide +kernel
theorem dX11_written_14 : decode cX11_written 14 = .ok (.if_icmp .ge 65, 3) := by decide +kernel
theorem dX11_written_17 : decode cX11_written 17 = .ok (.aload_n 0, 1) := by decide +kernel
theorem dX11_written_18 : decode cX11_written 18 = .ok (.iload 4, 2) := by decide +kernel
theorem dX11_written_20 : decode cX11_written 20 = .ok (.invokevirtual 173, 3) := by decide +kernel
theorem dX11_written_23 : decode cX11_written 23 = .ok (.ifCond .eq 50, 3) := by decide +kernel
theorem dX11_written_26 : decode cX11_written 26 = .ok (.iinc 3 1, 3) := by decide +kernel
theorem dX11_written_29 : decode cX11_written 29 = .ok (.bipush 64, 2) := by decide +kernel
theorem dX11_written_31 : decode cX11_written 31 = .ok (.iload 4, 2) := by decide +kernel
theorem dX11_written_33 : decode cX11_written 33 = .ok (.imul, 1) := by decide +kernel
theorem dX11_written_34 : decode cX11_written 34 = .ok (.istore 5, 2) := by decide +kernel
theorem dX11_written_36 : decode cX11_written 36 = .ok (.iload 5, 2) := by decide +kernel
theorem dX11_written_38 : decode cX11_written 38 = .ok (.bipush 64, 2) := by decide +kernel
theorem dX11_written_40 : decode cX11_written 40 = .ok (.iload 4, 2) := by decide +kernel
theorem dX11_written_42 : decode cX11_written 42 = .ok (.imul, 1) := by decide +kernel
theorem dX11_written_43 : decode cX11_written 43 = .ok (.bipush 64, 2) := by decide +kernel
theorem dX11_written_45 : decode cX11_written 45 = .ok (.iadd, 1) := by decide +kernel
theorem dX11_written_46 : decode cX11_written 46 = .ok (.if_icmp .ge 27, 3) := by decide +kernel
theorem dX11_written_49 : decode cX11_written 49 = .ok (.iload_n 2, 1) := by decide +kernel
theorem dX11_written_50 : decode cX11_written 50 = .ok (.ifCond .eq 23, 3) := by decide +kernel
theorem dX11_written_53 : decode cX11_written 53 = .ok (.aload_n 0, 1) := by decide +kernel
theorem dX11_written_54 : decode cX11_written 54 = .ok (.getfield 7, 3) := by decide +kernel
theorem dX11_written_57 : decode cX11_written 57 = .ok (.iload 5, 2) := by decide +kernel
theorem dX11_written_59 : decode cX11_written 59 = .ok (.aload_n 0, 1) := by decide +kernel
theorem dX11_written_60 : decode cX11_written 60 = .ok (.getfield 13, 3) := by decide +kernel
theorem dX11_written_63 : decode cX11_written 63 = .ok (.iload 5, 2) := by decide +kernel
theorem dX11_written_65 : decode cX11_written 65 = .ok (.iaload, 1) := by decide +kernel
theorem dX11_written_66 : decode cX11_written 66 = .ok (.iastore, 1) := by decide +kernel
theorem dX11_written_67 : decode cX11_written 67 = .ok (.iinc 5 1, 3) := by decide +kernel
theorem dX11_written_70 : decode cX11_written 70 = .ok (.goto (-34), 3) := by decide +kernel
theorem dX11_written_73 : decode cX11_written 73 = .ok (.iinc 4 1, 3) := by decide +kernel
theorem dX11_written_76 : decode cX11_written 76 = .ok (.goto (-71), 3) := by decide +kernel
theorem dX11_written_79 : decode cX11_written 79 = .ok (.iload_n 3, 1) := by decide +kernel
theorem dX11_written_80 : decode cX11_written 80 = .ok (.ireturn, 1) := by decide +kernel
theorem dX11_format_0 : decode cX11_format 0 = .ok (.iconst 0, 1) := by decide +kernel
theorem dX11_format_1 : decode cX11_format 1 = .ok (.istore_n 1, 1) := by decide +kernel
theorem dX11_format_2 : decode cX11_format 2 = .ok (.iload_n 1, 1) := by decide +kernel
theorem dX11_format_3 : decode cX11_format 3 = .ok (.sipush 4096, 3) := by decide +kernel
theorem dX11_format_6 : decode cX11_format 6 = .ok (.if_icmp .ge 16, 3) := by decide +kernel
theorem dX11_format_9 : decode cX11_format 9 = .ok (.aload_n 0, 1) := by decide +kernel
theorem dX11_format_10 : decode cX11_format 10 = .ok (.getfield 13, 3) := by decide +kernel
theorem dX11_format_13 : decode cX11_format 13 = .ok (.iload_n 1, 1) := by decide +kernel
theorem dX11_format_14 : decode cX11_format 14 = .ok (.iconst 0, 1) := by decide +kernel
theorem dX11_format_15 : decode cX11_format 15 = .ok (.iastore, 1) := by decide +kernel
theorem dX11_format_16 : decode cX11_format 16 = .ok (.iinc 1 1, 3) := by decide +kernel
theorem dX11_format_19 : decode cX11_format 19 = .ok (.goto (-17), 3) := by decide +kernel
theorem dX11_format_22 : decode cX11_format 22 = .ok (.aload_n 0, 1) := by decide +kernel
theorem dX11_format_23 : decode cX11_format 23 = .ok (.iconst 0, 1) := by decide +kernel
theorem dX11_format_24 : decode cX11_format 24 = .ok (.iconst 0, 1) := by decide +kernel
theorem dX11_format_25 : decode cX11_format 25 = .ok (.iconst 0, 1) := by decide +kernel
theorem dX11_format_26 : decode cX11_format 26 = .ok (.invokevirtual 148, 3) := by decide +kernel
theorem dX11_format_29 : decode cX11_format 29 = .ok (.aload_n 0, 1) := by decide +kernel
theorem dX11_format_30 : decode cX11_format 30 = .ok (.invokevirtual 176, 3) := by decide +kernel
theorem dX11_format_33 : decode cX11_format 33 = .ok (.aload_n 0, 1) := by decide +kernel
theorem dX11_format_34 : decode cX11_format 34 = .ok (.iconst (-1), 1) := by decide +kernel
theorem dX11_format_35 : decode cX11_format 35 = .ok (.invokevirtual 179, 3) := by decide +kernel
theorem dX11_format_38 : decode cX11_format 38 = .ok (.ireturn, 1) := by decide +kernel
theorem dX11_poke_0 : decode cX11_poke 0 = .ok (.iload_n 1, 1) := by decide +kernel
theorem dX11_poke_1 : decode cX11_poke 1 = .ok (.ifCond .lt 21, 3) := by decide +kernel
theorem dX11_poke_4 : decode cX11_poke 4 = .ok (.iload_n 1, 1) := by decide +kernel
theorem dX11_poke_5 : decode cX11_poke 5 = .ok (.sipush 4096, 3) := by decide +kernel
theorem dX11_poke_8 : decode cX11_poke 8 = .ok (.if_icmp .ge 14, 3) := by decide +kernel
theorem dX11_poke_11 : decode cX11_poke 11 = .ok (.iload_n 2, 1) := by decide +kernel
theorem dX11_poke_12 : decode cX11_poke 12 = .ok (.ifCond .lt 10, 3) := by decide +kernel
theorem dX11_poke_15 : decode cX11_poke 15 = .ok (.iload_n 2, 1) := by decide +kernel
theorem dX11_poke_16 : decode cX11_poke 16 = .ok (.sipush 255, 3) := by decide +kernel
theorem dX11_poke_19 : decode cX11_poke 19 = .ok (.if_icmp .le 5, 3) := by decide +kernel
theorem dX11_poke_22 : decode cX11_poke 22 = .ok (.iconst 0, 1) := by decide +kernel
theorem dX11_poke_23 : decode cX11_poke 23 = .ok (.ireturn, 1) := by decide +kernel
theorem dX11_poke_24 : decode cX11_poke 24 = .ok (.aload_n 0, 1) := by decide +kernel
theorem dX11_poke_25 : decode cX11_poke 25 = .ok (.getfield 7, 3) := by decide +kernel
theorem dX11_poke_28 : decode cX11_poke 28 = .ok (.iload_n 1, 1) := by decide +kernel
theorem dX11_poke_29 : decode cX11_poke 29 = .ok (.iload_n 2, 1) := by decide +kernel
theorem dX11_poke_30 : decode cX11_poke 30 = .ok (.iastore, 1) := by decide +kernel
theorem dX11_poke_31 : decode cX11_poke 31 = .ok (.iconst 1, 1) := by decide +kernel
theorem dX11_poke_32 : decode cX11_poke 32 = .ok (.ireturn, 1) := by decide +kernel
theorem dX11_peek_0 : decode cX11_peek 0 = .ok (.iload_n 1, 1) := by decide +kernel
theorem dX11_peek_1 : decode cX11_peek 1 = .ok (.ifCond .lt 10, 3) := by decide +kernel
theorem dX11_peek_4 : decode cX11_peek 4 = .ok (.iload_n 1, 1) := by decide +kernel
theorem dX11_peek_5 : decode cX11_peek 5 = .ok (.sipush 4096, 3) := by decide +kernel
theorem dX11_peek_8 : decode cX11_peek 8 = .ok (.if_icmp .lt 7, 3) := by decide +kernel
theorem dX11_peek_11 : decode cX11_peek 11 = .ok (.iconst (-1), 1) := by decide +kernel
theorem dX11_peek_12 : decode cX11_peek 12 = .ok (.goto 9, 3) := by decide +kernel
theorem dX11_peek_15 : decode cX11_peek 15 = .ok (.aload_n 0, 1) := by decide +kernel
theorem dX11_peek_16 : decode cX11_peek 16 = .ok (.getfield 7, 3) := by decide +kernel
theorem dX11_peek_19 : decode cX11_peek 19 = .ok (.iload_n 1, 1) := by decide +kernel
theorem dX11_peek_20 : decode cX11_peek 20 = .ok (.iaload, 1) := by decide +kernel
theorem dX11_peek_21 : decode cX11_peek 21 = .ok (.ireturn, 1) := by decide +kernel
theorem dX11_seal_0 : decode cX11_seal 0 = .ok (.iload_n 1, 1) := by decide +kernel
theorem dX11_seal_1 : decode cX11_seal 1 = .ok (.ifCond .lt 9, 3) := by decide +kernel
theorem dX11_seal_4 : decode cX11_seal 4 = .ok (.iload_n 1, 1) := by decide +kernel
theorem dX11_seal_5 : decode cX11_seal 5 = .ok (.bipush 35, 2) := by decide +kernel
theorem dX11_seal_7 : decode cX11_seal 7 = .ok (.if_icmp .lt 5, 3) := by decide +kernel
theorem dX11_seal_10 : decode cX11_seal 10 = .ok (.iconst 0, 1) := by decide +kernel
theorem dX11_seal_11 : decode cX11_seal 11 = .ok (.ireturn, 1) := by decide +kernel
theorem dX11_seal_12 : decode cX11_seal 12 = .ok (.aload_n 0, 1) := by decide +kernel
theorem dX11_seal_13 : decode cX11_seal 13 = .ok (.invokevirtual 152, 3) := by decide +kernel
theorem dX11_seal_16 : decode cX11_seal 16 = .ok (.iload_n 1, 1) := by decide +kernel
theorem dX11_seal_17 : decode cX11_seal 17 = .ok (.iconst 2, 1) := by decide +kernel
theorem dX11_seal_18 : decode cX11_seal 18 = .ok (.if_icmp .ge 29, 3) := by decide +kernel
theorem dX11_seal_21 : decode cX11_seal 21 = .ok (.aload_n 0, 1) := by decide +kernel
theorem dX11_seal_22 : decode cX11_seal 22 = .ok (.sipush 4032, 3) := by decide +kernel
theorem dX11_seal_25 : decode cX11_seal 25 = .ok (.iload_n 1, 1) := by decide +kernel
theorem dX11_seal_26 : decode cX11_seal 26 = .ok (.imul, 1) := by decide +kernel
theorem dX11_seal_27 : decode cX11_seal 27 = .ok (.bipush 62, 2) := by decide +kernel
theorem dX11_seal_29 : decode cX11_seal 29 = .ok (.iadd, 1) := by decide +kernel
theorem dX11_seal_30 : decode cX11_seal 30 = .ok (.aload_n 0, 1) := by decide +kernel
theorem dX11_seal_31 : decode cX11_seal 31 = .ok (.sipush 4032, 3) := by decide +kernel
theorem dX11_seal_34 : decode cX11_seal 34 = .ok (.iload_n 1, 1) := by decide +kernel
theorem dX11_seal_35 : decode cX11_seal 35 = .ok (.imul, 1) := by decide +kernel
theorem dX11_seal_36 : decode cX11_seal 36 = .ok (.bipush 62, 2) := by decide +kernel
theorem dX11_seal_38 : decode cX11_seal 38 = .ok (.invokevirtual 38, 3) := by decide +kernel
theorem dX11_seal_41 : decode cX11_seal 41 = .ok (.invokevirtual 103, 3) := by decide +kernel
theorem dX11_seal_44 : decode cX11_seal 44 = .ok (.goto 88, 3) := by decide +kernel
theorem dX11_seal_47 : decode cX11_seal 47 = .ok (.iload_n 1, 1) := by decide +kernel
theorem dX11_seal_48 : decode cX11_seal 48 = .ok (.iconst 2, 1) := by decide +kernel
theorem dX11_seal_49 : decode cX11_seal 49 = .ok (.if_icmp .ne 58, 3) := by decide +kernel
theorem dX11_seal_52 : decode cX11_seal 52 = .ok (.aload_n 0, 1) := by decide +kernel
theorem dX11_seal_53 : decode cX11_seal 53 = .ok (.getfield 13, 3) := by decide +kernel
theorem dX11_seal_56 : decode cX11_seal 56 = .ok (.bipush 68, 2) := by decide +kernel
theorem dX11_seal_58 : decode cX11_seal 58 = .ok (.iaload, 1) := by decide +kernel
theorem dX11_seal_59 : decode cX11_seal 59 = .ok (.iconst 5, 1) := by decide +kernel
theorem dX11_seal_60 : decode cX11_seal 60 = .ok (.if_icmp .le 7, 3) := by decide +kernel
theorem dX11_seal_63 : decode cX11_seal 63 = .ok (.iconst 5, 1) := by decide +kernel
theorem dX11_seal_64 : decode cX11_seal 64 = .ok (.goto 10, 3) := by decide +kernel
theorem dX11_seal_67 : decode cX11_seal 67 = .ok (.aload_n 0, 1) := by decide +kernel
theorem dX11_seal_68 : decode cX11_seal 68 = .ok (.getfield 13, 3) := by decide +kernel
theorem dX11_seal_71 : decode cX11_seal 71 = .ok (.bipush 68, 2) := by decide +kernel
theorem dX11_seal_73 : decode cX11_seal 73 = .ok (.iaload, 1) := by decide +kernel
theorem dX11_seal_74 : decode cX11_seal 74 = .ok (.istore_n 2, 1) := by decide +kernel
theorem dX11_seal_75 : decode cX11_seal 75 = .ok (.aload_n 0, 1) := by decide +kernel
theorem dX11_seal_76 : decode cX11_seal 76 = .ok (.bipush 126, 2) := by decide +kernel
theorem dX11_seal_78 : decode cX11_seal 78 = .ok (.aload_n 0, 1) := by decide +kernel
theorem dX11_seal_79 : decode cX11_seal 79 = .ok (.bipush 64, 2) := by decide +kernel
theorem dX11_seal_81 : decode cX11_seal 81 = .ok (.bipush 62, 2) := by decide +kernel
theorem dX11_seal_83 : decode cX11_seal 83 = .ok (.invokevirtual 38, 3) := by decide +kernel
theorem dX11_seal_86 : decode cX11_seal 86 = .ok (.aload_n 0, 1) := by decide +kernel
theorem dX11_seal_87 : decode cX11_seal 87 = .ok (.sipush 128, 3) := by decide +kernel
theorem dX11_seal_90 : decode cX11_seal 90 = .ok (.iload_n 2, 1) := by decide +kernel
theorem dX11_seal_91 : decode cX11_seal 91 = .ok (.bipush 64, 2) := by decide +kernel
theorem dX11_seal_93 : decode cX11_seal 93 = .ok (.imul, 1) := by decide +kernel
theorem dX11_seal_94 : decode cX11_seal 94 = .ok (.invokevirtual 38, 3) := by decide +kernel
theorem dX11_seal_97 : decode cX11_seal 97 = .ok (.iadd, 1) := by decide +kernel
theorem dX11_seal_98 : decode cX11_seal 98 = .ok (.ldc 29, 2) := by decide +kernel
theorem dX11_seal_100 : decode cX11_seal 100 = .ok (.irem, 1) := by decide +kernel
theorem dX11_seal_101 : decode cX11_seal 101 = .ok (.invokevirtual 103, 3) := by decide +kernel
theorem dX11_seal_104 : decode cX11_seal 104 = .ok (.goto 28, 3) := by decide +kernel
theorem dX11_seal_107 : decode cX11_seal 107 = .ok (.aload_n 0, 1) := by decide +kernel
theorem dX11_seal_108 : decode cX11_seal 108 = .ok (.iload_n 1, 1) := by decide +kernel
theorem dX11_seal_109 : decode cX11_seal 109 = .ok (.iconst 3, 1) := by decide +kernel
theorem dX11_seal_110 : decode cX11_seal 110 = .ok (.isub, 1) := by decide +kernel
theorem dX11_seal_111 : decode cX11_seal 111 = .ok (.invokestatic 42, 3) := by decide +kernel
theorem dX11_seal_114 : decode cX11_seal 114 = .ok (.bipush 14, 2) := by decide +kernel
theorem dX11_seal_116 : decode cX11_seal 116 = .ok (.iadd, 1) := by decide +kernel
theorem dX11_seal_117 : decode cX11_seal 117 = .ok (.aload_n 0, 1) := by decide +kernel
theorem dX11_seal_118 : decode cX11_seal 118 = .ok (.iload_n 1, 1) := by decide +kernel
theorem dX11_seal_119 : decode cX11_seal 119 = .ok (.iconst 3, 1) := by decide +kernel
theorem dX11_seal_120 : decode cX11_seal 120 = .ok (.isub, 1) := by decide +kernel
theorem dX11_seal_121 : decode cX11_seal 121 = .ok (.invokestatic 42, 3) := by decide +kernel
theorem dX11_seal_124 : decode cX11_seal 124 = .ok (.bipush 14, 2) := by decide +kernel
theorem dX11_seal_126 : decode cX11_seal 126 = .ok (.invokevirtual 38, 3) := by decide +kernel
theorem dX11_seal_129 : decode cX11_seal 129 = .ok (.invokevirtual 103, 3) := by decide +kernel
theorem dX11_seal_132 : decode cX11_seal 132 = .ok (.aload_n 0, 1) := by decide +kernel
theorem dX11_seal_133 : decode cX11_seal 133 = .ok (.invokevirtual 176, 3) := by decide +kernel
theorem dX11_seal_136 : decode cX11_seal 136 = .ok (.iconst 1, 1) := by decide +kernel
theorem dX11_seal_137 : decode cX11_seal 137 = .ok (.ireturn, 1) := by decide +kernel
theorem dX11_commit_0 : decode cX11_commit 0 = .ok (.iload_n 3, 1) := by decide +kernel
theorem dX11_commit_1 : decode cX11_commit 1 = .ok (.iconst 1, 1) := by decide +kernel
theorem dX11_commit_2 : decode cX11_commit 2 = .ok (.if_icmp .lt 8, 3) := by decide +kernel
theorem dX11_commit_5 : decode cX11_commit 5 = .ok (.iload_n 3, 1) := by decide +kernel
theorem dX11_commit_6 : decode cX11_commit 6 = .ok (.iconst 5, 1) := by decide +kernel
theorem dX11_commit_7 : decode cX11_commit 7 = .ok (.if_icmp .le 5, 3) := by decide +kernel
theorem dX11_commit_10 : decode cX11_commit 10 = .ok (.iconst 0, 1) := by decide +kernel
theorem dX11_commit_11 : decode cX11_commit 11 = .ok (.ireturn, 1) := by decide +kernel
theorem dX11_commit_12 : decode cX11_commit 12 = .ok (.aload_n 0, 1) := by decide +kernel
theorem dX11_commit_13 : decode cX11_commit 13 = .ok (.invokevirtual 152, 3) := by decide +kernel
theorem dX11_commit_16 : decode cX11_commit 16 = .ok (.aload_n 0, 1) := by decide +kernel
theorem dX11_commit_17 : decode cX11_commit 17 = .ok (.bipush 64, 2) := by decide +kernel
theorem dX11_commit_19 : decode cX11_commit 19 = .ok (.bipush 64, 2) := by decide +kernel
theorem dX11_commit_21 : decode cX11_commit 21 = .ok (.invokevirtual 65, 3) := by decide +kernel
theorem dX11_commit_24 : decode cX11_commit 24 = .ok (.aload_n 0, 1) := by decide +kernel
theorem dX11_commit_25 : decode cX11_commit 25 = .ok (.getfield 13, 3) := by decide +kernel
theorem dX11_commit_28 : decode cX11_commit 28 = .ok (.bipush 64, 2) := by decide +kernel
theorem dX11_commit_30 : decode cX11_commit 30 = .ok (.bipush 74, 2) := by decide +kernel
theorem dX11_commit_32 : decode cX11_commit 32 = .ok (.iastore, 1) := by decide +kernel
theorem dX11_commit_33 : decode cX11_commit 33 = .ok (.aload_n 0, 1) := by decide +kernel
theorem dX11_commit_34 : decode cX11_commit 34 = .ok (.getfield 13, 3) := by decide +kernel
theorem dX11_commit_37 : decode cX11_commit 37 = .ok (.bipush 65, 2) := by decide +kernel
theorem dX11_commit_39 : decode cX11_commit 39 = .ok (.bipush 82, 2) := by decide +kernel
theorem dX11_commit_41 : decode cX11_commit 41 = .ok (.iastore, 1) := by decide +kernel
theorem dX11_commit_42 : decode cX11_commit 42 = .ok (.aload_n 0, 1) := by decide +kernel
theorem dX11_commit_43 : decode cX11_commit 43 = .ok (.getfield 13, 3) := by decide +kernel
theorem dX11_commit_46 : decode cX11_commit 46 = .ok (.bipush 66, 2) := by decide +kernel
theorem dX11_commit_48 : decode cX11_commit 48 = .ok (.bipush 78, 2) := by decide +kernel
theorem dX11_commit_50 : decode cX11_commit 50 = .ok (.iastore, 1) := by decide +kernel
theorem dX11_commit_51 : decode cX11_commit 51 = .ok (.aload_n 0, 1) := by decide +kernel
theorem dX11_commit_52 : decode cX11_commit 52 = .ok (.getfield 13, 3) := by decide +kernel
theorem dX11_commit_55 : decode cX11_commit 55 = .ok (.bipush 67, 2) := by decide +kernel
theorem dX11_commit_57 : decode cX11_commit 57 = .ok (.bipush 76, 2) := by decide +kernel
theorem dX11_commit_59 : decode cX11_commit 59 = .ok (.iastore, 1) := by decide +kernel
theorem dX11_commit_60 : decode cX11_commit 60 = .ok (.aload_n 0, 1) := by decide +kernel
theorem dX11_commit_61 : decode cX11_commit 61 = .ok (.getfield 13, 3) := by decide +kernel
theorem dX11_commit_64 : decode cX11_commit 64 = .ok (.bipush 68, 2) := by decide +kernel
theorem dX11_commit_66 : decode cX11_commit 66 = .ok (.iload_n 3, 1) := by decide +kernel
theorem dX11_commit_67 : decode cX11_commit 67 = .ok (.iastore, 1) := by decide +kernel
theorem dX11_commit_68 : decode cX11_commit 68 = .ok (.iconst 0, 1) := by decide +kernel
theorem dX11_commit_69 : decode cX11_commit 69 = .ok (.istore 4, 2) := by decide +kernel
theorem dX11_commit_71 : decode cX11_commit 71 = .ok (.iload 4, 2) := by decide +kernel
theorem dX11_commit_73 : decode cX11_commit 73 = .ok (.iload_n 3, 1) := by decide +kernel
theorem dX11_commit_74 : decode cX11_commit 74 = .ok (.if_icmp .ge 34, 3) := by decide +kernel
theorem dX11_commit_77 : decode cX11_commit 77 = .ok (.aload_n 0, 1) := by decide +kernel
theorem dX11_commit_78 : decode cX11_commit 78 = .ok (.getfield 13, 3) := by decide +kernel
theorem dX11_commit_81 : decode cX11_commit 81 = .ok (.bipush 69, 2) := by decide +kernel
theorem dX11_commit_83 : decode cX11_commit 83 = .ok (.iload 4, 2) := by decide +kernel
theorem dX11_commit_85 : decode cX11_commit 85 = .ok (.iadd, 1) := by decide +kernel
theorem dX11_commit_86 : decode cX11_commit 86 = .ok (.lload_n 1, 1) := by decide +kernel
theorem dX11_commit_87 : decode cX11_commit 87 = .ok (.bipush 56, 2) := by decide +kernel
theorem dX11_commit_89 : decode cX11_commit 89 = .ok (.bipush 8, 2) := by decide +kernel
theorem dX11_commit_91 : decode cX11_commit 91 = .ok (.iload 4, 2) := by decide +kernel
theorem dX11_commit_93 : decode cX11_commit 93 = .ok (.imul, 1) := by decide +kernel
theorem dX11_commit_94 : decode cX11_commit 94 = .ok (.isub, 1) := by decide +kernel
theorem dX11_commit_95 : decode cX11_commit 95 = .ok (.lushr, 1) := by decide +kernel
theorem dX11_commit_96 : decode cX11_commit 96 = .ok (.ldc2_w 182, 3) := by decide +kernel
theorem dX11_commit_99 : decode cX11_commit 99 = .ok (.land, 1) := by decide +kernel
theorem dX11_commit_100 : decode cX11_commit 100 = .ok (.l2i, 1) := by decide +kernel
theorem dX11_commit_101 : decode cX11_commit 101 = .ok (.iastore, 1) := by decide +kernel
theorem dX11_commit_102 : decode cX11_commit 102 = .ok (.iinc 4 1, 3) := by decide +kernel
theorem dX11_commit_105 : decode cX11_commit 105 = .ok (.goto (-34), 3) := by decide +kernel
theorem dX11_commit_108 : decode cX11_commit 108 = .ok (.aload_n 0, 1) := by decide +kernel
theorem dX11_commit_109 : decode cX11_commit 109 = .ok (.invokevirtual 176, 3) := by decide +kernel
theorem dX11_commit_112 : decode cX11_commit 112 = .ok (.aload_n 0, 1) := by decide +kernel
theorem dX11_commit_113 : decode cX11_commit 113 = .ok (.iconst 2, 1) := by decide +kernel
theorem dX11_commit_114 : decode cX11_commit 114 = .ok (.invokevirtual 184, 3) := by decide +kernel
theorem dX11_commit_117 : decode cX11_commit 117 = .ok (.ireturn, 1) := by decide +kernel
theorem dX11_check_0 : decode cX11_check 0 = .ok (.aload_n 0, 1) := by decide +kernel
theorem dX11_check_1 : decode cX11_check 1 = .ok (.invokevirtual 187, 3) := by decide +kernel
theorem dX11_check_4 : decode cX11_check 4 = .ok (.ifCond .eq 13, 3) := by decide +kernel
theorem dX11_check_7 : decode cX11_check 7 = .ok (.aload_n 0, 1) := by decide +kernel
theorem dX11_check_8 : decode cX11_check 8 = .ok (.bipush 64, 2) := by decide +kernel
theorem dX11_check_10 : decode cX11_check 10 = .ok (.iconst 0, 1) := by decide +kernel
theorem dX11_check_11 : decode cX11_check 11 = .ok (.invokevirtual 191, 3) := by decide +kernel
theorem dX11_check_14 : decode cX11_check 14 = .ok (.goto 4, 3) := by decide +kernel
theorem dX11_check_17 : decode cX11_check 17 = .ok (.iconst (-1), 1) := by decide +kernel
theorem dX11_check_18 : decode cX11_check 18 = .ok (.ireturn, 1) := by decide +kernel
theorem dX11_repair_0 : decode cX11_repair 0 = .ok (.iload_n 1, 1) := by decide +kernel
theorem dX11_repair_1 : decode cX11_repair 1 = .ok (.iconst (-1), 1) := by decide +kernel
theorem dX11_repair_2 : decode cX11_repair 2 = .ok (.if_icmp .lt 16, 3) := by decide +kernel
theorem dX11_repair_5 : decode cX11_repair 5 = .ok (.iload_n 1, 1) := by decide +kernel
theorem dX11_repair_6 : decode cX11_repair 6 = .ok (.bipush 64, 2) := by decide +kernel
theorem dX11_repair_8 : decode cX11_repair 8 = .ok (.if_icmp .gt 10, 3) := by decide +kernel
theorem dX11_repair_11 : decode cX11_repair 11 = .ok (.aload_n 0, 1) := by decide +kernel
theorem dX11_repair_12 : decode cX11_repair 12 = .ok (.invokevirtual 187, 3) := by decide +kernel
theorem dX11_repair_15 : decode cX11_repair 15 = .ok (.ifCond .ne 5, 3) := by decide +kernel
theorem dX11_repair_18 : decode cX11_repair 18 = .ok (.iconst (-1), 1) := by decide +kernel
theorem dX11_repair_19 : decode cX11_repair 19 = .ok (.ireturn, 1) := by decide +kernel
theorem dX11_repair_20 : decode cX11_repair 20 = .ok (.aload_n 0, 1) := by decide +kernel
theorem dX11_repair_21 : decode cX11_repair 21 = .ok (.iload_n 1, 1) := by decide +kernel
theorem dX11_repair_22 : decode cX11_repair 22 = .ok (.iconst (-1), 1) := by decide +kernel
theorem dX11_repair_23 : decode cX11_repair 23 = .ok (.if_icmp .ne 8, 3) := by decide +kernel
theorem dX11_repair_26 : decode cX11_repair 26 = .ok (.bipush 64, 2) := by decide +kernel
theorem dX11_repair_28 : decode cX11_repair 28 = .ok (.goto 4, 3) := by decide +kernel
theorem dX11_repair_31 : decode cX11_repair 31 = .ok (.iload_n 1, 1) := by decide +kernel
theorem dX11_repair_32 : decode cX11_repair 32 = .ok (.iconst 1, 1) := by decide +kernel
theorem dX11_repair_33 : decode cX11_repair 33 = .ok (.invokevirtual 191, 3) := by decide +kernel
theorem dX11_repair_36 : decode cX11_repair 36 = .ok (.ireturn, 1) := by decide +kernel
theorem dX11_inode_0 : decode cX11_inode 0 = .ok (.iload_n 1, 1) := by decide +kernel
theorem dX11_inode_1 : decode cX11_inode 1 = .ok (.ifCond .lt 18, 3) := by decide +kernel
theorem dX11_inode_4 : decode cX11_inode 4 = .ok (.iload_n 1, 1) := by decide +kernel
theorem dX11_inode_5 : decode cX11_inode 5 = .ok (.bipush 32, 2) := by decide +kernel
theorem dX11_inode_7 : decode cX11_inode 7 = .ok (.if_icmp .ge 12, 3) := by decide +kernel
theorem dX11_inode_10 : decode cX11_inode 10 = .ok (.iload_n 2, 1) := by decide +kernel
theorem dX11_inode_11 : decode cX11_inode 11 = .ok (.ifCond .lt 8, 3) := by decide +kernel
theorem dX11_inode_14 : decode cX11_inode 14 = .ok (.iload_n 2, 1) := by decide +kernel
theorem dX11_inode_15 : decode cX11_inode 15 = .ok (.iconst 2, 1) := by decide +kernel
theorem dX11_inode_16 : decode cX11_inode 16 = .ok (.if_icmp .le 5, 3) := by decide +kernel
theorem dX11_inode_19 : decode cX11_inode 19 = .ok (.iconst (-1), 1) := by decide +kernel
theorem dX11_inode_20 : decode cX11_inode 20 = .ok (.ireturn, 1) := by decide +kernel
theorem dX11_inode_21 : decode cX11_inode 21 = .ok (.iload_n 1, 1) := by decide +kernel
theorem dX11_inode_22 : decode cX11_inode 22 = .ok (.invokestatic 42, 3) := by decide +kernel
theorem dX11_inode_25 : decode cX11_inode 25 = .ok (.istore_n 3, 1) := by decide +kernel
theorem dX11_inode_26 : decode cX11_inode 26 = .ok (.iload_n 2, 1) := by decide +kernel
theorem dX11_inode_27 : decode cX11_inode 27 = .ok (.iconst 2, 1) := by decide +kernel
theorem dX11_inode_28 : decode cX11_inode 28 = .ok (.if_icmp .ge 14, 3) := by decide +kernel
theorem dX11_inode_31 : decode cX11_inode 31 = .ok (.aload_n 0, 1) := by decide +kernel
theorem dX11_inode_32 : decode cX11_inode 32 = .ok (.getfield 7, 3) := by decide +kernel
theorem dX11_inode_35 : decode cX11_inode 35 = .ok (.iload_n 3, 1) := by decide +kernel
theorem dX11_inode_36 : decode cX11_inode 36 = .ok (.iload_n 2, 1) := by decide +kernel
theorem dX11_inode_37 : decode cX11_inode 37 = .ok (.iadd, 1) := by decide +kernel
theorem dX11_inode_38 : decode cX11_inode 38 = .ok (.iaload, 1) := by decide +kernel
theorem dX11_inode_39 : decode cX11_inode 39 = .ok (.goto 24, 3) := by decide +kernel
theorem dX11_inode_42 : decode cX11_inode 42 = .ok (.aload_n 0, 1) := by decide +kernel
theorem dX11_inode_43 : decode cX11_inode 43 = .ok (.getfield 7, 3) := by decide +kernel
theorem dX11_inode_46 : decode cX11_inode 46 = .ok (.iload_n 3, 1) := by decide +kernel
theorem dX11_inode_47 : decode cX11_inode 47 = .ok (.iconst 2, 1) := by decide +kernel
theorem dX11_inode_48 : decode cX11_inode 48 = .ok (.iadd, 1) := by decide +kernel
theorem dX11_inode_49 : decode cX11_inode 49 = .ok (.iaload, 1) := by decide +kernel
theorem dX11_inode_50 : decode cX11_inode 50 = .ok (.sipush 256, 3) := by decide +kernel
theorem dX11_inode_53 : decode cX11_inode 53 = .ok (.imul, 1) := by decide +kernel
theorem dX11_inode_54 : decode cX11_inode 54 = .ok (.aload_n 0, 1) := by decide +kernel
theorem dX11_inode_55 : decode cX11_inode 55 = .ok (.getfield 7, 3) := by decide +kernel
theorem dX11_inode_58 : decode cX11_inode 58 = .ok (.iload_n 3, 1) := by decide +kernel
theorem dX11_inode_59 : decode cX11_inode 59 = .ok (.iconst 3, 1) := by decide +kernel
theorem dX11_inode_60 : decode cX11_inode 60 = .ok (.iadd, 1) := by decide +kernel
theorem dX11_inode_61 : decode cX11_inode 61 = .ok (.iaload, 1) := by decide +kernel
theorem dX11_inode_62 : decode cX11_inode 62 = .ok (.iadd, 1) := by decide +kernel
theorem dX11_inode_63 : decode cX11_inode 63 = .ok (.ireturn, 1) := by decide +kernel
theorem dX11_read_0 : decode cX11_read 0 = .ok (.iload_n 1, 1) := by decide +kernel
theorem dX11_read_1 : decode cX11_read 1 = .ok (.ifCond .lt 32, 3) := by decide +kernel
theorem dX11_read_4 : decode cX11_read 4 = .ok (.iload_n 1, 1) := by decide +kernel
theorem dX11_read_5 : decode cX11_read 5 = .ok (.bipush 32, 2) := by decide +kernel
theorem dX11_read_7 : decode cX11_read 7 = .ok (.if_icmp .ge 26, 3) := by decide +kernel
theorem dX11_read_10 : decode cX11_read 10 = .ok (.iload_n 2, 1) := by decide +kernel
theorem dX11_read_11 : decode cX11_read 11 = .ok (.ifCond .lt 22, 3) := by decide +kernel
theorem dX11_read_14 : decode cX11_read 14 = .ok (.iload_n 2, 1) := by decide +kernel
theorem dX11_read_15 : decode cX11_read 15 = .ok (.aload_n 0, 1) := by decide +kernel
theorem dX11_read_16 : decode cX11_read 16 = .ok (.iload_n 1, 1) := by decide +kernel
theorem dX11_read_17 : decode cX11_read 17 = .ok (.iconst 2, 1) := by decide +kernel
theorem dX11_read_18 : decode cX11_read 18 = .ok (.invokevirtual 195, 3) := by decide +kernel
theorem dX11_read_21 : decode cX11_read 21 = .ok (.if_icmp .ge 12, 3) := by decide +kernel
theorem dX11_read_24 : decode cX11_read 24 = .ok (.iload_n 2, 1) := by decide +kernel
theorem dX11_read_25 : decode cX11_read 25 = .ok (.bipush 64, 2) := by decide +kernel
theorem dX11_read_27 : decode cX11_read 27 = .ok (.idiv, 1) := by decide +kernel
theorem dX11_read_28 : decode cX11_read 28 = .ok (.bipush 45, 2) := by decide +kernel
theorem dX11_read_30 : decode cX11_read 30 = .ok (.if_icmp .le 5, 3) := by decide +kernel
theorem dX11_read_33 : decode cX11_read 33 = .ok (.iconst (-1), 1) := by decide +kernel
theorem dX11_read_34 : decode cX11_read 34 = .ok (.ireturn, 1) := by decide +kernel
theorem dX11_read_35 : decode cX11_read 35 = .ok (.iload_n 2, 1) := by decide +kernel
theorem dX11_read_36 : decode cX11_read 36 = .ok (.bipush 64, 2) := by decide +kernel
theorem dX11_read_38 : decode cX11_read 38 = .ok (.idiv, 1) := by decide +kernel
theorem dX11_read_39 : decode cX11_read 39 = .ok (.istore_n 3, 1) := by decide +kernel
theorem dX11_read_40 : decode cX11_read 40 = .ok (.aload_n 0, 1) := by decide +kernel
theorem dX11_read_41 : decode cX11_read 41 = .ok (.getfield 7, 3) := by decide +kernel
theorem dX11_read_44 : decode cX11_read 44 = .ok (.iload_n 1, 1) := by decide +kernel
theorem dX11_read_45 : decode cX11_read 45 = .ok (.invokestatic 42, 3) := by decide +kernel
theorem dX11_read_48 : decode cX11_read 48 = .ok (.iload_n 3, 1) := by decide +kernel
theorem dX11_read_49 : decode cX11_read 49 = .ok (.iconst 5, 1) := by decide +kernel
theorem dX11_read_50 : decode cX11_read 50 = .ok (.if_icmp .ge 9, 3) := by decide +kernel
theorem dX11_read_53 : decode cX11_read 53 = .ok (.iconst 4, 1) := by decide +kernel
theorem dX11_read_54 : decode cX11_read 54 = .ok (.iload_n 3, 1) := by decide +kernel
theorem dX11_read_55 : decode cX11_read 55 = .ok (.iadd, 1) := by decide +kernel
theorem dX11_read_56 : decode cX11_read 56 = .ok (.goto 5, 3) := by decide +kernel
theorem dX11_read_59 : decode cX11_read 59 = .ok (.bipush 9, 2) := by decide +kernel
theorem dX11_read_61 : decode cX11_read 61 = .ok (.iadd, 1) := by decide +kernel
theorem dX11_read_62 : decode cX11_read 62 = .ok (.iaload, 1) := by decide +kernel
theorem dX11_read_63 : decode cX11_read 63 = .ok (.istore 4, 2) := by decide +kernel
theorem dX11_read_65 : decode cX11_read 65 = .ok (.iload 4, 2) := by decide +kernel
theorem dX11_read_67 : decode cX11_read 67 = .ok (.bipush 16, 2) := by decide +kernel
theorem dX11_read_69 : decode cX11_read 69 = .ok (.if_icmp .lt 10, 3) := by decide +kernel
theorem dX11_read_72 : decode cX11_read 72 = .ok (.iload 4, 2) := by decide +kernel
theorem dX11_read_74 : decode cX11_read 74 = .ok (.bipush 63, 2) := by decide +kernel
theorem dX11_read_76 : decode cX11_read 76 = .ok (.if_icmp .lt 5, 3) := by decide +kernel
theorem dX11_read_79 : decode cX11_read 79 = .ok (.iconst (-1), 1) := by decide +kernel
theorem dX11_read_80 : decode cX11_read 80 = .ok (.ireturn, 1) := by decide +kernel
theorem dX11_read_81 : decode cX11_read 81 = .ok (.iload_n 3, 1) := by decide +kernel
theorem dX11_read_82 : decode cX11_read 82 = .ok (.iconst 5, 1) := by decide +kernel
theorem dX11_read_83 : decode cX11_read 83 = .ok (.if_icmp .lt 35, 3) := by decide +kernel
theorem dX11_read_86 : decode cX11_read 86 = .ok (.aload_n 0, 1) := by decide +kernel
theorem dX11_read_87 : decode cX11_read 87 = .ok (.getfield 7, 3) := by decide +kernel
theorem dX11_read_90 : decode cX11_read 90 = .ok (.bipush 64, 2) := by decide +kernel
theorem dX11_read_92 : decode cX11_read 92 = .ok (.iload 4, 2) := by decide +kernel
theorem dX11_read_94 : decode cX11_read 94 = .ok (.imul, 1) := by decide +kernel
theorem dX11_read_95 : decode cX11_read 95 = .ok (.iload_n 3, 1) := by decide +kernel
theorem dX11_read_96 : decode cX11_read 96 = .ok (.iadd, 1) := by decide +kernel
theorem dX11_read_97 : decode cX11_read 97 = .ok (.iconst 5, 1) := by decide +kernel
theorem dX11_read_98 : decode cX11_read 98 = .ok (.isub, 1) := by decide +kernel
theorem dX11_read_99 : decode cX11_read 99 = .ok (.iaload, 1) := by decide +kernel
theorem dX11_read_100 : decode cX11_read 100 = .ok (.istore 4, 2) := by decide +kernel
theorem dX11_read_102 : decode cX11_read 102 = .ok (.iload 4, 2) := by decide +kernel
theorem dX11_read_104 : decode cX11_read 104 = .ok (.bipush 16, 2) := by decide +kernel
theorem dX11_read_106 : decode cX11_read 106 = .ok (.if_icmp .lt 10, 3) := by decide +kernel
theorem dX11_read_109 : decode cX11_read 109 = .ok (.iload 4, 2) := by decide +kernel
theorem dX11_read_111 : decode cX11_read 111 = .ok (.bipush 63, 2) := by decide +kernel
theorem dX11_read_113 : decode cX11_read 113 = .ok (.if_icmp .lt 5, 3) := by decide +kernel
theorem dX11_read_116 : decode cX11_read 116 = .ok (.iconst (-1), 1) := by decide +kernel
theorem dX11_read_117 : decode cX11_read 117 = .ok (.ireturn, 1) := by decide +kernel
theorem dX11_read_118 : decode cX11_read 118 = .ok (.aload_n 0, 1) := by decide +kernel
theorem dX11_read_119 : decode cX11_read 119 = .ok (.getfield 7, 3) := by decide +kernel
theorem dX11_read_122 : decode cX11_read 122 = .ok (.bipush 64, 2) := by decide +kernel
theorem dX11_read_124 : decode cX11_read 124 = .ok (.iload 4, 2) := by decide +kernel
theorem dX11_read_126 : decode cX11_read 126 = .ok (.imul, 1) := by decide +kernel
theorem dX11_read_127 : decode cX11_read 127 = .ok (.iload_n 2, 1) := by decide +kernel
theorem dX11_read_128 : decode cX11_read 128 = .ok (.bipush 64, 2) := by decide +kernel
theorem dX11_read_130 : decode cX11_read 130 = .ok (.irem, 1) := by decide +kernel
theorem dX11_read_131 : decode cX11_read 131 = .ok (.iadd, 1) := by decide +kernel
theorem dX11_read_132 : decode cX11_read 132 = .ok (.iaload, 1) := by decide +kernel
theorem dX11_read_133 : decode cX11_read 133 = .ok (.ireturn, 1) := by decide +kernel
theorem dX11_nameOf_0 : decode cX11_nameOf 0 = .ok (.aload_n 0, 1) := by decide +kernel
theorem dX11_nameOf_1 : decode cX11_nameOf 1 = .ok (.iconst 0, 1) := by decide +kernel
theorem dX11_nameOf_2 : decode cX11_nameOf 2 = .ok (.putfield 69, 3) := by decide +kernel
theorem dX11_nameOf_5 : decode cX11_nameOf 5 = .ok (.bipush 56, 2) := by decide +kernel
theorem dX11_nameOf_7 : decode cX11_nameOf 7 = .ok (.istore_n 3, 1) := by decide +kernel
theorem dX11_nameOf_8 : decode cX11_nameOf 8 = .ok (.iload_n 3, 1) := by decide +kernel
theorem dX11_nameOf_9 : decode cX11_nameOf 9 = .ok (.ifCond .lt 52, 3) := by decide +kernel
theorem dX11_nameOf_12 : decode cX11_nameOf 12 = .ok (.lload_n 1, 1) := by decide +kernel
theorem dX11_nameOf_13 : decode cX11_nameOf 13 = .ok (.iload_n 3, 1) := by decide +kernel
theorem dX11_nameOf_14 : decode cX11_nameOf 14 = .ok (.lushr, 1) := by decide +kernel
theorem dX11_nameOf_15 : decode cX11_nameOf 15 = .ok (.ldc2_w 182, 3) := by decide +kernel
theorem dX11_nameOf_18 : decode cX11_nameOf 18 = .ok (.land, 1) := by decide +kernel
theorem dX11_nameOf_19 : decode cX11_nameOf 19 = .ok (.l2i, 1) := by decide +kernel
theorem dX11_nameOf_20 : decode cX11_nameOf 20 = .ok (.istore 4, 2) := by decide +kernel
theorem dX11_nameOf_22 : decode cX11_nameOf 22 = .ok (.iload 4, 2) := by decide +kernel
theorem dX11_nameOf_24 : decode cX11_nameOf 24 = .ok (.ifCond .ne 10, 3) := by decide +kernel
theorem dX11_nameOf_27 : decode cX11_nameOf 27 = .ok (.aload_n 0, 1) := by decide +kernel
theorem dX11_nameOf_28 : decode cX11_nameOf 28 = .ok (.getfield 69, 3) := by decide +kernel
theorem dX11_nameOf_31 : decode cX11_nameOf 31 = .ok (.ifCond .le 24, 3) := by decide +kernel
theorem dX11_nameOf_34 : decode cX11_nameOf 34 = .ok (.aload_n 0, 1) := by decide +kernel
theorem dX11_nameOf_35 : decode cX11_nameOf 35 = .ok (.getfield 26, 3) := by decide +kernel
theorem dX11_nameOf_38 : decode cX11_nameOf 38 = .ok (.aload_n 0, 1) := by decide +kernel
theorem dX11_nameOf_39 : decode cX11_nameOf 39 = .ok (.getfield 69, 3) := by decide +kernel
theorem dX11_nameOf_42 : decode cX11_nameOf 42 = .ok (.iload 4, 2) := by decide +kernel
theorem dX11_nameOf_44 : decode cX11_nameOf 44 = .ok (.iastore, 1) := by decide +kernel
theorem dX11_nameOf_45 : decode cX11_nameOf 45 = .ok (.aload_n 0, 1) := by decide +kernel
theorem dX11_nameOf_46 : decode cX11_nameOf 46 = .ok (.dup, 1) := by decide +kernel
theorem dX11_nameOf_47 : decode cX11_nameOf 47 = .ok (.getfield 69, 3) := by decide +kernel
theorem dX11_nameOf_50 : decode cX11_nameOf 50 = .ok (.iconst 1, 1) := by decide +kernel
theorem dX11_nameOf_51 : decode cX11_nameOf 51 = .ok (.iadd, 1) := by decide +kernel
theorem dX11_nameOf_52 : decode cX11_nameOf 52 = .ok (.putfield 69, 3) := by decide +kernel
theorem dX11_nameOf_55 : decode cX11_nameOf 55 = .ok (.iinc 3 (-8), 3) := by decide +kernel
theorem dX11_nameOf_58 : decode cX11_nameOf 58 = .ok (.goto (-50), 3) := by decide +kernel
theorem dX11_nameOf_61 : decode cX11_nameOf 61 = .ok (.return_, 1) := by decide +kernel
theorem dX11_find__0 : decode cX11_find_ 0 = .ok (.iload_n 1, 1) := by decide +kernel
theorem dX11_find__1 : decode cX11_find_ 1 = .ok (.ifCond .lt 15, 3) := by decide +kernel
theorem dX11_find__4 : decode cX11_find_ 4 = .ok (.iload_n 1, 1) := by decide +kernel
theorem dX11_find__5 : decode cX11_find_ 5 = .ok (.bipush 32, 2) := by decide +kernel
theorem dX11_find__7 : decode cX11_find_ 7 = .ok (.if_icmp .ge 9, 3) := by decide +kernel
theorem dX11_find__10 : decode cX11_find_ 10 = .ok (.lload_n 2, 1) := by decide +kernel
theorem dX11_find__11 : decode cX11_find_ 11 = .ok (.lconst 0, 1) := by decide +kernel
theorem dX11_find__12 : decode cX11_find_ 12 = .ok (.lcmp, 1) := by decide +kernel
theorem dX11_find__13 : decode cX11_find_ 13 = .ok (.ifCond .ne 5, 3) := by decide +kernel
theorem dX11_find__16 : decode cX11_find_ 16 = .ok (.iconst (-1), 1) := by decide +kernel
theorem dX11_find__17 : decode cX11_find_ 17 = .ok (.ireturn, 1) := by decide +kernel
theorem dX11_find__18 : decode cX11_find_ 18 = .ok (.aload_n 0, 1) := by decide +kernel
theorem dX11_find__19 : decode cX11_find_ 19 = .ok (.lload_n 2, 1) := by decide +kernel
theorem dX11_find__20 : decode cX11_find_ 20 = .ok (.invokevirtual 198, 3) := by decide +kernel
theorem dX11_find__23 : decode cX11_find_ 23 = .ok (.iconst 2, 1) := by decide +kernel
theorem dX11_find__24 : decode cX11_find_ 24 = .ok (.istore 4, 2) := by decide +kernel
theorem dX11_find__26 : decode cX11_find_ 26 = .ok (.bipush 16, 2) := by decide +kernel
theorem dX11_find__28 : decode cX11_find_ 28 = .ok (.iload 4, 2) := by decide +kernel
theorem dX11_find__30 : decode cX11_find_ 30 = .ok (.imul, 1) := by decide +kernel
theorem dX11_find__31 : decode cX11_find_ 31 = .ok (.bipush 15, 2) := by decide +kernel
theorem dX11_find__33 : decode cX11_find_ 33 = .ok (.iadd, 1) := by decide +kernel
theorem dX11_find__34 : decode cX11_find_ 34 = .ok (.aload_n 0, 1) := by decide +kernel
theorem dX11_find__35 : decode cX11_find_ 35 = .ok (.iload_n 1, 1) := by decide +kernel
theorem dX11_find__36 : decode cX11_find_ 36 = .ok (.iconst 2, 1) := by decide +kernel
theorem dX11_find__37 : decode cX11_find_ 37 = .ok (.invokevirtual 195, 3) := by decide +kernel
theorem dX11_find__40 : decode cX11_find_ 40 = .ok (.if_icmp .ge 106, 3) := by decide +kernel
theorem dX11_find__43 : decode cX11_find_ 43 = .ok (.aload_n 0, 1) := by decide +kernel
theorem dX11_find__44 : decode cX11_find_ 44 = .ok (.iload_n 1, 1) := by decide +kernel
theorem dX11_find__45 : decode cX11_find_ 45 = .ok (.bipush 16, 2) := by decide +kernel
theorem dX11_find__47 : decode cX11_find_ 47 = .ok (.iload 4, 2) := by decide +kernel
theorem dX11_find__49 : decode cX11_find_ 49 = .ok (.imul, 1) := by decide +kernel
theorem dX11_find__50 : decode cX11_find_ 50 = .ok (.iconst 1, 1) := by decide +kernel
theorem dX11_find__51 : decode cX11_find_ 51 = .ok (.iadd, 1) := by decide +kernel
theorem dX11_find__52 : decode cX11_find_ 52 = .ok (.invokevirtual 202, 3) := by decide +kernel
theorem dX11_find__55 : decode cX11_find_ 55 = .ok (.aload_n 0, 1) := by decide +kernel
theorem dX11_find__56 : decode cX11_find_ 56 = .ok (.getfield 69, 3) := by decide +kernel
theorem dX11_find__59 : decode cX11_find_ 59 = .ok (.if_icmp .ne 7, 3) := by decide +kernel
theorem dX11_find__62 : decode cX11_find_ 62 = .ok (.iconst 1, 1) := by decide +kernel
theorem dX11_find__63 : decode cX11_find_ 63 = .ok (.goto 4, 3) := by decide +kernel
theorem dX11_find__66 : decode cX11_find_ 66 = .ok (.iconst 0, 1) := by decide +kernel
theorem dX11_find__67 : decode cX11_find_ 67 = .ok (.istore 5, 2) := by decide +kernel
theorem dX11_find__69 : decode cX11_find_ 69 = .ok (.iconst 0, 1) := by decide +kernel
theorem dX11_find__70 : decode cX11_find_ 70 = .ok (.istore 6, 2) := by decide +kernel
theorem dX11_find__72 : decode cX11_find_ 72 = .ok (.iload 6, 2) := by decide +kernel
theorem dX11_find__74 : decode cX11_find_ 74 = .ok (.aload_n 0, 1) := by decide +kernel
theorem dX11_find__75 : decode cX11_find_ 75 = .ok (.getfield 69, 3) := by decide +kernel
theorem dX11_find__78 : decode cX11_find_ 78 = .ok (.if_icmp .ge 46, 3) := by decide +kernel
theorem dX11_find__81 : decode cX11_find_ 81 = .ok (.iload 5, 2) := by decide +kernel
theorem dX11_find__83 : decode cX11_find_ 83 = .ok (.ifCond .eq 32, 3) := by decide +kernel
theorem dX11_find__86 : decode cX11_find_ 86 = .ok (.aload_n 0, 1) := by decide +kernel
theorem dX11_find__87 : decode cX11_find_ 87 = .ok (.iload_n 1, 1) := by decide +kernel
theorem dX11_find__88 : decode cX11_find_ 88 = .ok (.bipush 16, 2) := by decide +kernel
theorem dX11_find__90 : decode cX11_find_ 90 = .ok (.iload 4, 2) := by decide +kernel
theorem dX11_find__92 : decode cX11_find_ 92 = .ok (.imul, 1) := by decide +kernel
theorem dX11_find__93 : decode cX11_find_ 93 = .ok (.iconst 2, 1) := by decide +kernel
theorem dX11_find__94 : decode cX11_find_ 94 = .ok (.iadd, 1) := by decide +kernel
theorem dX11_find__95 : decode cX11_find_ 95 = .ok (.iload 6, 2) := by decide +kernel
theorem dX11_find__97 : decode cX11_find_ 97 = .ok (.iadd, 1) := by decide +kernel
theorem dX11_find__98 : decode cX11_find_ 98 = .ok (.invokevirtual 202, 3) := by decide +kernel
theorem dX11_find__101 : decode cX11_find_ 101 = .ok (.aload_n 0, 1) := by decide +kernel
theorem dX11_find__102 : decode cX11_find_ 102 = .ok (.getfield 26, 3) := by decide +kernel
theorem dX11_find__105 : decode cX11_find_ 105 = .ok (.iload 6, 2) := by decide +kernel
theorem dX11_find__107 : decode cX11_find_ 107 = .ok (.iaload, 1) := by decide +kernel
theorem dX11_find__108 : decode cX11_find_ 108 = .ok (.if_icmp .ne 7, 3) := by decide +kernel
theorem dX11_find__111 : decode cX11_find_ 111 = .ok (.iconst 1, 1) := by decide +kernel
theorem dX11_find__112 : decode cX11_find_ 112 = .ok (.goto 4, 3) := by decide +kernel
theorem dX11_find__115 : decode cX11_find_ 115 = .ok (.iconst 0, 1) := by decide +kernel
theorem dX11_find__116 : decode cX11_find_ 116 = .ok (.istore 5, 2) := by decide +kernel
theorem dX11_find__118 : decode cX11_find_ 118 = .ok (.iinc 6 1, 3) := by decide +kernel
theorem dX11_find__121 : decode cX11_find_ 121 = .ok (.goto (-49), 3) := by decide +kernel
theorem dX11_find__124 : decode cX11_find_ 124 = .ok (.iload 5, 2) := by decide +kernel
theorem dX11_find__126 : decode cX11_find_ 126 = .ok (.ifCond .eq 14, 3) := by decide +kernel
theorem dX11_find__129 : decode cX11_find_ 129 = .ok (.aload_n 0, 1) := by decide +kernel
theorem dX11_find__130 : decode cX11_find_ 130 = .ok (.iload_n 1, 1) := by decide +kernel
theorem dX11_find__131 : decode cX11_find_ 131 = .ok (.bipush 16, 2) := by decide +kernel
theorem dX11_find__133 : decode cX11_find_ 133 = .ok (.iload 4, 2) := by decide +kernel
theorem dX11_find__135 : decode cX11_find_ 135 = .ok (.imul, 1) := by decide +kernel
theorem dX11_find__136 : decode cX11_find_ 136 = .ok (.invokevirtual 202, 3) := by decide +kernel
theorem dX11_find__139 : decode cX11_find_ 139 = .ok (.ireturn, 1) := by decide +kernel
theorem dX11_find__140 : decode cX11_find_ 140 = .ok (.iinc 4 1, 3) := by decide +kernel
theorem dX11_find__143 : decode cX11_find_ 143 = .ok (.goto (-117), 3) := by decide +kernel
theorem dX11_find__146 : decode cX11_find_ 146 = .ok (.iconst (-1), 1) := by decide +kernel
theorem dX11_find__147 : decode cX11_find_ 147 = .ok (.ireturn, 1) := by decide +kernel
theorem dX11_mayPut_0 : decode cX11_mayPut 0 = .ok (.aload_n 0, 1) := by decide +kernel
theorem dX11_mayPut_1 : decode cX11_mayPut 1 = .ok (.invokevirtual 205, 3) := by decide +kernel
theorem dX11_mayPut_4 : decode cX11_mayPut 4 = .ok (.ifCond .ne 29, 3) := by decide +kernel
theorem dX11_mayPut_7 : decode cX11_mayPut 7 = .ok (.iload_n 1, 1) := by decide +kernel
theorem dX11_mayPut_8 : decode cX11_mayPut 8 = .ok (.iconst 1, 1) := by decide +kernel
theorem dX11_mayPut_9 : decode cX11_mayPut 9 = .ok (.if_icmp .lt 24, 3) := by decide +kernel
theorem dX11_mayPut_12 : decode cX11_mayPut 12 = .ok (.iload_n 1, 1) := by decide +kernel
theorem dX11_mayPut_13 : decode cX11_mayPut 13 = .ok (.bipush 32, 2) := by decide +kernel
theorem dX11_mayPut_15 : decode cX11_mayPut 15 = .ok (.if_icmp .ge 18, 3) := by decide +kernel
theorem dX11_mayPut_18 : decode cX11_mayPut 18 = .ok (.aload_n 0, 1) := by decide +kernel
theorem dX11_mayPut_19 : decode cX11_mayPut 19 = .ok (.iload_n 1, 1) := by decide +kernel
theorem dX11_mayPut_20 : decode cX11_mayPut 20 = .ok (.invokevirtual 62, 3) := by decide +kernel
theorem dX11_mayPut_23 : decode cX11_mayPut 23 = .ok (.iconst 2, 1) := by decide +kernel
theorem dX11_mayPut_24 : decode cX11_mayPut 24 = .ok (.if_icmp .ne 9, 3) := by decide +kernel
theorem dX11_mayPut_27 : decode cX11_mayPut 27 = .ok (.lload_n 2, 1) := by decide +kernel
theorem dX11_mayPut_28 : decode cX11_mayPut 28 = .ok (.lconst 0, 1) := by decide +kernel
theorem dX11_mayPut_29 : decode cX11_mayPut 29 = .ok (.lcmp, 1) := by decide +kernel
theorem dX11_mayPut_30 : decode cX11_mayPut 30 = .ok (.ifCond .ne 5, 3) := by decide +kernel
theorem dX11_mayPut_33 : decode cX11_mayPut 33 = .ok (.iconst 0, 1) := by decide +kernel
theorem dX11_mayPut_34 : decode cX11_mayPut 34 = .ok (.ireturn, 1) := by decide +kernel
theorem dX11_mayPut_35 : decode cX11_mayPut 35 = .ok (.aload_n 0, 1) := by decide +kernel
theorem dX11_mayPut_36 : decode cX11_mayPut 36 = .ok (.lload_n 2, 1) := by decide +kernel
theorem dX11_mayPut_37 : decode cX11_mayPut 37 = .ok (.invokevirtual 198, 3) := by decide +kernel
theorem dX11_mayPut_40 : decode cX11_mayPut 40 = .ok (.iconst 1, 1) := by decide +kernel
theorem dX11_mayPut_41 : decode cX11_mayPut 41 = .ok (.istore 4, 2) := by decide +kernel
theorem dX11_mayPut_43 : decode cX11_mayPut 43 = .ok (.aload_n 0, 1) := by decide +kernel
theorem dX11_mayPut_44 : decode cX11_mayPut 44 = .ok (.getfield 69, 3) := by decide +kernel
theorem dX11_mayPut_47 : decode cX11_mayPut 47 = .ok (.iconst 3, 1) := by decide +kernel
theorem dX11_mayPut_48 : decode cX11_mayPut 48 = .ok (.if_icmp .ge 7, 3) := by decide +kernel
theorem dX11_mayPut_51 : decode cX11_mayPut 51 = .ok (.iconst 1, 1) := by decide +kernel
theorem dX11_mayPut_52 : decode cX11_mayPut 52 = .ok (.goto 4, 3) := by decide +kernel
theorem dX11_mayPut_55 : decode cX11_mayPut 55 = .ok (.iconst 0, 1) := by decide +kernel
theorem dX11_mayPut_56 : decode cX11_mayPut 56 = .ok (.istore 5, 2) := by decide +kernel
theorem dX11_mayPut_58 : decode cX11_mayPut 58 = .ok (.iconst 0, 1) := by decide +kernel
theorem dX11_mayPut_59 : decode cX11_mayPut 59 = .ok (.istore 6, 2) := by decide +kernel
theorem dX11_mayPut_61 : decode cX11_mayPut 61 = .ok (.iload 6, 2) := by decide +kernel
theorem dX11_mayPut_63 : decode cX11_mayPut 63 = .ok (.aload_n 0, 1) := by decide +kernel
theorem dX11_mayPut_64 : decode cX11_mayPut 64 = .ok (.getfield 69, 3) := by decide +kernel
theorem dX11_mayPut_67 : decode cX11_mayPut 67 = .ok (.if_icmp .ge 67, 3) := by decide +kernel
theorem dX11_mayPut_70 : decode cX11_mayPut 70 = .ok (.iload 4, 2) := by decide +kernel
theorem dX11_mayPut_72 : decode cX11_mayPut 72 = .ok (.ifCond .eq 29, 3) := by decide +kernel
theorem dX11_mayPut_75 : decode cX11_mayPut 75 = .ok (.aload_n 0, 1) := by decide +kernel
theorem dX11_mayPut_76 : decode cX11_mayPut 76 = .ok (.getfield 26, 3) := by decide +kernel
theorem dX11_mayPut_79 : decode cX11_mayPut 79 = .ok (.iload 6, 2) := by decide +kernel
theorem dX11_mayPut_81 : decode cX11_mayPut 81 = .ok (.iaload, 1) := by decide +kernel
theorem dX11_mayPut_82 : decode cX11_mayPut 82 = .ok (.ifCond .eq 19, 3) := by decide +kernel
theorem dX11_mayPut_85 : decode cX11_mayPut 85 = .ok (.aload_n 0, 1) := by decide +kernel
theorem dX11_mayPut_86 : decode cX11_mayPut 86 = .ok (.getfield 26, 3) := by decide +kernel
theorem dX11_mayPut_89 : decode cX11_mayPut 89 = .ok (.iload 6, 2) := by decide +kernel
theorem dX11_mayPut_91 : decode cX11_mayPut 91 = .ok (.iaload, 1) := by decide +kernel
theorem dX11_mayPut_92 : decode cX11_mayPut 92 = .ok (.bipush 47, 2) := by decide +kernel
theorem dX11_mayPut_94 : decode cX11_mayPut 94 = .ok (.if_icmp .eq 7, 3) := by decide +kernel
theorem dX11_mayPut_97 : decode cX11_mayPut 97 = .ok (.iconst 1, 1) := by decide +kernel
theorem dX11_mayPut_98 : decode cX11_mayPut 98 = .ok (.goto 4, 3) := by decide +kernel
theorem dX11_mayPut_101 : decode cX11_mayPut 101 = .ok (.iconst 0, 1) := by decide +kernel
theorem dX11_mayPut_102 : decode cX11_mayPut 102 = .ok (.istore 4, 2) := by decide +kernel
theorem dX11_mayPut_104 : decode cX11_mayPut 104 = .ok (.iload 5, 2) := by decide +kernel
theorem dX11_mayPut_106 : decode cX11_mayPut 106 = .ok (.ifCond .eq 19, 3) := by decide +kernel
theorem dX11_mayPut_109 : decode cX11_mayPut 109 = .ok (.aload_n 0, 1) := by decide +kernel
theorem dX11_mayPut_110 : decode cX11_mayPut 110 = .ok (.getfield 26, 3) := by decide +kernel
theorem dX11_mayPut_113 : decode cX11_mayPut 113 = .ok (.iload 6, 2) := by decide +kernel
theorem dX11_mayPut_115 : decode cX11_mayPut 115 = .ok (.iaload, 1) := by decide +kernel
theorem dX11_mayPut_116 : decode cX11_mayPut 116 = .ok (.bipush 46, 2) := by decide +kernel
theorem dX11_mayPut_118 : decode cX11_mayPut 118 = .ok (.if_icmp .ne 7, 3) := by decide +kernel
theorem dX11_mayPut_121 : decode cX11_mayPut 121 = .ok (.iconst 1, 1) := by decide +kernel
theorem dX11_mayPut_122 : decode cX11_mayPut 122 = .ok (.goto 4, 3) := by decide +kernel
theorem dX11_mayPut_125 : decode cX11_mayPut 125 = .ok (.iconst 0, 1) := by decide +kernel
end
section
theorem dX11_mayPut_126 : decode cX11_mayPut 126 = .ok (.istore 5, 2) := by decide +kernel
theorem dX11_mayPut_128 : decode cX11_mayPut 128 = .ok (.iinc 6 1, 3) := by decide +kernel
theorem dX11_mayPut_131 : decode cX11_mayPut 131 = .ok (.goto (-70), 3) := by decide +kernel
theorem dX11_mayPut_134 : decode cX11_mayPut 134 = .ok (.iload 4, 2) := by decide +kernel
theorem dX11_mayPut_136 : decode cX11_mayPut 136 = .ok (.ifCond .eq 26, 3) := by decide +kernel
theorem dX11_mayPut_139 : decode cX11_mayPut 139 = .ok (.iload 5, 2) := by decide +kernel
theorem dX11_mayPut_141 : decode cX11_mayPut 141 = .ok (.ifCond .ne 21, 3) := by decide +kernel
theorem dX11_mayPut_144 : decode cX11_mayPut 144 = .ok (.aload_n 0, 1) := by decide +kernel
theorem dX11_mayPut_145 : decode cX11_mayPut 145 = .ok (.iload_n 1, 1) := by decide +kernel
theorem dX11_mayPut_146 : decode cX11_mayPut 146 = .ok (.aload_n 0, 1) := by decide +kernel
theorem dX11_mayPut_147 : decode cX11_mayPut 147 = .ok (.iload_n 1, 1) := by decide +kernel
theorem dX11_mayPut_148 : decode cX11_mayPut 148 = .ok (.invokevirtual 106, 3) := by decide +kernel
theorem dX11_mayPut_151 : decode cX11_mayPut 151 = .ok (.invokevirtual 79, 3) := by decide +kernel
theorem dX11_mayPut_154 : decode cX11_mayPut 154 = .ok (.iconst (-1), 1) := by decide +kernel
theorem dX11_mayPut_155 : decode cX11_mayPut 155 = .ok (.if_icmp .ne 7, 3) := by decide +kernel
theorem dX11_mayPut_158 : decode cX11_mayPut 158 = .ok (.iconst 1, 1) := by decide +kernel
theorem dX11_mayPut_159 : decode cX11_mayPut 159 = .ok (.goto 4, 3) := by decide +kernel
theorem dX11_mayPut_162 : decode cX11_mayPut 162 = .ok (.iconst 0, 1) := by decide +kernel
theorem dX11_mayPut_163 : decode cX11_mayPut 163 = .ok (.ireturn, 1) := by decide +kernel
theorem dX11_make__0 : decode cX11_make_ 0 = .ok (.iload 4, 2) := by decide +kernel
theorem dX11_make__2 : decode cX11_make_ 2 = .ok (.iconst 1, 1) := by decide +kernel
theorem dX11_make__3 : decode cX11_make_ 3 = .ok (.if_icmp .lt 18, 3) := by decide +kernel
theorem dX11_make__6 : decode cX11_make_ 6 = .ok (.iload 4, 2) := by decide +kernel
theorem dX11_make__8 : decode cX11_make_ 8 = .ok (.iconst 2, 1) := by decide +kernel
theorem dX11_make__9 : decode cX11_make_ 9 = .ok (.if_icmp .gt 12, 3) := by decide +kernel
theorem dX11_make__12 : decode cX11_make_ 12 = .ok (.aload_n 0, 1) := by decide +kernel
theorem dX11_make__13 : decode cX11_make_ 13 = .ok (.iload_n 1, 1) := by decide +kernel
theorem dX11_make__14 : decode cX11_make_ 14 = .ok (.lload_n 2, 1) := by decide +kernel
theorem dX11_make__15 : decode cX11_make_ 15 = .ok (.invokevirtual 209, 3) := by decide +kernel
theorem dX11_make__18 : decode cX11_make_ 18 = .ok (.ifCond .ne 5, 3) := by decide +kernel
theorem dX11_make__21 : decode cX11_make_ 21 = .ok (.iconst (-1), 1) := by decide +kernel
theorem dX11_make__22 : decode cX11_make_ 22 = .ok (.ireturn, 1) := by decide +kernel
theorem dX11_make__23 : decode cX11_make_ 23 = .ok (.iconst 3, 1) := by decide +kernel
theorem dX11_make__24 : decode cX11_make_ 24 = .ok (.istore 5, 2) := by decide +kernel
theorem dX11_make__26 : decode cX11_make_ 26 = .ok (.iload 5, 2) := by decide +kernel
theorem dX11_make__28 : decode cX11_make_ 28 = .ok (.bipush 32, 2) := by decide +kernel
theorem dX11_make__30 : decode cX11_make_ 30 = .ok (.if_icmp .ge 18, 3) := by decide +kernel
theorem dX11_make__33 : decode cX11_make_ 33 = .ok (.aload_n 0, 1) := by decide +kernel
theorem dX11_make__34 : decode cX11_make_ 34 = .ok (.iload 5, 2) := by decide +kernel
theorem dX11_make__36 : decode cX11_make_ 36 = .ok (.invokevirtual 62, 3) := by decide +kernel
theorem dX11_make__39 : decode cX11_make_ 39 = .ok (.ifCond .le 9, 3) := by decide +kernel
theorem dX11_make__42 : decode cX11_make_ 42 = .ok (.iinc 5 1, 3) := by decide +kernel
theorem dX11_make__45 : decode cX11_make_ 45 = .ok (.goto (-19), 3) := by decide +kernel
theorem dX11_make__48 : decode cX11_make_ 48 = .ok (.iload 5, 2) := by decide +kernel
theorem dX11_make__50 : decode cX11_make_ 50 = .ok (.bipush 32, 2) := by decide +kernel
theorem dX11_make__52 : decode cX11_make_ 52 = .ok (.if_icmp .ne 5, 3) := by decide +kernel
theorem dX11_make__55 : decode cX11_make_ 55 = .ok (.iconst (-1), 1) := by decide +kernel
theorem dX11_make__56 : decode cX11_make_ 56 = .ok (.ireturn, 1) := by decide +kernel
theorem dX11_make__57 : decode cX11_make_ 57 = .ok (.aload_n 0, 1) := by decide +kernel
theorem dX11_make__58 : decode cX11_make_ 58 = .ok (.getfield 13, 3) := by decide +kernel
theorem dX11_make__61 : decode cX11_make_ 61 = .ok (.iload 5, 2) := by decide +kernel
theorem dX11_make__63 : decode cX11_make_ 63 = .ok (.invokestatic 42, 3) := by decide +kernel
theorem dX11_make__66 : decode cX11_make_ 66 = .ok (.iload 4, 2) := by decide +kernel
theorem dX11_make__68 : decode cX11_make_ 68 = .ok (.iastore, 1) := by decide +kernel
theorem dX11_make__69 : decode cX11_make_ 69 = .ok (.iload 4, 2) := by decide +kernel
theorem dX11_make__71 : decode cX11_make_ 71 = .ok (.iconst 2, 1) := by decide +kernel
theorem dX11_make__72 : decode cX11_make_ 72 = .ok (.if_icmp .ne 76, 3) := by decide +kernel
theorem dX11_make__75 : decode cX11_make_ 75 = .ok (.aload_n 0, 1) := by decide +kernel
theorem dX11_make__76 : decode cX11_make_ 76 = .ok (.getfield 13, 3) := by decide +kernel
theorem dX11_make__79 : decode cX11_make_ 79 = .ok (.iload 5, 2) := by decide +kernel
theorem dX11_make__81 : decode cX11_make_ 81 = .ok (.invokestatic 42, 3) := by decide +kernel
theorem dX11_make__84 : decode cX11_make_ 84 = .ok (.iconst 0, 1) := by decide +kernel
theorem dX11_make__85 : decode cX11_make_ 85 = .ok (.iastore, 1) := by decide +kernel
theorem dX11_make__86 : decode cX11_make_ 86 = .ok (.aload_n 0, 1) := by decide +kernel
theorem dX11_make__87 : decode cX11_make_ 87 = .ok (.iconst 0, 1) := by decide +kernel
theorem dX11_make__88 : decode cX11_make_ 88 = .ok (.invokevirtual 97, 3) := by decide +kernel
theorem dX11_make__91 : decode cX11_make_ 91 = .ok (.istore 6, 2) := by decide +kernel
theorem dX11_make__93 : decode cX11_make_ 93 = .ok (.iload 6, 2) := by decide +kernel
theorem dX11_make__95 : decode cX11_make_ 95 = .ok (.iconst (-1), 1) := by decide +kernel
theorem dX11_make__96 : decode cX11_make_ 96 = .ok (.if_icmp .ne 5, 3) := by decide +kernel
theorem dX11_make__99 : decode cX11_make_ 99 = .ok (.iconst (-1), 1) := by decide +kernel
theorem dX11_make__100 : decode cX11_make_ 100 = .ok (.ireturn, 1) := by decide +kernel
theorem dX11_make__101 : decode cX11_make_ 101 = .ok (.aload_n 0, 1) := by decide +kernel
theorem dX11_make__102 : decode cX11_make_ 102 = .ok (.iload 5, 2) := by decide +kernel
theorem dX11_make__104 : decode cX11_make_ 104 = .ok (.iload 6, 2) := by decide +kernel
theorem dX11_make__106 : decode cX11_make_ 106 = .ok (.invokevirtual 100, 3) := by decide +kernel
theorem dX11_make__109 : decode cX11_make_ 109 = .ok (.aload_n 0, 1) := by decide +kernel
theorem dX11_make__110 : decode cX11_make_ 110 = .ok (.iconst 1, 1) := by decide +kernel
theorem dX11_make__111 : decode cX11_make_ 111 = .ok (.invokevirtual 109, 3) := by decide +kernel
theorem dX11_make__114 : decode cX11_make_ 114 = .ok (.aload_n 0, 1) := by decide +kernel
theorem dX11_make__115 : decode cX11_make_ 115 = .ok (.bipush 64, 2) := by decide +kernel
theorem dX11_make__117 : decode cX11_make_ 117 = .ok (.iload 6, 2) := by decide +kernel
theorem dX11_make__119 : decode cX11_make_ 119 = .ok (.imul, 1) := by decide +kernel
theorem dX11_make__120 : decode cX11_make_ 120 = .ok (.iload 5, 2) := by decide +kernel
theorem dX11_make__122 : decode cX11_make_ 122 = .ok (.invokevirtual 112, 3) := by decide +kernel
theorem dX11_make__125 : decode cX11_make_ 125 = .ok (.aload_n 0, 1) := by decide +kernel
theorem dX11_make__126 : decode cX11_make_ 126 = .ok (.iconst 2, 1) := by decide +kernel
theorem dX11_make__127 : decode cX11_make_ 127 = .ok (.invokevirtual 109, 3) := by decide +kernel
theorem dX11_make__130 : decode cX11_make_ 130 = .ok (.aload_n 0, 1) := by decide +kernel
theorem dX11_make__131 : decode cX11_make_ 131 = .ok (.bipush 64, 2) := by decide +kernel
theorem dX11_make__133 : decode cX11_make_ 133 = .ok (.iload 6, 2) := by decide +kernel
theorem dX11_make__135 : decode cX11_make_ 135 = .ok (.imul, 1) := by decide +kernel
theorem dX11_make__136 : decode cX11_make_ 136 = .ok (.bipush 16, 2) := by decide +kernel
theorem dX11_make__138 : decode cX11_make_ 138 = .ok (.iadd, 1) := by decide +kernel
theorem dX11_make__139 : decode cX11_make_ 139 = .ok (.iload_n 1, 1) := by decide +kernel
theorem dX11_make__140 : decode cX11_make_ 140 = .ok (.invokevirtual 112, 3) := by decide +kernel
theorem dX11_make__143 : decode cX11_make_ 143 = .ok (.aload_n 0, 1) := by decide +kernel
theorem dX11_make__144 : decode cX11_make_ 144 = .ok (.lload_n 2, 1) := by decide +kernel
theorem dX11_make__145 : decode cX11_make_ 145 = .ok (.invokevirtual 198, 3) := by decide +kernel
theorem dX11_make__148 : decode cX11_make_ 148 = .ok (.aload_n 0, 1) := by decide +kernel
theorem dX11_make__149 : decode cX11_make_ 149 = .ok (.iload_n 1, 1) := by decide +kernel
theorem dX11_make__150 : decode cX11_make_ 150 = .ok (.iload 5, 2) := by decide +kernel
theorem dX11_make__152 : decode cX11_make_ 152 = .ok (.invokevirtual 136, 3) := by decide +kernel
theorem dX11_make__155 : decode cX11_make_ 155 = .ok (.ifCond .ne 5, 3) := by decide +kernel
theorem dX11_make__158 : decode cX11_make_ 158 = .ok (.iconst (-1), 1) := by decide +kernel
theorem dX11_make__159 : decode cX11_make_ 159 = .ok (.ireturn, 1) := by decide +kernel
theorem dX11_make__160 : decode cX11_make_ 160 = .ok (.aload_n 0, 1) := by decide +kernel
theorem dX11_make__161 : decode cX11_make_ 161 = .ok (.invokevirtual 170, 3) := by decide +kernel
theorem dX11_make__164 : decode cX11_make_ 164 = .ok (.aload_n 0, 1) := by decide +kernel
theorem dX11_make__165 : decode cX11_make_ 165 = .ok (.invokevirtual 176, 3) := by decide +kernel
theorem dX11_make__168 : decode cX11_make_ 168 = .ok (.iload 5, 2) := by decide +kernel
theorem dX11_make__170 : decode cX11_make_ 170 = .ok (.ireturn, 1) := by decide +kernel
theorem dX11_append_0 : decode cX11_append 0 = .ok (.iload_n 2, 1) := by decide +kernel
theorem dX11_append_1 : decode cX11_append 1 = .ok (.ifCond .lt 50, 3) := by decide +kernel
theorem dX11_append_4 : decode cX11_append 4 = .ok (.iload_n 2, 1) := by decide +kernel
theorem dX11_append_5 : decode cX11_append 5 = .ok (.sipush 255, 3) := by decide +kernel
theorem dX11_append_8 : decode cX11_append 8 = .ok (.if_icmp .gt 43, 3) := by decide +kernel
theorem dX11_append_11 : decode cX11_append 11 = .ok (.aload_n 0, 1) := by decide +kernel
theorem dX11_append_12 : decode cX11_append 12 = .ok (.invokevirtual 205, 3) := by decide +kernel
theorem dX11_append_15 : decode cX11_append 15 = .ok (.ifCond .ne 36, 3) := by decide +kernel
theorem dX11_append_18 : decode cX11_append 18 = .ok (.iload_n 1, 1) := by decide +kernel
theorem dX11_append_19 : decode cX11_append 19 = .ok (.iconst 1, 1) := by decide +kernel
theorem dX11_append_20 : decode cX11_append 20 = .ok (.if_icmp .lt 31, 3) := by decide +kernel
theorem dX11_append_23 : decode cX11_append 23 = .ok (.iload_n 1, 1) := by decide +kernel
theorem dX11_append_24 : decode cX11_append 24 = .ok (.bipush 32, 2) := by decide +kernel
theorem dX11_append_26 : decode cX11_append 26 = .ok (.if_icmp .ge 25, 3) := by decide +kernel
theorem dX11_append_29 : decode cX11_append 29 = .ok (.aload_n 0, 1) := by decide +kernel
theorem dX11_append_30 : decode cX11_append 30 = .ok (.iload_n 1, 1) := by decide +kernel
theorem dX11_append_31 : decode cX11_append 31 = .ok (.invokevirtual 62, 3) := by decide +kernel
theorem dX11_append_34 : decode cX11_append 34 = .ok (.iconst 1, 1) := by decide +kernel
theorem dX11_append_35 : decode cX11_append 35 = .ok (.if_icmp .ne 16, 3) := by decide +kernel
theorem dX11_append_38 : decode cX11_append 38 = .ok (.aload_n 0, 1) := by decide +kernel
theorem dX11_append_39 : decode cX11_append 39 = .ok (.iload_n 1, 1) := by decide +kernel
theorem dX11_append_40 : decode cX11_append 40 = .ok (.invokevirtual 45, 3) := by decide +kernel
theorem dX11_append_43 : decode cX11_append 43 = .ok (.iconst 1, 1) := by decide +kernel
theorem dX11_append_44 : decode cX11_append 44 = .ok (.iadd, 1) := by decide +kernel
theorem dX11_append_45 : decode cX11_append 45 = .ok (.sipush 2944, 3) := by decide +kernel
theorem dX11_append_48 : decode cX11_append 48 = .ok (.if_icmp .le 5, 3) := by decide +kernel
theorem dX11_append_51 : decode cX11_append 51 = .ok (.iconst 0, 1) := by decide +kernel
theorem dX11_append_52 : decode cX11_append 52 = .ok (.ireturn, 1) := by decide +kernel
theorem dX11_append_53 : decode cX11_append 53 = .ok (.aload_n 0, 1) := by decide +kernel
theorem dX11_append_54 : decode cX11_append 54 = .ok (.iload_n 1, 1) := by decide +kernel
theorem dX11_append_55 : decode cX11_append 55 = .ok (.invokevirtual 45, 3) := by decide +kernel
theorem dX11_append_58 : decode cX11_append 58 = .ok (.istore_n 3, 1) := by decide +kernel
theorem dX11_append_59 : decode cX11_append 59 = .ok (.iload_n 3, 1) := by decide +kernel
theorem dX11_append_60 : decode cX11_append 60 = .ok (.bipush 64, 2) := by decide +kernel
theorem dX11_append_62 : decode cX11_append 62 = .ok (.irem, 1) := by decide +kernel
theorem dX11_append_63 : decode cX11_append 63 = .ok (.ifCond .ne 14, 3) := by decide +kernel
theorem dX11_append_66 : decode cX11_append 66 = .ok (.aload_n 0, 1) := by decide +kernel
theorem dX11_append_67 : decode cX11_append 67 = .ok (.iload_n 1, 1) := by decide +kernel
theorem dX11_append_68 : decode cX11_append 68 = .ok (.iconst 1, 1) := by decide +kernel
theorem dX11_append_69 : decode cX11_append 69 = .ok (.invokevirtual 142, 3) := by decide +kernel
theorem dX11_append_72 : decode cX11_append 72 = .ok (.ifCond .ne 18, 3) := by decide +kernel
theorem dX11_append_75 : decode cX11_append 75 = .ok (.iconst 0, 1) := by decide +kernel
theorem dX11_append_76 : decode cX11_append 76 = .ok (.ireturn, 1) := by decide +kernel
theorem dX11_append_77 : decode cX11_append 77 = .ok (.aload_n 0, 1) := by decide +kernel
theorem dX11_append_78 : decode cX11_append 78 = .ok (.iload_n 1, 1) := by decide +kernel
theorem dX11_append_79 : decode cX11_append 79 = .ok (.invokestatic 42, 3) := by decide +kernel
theorem dX11_append_82 : decode cX11_append 82 = .ok (.iconst 2, 1) := by decide +kernel
theorem dX11_append_83 : decode cX11_append 83 = .ok (.iadd, 1) := by decide +kernel
theorem dX11_append_84 : decode cX11_append 84 = .ok (.iload_n 3, 1) := by decide +kernel
theorem dX11_append_85 : decode cX11_append 85 = .ok (.iconst 1, 1) := by decide +kernel
theorem dX11_append_86 : decode cX11_append 86 = .ok (.iadd, 1) := by decide +kernel
theorem dX11_append_87 : decode cX11_append 87 = .ok (.invokevirtual 103, 3) := by decide +kernel
theorem dX11_append_90 : decode cX11_append 90 = .ok (.aload_n 0, 1) := by decide +kernel
theorem dX11_append_91 : decode cX11_append 91 = .ok (.getfield 13, 3) := by decide +kernel
theorem dX11_append_94 : decode cX11_append 94 = .ok (.bipush 64, 2) := by decide +kernel
theorem dX11_append_96 : decode cX11_append 96 = .ok (.aload_n 0, 1) := by decide +kernel
theorem dX11_append_97 : decode cX11_append 97 = .ok (.iload_n 1, 1) := by decide +kernel
theorem dX11_append_98 : decode cX11_append 98 = .ok (.iload_n 3, 1) := by decide +kernel
theorem dX11_append_99 : decode cX11_append 99 = .ok (.bipush 64, 2) := by decide +kernel
theorem dX11_append_101 : decode cX11_append 101 = .ok (.idiv, 1) := by decide +kernel
theorem dX11_append_102 : decode cX11_append 102 = .ok (.invokevirtual 59, 3) := by decide +kernel
theorem dX11_append_105 : decode cX11_append 105 = .ok (.imul, 1) := by decide +kernel
theorem dX11_append_106 : decode cX11_append 106 = .ok (.iload_n 3, 1) := by decide +kernel
theorem dX11_append_107 : decode cX11_append 107 = .ok (.bipush 64, 2) := by decide +kernel
theorem dX11_append_109 : decode cX11_append 109 = .ok (.irem, 1) := by decide +kernel
theorem dX11_append_110 : decode cX11_append 110 = .ok (.iadd, 1) := by decide +kernel
theorem dX11_append_111 : decode cX11_append 111 = .ok (.iload_n 2, 1) := by decide +kernel
theorem dX11_append_112 : decode cX11_append 112 = .ok (.iastore, 1) := by decide +kernel
theorem dX11_append_113 : decode cX11_append 113 = .ok (.aload_n 0, 1) := by decide +kernel
theorem dX11_append_114 : decode cX11_append 114 = .ok (.invokevirtual 170, 3) := by decide +kernel
theorem dX11_append_117 : decode cX11_append 117 = .ok (.aload_n 0, 1) := by decide +kernel
theorem dX11_append_118 : decode cX11_append 118 = .ok (.invokevirtual 176, 3) := by decide +kernel
theorem dX11_append_121 : decode cX11_append 121 = .ok (.iconst 1, 1) := by decide +kernel
theorem dX11_append_122 : decode cX11_append 122 = .ok (.ireturn, 1) := by decide +kernel
theorem dX11_link_0 : decode cX11_link 0 = .ok (.aload_n 0, 1) := by decide +kernel
theorem dX11_link_1 : decode cX11_link 1 = .ok (.iload_n 1, 1) := by decide +kernel
theorem dX11_link_2 : decode cX11_link 2 = .ok (.lload_n 2, 1) := by decide +kernel
theorem dX11_link_3 : decode cX11_link 3 = .ok (.invokevirtual 209, 3) := by decide +kernel
theorem dX11_link_6 : decode cX11_link 6 = .ok (.ifCond .eq 36, 3) := by decide +kernel
theorem dX11_link_9 : decode cX11_link 9 = .ok (.iload 4, 2) := by decide +kernel
theorem dX11_link_11 : decode cX11_link 11 = .ok (.iconst 1, 1) := by decide +kernel
theorem dX11_link_12 : decode cX11_link 12 = .ok (.if_icmp .lt 30, 3) := by decide +kernel
theorem dX11_link_15 : decode cX11_link 15 = .ok (.iload 4, 2) := by decide +kernel
theorem dX11_link_17 : decode cX11_link 17 = .ok (.bipush 32, 2) := by decide +kernel
theorem dX11_link_19 : decode cX11_link 19 = .ok (.if_icmp .ge 23, 3) := by decide +kernel
theorem dX11_link_22 : decode cX11_link 22 = .ok (.aload_n 0, 1) := by decide +kernel
theorem dX11_link_23 : decode cX11_link 23 = .ok (.iload 4, 2) := by decide +kernel
theorem dX11_link_25 : decode cX11_link 25 = .ok (.invokevirtual 62, 3) := by decide +kernel
theorem dX11_link_28 : decode cX11_link 28 = .ok (.iconst 1, 1) := by decide +kernel
theorem dX11_link_29 : decode cX11_link 29 = .ok (.if_icmp .ne 13, 3) := by decide +kernel
theorem dX11_link_32 : decode cX11_link 32 = .ok (.aload_n 0, 1) := by decide +kernel
theorem dX11_link_33 : decode cX11_link 33 = .ok (.iload_n 1, 1) := by decide +kernel
theorem dX11_link_34 : decode cX11_link 34 = .ok (.iload 4, 2) := by decide +kernel
theorem dX11_link_36 : decode cX11_link 36 = .ok (.invokevirtual 136, 3) := by decide +kernel
theorem dX11_link_39 : decode cX11_link 39 = .ok (.ifCond .ne 5, 3) := by decide +kernel
theorem dX11_link_42 : decode cX11_link 42 = .ok (.iconst 0, 1) := by decide +kernel
theorem dX11_link_43 : decode cX11_link 43 = .ok (.ireturn, 1) := by decide +kernel
theorem dX11_link_44 : decode cX11_link 44 = .ok (.aload_n 0, 1) := by decide +kernel
theorem dX11_link_45 : decode cX11_link 45 = .ok (.invokevirtual 170, 3) := by decide +kernel
theorem dX11_link_48 : decode cX11_link 48 = .ok (.aload_n 0, 1) := by decide +kernel
theorem dX11_link_49 : decode cX11_link 49 = .ok (.invokevirtual 176, 3) := by decide +kernel
theorem dX11_link_52 : decode cX11_link 52 = .ok (.iconst 1, 1) := by decide +kernel
theorem dX11_link_53 : decode cX11_link 53 = .ok (.ireturn, 1) := by decide +kernel
theorem dX11_unlink_0 : decode cX11_unlink 0 = .ok (.aload_n 0, 1) := by decide +kernel
theorem dX11_unlink_1 : decode cX11_unlink 1 = .ok (.invokevirtual 205, 3) := by decide +kernel
theorem dX11_unlink_4 : decode cX11_unlink 4 = .ok (.ifCond .ne 29, 3) := by decide +kernel
theorem dX11_unlink_7 : decode cX11_unlink 7 = .ok (.iload_n 1, 1) := by decide +kernel
theorem dX11_unlink_8 : decode cX11_unlink 8 = .ok (.iconst 1, 1) := by decide +kernel
theorem dX11_unlink_9 : decode cX11_unlink 9 = .ok (.if_icmp .lt 24, 3) := by decide +kernel
theorem dX11_unlink_12 : decode cX11_unlink 12 = .ok (.iload_n 1, 1) := by decide +kernel
theorem dX11_unlink_13 : decode cX11_unlink 13 = .ok (.bipush 32, 2) := by decide +kernel
theorem dX11_unlink_15 : decode cX11_unlink 15 = .ok (.if_icmp .ge 18, 3) := by decide +kernel
theorem dX11_unlink_18 : decode cX11_unlink 18 = .ok (.aload_n 0, 1) := by decide +kernel
theorem dX11_unlink_19 : decode cX11_unlink 19 = .ok (.iload_n 1, 1) := by decide +kernel
theorem dX11_unlink_20 : decode cX11_unlink 20 = .ok (.invokevirtual 62, 3) := by decide +kernel
theorem dX11_unlink_23 : decode cX11_unlink 23 = .ok (.iconst 2, 1) := by decide +kernel
theorem dX11_unlink_24 : decode cX11_unlink 24 = .ok (.if_icmp .ne 9, 3) := by decide +kernel
theorem dX11_unlink_27 : decode cX11_unlink 27 = .ok (.lload_n 2, 1) := by decide +kernel
theorem dX11_unlink_28 : decode cX11_unlink 28 = .ok (.lconst 0, 1) := by decide +kernel
theorem dX11_unlink_29 : decode cX11_unlink 29 = .ok (.lcmp, 1) := by decide +kernel
theorem dX11_unlink_30 : decode cX11_unlink 30 = .ok (.ifCond .ne 5, 3) := by decide +kernel
theorem dX11_unlink_33 : decode cX11_unlink 33 = .ok (.iconst 0, 1) := by decide +kernel
theorem dX11_unlink_34 : decode cX11_unlink 34 = .ok (.ireturn, 1) := by decide +kernel
theorem dX11_unlink_35 : decode cX11_unlink 35 = .ok (.aload_n 0, 1) := by decide +kernel
theorem dX11_unlink_36 : decode cX11_unlink 36 = .ok (.lload_n 2, 1) := by decide +kernel
theorem dX11_unlink_37 : decode cX11_unlink 37 = .ok (.invokevirtual 198, 3) := by decide +kernel
theorem dX11_unlink_40 : decode cX11_unlink 40 = .ok (.aload_n 0, 1) := by decide +kernel
theorem dX11_unlink_41 : decode cX11_unlink 41 = .ok (.iload_n 1, 1) := by decide +kernel
theorem dX11_unlink_42 : decode cX11_unlink 42 = .ok (.aload_n 0, 1) := by decide +kernel
theorem dX11_unlink_43 : decode cX11_unlink 43 = .ok (.iload_n 1, 1) := by decide +kernel
theorem dX11_unlink_44 : decode cX11_unlink 44 = .ok (.invokevirtual 106, 3) := by decide +kernel
theorem dX11_unlink_47 : decode cX11_unlink 47 = .ok (.invokevirtual 79, 3) := by decide +kernel
theorem dX11_unlink_50 : decode cX11_unlink 50 = .ok (.istore 4, 2) := by decide +kernel
theorem dX11_unlink_52 : decode cX11_unlink 52 = .ok (.iload 4, 2) := by decide +kernel
theorem dX11_unlink_54 : decode cX11_unlink 54 = .ok (.iconst (-1), 1) := by decide +kernel
theorem dX11_unlink_55 : decode cX11_unlink 55 = .ok (.if_icmp .ne 5, 3) := by decide +kernel
theorem dX11_unlink_58 : decode cX11_unlink 58 = .ok (.iconst 0, 1) := by decide +kernel
theorem dX11_unlink_59 : decode cX11_unlink 59 = .ok (.ireturn, 1) := by decide +kernel
theorem dX11_unlink_60 : decode cX11_unlink 60 = .ok (.aload_n 0, 1) := by decide +kernel
theorem dX11_unlink_61 : decode cX11_unlink 61 = .ok (.getfield 13, 3) := by decide +kernel
theorem dX11_unlink_64 : decode cX11_unlink 64 = .ok (.aload_n 0, 1) := by decide +kernel
theorem dX11_unlink_65 : decode cX11_unlink 65 = .ok (.iload_n 1, 1) := by decide +kernel
theorem dX11_unlink_66 : decode cX11_unlink 66 = .ok (.iload 4, 2) := by decide +kernel
theorem dX11_unlink_68 : decode cX11_unlink 68 = .ok (.invokevirtual 73, 3) := by decide +kernel
theorem dX11_unlink_71 : decode cX11_unlink 71 = .ok (.iaload, 1) := by decide +kernel
theorem dX11_unlink_72 : decode cX11_unlink 72 = .ok (.istore 5, 2) := by decide +kernel
theorem dX11_unlink_74 : decode cX11_unlink 74 = .ok (.iconst 2, 1) := by decide +kernel
theorem dX11_unlink_75 : decode cX11_unlink 75 = .ok (.istore 6, 2) := by decide +kernel
theorem dX11_unlink_77 : decode cX11_unlink 77 = .ok (.aload_n 0, 1) := by decide +kernel
theorem dX11_unlink_78 : decode cX11_unlink 78 = .ok (.iload 5, 2) := by decide +kernel
theorem dX11_unlink_80 : decode cX11_unlink 80 = .ok (.invokevirtual 62, 3) := by decide +kernel
theorem dX11_unlink_83 : decode cX11_unlink 83 = .ok (.iconst 2, 1) := by decide +kernel
theorem dX11_unlink_84 : decode cX11_unlink 84 = .ok (.if_icmp .ne 38, 3) := by decide +kernel
theorem dX11_unlink_87 : decode cX11_unlink 87 = .ok (.iload 6, 2) := by decide +kernel
theorem dX11_unlink_89 : decode cX11_unlink 89 = .ok (.aload_n 0, 1) := by decide +kernel
theorem dX11_unlink_90 : decode cX11_unlink 90 = .ok (.iload 5, 2) := by decide +kernel
theorem dX11_unlink_92 : decode cX11_unlink 92 = .ok (.invokevirtual 106, 3) := by decide +kernel
theorem dX11_unlink_95 : decode cX11_unlink 95 = .ok (.if_icmp .ge 27, 3) := by decide +kernel
theorem dX11_unlink_98 : decode cX11_unlink 98 = .ok (.aload_n 0, 1) := by decide +kernel
theorem dX11_unlink_99 : decode cX11_unlink 99 = .ok (.getfield 13, 3) := by decide +kernel
theorem dX11_unlink_102 : decode cX11_unlink 102 = .ok (.aload_n 0, 1) := by decide +kernel
theorem dX11_unlink_103 : decode cX11_unlink 103 = .ok (.iload 5, 2) := by decide +kernel
theorem dX11_unlink_105 : decode cX11_unlink 105 = .ok (.iload 6, 2) := by decide +kernel
theorem dX11_unlink_107 : decode cX11_unlink 107 = .ok (.invokevirtual 73, 3) := by decide +kernel
theorem dX11_unlink_110 : decode cX11_unlink 110 = .ok (.iaload, 1) := by decide +kernel
theorem dX11_unlink_111 : decode cX11_unlink 111 = .ok (.ifCond .eq 5, 3) := by decide +kernel
theorem dX11_unlink_114 : decode cX11_unlink 114 = .ok (.iconst 0, 1) := by decide +kernel
theorem dX11_unlink_115 : decode cX11_unlink 115 = .ok (.ireturn, 1) := by decide +kernel
theorem dX11_unlink_116 : decode cX11_unlink 116 = .ok (.iinc 6 1, 3) := by decide +kernel
theorem dX11_unlink_119 : decode cX11_unlink 119 = .ok (.goto (-42), 3) := by decide +kernel
theorem dX11_unlink_122 : decode cX11_unlink 122 = .ok (.aload_n 0, 1) := by decide +kernel
theorem dX11_unlink_123 : decode cX11_unlink 123 = .ok (.aload_n 0, 1) := by decide +kernel
theorem dX11_unlink_124 : decode cX11_unlink 124 = .ok (.iload_n 1, 1) := by decide +kernel
theorem dX11_unlink_125 : decode cX11_unlink 125 = .ok (.iload 4, 2) := by decide +kernel
theorem dX11_unlink_127 : decode cX11_unlink 127 = .ok (.invokevirtual 73, 3) := by decide +kernel
theorem dX11_unlink_130 : decode cX11_unlink 130 = .ok (.bipush 16, 2) := by decide +kernel
theorem dX11_unlink_132 : decode cX11_unlink 132 = .ok (.invokevirtual 65, 3) := by decide +kernel
theorem dX11_unlink_135 : decode cX11_unlink 135 = .ok (.aload_n 0, 1) := by decide +kernel
theorem dX11_unlink_136 : decode cX11_unlink 136 = .ok (.iload 5, 2) := by decide +kernel
theorem dX11_unlink_138 : decode cX11_unlink 138 = .ok (.invokevirtual 62, 3) := by decide +kernel
theorem dX11_unlink_141 : decode cX11_unlink 141 = .ok (.iconst 2, 1) := by decide +kernel
theorem dX11_unlink_142 : decode cX11_unlink 142 = .ok (.if_icmp .eq 12, 3) := by decide +kernel
theorem dX11_unlink_145 : decode cX11_unlink 145 = .ok (.aload_n 0, 1) := by decide +kernel
theorem dX11_unlink_146 : decode cX11_unlink 146 = .ok (.iload 5, 2) := by decide +kernel
theorem dX11_unlink_148 : decode cX11_unlink 148 = .ok (.invokevirtual 145, 3) := by decide +kernel
theorem dX11_unlink_151 : decode cX11_unlink 151 = .ok (.ifCond .ne 14, 3) := by decide +kernel
theorem dX11_unlink_154 : decode cX11_unlink 154 = .ok (.aload_n 0, 1) := by decide +kernel
theorem dX11_unlink_155 : decode cX11_unlink 155 = .ok (.iload 5, 2) := by decide +kernel
theorem dX11_unlink_157 : decode cX11_unlink 157 = .ok (.invokestatic 42, 3) := by decide +kernel
theorem dX11_unlink_160 : decode cX11_unlink 160 = .ok (.bipush 16, 2) := by decide +kernel
theorem dX11_unlink_162 : decode cX11_unlink 162 = .ok (.invokevirtual 65, 3) := by decide +kernel
theorem dX11_unlink_165 : decode cX11_unlink 165 = .ok (.aload_n 0, 1) := by decide +kernel
theorem dX11_unlink_166 : decode cX11_unlink 166 = .ok (.invokevirtual 170, 3) := by decide +kernel
theorem dX11_unlink_169 : decode cX11_unlink 169 = .ok (.aload_n 0, 1) := by decide +kernel
theorem dX11_unlink_170 : decode cX11_unlink 170 = .ok (.invokevirtual 176, 3) := by decide +kernel
theorem dX11_unlink_173 : decode cX11_unlink 173 = .ok (.iconst 1, 1) := by decide +kernel
theorem dX11_unlink_174 : decode cX11_unlink 174 = .ok (.ireturn, 1) := by decide +kernel
theorem dJ13_bitCount_95d88_0 : decode cJ13_bitCount_95d88 0 = .ok (.lload_n 0, 1) := by decide +kernel
theorem dJ13_bitCount_95d88_1 : decode cJ13_bitCount_95d88 1 = .ok (.lload_n 0, 1) := by decide +kernel
theorem dJ13_bitCount_95d88_2 : decode cJ13_bitCount_95d88 2 = .ok (.iconst 1, 1) := by decide +kernel
theorem dJ13_bitCount_95d88_3 : decode cJ13_bitCount_95d88 3 = .ok (.lushr, 1) := by decide +kernel
theorem dJ13_bitCount_95d88_4 : decode cJ13_bitCount_95d88 4 = .ok (.ldc2_w 314, 3) := by decide +kernel
theorem dJ13_bitCount_95d88_7 : decode cJ13_bitCount_95d88 7 = .ok (.land, 1) := by decide +kernel
theorem dJ13_bitCount_95d88_8 : decode cJ13_bitCount_95d88 8 = .ok (.lsub, 1) := by decide +kernel
theorem dJ13_bitCount_95d88_9 : decode cJ13_bitCount_95d88 9 = .ok (.lstore_n 0, 1) := by decide +kernel
theorem dJ13_bitCount_95d88_10 : decode cJ13_bitCount_95d88 10 = .ok (.lload_n 0, 1) := by decide +kernel
theorem dJ13_bitCount_95d88_11 : decode cJ13_bitCount_95d88 11 = .ok (.ldc2_w 316, 3) := by decide +kernel
theorem dJ13_bitCount_95d88_14 : decode cJ13_bitCount_95d88 14 = .ok (.land, 1) := by decide +kernel
theorem dJ13_bitCount_95d88_15 : decode cJ13_bitCount_95d88 15 = .ok (.lload_n 0, 1) := by decide +kernel
theorem dJ13_bitCount_95d88_16 : decode cJ13_bitCount_95d88 16 = .ok (.iconst 2, 1) := by decide +kernel
theorem dJ13_bitCount_95d88_17 : decode cJ13_bitCount_95d88 17 = .ok (.lushr, 1) := by decide +kernel
theorem dJ13_bitCount_95d88_18 : decode cJ13_bitCount_95d88 18 = .ok (.ldc2_w 316, 3) := by decide +kernel
theorem dJ13_bitCount_95d88_21 : decode cJ13_bitCount_95d88 21 = .ok (.land, 1) := by decide +kernel
theorem dJ13_bitCount_95d88_22 : decode cJ13_bitCount_95d88 22 = .ok (.ladd, 1) := by decide +kernel
theorem dJ13_bitCount_95d88_23 : decode cJ13_bitCount_95d88 23 = .ok (.lstore_n 0, 1) := by decide +kernel
theorem dJ13_bitCount_95d88_24 : decode cJ13_bitCount_95d88 24 = .ok (.lload_n 0, 1) := by decide +kernel
theorem dJ13_bitCount_95d88_25 : decode cJ13_bitCount_95d88 25 = .ok (.lload_n 0, 1) := by decide +kernel
theorem dJ13_bitCount_95d88_26 : decode cJ13_bitCount_95d88 26 = .ok (.iconst 4, 1) := by decide +kernel
theorem dJ13_bitCount_95d88_27 : decode cJ13_bitCount_95d88 27 = .ok (.lushr, 1) := by decide +kernel
theorem dJ13_bitCount_95d88_28 : decode cJ13_bitCount_95d88 28 = .ok (.ladd, 1) := by decide +kernel
theorem dJ13_bitCount_95d88_29 : decode cJ13_bitCount_95d88 29 = .ok (.ldc2_w 318, 3) := by decide +kernel
theorem dJ13_bitCount_95d88_32 : decode cJ13_bitCount_95d88 32 = .ok (.land, 1) := by decide +kernel
theorem dJ13_bitCount_95d88_33 : decode cJ13_bitCount_95d88 33 = .ok (.lstore_n 0, 1) := by decide +kernel
theorem dJ13_bitCount_95d88_34 : decode cJ13_bitCount_95d88 34 = .ok (.lload_n 0, 1) := by decide +kernel
theorem dJ13_bitCount_95d88_35 : decode cJ13_bitCount_95d88 35 = .ok (.lload_n 0, 1) := by decide +kernel
theorem dJ13_bitCount_95d88_36 : decode cJ13_bitCount_95d88 36 = .ok (.bipush 8, 2) := by decide +kernel
theorem dJ13_bitCount_95d88_38 : decode cJ13_bitCount_95d88 38 = .ok (.lushr, 1) := by decide +kernel
theorem dJ13_bitCount_95d88_39 : decode cJ13_bitCount_95d88 39 = .ok (.ladd, 1) := by decide +kernel
theorem dJ13_bitCount_95d88_40 : decode cJ13_bitCount_95d88 40 = .ok (.lstore_n 0, 1) := by decide +kernel
theorem dJ13_bitCount_95d88_41 : decode cJ13_bitCount_95d88 41 = .ok (.lload_n 0, 1) := by decide +kernel
theorem dJ13_bitCount_95d88_42 : decode cJ13_bitCount_95d88 42 = .ok (.lload_n 0, 1) := by decide +kernel
theorem dJ13_bitCount_95d88_43 : decode cJ13_bitCount_95d88 43 = .ok (.bipush 16, 2) := by decide +kernel
theorem dJ13_bitCount_95d88_45 : decode cJ13_bitCount_95d88 45 = .ok (.lushr, 1) := by decide +kernel
theorem dJ13_bitCount_95d88_46 : decode cJ13_bitCount_95d88 46 = .ok (.ladd, 1) := by decide +kernel
theorem dJ13_bitCount_95d88_47 : decode cJ13_bitCount_95d88 47 = .ok (.lstore_n 0, 1) := by decide +kernel
theorem dJ13_bitCount_95d88_48 : decode cJ13_bitCount_95d88 48 = .ok (.lload_n 0, 1) := by decide +kernel
theorem dJ13_bitCount_95d88_49 : decode cJ13_bitCount_95d88 49 = .ok (.lload_n 0, 1) := by decide +kernel
theorem dJ13_bitCount_95d88_50 : decode cJ13_bitCount_95d88 50 = .ok (.bipush 32, 2) := by decide +kernel
theorem dJ13_bitCount_95d88_52 : decode cJ13_bitCount_95d88 52 = .ok (.lushr, 1) := by decide +kernel
theorem dJ13_bitCount_95d88_53 : decode cJ13_bitCount_95d88 53 = .ok (.ladd, 1) := by decide +kernel
theorem dJ13_bitCount_95d88_54 : decode cJ13_bitCount_95d88 54 = .ok (.lstore_n 0, 1) := by decide +kernel
theorem dJ13_bitCount_95d88_55 : decode cJ13_bitCount_95d88 55 = .ok (.lload_n 0, 1) := by decide +kernel
theorem dJ13_bitCount_95d88_56 : decode cJ13_bitCount_95d88 56 = .ok (.l2i, 1) := by decide +kernel
theorem dJ13_bitCount_95d88_57 : decode cJ13_bitCount_95d88 57 = .ok (.bipush 127, 2) := by decide +kernel
theorem dJ13_bitCount_95d88_59 : decode cJ13_bitCount_95d88 59 = .ok (.iand, 1) := by decide +kernel
theorem dJ13_bitCount_95d88_60 : decode cJ13_bitCount_95d88 60 = .ok (.ireturn, 1) := by decide +kernel
theorem dJ9_min_7cf53_0 : decode cJ9_min_7cf53 0 = .ok (.iload_n 0, 1) := by decide +kernel
theorem dJ9_min_7cf53_1 : decode cJ9_min_7cf53 1 = .ok (.iload_n 1, 1) := by decide +kernel
theorem dJ9_min_7cf53_2 : decode cJ9_min_7cf53 2 = .ok (.if_icmp .gt 7, 3) := by decide +kernel
theorem dJ9_min_7cf53_5 : decode cJ9_min_7cf53 5 = .ok (.iload_n 0, 1) := by decide +kernel
theorem dJ9_min_7cf53_6 : decode cJ9_min_7cf53 6 = .ok (.goto 4, 3) := by decide +kernel
theorem dJ9_min_7cf53_9 : decode cJ9_min_7cf53 9 = .ok (.iload_n 1, 1) := by decide +kernel
theorem dJ9_min_7cf53_10 : decode cJ9_min_7cf53 10 = .ok (.ireturn, 1) := by decide +kernel
theorem dJ0_length_8abf5_0 : decode cJ0_length_8abf5 0 = .ok (.aload_n 0, 1) := by decide +kernel
theorem dJ0_length_8abf5_1 : decode cJ0_length_8abf5 1 = .ok (.getfield 9, 3) := by decide +kernel
theorem dJ0_length_8abf5_4 : decode cJ0_length_8abf5 4 = .ok (.arraylength, 1) := by decide +kernel
theorem dJ0_length_8abf5_5 : decode cJ0_length_8abf5 5 = .ok (.aload_n 0, 1) := by decide +kernel
theorem dJ0_length_8abf5_6 : decode cJ0_length_8abf5 6 = .ok (.invokevirtual 335, 3) := by decide +kernel
theorem dJ0_length_8abf5_9 : decode cJ0_length_8abf5 9 = .ok (.ishr, 1) := by decide +kernel
theorem dJ0_length_8abf5_10 : decode cJ0_length_8abf5 10 = .ok (.ireturn, 1) := by decide +kernel
theorem dJ0_charAt_5068e_0 : decode cJ0_charAt_5068e 0 = .ok (.aload_n 0, 1) := by decide +kernel
theorem dJ0_charAt_5068e_1 : decode cJ0_charAt_5068e 1 = .ok (.invokevirtual 492, 3) := by decide +kernel
theorem dJ0_charAt_5068e_4 : decode cJ0_charAt_5068e 4 = .ok (.ifCond .eq 12, 3) := by decide +kernel
theorem dJ0_charAt_5068e_7 : decode cJ0_charAt_5068e 7 = .ok (.aload_n 0, 1) := by decide +kernel
theorem dJ0_charAt_5068e_8 : decode cJ0_charAt_5068e 8 = .ok (.getfield 9, 3) := by decide +kernel
theorem dJ0_charAt_5068e_11 : decode cJ0_charAt_5068e 11 = .ok (.iload_n 1, 1) := by decide +kernel
theorem dJ0_charAt_5068e_12 : decode cJ0_charAt_5068e 12 = .ok (.invokestatic 495, 3) := by decide +kernel
theorem dJ0_charAt_5068e_15 : decode cJ0_charAt_5068e 15 = .ok (.ireturn, 1) := by decide +kernel
theorem dJ0_charAt_5068e_16 : decode cJ0_charAt_5068e 16 = .ok (.aload_n 0, 1) := by decide +kernel
theorem dJ0_charAt_5068e_17 : decode cJ0_charAt_5068e 17 = .ok (.getfield 9, 3) := by decide +kernel
theorem dJ0_charAt_5068e_20 : decode cJ0_charAt_5068e 20 = .ok (.iload_n 1, 1) := by decide +kernel
theorem dJ0_charAt_5068e_21 : decode cJ0_charAt_5068e 21 = .ok (.invokestatic 498, 3) := by decide +kernel
theorem dJ0_charAt_5068e_24 : decode cJ0_charAt_5068e 24 = .ok (.ireturn, 1) := by decide +kernel
theorem dJ0_coder_7d493_0 : decode cJ0_coder_7d493 0 = .ok (.getstatic 38, 3) := by decide +kernel
theorem dJ0_coder_7d493_3 : decode cJ0_coder_7d493 3 = .ok (.ifCond .eq 10, 3) := by decide +kernel
theorem dJ0_coder_7d493_6 : decode cJ0_coder_7d493 6 = .ok (.aload_n 0, 1) := by decide +kernel
theorem dJ0_coder_7d493_7 : decode cJ0_coder_7d493 7 = .ok (.getfield 15, 3) := by decide +kernel
theorem dJ0_coder_7d493_10 : decode cJ0_coder_7d493 10 = .ok (.goto 4, 3) := by decide +kernel
theorem dJ0_coder_7d493_13 : decode cJ0_coder_7d493 13 = .ok (.iconst 1, 1) := by decide +kernel
theorem dJ0_coder_7d493_14 : decode cJ0_coder_7d493 14 = .ok (.ireturn, 1) := by decide +kernel
theorem dJ0_isLatin1_aae02_0 : decode cJ0_isLatin1_aae02 0 = .ok (.getstatic 38, 3) := by decide +kernel
theorem dJ0_isLatin1_aae02_3 : decode cJ0_isLatin1_aae02 3 = .ok (.ifCond .eq 14, 3) := by decide +kernel
theorem dJ0_isLatin1_aae02_6 : decode cJ0_isLatin1_aae02 6 = .ok (.aload_n 0, 1) := by decide +kernel
theorem dJ0_isLatin1_aae02_7 : decode cJ0_isLatin1_aae02 7 = .ok (.getfield 15, 3) := by decide +kernel
theorem dJ0_isLatin1_aae02_10 : decode cJ0_isLatin1_aae02 10 = .ok (.ifCond .ne 7, 3) := by decide +kernel
theorem dJ0_isLatin1_aae02_13 : decode cJ0_isLatin1_aae02 13 = .ok (.iconst 1, 1) := by decide +kernel
theorem dJ0_isLatin1_aae02_14 : decode cJ0_isLatin1_aae02 14 = .ok (.goto 4, 3) := by decide +kernel
theorem dJ0_isLatin1_aae02_17 : decode cJ0_isLatin1_aae02 17 = .ok (.iconst 0, 1) := by decide +kernel
theorem dJ0_isLatin1_aae02_18 : decode cJ0_isLatin1_aae02 18 = .ok (.ireturn, 1) := by decide +kernel
theorem dJ0_checkIndex_df160_0 : decode cJ0_checkIndex_df160 0 = .ok (.iload_n 0, 1) := by decide +kernel
theorem dJ0_checkIndex_df160_1 : decode cJ0_checkIndex_df160 1 = .ok (.iload_n 1, 1) := by decide +kernel
theorem dJ0_checkIndex_df160_2 : decode cJ0_checkIndex_df160 2 = .ok (.getstatic 1053, 3) := by decide +kernel
theorem dJ0_checkIndex_df160_5 : decode cJ0_checkIndex_df160 5 = .ok (.invokestatic 1059, 3) := by decide +kernel
theorem dJ0_checkIndex_df160_8 : decode cJ0_checkIndex_df160 8 = .ok (.pop, 1) := by decide +kernel
theorem dJ0_checkIndex_df160_9 : decode cJ0_checkIndex_df160 9 = .ok (.return_, 1) := by decide +kernel
theorem dJ1_charAt_3b067_0 : decode cJ1_charAt_3b067 0 = .ok (.iload_n 1, 1) := by decide +kernel
theorem dJ1_charAt_3b067_1 : decode cJ1_charAt_3b067 1 = .ok (.aload_n 0, 1) := by decide +kernel
theorem dJ1_charAt_3b067_2 : decode cJ1_charAt_3b067 2 = .ok (.arraylength, 1) := by decide +kernel
theorem dJ1_charAt_3b067_3 : decode cJ1_charAt_3b067 3 = .ok (.invokestatic 9, 3) := by decide +kernel
theorem dJ1_charAt_3b067_6 : decode cJ1_charAt_3b067 6 = .ok (.aload_n 0, 1) := by decide +kernel
theorem dJ1_charAt_3b067_7 : decode cJ1_charAt_3b067 7 = .ok (.iload_n 1, 1) := by decide +kernel
theorem dJ1_charAt_3b067_8 : decode cJ1_charAt_3b067 8 = .ok (.baload, 1) := by decide +kernel
theorem dJ1_charAt_3b067_9 : decode cJ1_charAt_3b067 9 = .ok (.sipush 255, 3) := by decide +kernel
theorem dJ1_charAt_3b067_12 : decode cJ1_charAt_3b067 12 = .ok (.iand, 1) := by decide +kernel
theorem dJ1_charAt_3b067_13 : decode cJ1_charAt_3b067 13 = .ok (.i2c, 1) := by decide +kernel
theorem dJ1_charAt_3b067_14 : decode cJ1_charAt_3b067 14 = .ok (.ireturn, 1) := by decide +kernel
theorem dJ2_getChar_3b067_0 : decode cJ2_getChar_3b067 0 = .ok (.getstatic 44, 3) := by decide +kernel
theorem dJ2_getChar_3b067_3 : decode cJ2_getChar_3b067 3 = .ok (.ifCond .ne 25, 3) := by decide +kernel
theorem dJ2_getChar_3b067_6 : decode cJ2_getChar_3b067 6 = .ok (.iload_n 1, 1) := by decide +kernel
theorem dJ2_getChar_3b067_7 : decode cJ2_getChar_3b067 7 = .ok (.ifCond .lt 11, 3) := by decide +kernel
theorem dJ2_getChar_3b067_10 : decode cJ2_getChar_3b067 10 = .ok (.iload_n 1, 1) := by decide +kernel
theorem dJ2_getChar_3b067_11 : decode cJ2_getChar_3b067 11 = .ok (.aload_n 0, 1) := by decide +kernel
theorem dJ2_getChar_3b067_12 : decode cJ2_getChar_3b067 12 = .ok (.invokestatic 48, 3) := by decide +kernel
theorem dJ2_getChar_3b067_15 : decode cJ2_getChar_3b067 15 = .ok (.if_icmp .lt 13, 3) := by decide +kernel
theorem dJ2_getChar_3b067_18 : decode cJ2_getChar_3b067 18 = .ok (.new 52, 3) := by decide +kernel
theorem dJ2_getChar_3b067_21 : decode cJ2_getChar_3b067 21 = .ok (.dup, 1) := by decide +kernel
theorem dJ2_getChar_3b067_22 : decode cJ2_getChar_3b067 22 = .ok (.ldc 54, 2) := by decide +kernel
theorem dJ2_getChar_3b067_24 : decode cJ2_getChar_3b067 24 = .ok (.invokespecial 56, 3) := by decide +kernel
theorem dJ2_getChar_3b067_27 : decode cJ2_getChar_3b067 27 = .ok (.athrow, 1) := by decide +kernel
theorem dJ2_getChar_3b067_28 : decode cJ2_getChar_3b067 28 = .ok (.iload_n 1, 1) := by decide +kernel
theorem dJ2_getChar_3b067_29 : decode cJ2_getChar_3b067 29 = .ok (.iconst 1, 1) := by decide +kernel
theorem dJ2_getChar_3b067_30 : decode cJ2_getChar_3b067 30 = .ok (.ishl, 1) := by decide +kernel
theorem dJ2_getChar_3b067_31 : decode cJ2_getChar_3b067 31 = .ok (.istore_n 1, 1) := by decide +kernel
theorem dJ2_getChar_3b067_32 : decode cJ2_getChar_3b067 32 = .ok (.aload_n 0, 1) := by decide +kernel
theorem dJ2_getChar_3b067_33 : decode cJ2_getChar_3b067 33 = .ok (.iload_n 1, 1) := by decide +kernel
theorem dJ2_getChar_3b067_34 : decode cJ2_getChar_3b067 34 = .ok (.iinc 1 1, 3) := by decide +kernel
theorem dJ2_getChar_3b067_37 : decode cJ2_getChar_3b067 37 = .ok (.baload, 1) := by decide +kernel
theorem dJ2_getChar_3b067_38 : decode cJ2_getChar_3b067 38 = .ok (.sipush 255, 3) := by decide +kernel
theorem dJ2_getChar_3b067_41 : decode cJ2_getChar_3b067 41 = .ok (.iand, 1) := by decide +kernel
theorem dJ2_getChar_3b067_42 : decode cJ2_getChar_3b067 42 = .ok (.getstatic 59, 3) := by decide +kernel
theorem dJ2_getChar_3b067_45 : decode cJ2_getChar_3b067 45 = .ok (.ishl, 1) := by decide +kernel
theorem dJ2_getChar_3b067_46 : decode cJ2_getChar_3b067 46 = .ok (.aload_n 0, 1) := by decide +kernel
theorem dJ2_getChar_3b067_47 : decode cJ2_getChar_3b067 47 = .ok (.iload_n 1, 1) := by decide +kernel
theorem dJ2_getChar_3b067_48 : decode cJ2_getChar_3b067 48 = .ok (.baload, 1) := by decide +kernel
theorem dJ2_getChar_3b067_49 : decode cJ2_getChar_3b067 49 = .ok (.sipush 255, 3) := by decide +kernel
theorem dJ2_getChar_3b067_52 : decode cJ2_getChar_3b067 52 = .ok (.iand, 1) := by decide +kernel
theorem dJ2_getChar_3b067_53 : decode cJ2_getChar_3b067 53 = .ok (.getstatic 63, 3) := by decide +kernel
theorem dJ2_getChar_3b067_56 : decode cJ2_getChar_3b067 56 = .ok (.ishl, 1) := by decide +kernel
theorem dJ2_getChar_3b067_57 : decode cJ2_getChar_3b067 57 = .ok (.ior, 1) := by decide +kernel
theorem dJ2_getChar_3b067_58 : decode cJ2_getChar_3b067 58 = .ok (.i2c, 1) := by decide +kernel
theorem dJ2_getChar_3b067_59 : decode cJ2_getChar_3b067 59 = .ok (.ireturn, 1) := by decide +kernel
theorem dJ2_length_9d52b_0 : decode cJ2_length_9d52b 0 = .ok (.aload_n 0, 1) := by decide +kernel
theorem dJ2_length_9d52b_1 : decode cJ2_length_9d52b 1 = .ok (.arraylength, 1) := by decide +kernel
theorem dJ2_length_9d52b_2 : decode cJ2_length_9d52b 2 = .ok (.iconst 1, 1) := by decide +kernel
theorem dJ2_length_9d52b_3 : decode cJ2_length_9d52b 3 = .ok (.ishr, 1) := by decide +kernel
theorem dJ2_length_9d52b_4 : decode cJ2_length_9d52b 4 = .ok (.ireturn, 1) := by decide +kernel
theorem dJ2_charAt_3b067_0 : decode cJ2_charAt_3b067 0 = .ok (.iload_n 1, 1) := by decide +kernel
theorem dJ2_charAt_3b067_1 : decode cJ2_charAt_3b067 1 = .ok (.aload_n 0, 1) := by decide +kernel
theorem dJ2_charAt_3b067_2 : decode cJ2_charAt_3b067 2 = .ok (.invokestatic 67, 3) := by decide +kernel
theorem dJ2_charAt_3b067_5 : decode cJ2_charAt_3b067 5 = .ok (.aload_n 0, 1) := by decide +kernel
theorem dJ2_charAt_3b067_6 : decode cJ2_charAt_3b067 6 = .ok (.iload_n 1, 1) := by decide +kernel
theorem dJ2_charAt_3b067_7 : decode cJ2_charAt_3b067 7 = .ok (.invokestatic 71, 3) := by decide +kernel
theorem dJ2_charAt_3b067_10 : decode cJ2_charAt_3b067 10 = .ok (.ireturn, 1) := by decide +kernel
theorem dJ2_checkIndex_2214a_0 : decode cJ2_checkIndex_2214a 0 = .ok (.iload_n 0, 1) := by decide +kernel
theorem dJ2_checkIndex_2214a_1 : decode cJ2_checkIndex_2214a 1 = .ok (.aload_n 1, 1) := by decide +kernel
theorem dJ2_checkIndex_2214a_2 : decode cJ2_checkIndex_2214a 2 = .ok (.invokestatic 48, 3) := by decide +kernel
theorem dJ2_checkIndex_2214a_5 : decode cJ2_checkIndex_2214a 5 = .ok (.invokestatic 414, 3) := by decide +kernel
theorem dJ2_checkIndex_2214a_8 : decode cJ2_checkIndex_2214a 8 = .ok (.return_, 1) := by decide +kernel
theorem dJ7_rangeCheck_23922_0 : decode cJ7_rangeCheck_23922 0 = .ok (.iload_n 1, 1) := by decide +kernel
theorem dJ7_rangeCheck_23922_1 : decode cJ7_rangeCheck_23922 1 = .ok (.iload_n 2, 1) := by decide +kernel
theorem dJ7_rangeCheck_23922_2 : decode cJ7_rangeCheck_23922 2 = .ok (.if_icmp .le 44, 3) := by decide +kernel
theorem dJ7_rangeCheck_23922_5 : decode cJ7_rangeCheck_23922 5 = .ok (.new 43, 3) := by decide +kernel
theorem dJ7_rangeCheck_23922_8 : decode cJ7_rangeCheck_23922 8 = .ok (.dup, 1) := by decide +kernel
theorem dJ7_rangeCheck_23922_9 : decode cJ7_rangeCheck_23922 9 = .ok (.new 45, 3) := by decide +kernel
theorem dJ7_rangeCheck_23922_12 : decode cJ7_rangeCheck_23922 12 = .ok (.dup, 1) := by decide +kernel
theorem dJ7_rangeCheck_23922_13 : decode cJ7_rangeCheck_23922 13 = .ok (.invokespecial 47, 3) := by decide +kernel
theorem dJ7_rangeCheck_23922_16 : decode cJ7_rangeCheck_23922 16 = .ok (.ldc 48, 2) := by decide +kernel
theorem dJ7_rangeCheck_23922_18 : decode cJ7_rangeCheck_23922 18 = .ok (.invokevirtual 50, 3) := by decide +kernel
theorem dJ7_rangeCheck_23922_21 : decode cJ7_rangeCheck_23922 21 = .ok (.iload_n 1, 1) := by decide +kernel
theorem dJ7_rangeCheck_23922_22 : decode cJ7_rangeCheck_23922 22 = .ok (.invokevirtual 54, 3) := by decide +kernel
theorem dJ7_rangeCheck_23922_25 : decode cJ7_rangeCheck_23922 25 = .ok (.ldc 57, 2) := by decide +kernel
theorem dJ7_rangeCheck_23922_27 : decode cJ7_rangeCheck_23922 27 = .ok (.invokevirtual 50, 3) := by decide +kernel
theorem dJ7_rangeCheck_23922_30 : decode cJ7_rangeCheck_23922 30 = .ok (.iload_n 2, 1) := by decide +kernel
theorem dJ7_rangeCheck_23922_31 : decode cJ7_rangeCheck_23922 31 = .ok (.invokevirtual 54, 3) := by decide +kernel
theorem dJ7_rangeCheck_23922_34 : decode cJ7_rangeCheck_23922 34 = .ok (.ldc 59, 2) := by decide +kernel
theorem dJ7_rangeCheck_23922_36 : decode cJ7_rangeCheck_23922 36 = .ok (.invokevirtual 50, 3) := by decide +kernel
theorem dJ7_rangeCheck_23922_39 : decode cJ7_rangeCheck_23922 39 = .ok (.invokevirtual 61, 3) := by decide +kernel
theorem dJ7_rangeCheck_23922_42 : decode cJ7_rangeCheck_23922 42 = .ok (.invokespecial 65, 3) := by decide +kernel
theorem dJ7_rangeCheck_23922_45 : decode cJ7_rangeCheck_23922 45 = .ok (.athrow, 1) := by decide +kernel
theorem dJ7_rangeCheck_23922_46 : decode cJ7_rangeCheck_23922 46 = .ok (.iload_n 1, 1) := by decide +kernel
theorem dJ7_rangeCheck_23922_47 : decode cJ7_rangeCheck_23922 47 = .ok (.ifCond .ge 12, 3) := by decide +kernel
theorem dJ7_rangeCheck_23922_50 : decode cJ7_rangeCheck_23922 50 = .ok (.new 68, 3) := by decide +kernel
theorem dJ7_rangeCheck_23922_53 : decode cJ7_rangeCheck_23922 53 = .ok (.dup, 1) := by decide +kernel
theorem dJ7_rangeCheck_23922_54 : decode cJ7_rangeCheck_23922 54 = .ok (.iload_n 1, 1) := by decide +kernel
theorem dJ7_rangeCheck_23922_55 : decode cJ7_rangeCheck_23922 55 = .ok (.invokespecial 70, 3) := by decide +kernel
theorem dJ7_rangeCheck_23922_58 : decode cJ7_rangeCheck_23922 58 = .ok (.athrow, 1) := by decide +kernel
theorem dJ7_rangeCheck_23922_59 : decode cJ7_rangeCheck_23922 59 = .ok (.iload_n 2, 1) := by decide +kernel
theorem dJ7_rangeCheck_23922_60 : decode cJ7_rangeCheck_23922 60 = .ok (.iload_n 0, 1) := by decide +kernel
theorem dJ7_rangeCheck_23922_61 : decode cJ7_rangeCheck_23922 61 = .ok (.if_icmp .le 12, 3) := by decide +kernel
theorem dJ7_rangeCheck_23922_64 : decode cJ7_rangeCheck_23922 64 = .ok (.new 68, 3) := by decide +kernel
theorem dJ7_rangeCheck_23922_67 : decode cJ7_rangeCheck_23922 67 = .ok (.dup, 1) := by decide +kernel
theorem dJ7_rangeCheck_23922_68 : decode cJ7_rangeCheck_23922 68 = .ok (.iload_n 2, 1) := by decide +kernel
theorem dJ7_rangeCheck_23922_69 : decode cJ7_rangeCheck_23922 69 = .ok (.invokespecial 70, 3) := by decide +kernel
theorem dJ7_rangeCheck_23922_72 : decode cJ7_rangeCheck_23922 72 = .ok (.athrow, 1) := by decide +kernel
theorem dJ7_rangeCheck_23922_73 : decode cJ7_rangeCheck_23922 73 = .ok (.return_, 1) := by decide +kernel
theorem dJ7_fill_fda19_0 : decode cJ7_fill_fda19 0 = .ok (.aload_n 0, 1) := by decide +kernel
theorem dJ7_fill_fda19_1 : decode cJ7_fill_fda19 1 = .ok (.arraylength, 1) := by decide +kernel
theorem dJ7_fill_fda19_2 : decode cJ7_fill_fda19 2 = .ok (.iload_n 1, 1) := by decide +kernel
theorem dJ7_fill_fda19_3 : decode cJ7_fill_fda19 3 = .ok (.iload_n 2, 1) := by decide +kernel
theorem dJ7_fill_fda19_4 : decode cJ7_fill_fda19 4 = .ok (.invokestatic 13, 3) := by decide +kernel
theorem dJ7_fill_fda19_7 : decode cJ7_fill_fda19 7 = .ok (.iload_n 1, 1) := by decide +kernel
theorem dJ7_fill_fda19_8 : decode cJ7_fill_fda19 8 = .ok (.istore 4, 2) := by decide +kernel
theorem dJ7_fill_fda19_10 : decode cJ7_fill_fda19 10 = .ok (.iload 4, 2) := by decide +kernel
theorem dJ7_fill_fda19_12 : decode cJ7_fill_fda19 12 = .ok (.iload_n 2, 1) := by decide +kernel
theorem dJ7_fill_fda19_13 : decode cJ7_fill_fda19 13 = .ok (.if_icmp .ge 14, 3) := by decide +kernel
theorem dJ7_fill_fda19_16 : decode cJ7_fill_fda19 16 = .ok (.aload_n 0, 1) := by decide +kernel
theorem dJ7_fill_fda19_17 : decode cJ7_fill_fda19 17 = .ok (.iload 4, 2) := by decide +kernel
theorem dJ7_fill_fda19_19 : decode cJ7_fill_fda19 19 = .ok (.iload_n 3, 1) := by decide +kernel
theorem dJ7_fill_fda19_20 : decode cJ7_fill_fda19 20 = .ok (.iastore, 1) := by decide +kernel
theorem dJ7_fill_fda19_21 : decode cJ7_fill_fda19 21 = .ok (.iinc 4 1, 3) := by decide +kernel
theorem dJ7_fill_fda19_24 : decode cJ7_fill_fda19 24 = .ok (.goto (-14), 3) := by decide +kernel
theorem dJ7_fill_fda19_27 : decode cJ7_fill_fda19 27 = .ok (.return_, 1) := by decide +kernel
theorem dJ3_checkIndex_8e157_0 : decode cJ3_checkIndex_8e157 0 = .ok (.iload_n 0, 1) := by decide +kernel
theorem dJ3_checkIndex_8e157_1 : decode cJ3_checkIndex_8e157 1 = .ok (.ifCond .lt 8, 3) := by decide +kernel
theorem dJ3_checkIndex_8e157_4 : decode cJ3_checkIndex_8e157 4 = .ok (.iload_n 0, 1) := by decide +kernel
theorem dJ3_checkIndex_8e157_5 : decode cJ3_checkIndex_8e157 5 = .ok (.iload_n 1, 1) := by decide +kernel
theorem dJ3_checkIndex_8e157_6 : decode cJ3_checkIndex_8e157 6 = .ok (.if_icmp .lt 10, 3) := by decide +kernel
theorem dJ3_checkIndex_8e157_9 : decode cJ3_checkIndex_8e157 9 = .ok (.aload_n 2, 1) := by decide +kernel
theorem dJ3_checkIndex_8e157_10 : decode cJ3_checkIndex_8e157 10 = .ok (.iload_n 0, 1) := by decide +kernel
theorem dJ3_checkIndex_8e157_11 : decode cJ3_checkIndex_8e157 11 = .ok (.iload_n 1, 1) := by decide +kernel
theorem dJ3_checkIndex_8e157_12 : decode cJ3_checkIndex_8e157 12 = .ok (.invokestatic 95, 3) := by decide +kernel
theorem dJ3_checkIndex_8e157_15 : decode cJ3_checkIndex_8e157 15 = .ok (.athrow, 1) := by decide +kernel
theorem dJ3_checkIndex_8e157_16 : decode cJ3_checkIndex_8e157 16 = .ok (.iload_n 0, 1) := by decide +kernel
theorem dJ3_checkIndex_8e157_17 : decode cJ3_checkIndex_8e157 17 = .ok (.ireturn, 1) := by decide +kernel
theorem dL_law_0 : decode cL_law 0 = .ok (.new 7, 3) := by decide +kernel
theorem dL_law_3 : decode cL_law 3 = .ok (.dup, 1) := by decide +kernel
theorem dL_law_4 : decode cL_law 4 = .ok (.invokespecial 9, 3) := by decide +kernel
theorem dL_law_7 : decode cL_law 7 = .ok (.astore_n 1, 1) := by decide +kernel
theorem dL_law_8 : decode cL_law 8 = .ok (.new 10, 3) := by decide +kernel
theorem dL_law_11 : decode cL_law 11 = .ok (.dup, 1) := by decide +kernel
theorem dL_law_12 : decode cL_law 12 = .ok (.invokespecial 12, 3) := by decide +kernel
theorem dL_law_15 : decode cL_law 15 = .ok (.astore_n 2, 1) := by decide +kernel
theorem dL_law_16 : decode cL_law 16 = .ok (.iconst 0, 1) := by decide +kernel
theorem dL_law_17 : decode cL_law 17 = .ok (.istore_n 3, 1) := by decide +kernel
theorem dL_law_18 : decode cL_law 18 = .ok (.iload_n 3, 1) := by decide +kernel
theorem dL_law_19 : decode cL_law 19 = .ok (.aload_n 0, 1) := by decide +kernel
theorem dL_law_20 : decode cL_law 20 = .ok (.arraylength, 1) := by decide +kernel
theorem dL_law_21 : decode cL_law 21 = .ok (.iconst 5, 1) := by decide +kernel
theorem dL_law_22 : decode cL_law 22 = .ok (.isub, 1) := by decide +kernel
theorem dL_law_23 : decode cL_law 23 = .ok (.if_icmp .gt 649, 3) := by decide +kernel
theorem dL_law_26 : decode cL_law 26 = .ok (.aload_n 0, 1) := by decide +kernel
theorem dL_law_27 : decode cL_law 27 = .ok (.iload_n 3, 1) := by decide +kernel
theorem dL_law_28 : decode cL_law 28 = .ok (.iaload, 1) := by decide +kernel
theorem dL_law_29 : decode cL_law 29 = .ok (.bipush 15, 2) := by decide +kernel
theorem dL_law_31 : decode cL_law 31 = .ok (.iand, 1) := by decide +kernel
theorem dL_law_32 : decode cL_law 32 = .ok (.tableswitch 634 0 13 #[72, 85, 118, 141, 164, 227, 240, 263, 296, 329, 392, 465, 498, 571], 72) := by decide +kernel
theorem dL_law_104 : decode cL_law 104 = .ok (.aload_n 1, 1) := by decide +kernel
theorem dL_law_105 : decode cL_law 105 = .ok (.invokevirtual 13, 3) := by decide +kernel
theorem dL_law_108 : decode cL_law 108 = .ok (.aload_n 2, 1) := by decide +kernel
theorem dL_law_109 : decode cL_law 109 = .ok (.invokevirtual 17, 3) := by decide +kernel
theorem dL_law_112 : decode cL_law 112 = .ok (.if_icmp .eq 554, 3) := by decide +kernel
theorem dL_law_115 : decode cL_law 115 = .ok (.iconst 0, 1) := by decide +kernel
theorem dL_law_116 : decode cL_law 116 = .ok (.ireturn, 1) := by decide +kernel
theorem dL_law_117 : decode cL_law 117 = .ok (.aload_n 1, 1) := by decide +kernel
theorem dL_law_118 : decode cL_law 118 = .ok (.aload_n 0, 1) := by decide +kernel
theorem dL_law_119 : decode cL_law 119 = .ok (.iload_n 3, 1) := by decide +kernel
theorem dL_law_120 : decode cL_law 120 = .ok (.iconst 1, 1) := by decide +kernel
theorem dL_law_121 : decode cL_law 121 = .ok (.iadd, 1) := by decide +kernel
theorem dL_law_122 : decode cL_law 122 = .ok (.iaload, 1) := by decide +kernel
theorem dL_law_123 : decode cL_law 123 = .ok (.aload_n 0, 1) := by decide +kernel
theorem dL_law_124 : decode cL_law 124 = .ok (.iload_n 3, 1) := by decide +kernel
theorem dL_law_125 : decode cL_law 125 = .ok (.iconst 2, 1) := by decide +kernel
theorem dL_law_126 : decode cL_law 126 = .ok (.iadd, 1) := by decide +kernel
theorem dL_law_127 : decode cL_law 127 = .ok (.iaload, 1) := by decide +kernel
theorem dL_law_128 : decode cL_law 128 = .ok (.invokevirtual 18, 3) := by decide +kernel
theorem dL_law_131 : decode cL_law 131 = .ok (.aload_n 2, 1) := by decide +kernel
theorem dL_law_132 : decode cL_law 132 = .ok (.aload_n 0, 1) := by decide +kernel
theorem dL_law_133 : decode cL_law 133 = .ok (.iload_n 3, 1) := by decide +kernel
theorem dL_law_134 : decode cL_law 134 = .ok (.iconst 1, 1) := by decide +kernel
theorem dL_law_135 : decode cL_law 135 = .ok (.iadd, 1) := by decide +kernel
theorem dL_law_136 : decode cL_law 136 = .ok (.iaload, 1) := by decide +kernel
theorem dL_law_137 : decode cL_law 137 = .ok (.aload_n 0, 1) := by decide +kernel
theorem dL_law_138 : decode cL_law 138 = .ok (.iload_n 3, 1) := by decide +kernel
theorem dL_law_139 : decode cL_law 139 = .ok (.iconst 2, 1) := by decide +kernel
theorem dL_law_140 : decode cL_law 140 = .ok (.iadd, 1) := by decide +kernel
theorem dL_law_141 : decode cL_law 141 = .ok (.iaload, 1) := by decide +kernel
theorem dL_law_142 : decode cL_law 142 = .ok (.invokevirtual 22, 3) := by decide +kernel
theorem dL_law_145 : decode cL_law 145 = .ok (.if_icmp .eq 521, 3) := by decide +kernel
theorem dL_law_148 : decode cL_law 148 = .ok (.iconst 0, 1) := by decide +kernel
theorem dL_law_149 : decode cL_law 149 = .ok (.ireturn, 1) := by decide +kernel
theorem dL_law_150 : decode cL_law 150 = .ok (.aload_n 1, 1) := by decide +kernel
theorem dL_law_151 : decode cL_law 151 = .ok (.aload_n 0, 1) := by decide +kernel
theorem dL_law_152 : decode cL_law 152 = .ok (.iload_n 3, 1) := by decide +kernel
theorem dL_law_153 : decode cL_law 153 = .ok (.iconst 1, 1) := by decide +kernel
theorem dL_law_154 : decode cL_law 154 = .ok (.iadd, 1) := by decide +kernel
theorem dL_law_155 : decode cL_law 155 = .ok (.iaload, 1) := by decide +kernel
theorem dL_law_156 : decode cL_law 156 = .ok (.invokevirtual 23, 3) := by decide +kernel
theorem dL_law_159 : decode cL_law 159 = .ok (.aload_n 2, 1) := by decide +kernel
theorem dL_law_160 : decode cL_law 160 = .ok (.aload_n 0, 1) := by decide +kernel
theorem dL_law_161 : decode cL_law 161 = .ok (.iload_n 3, 1) := by decide +kernel
theorem dL_law_162 : decode cL_law 162 = .ok (.iconst 1, 1) := by decide +kernel
theorem dL_law_163 : decode cL_law 163 = .ok (.iadd, 1) := by decide +kernel
theorem dL_law_164 : decode cL_law 164 = .ok (.iaload, 1) := by decide +kernel
theorem dL_law_165 : decode cL_law 165 = .ok (.invokevirtual 27, 3) := by decide +kernel
theorem dL_law_168 : decode cL_law 168 = .ok (.if_icmp .eq 498, 3) := by decide +kernel
theorem dL_law_171 : decode cL_law 171 = .ok (.iconst 0, 1) := by decide +kernel
theorem dL_law_172 : decode cL_law 172 = .ok (.ireturn, 1) := by decide +kernel
theorem dL_law_173 : decode cL_law 173 = .ok (.aload_n 1, 1) := by decide +kernel
theorem dL_law_174 : decode cL_law 174 = .ok (.aload_n 0, 1) := by decide +kernel
theorem dL_law_175 : decode cL_law 175 = .ok (.iload_n 3, 1) := by decide +kernel
theorem dL_law_176 : decode cL_law 176 = .ok (.iconst 1, 1) := by decide +kernel
theorem dL_law_177 : decode cL_law 177 = .ok (.iadd, 1) := by decide +kernel
theorem dL_law_178 : decode cL_law 178 = .ok (.iaload, 1) := by decide +kernel
theorem dL_law_179 : decode cL_law 179 = .ok (.invokevirtual 28, 3) := by decide +kernel
theorem dL_law_182 : decode cL_law 182 = .ok (.aload_n 2, 1) := by decide +kernel
theorem dL_law_183 : decode cL_law 183 = .ok (.aload_n 0, 1) := by decide +kernel
theorem dL_law_184 : decode cL_law 184 = .ok (.iload_n 3, 1) := by decide +kernel
theorem dL_law_185 : decode cL_law 185 = .ok (.iconst 1, 1) := by decide +kernel
theorem dL_law_186 : decode cL_law 186 = .ok (.iadd, 1) := by decide +kernel
theorem dL_law_187 : decode cL_law 187 = .ok (.iaload, 1) := by decide +kernel
theorem dL_law_188 : decode cL_law 188 = .ok (.invokevirtual 32, 3) := by decide +kernel
theorem dL_law_191 : decode cL_law 191 = .ok (.if_icmp .eq 475, 3) := by decide +kernel
theorem dL_law_194 : decode cL_law 194 = .ok (.iconst 0, 1) := by decide +kernel
theorem dL_law_195 : decode cL_law 195 = .ok (.ireturn, 1) := by decide +kernel
theorem dL_law_196 : decode cL_law 196 = .ok (.aload_n 1, 1) := by decide +kernel
theorem dL_law_197 : decode cL_law 197 = .ok (.aload_n 0, 1) := by decide +kernel
theorem dL_law_198 : decode cL_law 198 = .ok (.iload_n 3, 1) := by decide +kernel
theorem dL_law_199 : decode cL_law 199 = .ok (.iconst 1, 1) := by decide +kernel
theorem dL_law_200 : decode cL_law 200 = .ok (.iadd, 1) := by decide +kernel
theorem dL_law_201 : decode cL_law 201 = .ok (.iaload, 1) := by decide +kernel
theorem dL_law_202 : decode cL_law 202 = .ok (.i2l, 1) := by decide +kernel
theorem dL_law_203 : decode cL_law 203 = .ok (.bipush 32, 2) := by decide +kernel
theorem dL_law_205 : decode cL_law 205 = .ok (.lshl, 1) := by decide +kernel
theorem dL_law_206 : decode cL_law 206 = .ok (.aload_n 0, 1) := by decide +kernel
theorem dL_law_207 : decode cL_law 207 = .ok (.iload_n 3, 1) := by decide +kernel
theorem dL_law_208 : decode cL_law 208 = .ok (.iconst 2, 1) := by decide +kernel
theorem dL_law_209 : decode cL_law 209 = .ok (.iadd, 1) := by decide +kernel
theorem dL_law_210 : decode cL_law 210 = .ok (.iaload, 1) := by decide +kernel
theorem dL_law_211 : decode cL_law 211 = .ok (.i2l, 1) := by decide +kernel
theorem dL_law_212 : decode cL_law 212 = .ok (.ldc2_w 33, 3) := by decide +kernel
theorem dL_law_215 : decode cL_law 215 = .ok (.land, 1) := by decide +kernel
theorem dL_law_216 : decode cL_law 216 = .ok (.lor, 1) := by decide +kernel
theorem dL_law_217 : decode cL_law 217 = .ok (.aload_n 0, 1) := by decide +kernel
theorem dL_law_218 : decode cL_law 218 = .ok (.iload_n 3, 1) := by decide +kernel
theorem dL_law_219 : decode cL_law 219 = .ok (.iconst 3, 1) := by decide +kernel
theorem dL_law_220 : decode cL_law 220 = .ok (.iadd, 1) := by decide +kernel
theorem dL_law_221 : decode cL_law 221 = .ok (.iaload, 1) := by decide +kernel
theorem dL_law_222 : decode cL_law 222 = .ok (.invokevirtual 35, 3) := by decide +kernel
theorem dL_law_225 : decode cL_law 225 = .ok (.aload_n 2, 1) := by decide +kernel
theorem dL_law_226 : decode cL_law 226 = .ok (.aload_n 0, 1) := by decide +kernel
theorem dL_law_227 : decode cL_law 227 = .ok (.iload_n 3, 1) := by decide +kernel
theorem dL_law_228 : decode cL_law 228 = .ok (.iconst 1, 1) := by decide +kernel
theorem dL_law_229 : decode cL_law 229 = .ok (.iadd, 1) := by decide +kernel
theorem dL_law_230 : decode cL_law 230 = .ok (.iaload, 1) := by decide +kernel
theorem dL_law_231 : decode cL_law 231 = .ok (.i2l, 1) := by decide +kernel
theorem dL_law_232 : decode cL_law 232 = .ok (.bipush 32, 2) := by decide +kernel
theorem dL_law_234 : decode cL_law 234 = .ok (.lshl, 1) := by decide +kernel
theorem dL_law_235 : decode cL_law 235 = .ok (.aload_n 0, 1) := by decide +kernel
theorem dL_law_236 : decode cL_law 236 = .ok (.iload_n 3, 1) := by decide +kernel
theorem dL_law_237 : decode cL_law 237 = .ok (.iconst 2, 1) := by decide +kernel
theorem dL_law_238 : decode cL_law 238 = .ok (.iadd, 1) := by decide +kernel
theorem dL_law_239 : decode cL_law 239 = .ok (.iaload, 1) := by decide +kernel
theorem dL_law_240 : decode cL_law 240 = .ok (.i2l, 1) := by decide +kernel
theorem dL_law_241 : decode cL_law 241 = .ok (.ldc2_w 33, 3) := by decide +kernel
theorem dL_law_244 : decode cL_law 244 = .ok (.land, 1) := by decide +kernel
theorem dL_law_245 : decode cL_law 245 = .ok (.lor, 1) := by decide +kernel
theorem dL_law_246 : decode cL_law 246 = .ok (.aload_n 0, 1) := by decide +kernel
theorem dL_law_247 : decode cL_law 247 = .ok (.iload_n 3, 1) := by decide +kernel
theorem dL_law_248 : decode cL_law 248 = .ok (.iconst 3, 1) := by decide +kernel
theorem dL_law_249 : decode cL_law 249 = .ok (.iadd, 1) := by decide +kernel
theorem dL_law_250 : decode cL_law 250 = .ok (.iaload, 1) := by decide +kernel
theorem dL_law_251 : decode cL_law 251 = .ok (.invokevirtual 39, 3) := by decide +kernel
theorem dL_law_254 : decode cL_law 254 = .ok (.if_icmp .eq 412, 3) := by decide +kernel
theorem dL_law_257 : decode cL_law 257 = .ok (.iconst 0, 1) := by decide +kernel
theorem dL_law_258 : decode cL_law 258 = .ok (.ireturn, 1) := by decide +kernel
theorem dL_law_259 : decode cL_law 259 = .ok (.aload_n 1, 1) := by decide +kernel
theorem dL_law_260 : decode cL_law 260 = .ok (.invokevirtual 40, 3) := by decide +kernel
theorem dL_law_263 : decode cL_law 263 = .ok (.aload_n 2, 1) := by decide +kernel
theorem dL_law_264 : decode cL_law 264 = .ok (.invokevirtual 43, 3) := by decide +kernel
theorem dL_law_267 : decode cL_law 267 = .ok (.if_icmp .eq 399, 3) := by decide +kernel
theorem dL_law_270 : decode cL_law 270 = .ok (.iconst 0, 1) := by decide +kernel
theorem dL_law_271 : decode cL_law 271 = .ok (.ireturn, 1) := by decide +kernel
theorem dL_law_272 : decode cL_law 272 = .ok (.aload_n 1, 1) := by decide +kernel
theorem dL_law_273 : decode cL_law 273 = .ok (.aload_n 0, 1) := by decide +kernel
theorem dL_law_274 : decode cL_law 274 = .ok (.iload_n 3, 1) := by decide +kernel
theorem dL_law_275 : decode cL_law 275 = .ok (.iconst 1, 1) := by decide +kernel
theorem dL_law_276 : decode cL_law 276 = .ok (.iadd, 1) := by decide +kernel
theorem dL_law_277 : decode cL_law 277 = .ok (.iaload, 1) := by decide +kernel
theorem dL_law_278 : decode cL_law 278 = .ok (.invokevirtual 44, 3) := by decide +kernel
theorem dL_law_281 : decode cL_law 281 = .ok (.aload_n 2, 1) := by decide +kernel
theorem dL_law_282 : decode cL_law 282 = .ok (.aload_n 0, 1) := by decide +kernel
theorem dL_law_283 : decode cL_law 283 = .ok (.iload_n 3, 1) := by decide +kernel
theorem dL_law_284 : decode cL_law 284 = .ok (.iconst 1, 1) := by decide +kernel
theorem dL_law_285 : decode cL_law 285 = .ok (.iadd, 1) := by decide +kernel
theorem dL_law_286 : decode cL_law 286 = .ok (.iaload, 1) := by decide +kernel
theorem dL_law_287 : decode cL_law 287 = .ok (.invokevirtual 47, 3) := by decide +kernel
theorem dL_law_290 : decode cL_law 290 = .ok (.if_icmp .eq 376, 3) := by decide +kernel
theorem dL_law_293 : decode cL_law 293 = .ok (.iconst 0, 1) := by decide +kernel
theorem dL_law_294 : decode cL_law 294 = .ok (.ireturn, 1) := by decide +kernel
theorem dL_law_295 : decode cL_law 295 = .ok (.aload_n 1, 1) := by decide +kernel
theorem dL_law_296 : decode cL_law 296 = .ok (.aload_n 0, 1) := by decide +kernel
theorem dL_law_297 : decode cL_law 297 = .ok (.iload_n 3, 1) := by decide +kernel
theorem dL_law_298 : decode cL_law 298 = .ok (.iconst 1, 1) := by decide +kernel
theorem dL_law_299 : decode cL_law 299 = .ok (.iadd, 1) := by decide +kernel
theorem dL_law_300 : decode cL_law 300 = .ok (.iaload, 1) := by decide +kernel
theorem dL_law_301 : decode cL_law 301 = .ok (.aload_n 0, 1) := by decide +kernel
theorem dL_law_302 : decode cL_law 302 = .ok (.iload_n 3, 1) := by decide +kernel
theorem dL_law_303 : decode cL_law 303 = .ok (.iconst 2, 1) := by decide +kernel
theorem dL_law_304 : decode cL_law 304 = .ok (.iadd, 1) := by decide +kernel
theorem dL_law_305 : decode cL_law 305 = .ok (.iaload, 1) := by decide +kernel
theorem dL_law_306 : decode cL_law 306 = .ok (.invokevirtual 48, 3) := by decide +kernel
theorem dL_law_309 : decode cL_law 309 = .ok (.aload_n 2, 1) := by decide +kernel
theorem dL_law_310 : decode cL_law 310 = .ok (.aload_n 0, 1) := by decide +kernel
theorem dL_law_311 : decode cL_law 311 = .ok (.iload_n 3, 1) := by decide +kernel
theorem dL_law_312 : decode cL_law 312 = .ok (.iconst 1, 1) := by decide +kernel
theorem dL_law_313 : decode cL_law 313 = .ok (.iadd, 1) := by decide +kernel
theorem dL_law_314 : decode cL_law 314 = .ok (.iaload, 1) := by decide +kernel
theorem dL_law_315 : decode cL_law 315 = .ok (.aload_n 0, 1) := by decide +kernel
theorem dL_law_316 : decode cL_law 316 = .ok (.iload_n 3, 1) := by decide +kernel
theorem dL_law_317 : decode cL_law 317 = .ok (.iconst 2, 1) := by decide +kernel
theorem dL_law_318 : decode cL_law 318 = .ok (.iadd, 1) := by decide +kernel
theorem dL_law_319 : decode cL_law 319 = .ok (.iaload, 1) := by decide +kernel
theorem dL_law_320 : decode cL_law 320 = .ok (.invokevirtual 52, 3) := by decide +kernel
theorem dL_law_323 : decode cL_law 323 = .ok (.if_icmp .eq 343, 3) := by decide +kernel
theorem dL_law_326 : decode cL_law 326 = .ok (.iconst 0, 1) := by decide +kernel
theorem dL_law_327 : decode cL_law 327 = .ok (.ireturn, 1) := by decide +kernel
theorem dL_law_328 : decode cL_law 328 = .ok (.aload_n 1, 1) := by decide +kernel
theorem dL_law_329 : decode cL_law 329 = .ok (.aload_n 0, 1) := by decide +kernel
theorem dL_law_330 : decode cL_law 330 = .ok (.iload_n 3, 1) := by decide +kernel
theorem dL_law_331 : decode cL_law 331 = .ok (.iconst 1, 1) := by decide +kernel
theorem dL_law_332 : decode cL_law 332 = .ok (.iadd, 1) := by decide +kernel
theorem dL_law_333 : decode cL_law 333 = .ok (.iaload, 1) := by decide +kernel
theorem dL_law_334 : decode cL_law 334 = .ok (.aload_n 0, 1) := by decide +kernel
theorem dL_law_335 : decode cL_law 335 = .ok (.iload_n 3, 1) := by decide +kernel
theorem dL_law_336 : decode cL_law 336 = .ok (.iconst 2, 1) := by decide +kernel
theorem dL_law_337 : decode cL_law 337 = .ok (.iadd, 1) := by decide +kernel
theorem dL_law_338 : decode cL_law 338 = .ok (.iaload, 1) := by decide +kernel
theorem dL_law_339 : decode cL_law 339 = .ok (.invokevirtual 53, 3) := by decide +kernel
theorem dL_law_342 : decode cL_law 342 = .ok (.aload_n 2, 1) := by decide +kernel
theorem dL_law_343 : decode cL_law 343 = .ok (.aload_n 0, 1) := by decide +kernel
theorem dL_law_344 : decode cL_law 344 = .ok (.iload_n 3, 1) := by decide +kernel
theorem dL_law_345 : decode cL_law 345 = .ok (.iconst 1, 1) := by decide +kernel
theorem dL_law_346 : decode cL_law 346 = .ok (.iadd, 1) := by decide +kernel
theorem dL_law_347 : decode cL_law 347 = .ok (.iaload, 1) := by decide +kernel
theorem dL_law_348 : decode cL_law 348 = .ok (.aload_n 0, 1) := by decide +kernel
theorem dL_law_349 : decode cL_law 349 = .ok (.iload_n 3, 1) := by decide +kernel
theorem dL_law_350 : decode cL_law 350 = .ok (.iconst 2, 1) := by decide +kernel
theorem dL_law_351 : decode cL_law 351 = .ok (.iadd, 1) := by decide +kernel
theorem dL_law_352 : decode cL_law 352 = .ok (.iaload, 1) := by decide +kernel
theorem dL_law_353 : decode cL_law 353 = .ok (.invokevirtual 56, 3) := by decide +kernel
theorem dL_law_356 : decode cL_law 356 = .ok (.if_icmp .eq 310, 3) := by decide +kernel
theorem dL_law_359 : decode cL_law 359 = .ok (.iconst 0, 1) := by decide +kernel
theorem dL_law_360 : decode cL_law 360 = .ok (.ireturn, 1) := by decide +kernel
theorem dL_law_361 : decode cL_law 361 = .ok (.aload_n 1, 1) := by decide +kernel
theorem dL_law_362 : decode cL_law 362 = .ok (.aload_n 0, 1) := by decide +kernel
theorem dL_law_363 : decode cL_law 363 = .ok (.iload_n 3, 1) := by decide +kernel
theorem dL_law_364 : decode cL_law 364 = .ok (.iconst 1, 1) := by decide +kernel
theorem dL_law_365 : decode cL_law 365 = .ok (.iadd, 1) := by decide +kernel
theorem dL_law_366 : decode cL_law 366 = .ok (.iaload, 1) := by decide +kernel
theorem dL_law_367 : decode cL_law 367 = .ok (.aload_n 0, 1) := by decide +kernel
theorem dL_law_368 : decode cL_law 368 = .ok (.iload_n 3, 1) := by decide +kernel
theorem dL_law_369 : decode cL_law 369 = .ok (.iconst 2, 1) := by decide +kernel
theorem dL_law_370 : decode cL_law 370 = .ok (.iadd, 1) := by decide +kernel
theorem dL_law_371 : decode cL_law 371 = .ok (.iaload, 1) := by decide +kernel
theorem dL_law_372 : decode cL_law 372 = .ok (.i2l, 1) := by decide +kernel
theorem dL_law_373 : decode cL_law 373 = .ok (.bipush 32, 2) := by decide +kernel
theorem dL_law_375 : decode cL_law 375 = .ok (.lshl, 1) := by decide +kernel
theorem dL_law_376 : decode cL_law 376 = .ok (.aload_n 0, 1) := by decide +kernel
theorem dL_law_377 : decode cL_law 377 = .ok (.iload_n 3, 1) := by decide +kernel
theorem dL_law_378 : decode cL_law 378 = .ok (.iconst 3, 1) := by decide +kernel
theorem dL_law_379 : decode cL_law 379 = .ok (.iadd, 1) := by decide +kernel
theorem dL_law_380 : decode cL_law 380 = .ok (.iaload, 1) := by decide +kernel
theorem dL_law_381 : decode cL_law 381 = .ok (.i2l, 1) := by decide +kernel
theorem dL_law_382 : decode cL_law 382 = .ok (.ldc2_w 33, 3) := by decide +kernel
theorem dL_law_385 : decode cL_law 385 = .ok (.land, 1) := by decide +kernel
theorem dL_law_386 : decode cL_law 386 = .ok (.lor, 1) := by decide +kernel
theorem dL_law_387 : decode cL_law 387 = .ok (.invokevirtual 57, 3) := by decide +kernel
theorem dL_law_390 : decode cL_law 390 = .ok (.aload_n 2, 1) := by decide +kernel
theorem dL_law_391 : decode cL_law 391 = .ok (.aload_n 0, 1) := by decide +kernel
theorem dL_law_392 : decode cL_law 392 = .ok (.iload_n 3, 1) := by decide +kernel
theorem dL_law_393 : decode cL_law 393 = .ok (.iconst 1, 1) := by decide +kernel
theorem dL_law_394 : decode cL_law 394 = .ok (.iadd, 1) := by decide +kernel
theorem dL_law_395 : decode cL_law 395 = .ok (.iaload, 1) := by decide +kernel
theorem dL_law_396 : decode cL_law 396 = .ok (.aload_n 0, 1) := by decide +kernel
theorem dL_law_397 : decode cL_law 397 = .ok (.iload_n 3, 1) := by decide +kernel
theorem dL_law_398 : decode cL_law 398 = .ok (.iconst 2, 1) := by decide +kernel
theorem dL_law_399 : decode cL_law 399 = .ok (.iadd, 1) := by decide +kernel
theorem dL_law_400 : decode cL_law 400 = .ok (.iaload, 1) := by decide +kernel
theorem dL_law_401 : decode cL_law 401 = .ok (.i2l, 1) := by decide +kernel
theorem dL_law_402 : decode cL_law 402 = .ok (.bipush 32, 2) := by decide +kernel
theorem dL_law_404 : decode cL_law 404 = .ok (.lshl, 1) := by decide +kernel
theorem dL_law_405 : decode cL_law 405 = .ok (.aload_n 0, 1) := by decide +kernel
theorem dL_law_406 : decode cL_law 406 = .ok (.iload_n 3, 1) := by decide +kernel
theorem dL_law_407 : decode cL_law 407 = .ok (.iconst 3, 1) := by decide +kernel
theorem dL_law_408 : decode cL_law 408 = .ok (.iadd, 1) := by decide +kernel
theorem dL_law_409 : decode cL_law 409 = .ok (.iaload, 1) := by decide +kernel
theorem dL_law_410 : decode cL_law 410 = .ok (.i2l, 1) := by decide +kernel
theorem dL_law_411 : decode cL_law 411 = .ok (.ldc2_w 33, 3) := by decide +kernel
theorem dL_law_414 : decode cL_law 414 = .ok (.land, 1) := by decide +kernel
theorem dL_law_415 : decode cL_law 415 = .ok (.lor, 1) := by decide +kernel
theorem dL_law_416 : decode cL_law 416 = .ok (.invokevirtual 61, 3) := by decide +kernel
theorem dL_law_419 : decode cL_law 419 = .ok (.if_icmp .eq 247, 3) := by decide +kernel
theorem dL_law_422 : decode cL_law 422 = .ok (.iconst 0, 1) := by decide +kernel
theorem dL_law_423 : decode cL_law 423 = .ok (.ireturn, 1) := by decide +kernel
theorem dL_law_424 : decode cL_law 424 = .ok (.aload_n 1, 1) := by decide +kernel
theorem dL_law_425 : decode cL_law 425 = .ok (.aload_n 0, 1) := by decide +kernel
theorem dL_law_426 : decode cL_law 426 = .ok (.iload_n 3, 1) := by decide +kernel
theorem dL_law_427 : decode cL_law 427 = .ok (.iconst 1, 1) := by decide +kernel
theorem dL_law_428 : decode cL_law 428 = .ok (.iadd, 1) := by decide +kernel
theorem dL_law_429 : decode cL_law 429 = .ok (.iaload, 1) := by decide +kernel
theorem dL_law_430 : decode cL_law 430 = .ok (.aload_n 0, 1) := by decide +kernel
theorem dL_law_431 : decode cL_law 431 = .ok (.iload_n 3, 1) := by decide +kernel
theorem dL_law_432 : decode cL_law 432 = .ok (.iconst 2, 1) := by decide +kernel
theorem dL_law_433 : decode cL_law 433 = .ok (.iadd, 1) := by decide +kernel
theorem dL_law_434 : decode cL_law 434 = .ok (.iaload, 1) := by decide +kernel
theorem dL_law_435 : decode cL_law 435 = .ok (.i2l, 1) := by decide +kernel
theorem dL_law_436 : decode cL_law 436 = .ok (.bipush 32, 2) := by decide +kernel
theorem dL_law_438 : decode cL_law 438 = .ok (.lshl, 1) := by decide +kernel
theorem dL_law_439 : decode cL_law 439 = .ok (.aload_n 0, 1) := by decide +kernel
theorem dL_law_440 : decode cL_law 440 = .ok (.iload_n 3, 1) := by decide +kernel
theorem dL_law_441 : decode cL_law 441 = .ok (.iconst 3, 1) := by decide +kernel
theorem dL_law_442 : decode cL_law 442 = .ok (.iadd, 1) := by decide +kernel
theorem dL_law_443 : decode cL_law 443 = .ok (.iaload, 1) := by decide +kernel
theorem dL_law_444 : decode cL_law 444 = .ok (.i2l, 1) := by decide +kernel
theorem dL_law_445 : decode cL_law 445 = .ok (.ldc2_w 33, 3) := by decide +kernel
theorem dL_law_448 : decode cL_law 448 = .ok (.land, 1) := by decide +kernel
theorem dL_law_449 : decode cL_law 449 = .ok (.lor, 1) := by decide +kernel
theorem dL_law_450 : decode cL_law 450 = .ok (.aload_n 0, 1) := by decide +kernel
theorem dL_law_451 : decode cL_law 451 = .ok (.iload_n 3, 1) := by decide +kernel
theorem dL_law_452 : decode cL_law 452 = .ok (.iconst 4, 1) := by decide +kernel
theorem dL_law_453 : decode cL_law 453 = .ok (.iadd, 1) := by decide +kernel
theorem dL_law_454 : decode cL_law 454 = .ok (.iaload, 1) := by decide +kernel
theorem dL_law_455 : decode cL_law 455 = .ok (.invokevirtual 62, 3) := by decide +kernel
theorem dL_law_458 : decode cL_law 458 = .ok (.aload_n 2, 1) := by decide +kernel
theorem dL_law_459 : decode cL_law 459 = .ok (.aload_n 0, 1) := by decide +kernel
theorem dL_law_460 : decode cL_law 460 = .ok (.iload_n 3, 1) := by decide +kernel
theorem dL_law_461 : decode cL_law 461 = .ok (.iconst 1, 1) := by decide +kernel
theorem dL_law_462 : decode cL_law 462 = .ok (.iadd, 1) := by decide +kernel
theorem dL_law_463 : decode cL_law 463 = .ok (.iaload, 1) := by decide +kernel
theorem dL_law_464 : decode cL_law 464 = .ok (.aload_n 0, 1) := by decide +kernel
theorem dL_law_465 : decode cL_law 465 = .ok (.iload_n 3, 1) := by decide +kernel
theorem dL_law_466 : decode cL_law 466 = .ok (.iconst 2, 1) := by decide +kernel
theorem dL_law_467 : decode cL_law 467 = .ok (.iadd, 1) := by decide +kernel
theorem dL_law_468 : decode cL_law 468 = .ok (.iaload, 1) := by decide +kernel
theorem dL_law_469 : decode cL_law 469 = .ok (.i2l, 1) := by decide +kernel
theorem dL_law_470 : decode cL_law 470 = .ok (.bipush 32, 2) := by decide +kernel
theorem dL_law_472 : decode cL_law 472 = .ok (.lshl, 1) := by decide +kernel
theorem dL_law_473 : decode cL_law 473 = .ok (.aload_n 0, 1) := by decide +kernel
theorem dL_law_474 : decode cL_law 474 = .ok (.iload_n 3, 1) := by decide +kernel
theorem dL_law_475 : decode cL_law 475 = .ok (.iconst 3, 1) := by decide +kernel
theorem dL_law_476 : decode cL_law 476 = .ok (.iadd, 1) := by decide +kernel
theorem dL_law_477 : decode cL_law 477 = .ok (.iaload, 1) := by decide +kernel
theorem dL_law_478 : decode cL_law 478 = .ok (.i2l, 1) := by decide +kernel
theorem dL_law_479 : decode cL_law 479 = .ok (.ldc2_w 33, 3) := by decide +kernel
theorem dL_law_482 : decode cL_law 482 = .ok (.land, 1) := by decide +kernel
theorem dL_law_483 : decode cL_law 483 = .ok (.lor, 1) := by decide +kernel
theorem dL_law_484 : decode cL_law 484 = .ok (.aload_n 0, 1) := by decide +kernel
theorem dL_law_485 : decode cL_law 485 = .ok (.iload_n 3, 1) := by decide +kernel
theorem dL_law_486 : decode cL_law 486 = .ok (.iconst 4, 1) := by decide +kernel
theorem dL_law_487 : decode cL_law 487 = .ok (.iadd, 1) := by decide +kernel
theorem dL_law_488 : decode cL_law 488 = .ok (.iaload, 1) := by decide +kernel
theorem dL_law_489 : decode cL_law 489 = .ok (.invokevirtual 66, 3) := by decide +kernel
theorem dL_law_492 : decode cL_law 492 = .ok (.if_icmp .eq 174, 3) := by decide +kernel
theorem dL_law_495 : decode cL_law 495 = .ok (.iconst 0, 1) := by decide +kernel
theorem dL_law_496 : decode cL_law 496 = .ok (.ireturn, 1) := by decide +kernel
theorem dL_law_497 : decode cL_law 497 = .ok (.aload_n 1, 1) := by decide +kernel
theorem dL_law_498 : decode cL_law 498 = .ok (.aload_n 0, 1) := by decide +kernel
theorem dL_law_499 : decode cL_law 499 = .ok (.iload_n 3, 1) := by decide +kernel
theorem dL_law_500 : decode cL_law 500 = .ok (.iconst 1, 1) := by decide +kernel
theorem dL_law_501 : decode cL_law 501 = .ok (.iadd, 1) := by decide +kernel
theorem dL_law_502 : decode cL_law 502 = .ok (.iaload, 1) := by decide +kernel
theorem dL_law_503 : decode cL_law 503 = .ok (.aload_n 0, 1) := by decide +kernel
theorem dL_law_504 : decode cL_law 504 = .ok (.iload_n 3, 1) := by decide +kernel
theorem dL_law_505 : decode cL_law 505 = .ok (.iconst 2, 1) := by decide +kernel
theorem dL_law_506 : decode cL_law 506 = .ok (.iadd, 1) := by decide +kernel
theorem dL_law_507 : decode cL_law 507 = .ok (.iaload, 1) := by decide +kernel
theorem dL_law_508 : decode cL_law 508 = .ok (.invokevirtual 67, 3) := by decide +kernel
theorem dL_law_511 : decode cL_law 511 = .ok (.aload_n 2, 1) := by decide +kernel
theorem dL_law_512 : decode cL_law 512 = .ok (.aload_n 0, 1) := by decide +kernel
theorem dL_law_513 : decode cL_law 513 = .ok (.iload_n 3, 1) := by decide +kernel
theorem dL_law_514 : decode cL_law 514 = .ok (.iconst 1, 1) := by decide +kernel
theorem dL_law_515 : decode cL_law 515 = .ok (.iadd, 1) := by decide +kernel
theorem dL_law_516 : decode cL_law 516 = .ok (.iaload, 1) := by decide +kernel
theorem dL_law_517 : decode cL_law 517 = .ok (.aload_n 0, 1) := by decide +kernel
theorem dL_law_518 : decode cL_law 518 = .ok (.iload_n 3, 1) := by decide +kernel
theorem dL_law_519 : decode cL_law 519 = .ok (.iconst 2, 1) := by decide +kernel
theorem dL_law_520 : decode cL_law 520 = .ok (.iadd, 1) := by decide +kernel
theorem dL_law_521 : decode cL_law 521 = .ok (.iaload, 1) := by decide +kernel
theorem dL_law_522 : decode cL_law 522 = .ok (.invokevirtual 70, 3) := by decide +kernel
theorem dL_law_525 : decode cL_law 525 = .ok (.if_icmp .eq 141, 3) := by decide +kernel
theorem dL_law_528 : decode cL_law 528 = .ok (.iconst 0, 1) := by decide +kernel
theorem dL_law_529 : decode cL_law 529 = .ok (.ireturn, 1) := by decide +kernel
theorem dL_law_530 : decode cL_law 530 = .ok (.aload_n 1, 1) := by decide +kernel
theorem dL_law_531 : decode cL_law 531 = .ok (.aload_n 0, 1) := by decide +kernel
theorem dL_law_532 : decode cL_law 532 = .ok (.iload_n 3, 1) := by decide +kernel
theorem dL_law_533 : decode cL_law 533 = .ok (.iconst 1, 1) := by decide +kernel
theorem dL_law_534 : decode cL_law 534 = .ok (.iadd, 1) := by decide +kernel
theorem dL_law_535 : decode cL_law 535 = .ok (.iaload, 1) := by decide +kernel
theorem dL_law_536 : decode cL_law 536 = .ok (.aload_n 0, 1) := by decide +kernel
theorem dL_law_537 : decode cL_law 537 = .ok (.iload_n 3, 1) := by decide +kernel
theorem dL_law_538 : decode cL_law 538 = .ok (.iconst 2, 1) := by decide +kernel
theorem dL_law_539 : decode cL_law 539 = .ok (.iadd, 1) := by decide +kernel
theorem dL_law_540 : decode cL_law 540 = .ok (.iaload, 1) := by decide +kernel
theorem dL_law_541 : decode cL_law 541 = .ok (.i2l, 1) := by decide +kernel
theorem dL_law_542 : decode cL_law 542 = .ok (.bipush 32, 2) := by decide +kernel
theorem dL_law_544 : decode cL_law 544 = .ok (.lshl, 1) := by decide +kernel
theorem dL_law_545 : decode cL_law 545 = .ok (.aload_n 0, 1) := by decide +kernel
theorem dL_law_546 : decode cL_law 546 = .ok (.iload_n 3, 1) := by decide +kernel
theorem dL_law_547 : decode cL_law 547 = .ok (.iconst 3, 1) := by decide +kernel
theorem dL_law_548 : decode cL_law 548 = .ok (.iadd, 1) := by decide +kernel
theorem dL_law_549 : decode cL_law 549 = .ok (.iaload, 1) := by decide +kernel
theorem dL_law_550 : decode cL_law 550 = .ok (.i2l, 1) := by decide +kernel
theorem dL_law_551 : decode cL_law 551 = .ok (.ldc2_w 33, 3) := by decide +kernel
theorem dL_law_554 : decode cL_law 554 = .ok (.land, 1) := by decide +kernel
theorem dL_law_555 : decode cL_law 555 = .ok (.lor, 1) := by decide +kernel
theorem dL_law_556 : decode cL_law 556 = .ok (.aload_n 0, 1) := by decide +kernel
theorem dL_law_557 : decode cL_law 557 = .ok (.iload_n 3, 1) := by decide +kernel
theorem dL_law_558 : decode cL_law 558 = .ok (.iconst 4, 1) := by decide +kernel
theorem dL_law_559 : decode cL_law 559 = .ok (.iadd, 1) := by decide +kernel
theorem dL_law_560 : decode cL_law 560 = .ok (.iaload, 1) := by decide +kernel
theorem dL_law_561 : decode cL_law 561 = .ok (.invokevirtual 71, 3) := by decide +kernel
theorem dL_law_564 : decode cL_law 564 = .ok (.aload_n 2, 1) := by decide +kernel
theorem dL_law_565 : decode cL_law 565 = .ok (.aload_n 0, 1) := by decide +kernel
theorem dL_law_566 : decode cL_law 566 = .ok (.iload_n 3, 1) := by decide +kernel
theorem dL_law_567 : decode cL_law 567 = .ok (.iconst 1, 1) := by decide +kernel
theorem dL_law_568 : decode cL_law 568 = .ok (.iadd, 1) := by decide +kernel
theorem dL_law_569 : decode cL_law 569 = .ok (.iaload, 1) := by decide +kernel
theorem dL_law_570 : decode cL_law 570 = .ok (.aload_n 0, 1) := by decide +kernel
theorem dL_law_571 : decode cL_law 571 = .ok (.iload_n 3, 1) := by decide +kernel
theorem dL_law_572 : decode cL_law 572 = .ok (.iconst 2, 1) := by decide +kernel
theorem dL_law_573 : decode cL_law 573 = .ok (.iadd, 1) := by decide +kernel
theorem dL_law_574 : decode cL_law 574 = .ok (.iaload, 1) := by decide +kernel
theorem dL_law_575 : decode cL_law 575 = .ok (.i2l, 1) := by decide +kernel
theorem dL_law_576 : decode cL_law 576 = .ok (.bipush 32, 2) := by decide +kernel
theorem dL_law_578 : decode cL_law 578 = .ok (.lshl, 1) := by decide +kernel
theorem dL_law_579 : decode cL_law 579 = .ok (.aload_n 0, 1) := by decide +kernel
theorem dL_law_580 : decode cL_law 580 = .ok (.iload_n 3, 1) := by decide +kernel
theorem dL_law_581 : decode cL_law 581 = .ok (.iconst 3, 1) := by decide +kernel
theorem dL_law_582 : decode cL_law 582 = .ok (.iadd, 1) := by decide +kernel
theorem dL_law_583 : decode cL_law 583 = .ok (.iaload, 1) := by decide +kernel
theorem dL_law_584 : decode cL_law 584 = .ok (.i2l, 1) := by decide +kernel
theorem dL_law_585 : decode cL_law 585 = .ok (.ldc2_w 33, 3) := by decide +kernel
theorem dL_law_588 : decode cL_law 588 = .ok (.land, 1) := by decide +kernel
theorem dL_law_589 : decode cL_law 589 = .ok (.lor, 1) := by decide +kernel
theorem dL_law_590 : decode cL_law 590 = .ok (.aload_n 0, 1) := by decide +kernel
theorem dL_law_591 : decode cL_law 591 = .ok (.iload_n 3, 1) := by decide +kernel
theorem dL_law_592 : decode cL_law 592 = .ok (.iconst 4, 1) := by decide +kernel
theorem dL_law_593 : decode cL_law 593 = .ok (.iadd, 1) := by decide +kernel
theorem dL_law_594 : decode cL_law 594 = .ok (.iaload, 1) := by decide +kernel
theorem dL_law_595 : decode cL_law 595 = .ok (.invokevirtual 75, 3) := by decide +kernel
theorem dL_law_598 : decode cL_law 598 = .ok (.if_icmp .eq 68, 3) := by decide +kernel
theorem dL_law_601 : decode cL_law 601 = .ok (.iconst 0, 1) := by decide +kernel
theorem dL_law_602 : decode cL_law 602 = .ok (.ireturn, 1) := by decide +kernel
theorem dL_law_603 : decode cL_law 603 = .ok (.aload_n 1, 1) := by decide +kernel
theorem dL_law_604 : decode cL_law 604 = .ok (.aload_n 0, 1) := by decide +kernel
theorem dL_law_605 : decode cL_law 605 = .ok (.iload_n 3, 1) := by decide +kernel
theorem dL_law_606 : decode cL_law 606 = .ok (.iconst 1, 1) := by decide +kernel
theorem dL_law_607 : decode cL_law 607 = .ok (.iadd, 1) := by decide +kernel
theorem dL_law_608 : decode cL_law 608 = .ok (.iaload, 1) := by decide +kernel
theorem dL_law_609 : decode cL_law 609 = .ok (.aload_n 0, 1) := by decide +kernel
theorem dL_law_610 : decode cL_law 610 = .ok (.iload_n 3, 1) := by decide +kernel
theorem dL_law_611 : decode cL_law 611 = .ok (.iconst 2, 1) := by decide +kernel
theorem dL_law_612 : decode cL_law 612 = .ok (.iadd, 1) := by decide +kernel
theorem dL_law_613 : decode cL_law 613 = .ok (.iaload, 1) := by decide +kernel
theorem dL_law_614 : decode cL_law 614 = .ok (.i2l, 1) := by decide +kernel
theorem dL_law_615 : decode cL_law 615 = .ok (.bipush 32, 2) := by decide +kernel
theorem dL_law_617 : decode cL_law 617 = .ok (.lshl, 1) := by decide +kernel
theorem dL_law_618 : decode cL_law 618 = .ok (.aload_n 0, 1) := by decide +kernel
theorem dL_law_619 : decode cL_law 619 = .ok (.iload_n 3, 1) := by decide +kernel
theorem dL_law_620 : decode cL_law 620 = .ok (.iconst 3, 1) := by decide +kernel
theorem dL_law_621 : decode cL_law 621 = .ok (.iadd, 1) := by decide +kernel
theorem dL_law_622 : decode cL_law 622 = .ok (.iaload, 1) := by decide +kernel
theorem dL_law_623 : decode cL_law 623 = .ok (.i2l, 1) := by decide +kernel
theorem dL_law_624 : decode cL_law 624 = .ok (.ldc2_w 33, 3) := by decide +kernel
theorem dL_law_627 : decode cL_law 627 = .ok (.land, 1) := by decide +kernel
theorem dL_law_628 : decode cL_law 628 = .ok (.lor, 1) := by decide +kernel
theorem dL_law_629 : decode cL_law 629 = .ok (.invokevirtual 76, 3) := by decide +kernel
theorem dL_law_632 : decode cL_law 632 = .ok (.aload_n 2, 1) := by decide +kernel
theorem dL_law_633 : decode cL_law 633 = .ok (.aload_n 0, 1) := by decide +kernel
theorem dL_law_634 : decode cL_law 634 = .ok (.iload_n 3, 1) := by decide +kernel
theorem dL_law_635 : decode cL_law 635 = .ok (.iconst 1, 1) := by decide +kernel
theorem dL_law_636 : decode cL_law 636 = .ok (.iadd, 1) := by decide +kernel
theorem dL_law_637 : decode cL_law 637 = .ok (.iaload, 1) := by decide +kernel
theorem dL_law_638 : decode cL_law 638 = .ok (.aload_n 0, 1) := by decide +kernel
theorem dL_law_639 : decode cL_law 639 = .ok (.iload_n 3, 1) := by decide +kernel
theorem dL_law_640 : decode cL_law 640 = .ok (.iconst 2, 1) := by decide +kernel
theorem dL_law_641 : decode cL_law 641 = .ok (.iadd, 1) := by decide +kernel
theorem dL_law_642 : decode cL_law 642 = .ok (.iaload, 1) := by decide +kernel
theorem dL_law_643 : decode cL_law 643 = .ok (.i2l, 1) := by decide +kernel
theorem dL_law_644 : decode cL_law 644 = .ok (.bipush 32, 2) := by decide +kernel
theorem dL_law_646 : decode cL_law 646 = .ok (.lshl, 1) := by decide +kernel
theorem dL_law_647 : decode cL_law 647 = .ok (.aload_n 0, 1) := by decide +kernel
theorem dL_law_648 : decode cL_law 648 = .ok (.iload_n 3, 1) := by decide +kernel
theorem dL_law_649 : decode cL_law 649 = .ok (.iconst 3, 1) := by decide +kernel
theorem dL_law_650 : decode cL_law 650 = .ok (.iadd, 1) := by decide +kernel
theorem dL_law_651 : decode cL_law 651 = .ok (.iaload, 1) := by decide +kernel
theorem dL_law_652 : decode cL_law 652 = .ok (.i2l, 1) := by decide +kernel
theorem dL_law_653 : decode cL_law 653 = .ok (.ldc2_w 33, 3) := by decide +kernel
theorem dL_law_656 : decode cL_law 656 = .ok (.land, 1) := by decide +kernel
theorem dL_law_657 : decode cL_law 657 = .ok (.lor, 1) := by decide +kernel
theorem dL_law_658 : decode cL_law 658 = .ok (.invokevirtual 80, 3) := by decide +kernel
theorem dL_law_661 : decode cL_law 661 = .ok (.if_icmp .eq 5, 3) := by decide +kernel
theorem dL_law_664 : decode cL_law 664 = .ok (.iconst 0, 1) := by decide +kernel
theorem dL_law_665 : decode cL_law 665 = .ok (.ireturn, 1) := by decide +kernel
theorem dL_law_666 : decode cL_law 666 = .ok (.iinc 3 5, 3) := by decide +kernel
theorem dL_law_669 : decode cL_law 669 = .ok (.goto (-651), 3) := by decide +kernel
theorem dL_law_672 : decode cL_law 672 = .ok (.iconst 1, 1) := by decide +kernel
theorem dL_law_673 : decode cL_law 673 = .ok (.ireturn, 1) := by decide +kernel
end
section
/-! THE BASE: ints as numbers (iI), the judgement Wd (world, locals and frame in one), contracts Ct -/
def iI (z : Int) : Int32 := Int32.ofInt z
def R32 (z : Int) : Prop := -2147483648 ≤ z ∧ z < 2147483648
theorem iI_add (a b : Int) : iI a + iI b = iI (a + b) := (Int32.ofInt_add a b).symm
theorem iI_sub (a b : Int) : iI a - iI b = iI (a - b) := (Int32.ofInt_sub a b).symm
theorem iI_mul (a b : Int) : iI a * iI b = iI (a * b) := (Int32.ofInt_mul a b).symm
theorem iI_neg (a : Int) : -iI a = iI (-a) := (Int32.ofInt_neg a).symm
theorem iI_toInt {z : Int} (h : R32 z) : (iI z).toInt = z := Int32.toInt_ofInt_of_le (by have := h.1; omega) (by have := h.2; omega)
theorem iI_of (x : Int32) : iI x.toInt = x := Int32.ofInt_toInt x
theorem iI_rg (x : Int32) : R32 x.toInt := ⟨by have := x.le_toInt; omega, by have := x.toInt_lt; omega⟩
theorem iI_lt {a b : Int} (ha : R32 a) (hb : R32 b) : iI a < iI b ↔ a < b := by
  rw [Int32.lt_iff_toInt_lt, iI_toInt ha, iI_toInt hb]
theorem iI_le {a b : Int} (ha : R32 a) (hb : R32 b) : iI a ≤ iI b ↔ a ≤ b := by
  rw [Int32.le_iff_toInt_le, iI_toInt ha, iI_toInt hb]
theorem iI_eq {a b : Int} (ha : R32 a) (hb : R32 b) : iI a = iI b ↔ a = b := by
  rw [← Int32.toInt_inj, iI_toInt ha, iI_toInt hb]
theorem iI_z : (0 : Int32) = iI 0 := rfl
theorem R32_0 : R32 0 := ⟨by decide, by decide⟩
theorem iI_clamp {z : Int} (h0 : 0 ≤ z) (h : R32 z) : (iI z).toNatClampNeg = z.toNat := by
  unfold Int32.toNatClampNeg; rw [iI_toInt h]
theorem iI_nat (n : Nat) : Int32.ofNat n = iI (n : Int) := by
  unfold iI; rfl
theorem iI_in {z : Int} {n : Nat} (h0 : 0 ≤ z) (h1 : z < n) (h : R32 z) : vp_in (iI z) n := by
  intro q
  rcases q with q | q
  · rw [iI_z, iI_lt h R32_0] at q; omega
  · rw [iI_clamp h0 h] at q; omega
/-- a truth as a number -/
def bI (b : Bool) : Int := if b then 1 else 0
/-- an image: a byte for each place; an array of ints that holds it -/
abbrev Im : Type := Int → Int
def arI (d : Im) : Nat → Int32 := fun j => iI (d j)
def up (d : Im) (a v : Int) : Im := fun j => if j = a then v else d j
theorem arI_up (d : Im) (n : Nat) (v : Int) : upd (arI d) n (iI v) = arI (up d n v) := by
  funext j
  simp only [upd, arI, up]
  by_cases h : j = n
  · subst h; simp
  · rw [if_neg h, if_neg (fun q => h (by omega))]
theorem arI_at (d : Im) {z : Int} (h0 : 0 ≤ z) (h : R32 z) : arI d (iI z).toNatClampNeg = iI (d z) := by
  rw [iI_clamp h0 h]; simp only [arI]; rw [Int.toNat_of_nonneg h0]
theorem arI_set (d : Im) {z : Int} (v : Int) (h0 : 0 ≤ z) (h : R32 z) : upd (arI d) (iI z).toNatClampNeg (iI v) = arI (up d z v) := by
  rw [iI_clamp h0 h, arI_up, Int.toNat_of_nonneg h0]
/-- what is fixed: the tables' numbers, the classes of int[] and boolean[], the places of the literals and of their bytes -/
abbrev GX : Type := va_G × (ClassId × ClassId) × (Nat → Nat) × (Nat → Nat)
abbrev gD (G : GX) : va_G := G.1
abbrev gI (G : GX) : ClassId := G.2.1.1
abbrev gZ (G : GX) : ClassId := G.2.1.2
abbrev gK (G : GX) : Nat → Nat := G.2.2.1
abbrev gV (G : GX) : Nat → Nat := G.2.2.2
abbrev gT (G : GX) : List (ClassId × FieldType) := [(gI G, .int), (gZ G, .boolean)]
def stL : List Nat := [4, 4, 1, 2, 10]
def stB : List (List Int32) := [[83, 70, 83, 75], [74, 82, 78, 76], [46], [46, 46], [108, 111, 115, 116, 43, 102, 111, 117, 110, 100]]
/-- private members of nest mates -/
def nsL : List (String × Nat × MethodName) := [("FsckDesk", 54, yX6_init), ("FsckDesk", 9, yX2_init), ("FsckDesk$Connector", 25, yX6_init), ("FsckDesk$Directories", 21, yX6_init), ("FsckDesk$Inodes", 48, yX10_isDataBlock), ("FsckDesk$Repairer", 114, yX10_isDataBlock)]
/-- the constants of texts, where they lie; two statics of the JDK -/
def SG (G : GX) (A : Nat → Prop) (U : State) (H : Heap) : Prop :=
  vk_S 5 stL stB (gK G) (gV G) A U H ∧ va_Z "java/lang/String" "COMPACT_STRINGS" "Z" (.int 1) A U H ∧ va_Zq "jdk/internal/util/Preconditions" "SIOOBE_FORMATTER" "Ljava/util/function/BiFunction;" A U H ∧ vk_R "FsckDesk$Super" 11 "SFSK" (gK G 0) U ∧ vk_R "FsckDesk$Journal" 17 "JRNL" (gK G 1) U ∧ vk_R "FsckDesk$Directories" 68 "." (gK G 2) U ∧ vk_R "FsckDesk$Directories" 78 ".." (gK G 3) U ∧ vk_R "FsckDesk$Directories" 98 "lost+found" (gK G 4) U ∧ vk_R "FsckDeskModel" 82 "lost+found" (gK G 4) U ∧ ∀ q ∈ nsL, va_Nw (.methodLinkNest q.1 q.2.1 q.2.2 "FsckDesk") U
theorem SG.same {G : GX} {A : Nat → Prop} {u U : State} {H : Heap} (hv : U.vm = u.vm) (h : SG G A u H) : SG G A U H := by
  have ha : u.vm.Alike U.vm := by rw [hv]; exact Vm.Alike.refl _
  obtain ⟨h1, h2, h3, r1, r2, r3, r4, r5, r6, r7⟩ := h
  exact ⟨h1.moved ha, h2.moved ha, h3.moved ha, r1.same hv, r2.same hv, r3.same hv, r4.same hv, r5.same hv, r6.same hv, fun q hq => (r7 q hq).same rfl hv.symm⟩
theorem SG.warm {G : GX} {A : Nat → Prop} {u U : State} {H : Heap} (hW : u.WarmedH U.vm) (h : SG G A u H) : SG G A U H := by
  obtain ⟨h1, h2, h3, r1, r2, r3, r4, r5, r6, r7⟩ := h
  exact ⟨h1.moved hW.alike, h2.moved hW.alike, h3.moved hW.alike, r1.warm hW, r2.warm hW, r3.warm hW, r4.warm hW, r5.warm hW, r6.warm hW, fun q hq => (r7 q hq).warmM hW⟩
theorem SG.kept {G : GX} {A : Nat → Prop} {U : State} {H H1 : Heap} (h : SG G A U H) (hq : ∀ a : Nat, a < H.size → ¬ A a → H1[a]? = H[a]?) : SG G A U H1 := by
  obtain ⟨h1, h2, h3, r⟩ := h
  exact ⟨h1.kept hq, h2.kept hq, h3.kept hq, r⟩
theorem SG.narrow {G : GX} {A B : Nat → Prop} {U : State} {H : Heap} (h : SG G A U H) (hAB : ∀ q, B q → A q) : SG G B U H := by
  obtain ⟨h1, h2, h3, r⟩ := h
  exact ⟨h1.narrow hAB, h2.narrow hAB, h3.narrow hAB, r⟩
/-- the words that stay true in every callee -/
def tb : List Cond := lw_tbl.filter goodWord
theorem tb_good : GoodIn tb tb := fun w h => ⟨h, good_of_word (List.mem_filter.mp h).2⟩
theorem tb_in {w : Cond} (i : Nat) (h : lw_tbl[i]? = some w) (hg : goodWord w = true) : w ∈ tb := List.mem_filter.mpr ⟨List.mem_of_getElem? h, hg⟩
/-- one run of a method: program, launch, environment, room, start; method, arguments, what is below, its record, its code; the cells that it may change, what it must come to -/
abbrev KX : Type := (Program × Launch × Env × Room × State) × (MethodId × Array Value × List Frame × Method × Code) × (Nat → Prop) × (State → Prop)
abbrev kl (k : KX) : Launch := k.1.2.1
abbrev kR (k : KX) : Room := k.1.2.2.2.1
abbrev ks (k : KX) : State := k.1.2.2.2.2
abbrev km (k : KX) : MethodId := k.2.1.1
abbrev ka (k : KX) : Array Value := k.2.1.2.1
abbrev kc (k : KX) : Code := k.2.1.2.2.2.2
abbrev kA (k : KX) : Nat → Prop := k.2.2.1
abbrev kW (k : KX) (H : Heap) (locs : List Loc) (ce sl : Nat) (g : JFrame) : Prop := W k.1.1 k.1.2.1 k.1.2.2.1 k.1.2.2.2.1 k.1.2.2.2.2 k.2.1.1 k.2.1.2.1 k.2.1.2.2.1 k.2.1.2.2.2.1 k.2.1.2.2.2.2 H locs ce sl k.2.2.2 g
/-- the machine comes to its end from here, whatever heap and locals hold the listed world and locals -/
def Wd (G : GX) (k : KX) (nL ce sl : Nat) (ws : va_W) (pc : Nat) (lv : List (Nat × Value)) (st : List Value) : Prop :=
  ∀ (H : Heap) (locs : List Loc) (ls : Array Slot), va_P (gD G) vwCl ws H → va_D (kA k) ws → va_S (kA k) (ks k).heap H locs → lv_has ls nL lv → kW k H locs ce sl (F0 (km k) pc ls st)
/-- what is known of a run throughout -/
def Cx (G : GX) (k : KX) (cc : ByteArray) (own : String) (nL : Nat) : Prop :=
  k.1.1.tables.exec = Jvm.exec ∧ (kc k).code = cc ∧ (kc k).maxLocals = nL ∧ (ks k).vm.findClass own = some (km k).cls ∧ (∀ w ∈ tb, w.before (ka k) (ks k) = true) ∧ va_K (gD G) vwCl (gT G) (ks k) ∧ (∀ q : Nat, (ks k).heap.size ≤ q → kA k q) ∧ SG G (kA k) (ks k) (ks k).heap
/-- a method's contract: from a world ws, with these arguments, it returns v and leaves the world ws', as post says; nothing else changes -/
def CtQ (G : GX) (ws : va_W) (sz : Nat) (post : Option Value → va_W → Prop) : Array Value → State → Outcome → State → Prop := fun _ st oc t => (∃ (v : Option Value) (ws' : va_W), oc = .returned v ∧ post v ws' ∧ va_P (gD G) vwCl ws' t.heap ∧ va_D (va_A ws sz) ws') ∧ va_F (va_A ws sz) st t
def CtP (G : GX) (ws : va_W) (sz : Nat) (args : List Value) : Array Value → State → Prop := va_Pc args (fun U => U.heap.size = sz ∧ va_P (gD G) vwCl ws U.heap ∧ va_K (gD G) vwCl (gT G) U ∧ va_D (fun _ => True) ws ∧ SG G (va_A ws sz) U U.heap)
def CtG (G : GX) (l : Launch) (y : MethodName) (cc : ByteArray) (mL : Nat) (ret : Option FieldType) (rm : Room) (args : List Value) (ws : va_W) (post : Option Value → va_W → Prop) : Prop :=
  ∀ sz : Nat, Met l y (.code y cc mL ret :: tb) rm (CtP G ws sz args) (CtQ G ws sz post) rm.cells rm.slots (va_A ws sz)
/-- a contract whose answer and world are told -/
abbrev Ct (G : GX) (l : Launch) (y : MethodName) (cc : ByteArray) (mL : Nat) (ret : Option FieldType) (rm : Room) (args : List Value) (ws : va_W) (v0 : Option Value) (w0 : va_W) : Prop := CtG G l y cc mL ret rm args ws (fun v w => v = v0 ∧ w = w0)
/-- a return instruction, and what lies on the stack at it -/
def RetI (cc : ByteArray) (ret : Option FieldType) (pc : Nat) (v : Option Value) (st : List Value) : Prop :=
  (∃ (x : Int32) (ty : FieldType), ret = some ty ∧ narrow ty (.int x) = .int x ∧ v = some (.int x) ∧ st = [.int x] ∧ decode cc pc = .ok (.ireturn, 1)) ∨ (ret = none ∧ v = none ∧ st = [] ∧ decode cc pc = .ok (.return_, 1)) ∨ (∃ x : Int64, ret = some .long ∧ v = some (.long x) ∧ st = [.long x] ∧ decode cc pc = .ok (.lreturn, 1))
def RetP (G : GX) (k : KX) (nL : Nat) (cc : ByteArray) (ret : Option FieldType) (rm : Room) (post : Option Value → va_W → Prop) : Prop :=
  ∀ (v : Option Value) (ws' : va_W) (pc : Nat) (lv : List (Nat × Value)) (st : List Value), post v ws' → RetI cc ret pc v st → Wd G k nL rm.cells rm.slots ws' pc lv st
theorem Ct.of {G : GX} {l : Launch} {y : MethodName} {cc : ByteArray} {mL : Nat} {ret : Option FieldType} {rm : Room} {args : List Value} {ws : va_W} {post : Option Value → va_W → Prop} (hy : plainName y.cls = true) (hlen : (lg_sl args).length ≤ mL)
    (body : ∀ k : KX, Cx G k cc y.cls mL → kR k = rm → kl k = l → RetP G k mL cc ret rm post → Wd G k mL 0 0 ws 0 (lv_args 0 args) []) : CtG G l y cc mL ret rm args ws post := by
  intro sz
  refine Met.ofW (cc := cc) (maxL := mL) (ret := ret) hy rfl ?_
  intro p e s m args' below meth c s₁ B hml hv
  obtain ⟨rfl, hsz, hP, hK, hD0, hSG⟩ := hv
  subst hsz
  have hlocks := B.notSynchronized
  have hts := atoms_spec (ws := Cond.code y cc mL ret :: tb) B.pre
  rw [lg_entry_eq]
  refine body ((p, l, e, rm, s), (m, args.toArray, below, meth, c), va_A ws s.heap.size, MQ below (CtQ G ws s.heap.size post) args.toArray s rm.cells rm.slots (va_A ws s.heap.size)) ⟨B.exec, B.bytes, hml, findClass_of_methodNamed B.named, fun w hw => hts w (List.mem_cons_of_mem _ hw), hK, fun q h => Or.inr h, hSG⟩ rfl rfl ?_ s.heap [] _ hP (hD0.self (sz := s.heap.size)) va_S.rf (lv_entry args hlen)
  intro v ws' pc lv st hpost hret H locs ls hP hD hS hl
  rcases hret with ⟨x, ty, hr, hn, rfl, rfl, hdg⟩ | ⟨hr, rfl, rfl, hdg⟩ | ⟨x, hr, rfl, rfl, hdg⟩
  · exact W.zret (Qc := CtQ G ws s.heap.size post) (free := va_A ws s.heap.size) (ty := ty) B.exec B.bytes (B.returns.trans hr) hn (fun t ht hW => ⟨⟨_, ws', rfl, hpost, by rw [ht]; exact hP, hD⟩, hS.F ht⟩) hS.2.2 hdg
  · exact W.vret (Qc := CtQ G ws s.heap.size post) (free := va_A ws s.heap.size) B.exec B.bytes (B.returns.trans hr) (fun t ht hW => ⟨⟨_, ws', rfl, hpost, by rw [ht]; exact hP, hD⟩, hS.F ht⟩) hS.2.2 hdg
  · exact W.lret (Qc := CtQ G ws s.heap.size post) (free := va_A ws s.heap.size) B.exec B.bytes (B.returns.trans hr) (fun t ht hW => ⟨⟨_, ws', rfl, hpost, by rw [ht]; exact hP, hD⟩, hS.F ht⟩) hS.2.2 hdg
/-- cells put at places of a world -/
def pA : va_W → List Nat → va_W → va_W
  | wc, i :: is, c :: w0 => pA (wc.set i c) is w0
  | wc, _, _ => wc
theorem pA_get : ∀ (is : List Nat) (wc w0 : va_W) (j : Nat) (q : Nat × va_E), is.length = w0.length → (pA wc is w0)[j]? = some q → q ∈ w0 ∨ (j ∉ is ∧ wc[j]? = some q)
  | [], wc, w0, j, q, hl, h => by
    cases w0 with
    | nil => exact Or.inr ⟨List.not_mem_nil, h⟩
    | cons c w0 => cases hl
  | i :: is, wc, w0, j, q, hl, h => by
    cases w0 with
    | nil => cases hl
    | cons c w0 =>
      rcases pA_get is (wc.set i c) w0 j q (Nat.succ.inj hl) h with h1 | ⟨h1, h2⟩
      · exact Or.inl (List.mem_cons_of_mem _ h1)
      · by_cases hij : i = j
        · subst hij
          by_cases hlt : i < wc.length
          · rw [List.getElem?_set_self hlt] at h2
            cases h2
            exact Or.inl List.mem_cons_self
          · rw [List.getElem?_eq_none (by rw [List.length_set]; omega)] at h2
            cases h2
        · rw [List.getElem?_set_ne hij] at h2
          exact Or.inr ⟨fun z => (List.mem_cons.mp z).elim (fun e => hij e.symm) h1, h2⟩
theorem va_D.addr {A : Nat → Prop} {w w' : va_W} (h : va_D A w) (he : w'.map (fun q => q.1) = w.map (fun q => q.1)) : va_D A w' := by
  have key : ∀ (i : Nat) (q : Nat × va_E), w'[i]? = some q → ∃ q0, w[i]? = some q0 ∧ q0.1 = q.1 := by
    intro i q hq
    have h1 : (w'.map (fun q => q.1))[i]? = some q.1 := by rw [List.getElem?_map, hq]; rfl
    rw [he, List.getElem?_map] at h1
    cases hw : w[i]? with
    | none => rw [hw] at h1; cases h1
    | some q0 => rw [hw] at h1; exact ⟨q0, rfl, Option.some.inj h1⟩
  refine ⟨fun i j p q hi hj hpq => ?_, fun i q hq => ?_⟩
  · obtain ⟨p0, h1, h2⟩ := key i p hi
    obtain ⟨q0, h3, h4⟩ := key j q hj
    exact h.1 i j p0 q0 h1 h3 (h2.trans (hpq.trans h4.symm))
  · obtain ⟨q0, h1, h2⟩ := key i q hq
    rw [← h2]
    exact h.2 i q0 h1
end
section
/-! CALLS over contracts -/
theorem pA_addr : ∀ (is : List Nat) (wc w0 : va_W), is.map (fun i => (wc.map (fun q => q.1))[i]?) = (w0.map (fun q => q.1)).map some → (pA wc is w0).map (fun q => q.1) = wc.map (fun q => q.1)
  | [], wc, w0, _ => by cases w0 <;> rfl
  | i :: is, wc, w0, h => by
    cases w0 with
    | nil => cases h
    | cons c w0 =>
      have h1 : (wc.map (fun q => q.1))[i]? = some c.1 := (List.cons.inj h).1
      have h2 := (List.cons.inj h).2
      have e : (wc.set i c).map (fun q => q.1) = wc.map (fun q => q.1) := by
        rw [List.map_set]
        apply List.ext_getElem?
        intro j
        by_cases hij : i = j
        · subst hij
          rw [List.getElem?_set_self (List.getElem?_eq_some_iff.mp h1).1, h1]
        · rw [List.getElem?_set_ne hij]
      show (pA (wc.set i c) is w0).map (fun q => q.1) = _
      rw [pA_addr is (wc.set i c) w0 (by rw [e]; exact h2), e]
theorem CtP_blind {G : GX} {ws : va_W} {sz : Nat} {As : List Value} : FrameBlind (CtP G ws sz As) := by
  intro a U g mk q
  obtain ⟨q0, q1, qP, qK, qD, qS⟩ := q
  exact ⟨q0, q1, qP, va_K.moved (u := U) (U := U.calling g mk a) (Vm.Alike.refl U.vm) qK, qD, qS.same (U := U.calling g mk a) rfl⟩
section CALLS
variable {G : GX} {k : KX} {cc : ByteArray} {own : String} {nL ce sl pc : Nat} {wc ws : va_W} {lv : List (Nat × Value)} {st rest As : List Value} {y : MethodName} {bytes : ByteArray} {maxL idx n : Nat} {ret : Option FieldType} {rm : Room} {post : Option Value → va_W → Prop}
theorem ct_at (C : Cx G k cc own nL) {H : Heap} {locs : List Loc} (hP : va_P (gD G) vwCl wc H) (hD : va_D (kA k) wc) (hS : va_S (kA k) (ks k).heap H locs) (is : List Nat) (hC : is.map (fun i => wc[i]?) = ws.map some) (hn : va_nd is = true) {U : State} (hU : U.heap = H) (hW : (ks k).WarmedH U.vm) : CtP G ws H.size As As.toArray U := by
  have hF := va_free hD hS C.2.2.2.2.2.2.1 is hC
  refine ⟨rfl, by rw [hU], ?_, va_K.moved hW.alike C.2.2.2.2.2.1, (hD.sub is hn hC).weaken (fun _ _ _ _ => trivial), ?_⟩
  · rw [hU]
    intro j q hj
    have h1 : (is.map (fun i => wc[i]?))[j]? = some (some q) := by rw [hC, List.getElem?_map, hj]; rfl
    rw [List.getElem?_map] at h1
    cases hi : is[j]? with
    | none => rw [hi] at h1; cases h1
    | some i => rw [hi] at h1; exact hP i q (Option.some.inj h1)
  · rw [hU]
    exact ((C.2.2.2.2.2.2.2.kept hS.2.1).narrow hF).warm hW
theorem w_run (C : Cx G k cc own nL) {H : Heap} {locs : List Loc} {ls : Array Slot} {mc ms : Nat} {a : Array Value} (hP : va_P (gD G) vwCl wc H) (hD : va_D (kA k) wc) (hS : va_S (kA k) (ks k).heap H locs) (hl : lv_has ls nL lv) (is : List Nat) (hC : is.map (fun i => wc[i]?) = ws.map some)
    (hr : va_Run k.1.1 k.1.2.1 k.1.2.2.1 k.1.2.2.2.1 k.1.2.2.2.2 k.2.1.1 k.2.1.2.1 k.2.1.2.2.1 k.2.1.2.2.2.1 k.2.1.2.2.2.2 H locs ce sl mc ms (F0 (km k) pc ls st) rest (CtQ G ws H.size post a) (va_A ws H.size))
    (hpa : ∀ v ws', post v ws' → ws'.map (fun q => q.1) = ws.map (fun q => q.1)) (kk : ∀ v ws', post v ws' → Wd G k nL (ce + mc) (sl + ms) (pA wc is ws') (pc + 3) lv (v.toList ++ rest)) : kW k H locs ce sl (F0 (km k) pc ls st) := by
  have hF := va_free hD hS C.2.2.2.2.2.2.1 is hC
  have hat : ∀ (j : Nat) (q : Nat × va_E), ws[j]? = some q → ∃ i, i ∈ is ∧ wc[i]? = some q := by
    intro j q hj
    have h1 : (is.map (fun i => wc[i]?))[j]? = some (some q) := by rw [hC, List.getElem?_map, hj]; rfl
    rw [List.getElem?_map] at h1
    cases hi : is[j]? with
    | none => rw [hi] at h1; cases h1
    | some i => rw [hi] at h1; exact ⟨i, List.mem_of_getElem? hi, Option.some.inj h1⟩
  intro T hT X
  obtain ⟨v, st₀, t, T', L, h0, X', hL, e1, e2, ⟨⟨v', ws', hv, hpost, hP1, hD1⟩, hz, hk⟩, hgo⟩ := hr T hT X
  cases hv
  rw [h0] at hz hk
  have hlen : is.length = ws'.length := by
    have q1 := congrArg List.length hC
    have q2 := congrArg List.length (hpa v ws' hpost)
    simp only [List.length_map] at q1 q2
    omega
  have hPn : va_P (gD G) vwCl (pA wc is ws') T'.heap := by
    intro j q hj
    rw [e1]
    rcases pA_get is wc ws' j q hlen hj with h1 | ⟨h1, h2⟩
    · obtain ⟨i, hi⟩ := List.getElem?_of_mem h1
      exact hP1 i q hi
    · refine (hP j q h2).kept (hk q.1 (hP j q h2).lt ?_)
      rintro (⟨k2, e, h⟩ | h)
      · obtain ⟨i, hi, hq⟩ := hat k2 (q.1, e) h
        have := hD.1 j i q (q.1, e) h2 hq rfl
        subst this
        exact h1 hi
      · have := (hP j q h2).lt
        omega
  have hDn : va_D (kA k) (pA wc is ws') := by
    refine hD.addr (pA_addr is wc ws' ?_)
    rw [hpa v ws' hpost, List.map_map]
    have q := congrArg (List.map (Option.map (fun q : Nat × va_E => q.1))) hC
    rw [List.map_map, List.map_map] at q
    refine Eq.trans (List.map_congr_left fun i _ => ?_) q
    exact List.getElem?_map
  obtain ⟨t2, a1, b1⟩ := kk v ws' hpost T'.heap (locs ++ L) ls hPn hDn ⟨Nat.le_trans hS.1 (by rw [e1]; exact hz), fun q h1 h2 => by rw [e1, hk q (Nat.lt_of_lt_of_le h1 hS.1) (fun z => h2 (hF q z))]; exact hS.2.1 q h1 h2, fun q hq => by
      rcases List.mem_append.mp hq with h | h
      · exact hS.2.2 q h
      · exact hF _ (hL q h)⟩ hl T' rfl X'
  exact ⟨t2, hgo t2 a1, b1⟩
/-- the words that a virtual call rests on -/
def cwd (own : String) (idx : Nat) (y : MethodName) (bytes : ByteArray) (maxL : Nat) (ret : Option FieldType) (i1 i2 i3 i4 i5 : Nat) : Prop := lw_tbl[i1]? = some (.methodLink own idx y) ∧ lw_tbl[i2]? = some (.instanceMethod y) ∧ lw_tbl[i3]? = some (.selects y.cls y y) ∧ lw_tbl[i4]? = some (.initialized y.cls) ∧ lw_tbl[i5]? = some (.code y bytes maxL ret)
end CALLS
end
