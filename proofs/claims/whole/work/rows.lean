section
-- ===== PART A: goes FIRST, ahead of the names: the tables' words, and 'selects' of the private methods out of them =====
/-- a private method of a class that the tables say can be made, by its rows of tables_1 -/
def lw_okq (q : MethodName × Nat) : Prop := (q.1.cls ≠ "java/lang/invoke/MethodHandle" ∧ q.1.cls ≠ "java/lang/invoke/VarHandle") ∧ Cond.instantiable q.1.cls q.2 ∈ tables_1 ∧ Cond.privateMethod q.1 ∈ tables_1 ∧ Cond.instanceMethod q.1 ∈ tables_1
theorem lw_p0 : lw_okq (⟨"FsckDesk$InodePass", "hasSoundHead", "(I)Z"⟩, 3) := ⟨⟨by decide +kernel, by decide +kernel⟩, List.mem_of_getElem? (i := 89) (by decide +kernel), List.mem_of_getElem? (i := 356) (by decide +kernel), List.mem_of_getElem? (i := 357) (by decide +kernel)⟩
theorem lw_p1 : lw_okq (⟨"FsckDesk$InodePass", "hasSoundSize", "(I)Z"⟩, 3) := ⟨⟨by decide +kernel, by decide +kernel⟩, List.mem_of_getElem? (i := 89) (by decide +kernel), List.mem_of_getElem? (i := 376) (by decide +kernel), List.mem_of_getElem? (i := 377) (by decide +kernel)⟩
theorem lw_p2 : lw_okq (⟨"FsckDesk$InodePass", "hasBlankRest", "(I)Z"⟩, 3) := ⟨⟨by decide +kernel, by decide +kernel⟩, List.mem_of_getElem? (i := 89) (by decide +kernel), List.mem_of_getElem? (i := 385) (by decide +kernel), List.mem_of_getElem? (i := 386) (by decide +kernel)⟩
theorem lw_p3 : lw_okq (⟨"FsckDesk$Inodes", "takeFreeBlock", "()I"⟩, 2) := ⟨⟨by decide +kernel, by decide +kernel⟩, List.mem_of_getElem? (i := 41) (by decide +kernel), List.mem_of_getElem? (i := 447) (by decide +kernel), List.mem_of_getElem? (i := 448) (by decide +kernel)⟩
theorem lw_p4 : lw_okq (⟨"FsckDesk$Name", "add", "(I)V"⟩, 2) := ⟨⟨by decide +kernel, by decide +kernel⟩, List.mem_of_getElem? (i := 60) (by decide +kernel), List.mem_of_getElem? (i := 468) (by decide +kernel), List.mem_of_getElem? (i := 469) (by decide +kernel)⟩
theorem lw_p5 : lw_okq (⟨"FsckDesk$Directories", "isValid", "(II)Z"⟩, 3) := ⟨⟨by decide +kernel, by decide +kernel⟩, List.mem_of_getElem? (i := 54) (by decide +kernel), List.mem_of_getElem? (i := 505) (by decide +kernel), List.mem_of_getElem? (i := 506) (by decide +kernel)⟩
theorem lw_p6 : lw_okq (⟨"FsckDesk$Directories", "isNamed", "(ILFsckDesk$Name;)Z"⟩, 3) := ⟨⟨by decide +kernel, by decide +kernel⟩, List.mem_of_getElem? (i := 54) (by decide +kernel), List.mem_of_getElem? (i := 525) (by decide +kernel), List.mem_of_getElem? (i := 526) (by decide +kernel)⟩
theorem lw_p7 : lw_okq (⟨"FsckDesk$Connector", "reach", "(I)V"⟩, 8) := ⟨⟨by decide +kernel, by decide +kernel⟩, List.mem_of_getElem? (i := 105) (by decide +kernel), List.mem_of_getElem? (i := 538) (by decide +kernel), List.mem_of_getElem? (i := 539) (by decide +kernel)⟩
theorem lw_p8 : lw_okq (⟨"FsckDesk$Connector", "goThrough", "()V"⟩, 8) := ⟨⟨by decide +kernel, by decide +kernel⟩, List.mem_of_getElem? (i := 105) (by decide +kernel), List.mem_of_getElem? (i := 542) (by decide +kernel), List.mem_of_getElem? (i := 543) (by decide +kernel)⟩
theorem lw_p9 : lw_okq (⟨"FsckDesk$Connector", "follow", "(II)V"⟩, 8) := ⟨⟨by decide +kernel, by decide +kernel⟩, List.mem_of_getElem? (i := 105) (by decide +kernel), List.mem_of_getElem? (i := 548) (by decide +kernel), List.mem_of_getElem? (i := 549) (by decide +kernel)⟩
theorem lw_p10 : lw_okq (⟨"FsckDesk$Connector", "isReached", "(I)Z"⟩, 8) := ⟨⟨by decide +kernel, by decide +kernel⟩, List.mem_of_getElem? (i := 105) (by decide +kernel), List.mem_of_getElem? (i := 553) (by decide +kernel), List.mem_of_getElem? (i := 554) (by decide +kernel)⟩
theorem lw_p11 : lw_okq (⟨"FsckDesk$Connector", "findName", "(I)Z"⟩, 8) := ⟨⟨by decide +kernel, by decide +kernel⟩, List.mem_of_getElem? (i := 105) (by decide +kernel), List.mem_of_getElem? (i := 562) (by decide +kernel), List.mem_of_getElem? (i := 563) (by decide +kernel)⟩
theorem lw_p12 : lw_okq (⟨"FsckDesk$Connector", "putAway", "(II)V"⟩, 8) := ⟨⟨by decide +kernel, by decide +kernel⟩, List.mem_of_getElem? (i := 105) (by decide +kernel), List.mem_of_getElem? (i := 575) (by decide +kernel), List.mem_of_getElem? (i := 576) (by decide +kernel)⟩
theorem lw_p13 : lw_okq (⟨"FsckDesk$Repairer", "settle", "()V"⟩, 6) := ⟨⟨by decide +kernel, by decide +kernel⟩, List.mem_of_getElem? (i := 83) (by decide +kernel), List.mem_of_getElem? (i := 585) (by decide +kernel), List.mem_of_getElem? (i := 586) (by decide +kernel)⟩
theorem lw_p14 : lw_okq (⟨"FsckDesk$Directories", "countLink", "(II)V"⟩, 3) := ⟨⟨by decide +kernel, by decide +kernel⟩, List.mem_of_getElem? (i := 54) (by decide +kernel), List.mem_of_getElem? (i := 597) (by decide +kernel), List.mem_of_getElem? (i := 598) (by decide +kernel)⟩
theorem lw_p15 : lw_okq (⟨"FsckDesk$Repairer", "writeMaps", "()V"⟩, 6) := ⟨⟨by decide +kernel, by decide +kernel⟩, List.mem_of_getElem? (i := 83) (by decide +kernel), List.mem_of_getElem? (i := 610) (by decide +kernel), List.mem_of_getElem? (i := 611) (by decide +kernel)⟩
def lw_privs_1 : List (MethodName × Nat) := [(⟨"FsckDesk$InodePass", "hasSoundHead", "(I)Z"⟩, 3), (⟨"FsckDesk$InodePass", "hasSoundSize", "(I)Z"⟩, 3), (⟨"FsckDesk$InodePass", "hasBlankRest", "(I)Z"⟩, 3), (⟨"FsckDesk$Inodes", "takeFreeBlock", "()I"⟩, 2), (⟨"FsckDesk$Name", "add", "(I)V"⟩, 2), (⟨"FsckDesk$Directories", "isValid", "(II)Z"⟩, 3), (⟨"FsckDesk$Directories", "isNamed", "(ILFsckDesk$Name;)Z"⟩, 3), (⟨"FsckDesk$Connector", "reach", "(I)V"⟩, 8), (⟨"FsckDesk$Connector", "goThrough", "()V"⟩, 8), (⟨"FsckDesk$Connector", "follow", "(II)V"⟩, 8), (⟨"FsckDesk$Connector", "isReached", "(I)Z"⟩, 8), (⟨"FsckDesk$Connector", "findName", "(I)Z"⟩, 8), (⟨"FsckDesk$Connector", "putAway", "(II)V"⟩, 8), (⟨"FsckDesk$Repairer", "settle", "()V"⟩, 6), (⟨"FsckDesk$Directories", "countLink", "(II)V"⟩, 3), (⟨"FsckDesk$Repairer", "writeMaps", "()V"⟩, 6)]
theorem lw_r1 : ∀ q ∈ lw_privs_1, lw_okq q := List.forall_mem_cons.mpr ⟨lw_p0, List.forall_mem_cons.mpr ⟨lw_p1, List.forall_mem_cons.mpr ⟨lw_p2, List.forall_mem_cons.mpr ⟨lw_p3, List.forall_mem_cons.mpr ⟨lw_p4, List.forall_mem_cons.mpr ⟨lw_p5, List.forall_mem_cons.mpr ⟨lw_p6, List.forall_mem_cons.mpr ⟨lw_p7, List.forall_mem_cons.mpr ⟨lw_p8, List.forall_mem_cons.mpr ⟨lw_p9, List.forall_mem_cons.mpr ⟨lw_p10, List.forall_mem_cons.mpr ⟨lw_p11, List.forall_mem_cons.mpr ⟨lw_p12, List.forall_mem_cons.mpr ⟨lw_p13, List.forall_mem_cons.mpr ⟨lw_p14, List.forall_mem_cons.mpr ⟨lw_p15, fun _ h => absurd h List.not_mem_nil⟩⟩⟩⟩⟩⟩⟩⟩⟩⟩⟩⟩⟩⟩⟩⟩
theorem lw_p16 : lw_okq (⟨"FsckDesk$Repairer", "markUsed", "(II)V"⟩, 6) := ⟨⟨by decide +kernel, by decide +kernel⟩, List.mem_of_getElem? (i := 83) (by decide +kernel), List.mem_of_getElem? (i := 620) (by decide +kernel), List.mem_of_getElem? (i := 621) (by decide +kernel)⟩
theorem lw_p17 : lw_okq (⟨"FsckDesk$Repairer", "countDiffering", "()I"⟩, 6) := ⟨⟨by decide +kernel, by decide +kernel⟩, List.mem_of_getElem? (i := 83) (by decide +kernel), List.mem_of_getElem? (i := 628) (by decide +kernel), List.mem_of_getElem? (i := 629) (by decide +kernel)⟩
theorem lw_p18 : lw_okq (⟨"FsckDesk$Writer", "mayEnter", "(ILFsckDesk$Name;)Z"⟩, 3) := ⟨⟨by decide +kernel, by decide +kernel⟩, List.mem_of_getElem? (i := 157) (by decide +kernel), List.mem_of_getElem? (i := 721) (by decide +kernel), List.mem_of_getElem? (i := 722) (by decide +kernel)⟩
theorem lw_p19 : lw_okq (⟨"FsckDesk$Writer", "enter", "(ILFsckDesk$Name;I)Z"⟩, 3) := ⟨⟨by decide +kernel, by decide +kernel⟩, List.mem_of_getElem? (i := 157) (by decide +kernel), List.mem_of_getElem? (i := 730) (by decide +kernel), List.mem_of_getElem? (i := 731) (by decide +kernel)⟩
theorem lw_p20 : lw_okq (⟨"FsckDeskModel", "superAt", "(III)V"⟩, 9) := ⟨⟨by decide +kernel, by decide +kernel⟩, List.mem_of_getElem? (i := 777) (by decide +kernel), List.mem_of_getElem? (i := 816) (by decide +kernel), List.mem_of_getElem? (i := 817) (by decide +kernel)⟩
theorem lw_p21 : lw_okq (⟨"FsckDeskModel", "clear", "(II)V"⟩, 9) := ⟨⟨by decide +kernel, by decide +kernel⟩, List.mem_of_getElem? (i := 777) (by decide +kernel), List.mem_of_getElem? (i := 820) (by decide +kernel), List.mem_of_getElem? (i := 821) (by decide +kernel)⟩
theorem lw_p22 : lw_okq (⟨"FsckDeskModel", "put", "(II)V"⟩, 9) := ⟨⟨by decide +kernel, by decide +kernel⟩, List.mem_of_getElem? (i := 777) (by decide +kernel), List.mem_of_getElem? (i := 824) (by decide +kernel), List.mem_of_getElem? (i := 825) (by decide +kernel)⟩
theorem lw_p23 : lw_okq (⟨"FsckDeskModel", "sum", "(II)I"⟩, 9) := ⟨⟨by decide +kernel, by decide +kernel⟩, List.mem_of_getElem? (i := 777) (by decide +kernel), List.mem_of_getElem? (i := 828) (by decide +kernel), List.mem_of_getElem? (i := 829) (by decide +kernel)⟩
theorem lw_p24 : lw_okq (⟨"FsckDeskModel", "store", "()V"⟩, 9) := ⟨⟨by decide +kernel, by decide +kernel⟩, List.mem_of_getElem? (i := 777) (by decide +kernel), List.mem_of_getElem? (i := 833) (by decide +kernel), List.mem_of_getElem? (i := 834) (by decide +kernel)⟩
theorem lw_p25 : lw_okq (⟨"FsckDeskModel", "passes", "()Z"⟩, 9) := ⟨⟨by decide +kernel, by decide +kernel⟩, List.mem_of_getElem? (i := 777) (by decide +kernel), List.mem_of_getElem? (i := 841) (by decide +kernel), List.mem_of_getElem? (i := 842) (by decide +kernel)⟩
theorem lw_p26 : lw_okq (⟨"FsckDeskModel", "load", "()V"⟩, 9) := ⟨⟨by decide +kernel, by decide +kernel⟩, List.mem_of_getElem? (i := 777) (by decide +kernel), List.mem_of_getElem? (i := 845) (by decide +kernel), List.mem_of_getElem? (i := 846) (by decide +kernel)⟩
theorem lw_p27 : lw_okq (⟨"FsckDeskModel", "isSuper", "(I)Z"⟩, 9) := ⟨⟨by decide +kernel, by decide +kernel⟩, List.mem_of_getElem? (i := 777) (by decide +kernel), List.mem_of_getElem? (i := 849) (by decide +kernel), List.mem_of_getElem? (i := 850) (by decide +kernel)⟩
theorem lw_p28 : lw_okq (⟨"FsckDeskModel", "has", "(IIIII)Z"⟩, 9) := ⟨⟨by decide +kernel, by decide +kernel⟩, List.mem_of_getElem? (i := 777) (by decide +kernel), List.mem_of_getElem? (i := 853) (by decide +kernel), List.mem_of_getElem? (i := 854) (by decide +kernel)⟩
theorem lw_p29 : lw_okq (⟨"FsckDeskModel", "two", "(I)I"⟩, 9) := ⟨⟨by decide +kernel, by decide +kernel⟩, List.mem_of_getElem? (i := 777) (by decide +kernel), List.mem_of_getElem? (i := 857) (by decide +kernel), List.mem_of_getElem? (i := 858) (by decide +kernel)⟩
theorem lw_p30 : lw_okq (⟨"FsckDeskModel", "replay", "()V"⟩, 9) := ⟨⟨by decide +kernel, by decide +kernel⟩, List.mem_of_getElem? (i := 777) (by decide +kernel), List.mem_of_getElem? (i := 861) (by decide +kernel), List.mem_of_getElem? (i := 862) (by decide +kernel)⟩
theorem lw_p31 : lw_okq (⟨"FsckDeskModel", "isClear", "(II)Z"⟩, 9) := ⟨⟨by decide +kernel, by decide +kernel⟩, List.mem_of_getElem? (i := 777) (by decide +kernel), List.mem_of_getElem? (i := 865) (by decide +kernel), List.mem_of_getElem? (i := 866) (by decide +kernel)⟩
def lw_privs_2 : List (MethodName × Nat) := [(⟨"FsckDesk$Repairer", "markUsed", "(II)V"⟩, 6), (⟨"FsckDesk$Repairer", "countDiffering", "()I"⟩, 6), (⟨"FsckDesk$Writer", "mayEnter", "(ILFsckDesk$Name;)Z"⟩, 3), (⟨"FsckDesk$Writer", "enter", "(ILFsckDesk$Name;I)Z"⟩, 3), (⟨"FsckDeskModel", "superAt", "(III)V"⟩, 9), (⟨"FsckDeskModel", "clear", "(II)V"⟩, 9), (⟨"FsckDeskModel", "put", "(II)V"⟩, 9), (⟨"FsckDeskModel", "sum", "(II)I"⟩, 9), (⟨"FsckDeskModel", "store", "()V"⟩, 9), (⟨"FsckDeskModel", "passes", "()Z"⟩, 9), (⟨"FsckDeskModel", "load", "()V"⟩, 9), (⟨"FsckDeskModel", "isSuper", "(I)Z"⟩, 9), (⟨"FsckDeskModel", "has", "(IIIII)Z"⟩, 9), (⟨"FsckDeskModel", "two", "(I)I"⟩, 9), (⟨"FsckDeskModel", "replay", "()V"⟩, 9), (⟨"FsckDeskModel", "isClear", "(II)Z"⟩, 9)]
theorem lw_r2 : ∀ q ∈ lw_privs_2, lw_okq q := List.forall_mem_cons.mpr ⟨lw_p16, List.forall_mem_cons.mpr ⟨lw_p17, List.forall_mem_cons.mpr ⟨lw_p18, List.forall_mem_cons.mpr ⟨lw_p19, List.forall_mem_cons.mpr ⟨lw_p20, List.forall_mem_cons.mpr ⟨lw_p21, List.forall_mem_cons.mpr ⟨lw_p22, List.forall_mem_cons.mpr ⟨lw_p23, List.forall_mem_cons.mpr ⟨lw_p24, List.forall_mem_cons.mpr ⟨lw_p25, List.forall_mem_cons.mpr ⟨lw_p26, List.forall_mem_cons.mpr ⟨lw_p27, List.forall_mem_cons.mpr ⟨lw_p28, List.forall_mem_cons.mpr ⟨lw_p29, List.forall_mem_cons.mpr ⟨lw_p30, List.forall_mem_cons.mpr ⟨lw_p31, fun _ h => absurd h List.not_mem_nil⟩⟩⟩⟩⟩⟩⟩⟩⟩⟩⟩⟩⟩⟩⟩⟩
theorem lw_p32 : lw_okq (⟨"FsckDeskModel", "inodes", "()V"⟩, 9) := ⟨⟨by decide +kernel, by decide +kernel⟩, List.mem_of_getElem? (i := 777) (by decide +kernel), List.mem_of_getElem? (i := 869) (by decide +kernel), List.mem_of_getElem? (i := 870) (by decide +kernel)⟩
theorem lw_p33 : lw_okq (⟨"FsckDeskModel", "isSound", "(I)Z"⟩, 9) := ⟨⟨by decide +kernel, by decide +kernel⟩, List.mem_of_getElem? (i := 777) (by decide +kernel), List.mem_of_getElem? (i := 876) (by decide +kernel), List.mem_of_getElem? (i := 877) (by decide +kernel)⟩
theorem lw_p34 : lw_okq (⟨"FsckDeskModel", "size", "(I)I"⟩, 9) := ⟨⟨by decide +kernel, by decide +kernel⟩, List.mem_of_getElem? (i := 777) (by decide +kernel), List.mem_of_getElem? (i := 880) (by decide +kernel), List.mem_of_getElem? (i := 881) (by decide +kernel)⟩
theorem lw_p35 : lw_okq (⟨"FsckDeskModel", "blocks", "(I)I"⟩, 9) := ⟨⟨by decide +kernel, by decide +kernel⟩, List.mem_of_getElem? (i := 777) (by decide +kernel), List.mem_of_getElem? (i := 884) (by decide +kernel), List.mem_of_getElem? (i := 885) (by decide +kernel)⟩
theorem lw_p36 : lw_okq (⟨"FsckDeskModel", "mark", "(I)Z"⟩, 9) := ⟨⟨by decide +kernel, by decide +kernel⟩, List.mem_of_getElem? (i := 777) (by decide +kernel), List.mem_of_getElem? (i := 888) (by decide +kernel), List.mem_of_getElem? (i := 889) (by decide +kernel)⟩
theorem lw_p37 : lw_okq (⟨"FsckDeskModel", "block", "(II)I"⟩, 9) := ⟨⟨by decide +kernel, by decide +kernel⟩, List.mem_of_getElem? (i := 777) (by decide +kernel), List.mem_of_getElem? (i := 892) (by decide +kernel), List.mem_of_getElem? (i := 893) (by decide +kernel)⟩
theorem lw_p38 : lw_okq (⟨"FsckDeskModel", "kind", "(I)I"⟩, 9) := ⟨⟨by decide +kernel, by decide +kernel⟩, List.mem_of_getElem? (i := 777) (by decide +kernel), List.mem_of_getElem? (i := 896) (by decide +kernel), List.mem_of_getElem? (i := 897) (by decide +kernel)⟩
theorem lw_p39 : lw_okq (⟨"FsckDeskModel", "make", "(I)V"⟩, 9) := ⟨⟨by decide +kernel, by decide +kernel⟩, List.mem_of_getElem? (i := 777) (by decide +kernel), List.mem_of_getElem? (i := 900) (by decide +kernel), List.mem_of_getElem? (i := 901) (by decide +kernel)⟩
theorem lw_p40 : lw_okq (⟨"FsckDeskModel", "free", "(I)I"⟩, 9) := ⟨⟨by decide +kernel, by decide +kernel⟩, List.mem_of_getElem? (i := 777) (by decide +kernel), List.mem_of_getElem? (i := 904) (by decide +kernel), List.mem_of_getElem? (i := 905) (by decide +kernel)⟩
theorem lw_p41 : lw_okq (⟨"FsckDeskModel", "directory", "(II)V"⟩, 9) := ⟨⟨by decide +kernel, by decide +kernel⟩, List.mem_of_getElem? (i := 777) (by decide +kernel), List.mem_of_getElem? (i := 908) (by decide +kernel), List.mem_of_getElem? (i := 909) (by decide +kernel)⟩
theorem lw_p42 : lw_okq (⟨"FsckDeskModel", "entries", "()V"⟩, 9) := ⟨⟨by decide +kernel, by decide +kernel⟩, List.mem_of_getElem? (i := 777) (by decide +kernel), List.mem_of_getElem? (i := 912) (by decide +kernel), List.mem_of_getElem? (i := 913) (by decide +kernel)⟩
theorem lw_p43 : lw_okq (⟨"FsckDeskModel", "places", "(I)I"⟩, 9) := ⟨⟨by decide +kernel, by decide +kernel⟩, List.mem_of_getElem? (i := 777) (by decide +kernel), List.mem_of_getElem? (i := 916) (by decide +kernel), List.mem_of_getElem? (i := 917) (by decide +kernel)⟩
theorem lw_p44 : lw_okq (⟨"FsckDeskModel", "entry", "(II)I"⟩, 9) := ⟨⟨by decide +kernel, by decide +kernel⟩, List.mem_of_getElem? (i := 777) (by decide +kernel), List.mem_of_getElem? (i := 920) (by decide +kernel), List.mem_of_getElem? (i := 921) (by decide +kernel)⟩
theorem lw_p45 : lw_okq (⟨"FsckDeskModel", "dots", "(I)V"⟩, 9) := ⟨⟨by decide +kernel, by decide +kernel⟩, List.mem_of_getElem? (i := 777) (by decide +kernel), List.mem_of_getElem? (i := 924) (by decide +kernel), List.mem_of_getElem? (i := 925) (by decide +kernel)⟩
theorem lw_p46 : lw_okq (⟨"FsckDeskModel", "write", "(II)V"⟩, 9) := ⟨⟨by decide +kernel, by decide +kernel⟩, List.mem_of_getElem? (i := 777) (by decide +kernel), List.mem_of_getElem? (i := 928) (by decide +kernel), List.mem_of_getElem? (i := 929) (by decide +kernel)⟩
theorem lw_p47 : lw_okq (⟨"FsckDeskModel", "lostName", "()V"⟩, 9) := ⟨⟨by decide +kernel, by decide +kernel⟩, List.mem_of_getElem? (i := 777) (by decide +kernel), List.mem_of_getElem? (i := 932) (by decide +kernel), List.mem_of_getElem? (i := 933) (by decide +kernel)⟩
def lw_privs_3 : List (MethodName × Nat) := [(⟨"FsckDeskModel", "inodes", "()V"⟩, 9), (⟨"FsckDeskModel", "isSound", "(I)Z"⟩, 9), (⟨"FsckDeskModel", "size", "(I)I"⟩, 9), (⟨"FsckDeskModel", "blocks", "(I)I"⟩, 9), (⟨"FsckDeskModel", "mark", "(I)Z"⟩, 9), (⟨"FsckDeskModel", "block", "(II)I"⟩, 9), (⟨"FsckDeskModel", "kind", "(I)I"⟩, 9), (⟨"FsckDeskModel", "make", "(I)V"⟩, 9), (⟨"FsckDeskModel", "free", "(I)I"⟩, 9), (⟨"FsckDeskModel", "directory", "(II)V"⟩, 9), (⟨"FsckDeskModel", "entries", "()V"⟩, 9), (⟨"FsckDeskModel", "places", "(I)I"⟩, 9), (⟨"FsckDeskModel", "entry", "(II)I"⟩, 9), (⟨"FsckDeskModel", "dots", "(I)V"⟩, 9), (⟨"FsckDeskModel", "write", "(II)V"⟩, 9), (⟨"FsckDeskModel", "lostName", "()V"⟩, 9)]
theorem lw_r3 : ∀ q ∈ lw_privs_3, lw_okq q := List.forall_mem_cons.mpr ⟨lw_p32, List.forall_mem_cons.mpr ⟨lw_p33, List.forall_mem_cons.mpr ⟨lw_p34, List.forall_mem_cons.mpr ⟨lw_p35, List.forall_mem_cons.mpr ⟨lw_p36, List.forall_mem_cons.mpr ⟨lw_p37, List.forall_mem_cons.mpr ⟨lw_p38, List.forall_mem_cons.mpr ⟨lw_p39, List.forall_mem_cons.mpr ⟨lw_p40, List.forall_mem_cons.mpr ⟨lw_p41, List.forall_mem_cons.mpr ⟨lw_p42, List.forall_mem_cons.mpr ⟨lw_p43, List.forall_mem_cons.mpr ⟨lw_p44, List.forall_mem_cons.mpr ⟨lw_p45, List.forall_mem_cons.mpr ⟨lw_p46, List.forall_mem_cons.mpr ⟨lw_p47, fun _ h => absurd h List.not_mem_nil⟩⟩⟩⟩⟩⟩⟩⟩⟩⟩⟩⟩⟩⟩⟩⟩
theorem lw_p48 : lw_okq (⟨"FsckDeskModel", "isValid", "(II)Z"⟩, 9) := ⟨⟨by decide +kernel, by decide +kernel⟩, List.mem_of_getElem? (i := 777) (by decide +kernel), List.mem_of_getElem? (i := 938) (by decide +kernel), List.mem_of_getElem? (i := 939) (by decide +kernel)⟩
theorem lw_p49 : lw_okq (⟨"FsckDeskModel", "find", "(II)I"⟩, 9) := ⟨⟨by decide +kernel, by decide +kernel⟩, List.mem_of_getElem? (i := 777) (by decide +kernel), List.mem_of_getElem? (i := 942) (by decide +kernel), List.mem_of_getElem? (i := 943) (by decide +kernel)⟩
theorem lw_p50 : lw_okq (⟨"FsckDeskModel", "isName", "(I)Z"⟩, 9) := ⟨⟨by decide +kernel, by decide +kernel⟩, List.mem_of_getElem? (i := 777) (by decide +kernel), List.mem_of_getElem? (i := 946) (by decide +kernel), List.mem_of_getElem? (i := 947) (by decide +kernel)⟩
theorem lw_p51 : lw_okq (⟨"FsckDeskModel", "connect", "()V"⟩, 9) := ⟨⟨by decide +kernel, by decide +kernel⟩, List.mem_of_getElem? (i := 777) (by decide +kernel), List.mem_of_getElem? (i := 950) (by decide +kernel), List.mem_of_getElem? (i := 951) (by decide +kernel)⟩
theorem lw_p52 : lw_okq (⟨"FsckDeskModel", "reach", "(I)V"⟩, 9) := ⟨⟨by decide +kernel, by decide +kernel⟩, List.mem_of_getElem? (i := 777) (by decide +kernel), List.mem_of_getElem? (i := 954) (by decide +kernel), List.mem_of_getElem? (i := 955) (by decide +kernel)⟩
theorem lw_p53 : lw_okq (⟨"FsckDeskModel", "go", "()V"⟩, 9) := ⟨⟨by decide +kernel, by decide +kernel⟩, List.mem_of_getElem? (i := 777) (by decide +kernel), List.mem_of_getElem? (i := 958) (by decide +kernel), List.mem_of_getElem? (i := 959) (by decide +kernel)⟩
theorem lw_p54 : lw_okq (⟨"FsckDeskModel", "lostNameOf", "(I)Z"⟩, 9) := ⟨⟨by decide +kernel, by decide +kernel⟩, List.mem_of_getElem? (i := 777) (by decide +kernel), List.mem_of_getElem? (i := 962) (by decide +kernel), List.mem_of_getElem? (i := 963) (by decide +kernel)⟩
theorem lw_p55 : lw_okq (⟨"FsckDeskModel", "putEntry", "(II)Z"⟩, 9) := ⟨⟨by decide +kernel, by decide +kernel⟩, List.mem_of_getElem? (i := 777) (by decide +kernel), List.mem_of_getElem? (i := 966) (by decide +kernel), List.mem_of_getElem? (i := 967) (by decide +kernel)⟩
theorem lw_p56 : lw_okq (⟨"FsckDeskModel", "grow", "(II)Z"⟩, 9) := ⟨⟨by decide +kernel, by decide +kernel⟩, List.mem_of_getElem? (i := 777) (by decide +kernel), List.mem_of_getElem? (i := 970) (by decide +kernel), List.mem_of_getElem? (i := 971) (by decide +kernel)⟩
theorem lw_p57 : lw_okq (⟨"FsckDeskModel", "drop", "(I)V"⟩, 9) := ⟨⟨by decide +kernel, by decide +kernel⟩, List.mem_of_getElem? (i := 777) (by decide +kernel), List.mem_of_getElem? (i := 974) (by decide +kernel), List.mem_of_getElem? (i := 975) (by decide +kernel)⟩
theorem lw_p58 : lw_okq (⟨"FsckDeskModel", "finish", "()V"⟩, 9) := ⟨⟨by decide +kernel, by decide +kernel⟩, List.mem_of_getElem? (i := 777) (by decide +kernel), List.mem_of_getElem? (i := 978) (by decide +kernel), List.mem_of_getElem? (i := 979) (by decide +kernel)⟩
theorem lw_p59 : lw_okq (⟨"FsckDeskModel", "count", "(I)I"⟩, 9) := ⟨⟨by decide +kernel, by decide +kernel⟩, List.mem_of_getElem? (i := 777) (by decide +kernel), List.mem_of_getElem? (i := 982) (by decide +kernel), List.mem_of_getElem? (i := 983) (by decide +kernel)⟩
theorem lw_p60 : lw_okq (⟨"FsckDeskModel", "written", "(IZ)I"⟩, 9) := ⟨⟨by decide +kernel, by decide +kernel⟩, List.mem_of_getElem? (i := 777) (by decide +kernel), List.mem_of_getElem? (i := 986) (by decide +kernel), List.mem_of_getElem? (i := 987) (by decide +kernel)⟩
theorem lw_p61 : lw_okq (⟨"FsckDeskModel", "differs", "(I)Z"⟩, 9) := ⟨⟨by decide +kernel, by decide +kernel⟩, List.mem_of_getElem? (i := 777) (by decide +kernel), List.mem_of_getElem? (i := 990) (by decide +kernel), List.mem_of_getElem? (i := 991) (by decide +kernel)⟩
theorem lw_p62 : lw_okq (⟨"FsckDeskModel", "nameOf", "(J)V"⟩, 9) := ⟨⟨by decide +kernel, by decide +kernel⟩, List.mem_of_getElem? (i := 777) (by decide +kernel), List.mem_of_getElem? (i := 1030) (by decide +kernel), List.mem_of_getElem? (i := 1031) (by decide +kernel)⟩
theorem lw_p63 : lw_okq (⟨"FsckDeskModel", "mayPut", "(IJ)Z"⟩, 9) := ⟨⟨by decide +kernel, by decide +kernel⟩, List.mem_of_getElem? (i := 777) (by decide +kernel), List.mem_of_getElem? (i := 1039) (by decide +kernel), List.mem_of_getElem? (i := 1040) (by decide +kernel)⟩
def lw_privs_4 : List (MethodName × Nat) := [(⟨"FsckDeskModel", "isValid", "(II)Z"⟩, 9), (⟨"FsckDeskModel", "find", "(II)I"⟩, 9), (⟨"FsckDeskModel", "isName", "(I)Z"⟩, 9), (⟨"FsckDeskModel", "connect", "()V"⟩, 9), (⟨"FsckDeskModel", "reach", "(I)V"⟩, 9), (⟨"FsckDeskModel", "go", "()V"⟩, 9), (⟨"FsckDeskModel", "lostNameOf", "(I)Z"⟩, 9), (⟨"FsckDeskModel", "putEntry", "(II)Z"⟩, 9), (⟨"FsckDeskModel", "grow", "(II)Z"⟩, 9), (⟨"FsckDeskModel", "drop", "(I)V"⟩, 9), (⟨"FsckDeskModel", "finish", "()V"⟩, 9), (⟨"FsckDeskModel", "count", "(I)I"⟩, 9), (⟨"FsckDeskModel", "written", "(IZ)I"⟩, 9), (⟨"FsckDeskModel", "differs", "(I)Z"⟩, 9), (⟨"FsckDeskModel", "nameOf", "(J)V"⟩, 9), (⟨"FsckDeskModel", "mayPut", "(IJ)Z"⟩, 9)]
theorem lw_r4 : ∀ q ∈ lw_privs_4, lw_okq q := List.forall_mem_cons.mpr ⟨lw_p48, List.forall_mem_cons.mpr ⟨lw_p49, List.forall_mem_cons.mpr ⟨lw_p50, List.forall_mem_cons.mpr ⟨lw_p51, List.forall_mem_cons.mpr ⟨lw_p52, List.forall_mem_cons.mpr ⟨lw_p53, List.forall_mem_cons.mpr ⟨lw_p54, List.forall_mem_cons.mpr ⟨lw_p55, List.forall_mem_cons.mpr ⟨lw_p56, List.forall_mem_cons.mpr ⟨lw_p57, List.forall_mem_cons.mpr ⟨lw_p58, List.forall_mem_cons.mpr ⟨lw_p59, List.forall_mem_cons.mpr ⟨lw_p60, List.forall_mem_cons.mpr ⟨lw_p61, List.forall_mem_cons.mpr ⟨lw_p62, List.forall_mem_cons.mpr ⟨lw_p63, fun _ h => absurd h List.not_mem_nil⟩⟩⟩⟩⟩⟩⟩⟩⟩⟩⟩⟩⟩⟩⟩⟩
def lw_privs : List (MethodName × Nat) := lw_privs_1 ++ (lw_privs_2 ++ (lw_privs_3 ++ (lw_privs_4)))
def lw_tbl : List Cond := k2_sels lw_privs ++ tables_1
theorem lw_privs_ok : ∀ q ∈ lw_privs, lw_okq q := by
  show ∀ q ∈ lw_privs_1 ++ (lw_privs_2 ++ (lw_privs_3 ++ (lw_privs_4))), lw_okq q
  exact List.forall_mem_append.mpr ⟨lw_r1, List.forall_mem_append.mpr ⟨lw_r2, List.forall_mem_append.mpr ⟨lw_r3, lw_r4⟩⟩⟩
end
section
def RX0 : String := "FsckDesk$Connector"
def TX0 : u_T := fun k => match k with
  | 0 => ("FsckDesk$Connector", "image", "LFsckDesk$Image;", true)
  | 1 => ("FsckDesk$Connector", "inodes", "LFsckDesk$Inodes;", true)
  | 2 => ("FsckDesk$Connector", "directories", "LFsckDesk$Directories;", true)
  | 3 => ("FsckDesk$Connector", "name", "LFsckDesk$Name;", true)
  | 4 => ("FsckDesk$Connector", "queue", "[I", true)
  | 5 => ("FsckDesk$Connector", "head", "I", false)
  | 6 => ("FsckDesk$Connector", "tail", "I", false)
  | _ => ("FsckDesk$Connector", "reached", "I", false)
def tyX0 : Nat → FieldType := fun k => match k with
  | 0 => .object "FsckDesk$Image"
  | 1 => .object "FsckDesk$Inodes"
  | 2 => .object "FsckDesk$Directories"
  | 3 => .object "FsckDesk$Name"
  | 4 => .array .int
  | 5 => .int
  | 6 => .int
  | _ => .int
theorem nmX0 : ∀ a, a < 8 → ∀ b, b < 8 → a ≠ b → (TX0 a).2.1 ≠ (TX0 b).2.1 := by decide +kernel
theorem tyX0_ok : ∀ k, k < 8 → parseFieldDescriptor (TX0 k).2.2.1 = some (tyX0 k) := by decide +kernel
abbrev cX0_init : ByteArray := prog_2_method_1_code
def yX0_init : MethodName := ⟨RX0, "<init>", "(LFsckDesk$Image;LFsckDesk$Inodes;LFsckDesk$Directories;)V"⟩
abbrev cX0_connect : ByteArray := prog_2_method_2_code
def yX0_connect : MethodName := ⟨RX0, "connect", "()V"⟩
abbrev cX0_isReached : ByteArray := prog_2_method_3_code
def yX0_isReached : MethodName := ⟨RX0, "isReached", "(I)Z"⟩
abbrev cX0_reach : ByteArray := prog_2_method_4_code
def yX0_reach : MethodName := ⟨RX0, "reach", "(I)V"⟩
abbrev cX0_goThrough : ByteArray := prog_2_method_5_code
def yX0_goThrough : MethodName := ⟨RX0, "goThrough", "()V"⟩
abbrev cX0_follow : ByteArray := prog_2_method_6_code
def yX0_follow : MethodName := ⟨RX0, "follow", "(II)V"⟩
abbrev cX0_findName : ByteArray := prog_2_method_7_code
def yX0_findName : MethodName := ⟨RX0, "findName", "(I)Z"⟩
abbrev cX0_putAway : ByteArray := prog_2_method_8_code
def yX0_putAway : MethodName := ⟨RX0, "putAway", "(II)V"⟩
def RX1 : String := "FsckDesk$Directories"
def TX1 : u_T := fun k => match k with
  | 0 => ("FsckDesk$Directories", "image", "LFsckDesk$Image;", true)
  | 1 => ("FsckDesk$Directories", "inodes", "LFsckDesk$Inodes;", true)
  | _ => ("FsckDesk$Directories", "name", "LFsckDesk$Name;", true)
def tyX1 : Nat → FieldType := fun k => match k with
  | 0 => .object "FsckDesk$Image"
  | 1 => .object "FsckDesk$Inodes"
  | _ => .object "FsckDesk$Name"
theorem nmX1 : ∀ a, a < 3 → ∀ b, b < 3 → a ≠ b → (TX1 a).2.1 ≠ (TX1 b).2.1 := by decide +kernel
theorem tyX1_ok : ∀ k, k < 3 → parseFieldDescriptor (TX1 k).2.2.1 = some (tyX1 k) := by decide +kernel
abbrev cX1_init : ByteArray := prog_3_method_1_code
def yX1_init : MethodName := ⟨RX1, "<init>", "(LFsckDesk$Image;LFsckDesk$Inodes;)V"⟩
abbrev cX1_entryCount : ByteArray := prog_3_method_2_code
def yX1_entryCount : MethodName := ⟨RX1, "entryCount", "(I)I"⟩
abbrev cX1_entryPlace : ByteArray := prog_3_method_3_code
def yX1_entryPlace : MethodName := ⟨RX1, "entryPlace", "(II)I"⟩
abbrev cX1_seek : ByteArray := prog_3_method_4_code
def yX1_seek : MethodName := ⟨RX1, "seek", "(ILFsckDesk$Name;)I"⟩
abbrev cX1_isNamed : ByteArray := prog_3_method_5_code
def yX1_isNamed : MethodName := ⟨RX1, "isNamed", "(ILFsckDesk$Name;)Z"⟩
abbrev cX1_writeEntry : ByteArray := prog_3_method_6_code
def yX1_writeEntry : MethodName := ⟨RX1, "writeEntry", "(IILFsckDesk$Name;)V"⟩
abbrev cX1_wipeEntry : ByteArray := prog_3_method_7_code
def yX1_wipeEntry : MethodName := ⟨RX1, "wipeEntry", "(I)V"⟩
abbrev cX1_writeDots : ByteArray := prog_3_method_8_code
def yX1_writeDots : MethodName := ⟨RX1, "writeDots", "(II)V"⟩
abbrev cX1_setParent : ByteArray := prog_3_method_9_code
def yX1_setParent : MethodName := ⟨RX1, "setParent", "(II)V"⟩
abbrev cX1_begin : ByteArray := prog_3_method_10_code
def yX1_begin : MethodName := ⟨RX1, "begin", "(II)Z"⟩
abbrev cX1_roomIn : ByteArray := prog_3_method_11_code
def yX1_roomIn : MethodName := ⟨RX1, "roomIn", "(I)I"⟩
abbrev cX1_isEmpty : ByteArray := prog_3_method_12_code
def yX1_isEmpty : MethodName := ⟨RX1, "isEmpty", "(I)Z"⟩
abbrev cX1_tidy : ByteArray := prog_3_method_13_code
def yX1_tidy : MethodName := ⟨RX1, "tidy", "(I)V"⟩
abbrev cX1_isValid : ByteArray := prog_3_method_14_code
def yX1_isValid : MethodName := ⟨RX1, "isValid", "(II)Z"⟩
abbrev cX1_wipeEntriesOf : ByteArray := prog_3_method_15_code
def yX1_wipeEntriesOf : MethodName := ⟨RX1, "wipeEntriesOf", "(I)V"⟩
abbrev cX1_countLinks : ByteArray := prog_3_method_16_code
def yX1_countLinks : MethodName := ⟨RX1, "countLinks", "()V"⟩
abbrev cX1_countLink : ByteArray := prog_3_method_17_code
def yX1_countLink : MethodName := ⟨RX1, "countLink", "(II)V"⟩
def RX2 : String := "FsckDesk$Image"
def TX2 : u_T := fun k => match k with
  | _ => ("FsckDesk$Image", "bytes", "[I", true)
def tyX2 : Nat → FieldType := fun k => match k with
  | _ => .array .int
theorem nmX2 : ∀ a, a < 1 → ∀ b, b < 1 → a ≠ b → (TX2 a).2.1 ≠ (TX2 b).2.1 := by decide +kernel
theorem tyX2_ok : ∀ k, k < 1 → parseFieldDescriptor (TX2 k).2.2.1 = some (tyX2 k) := by decide +kernel
abbrev cX2_init : ByteArray := prog_4_method_1_code
def yX2_init : MethodName := ⟨RX2, "<init>", "()V"⟩
abbrev cX2_at : ByteArray := prog_4_method_2_code
def yX2_at : MethodName := ⟨RX2, "at", "(I)I"⟩
abbrev cX2_set : ByteArray := prog_4_method_3_code
def yX2_set : MethodName := ⟨RX2, "set", "(II)V"⟩
abbrev cX2_pairAt : ByteArray := prog_4_method_4_code
def yX2_pairAt : MethodName := ⟨RX2, "pairAt", "(I)I"⟩
abbrev cX2_setPair : ByteArray := prog_4_method_5_code
def yX2_setPair : MethodName := ⟨RX2, "setPair", "(II)V"⟩
abbrev cX2_hasText : ByteArray := prog_4_method_6_code
def yX2_hasText : MethodName := ⟨RX2, "hasText", "(ILjava/lang/String;)Z"⟩
abbrev cX2_setText : ByteArray := prog_4_method_7_code
def yX2_setText : MethodName := ⟨RX2, "setText", "(ILjava/lang/String;)V"⟩
abbrev cX2_wipe : ByteArray := prog_4_method_8_code
def yX2_wipe : MethodName := ⟨RX2, "wipe", "(II)V"⟩
abbrev cX2_isBlank : ByteArray := prog_4_method_9_code
def yX2_isBlank : MethodName := ⟨RX2, "isBlank", "(II)Z"⟩
abbrev cX2_sum : ByteArray := prog_4_method_10_code
def yX2_sum : MethodName := ⟨RX2, "sum", "(II)I"⟩
abbrev cX2_isRange : ByteArray := prog_4_method_11_code
def yX2_isRange : MethodName := ⟨RX2, "isRange", "(II)Z"⟩
abbrev cX2_copyBlock : ByteArray := prog_4_method_12_code
def yX2_copyBlock : MethodName := ⟨RX2, "copyBlock", "(ILFsckDesk$Image;I)V"⟩
abbrev cX2_copyAll : ByteArray := prog_4_method_13_code
def yX2_copyAll : MethodName := ⟨RX2, "copyAll", "(LFsckDesk$Image;)V"⟩
abbrev cX2_sameBlock : ByteArray := prog_4_method_14_code
def yX2_sameBlock : MethodName := ⟨RX2, "sameBlock", "(ILFsckDesk$Image;)Z"⟩
def RX3 : String := "FsckDesk$InodePass"
def TX3 : u_T := fun k => match k with
  | 0 => ("FsckDesk$InodePass", "image", "LFsckDesk$Image;", true)
  | 1 => ("FsckDesk$InodePass", "inodes", "LFsckDesk$Inodes;", true)
  | _ => ("FsckDesk$InodePass", "directories", "LFsckDesk$Directories;", true)
def tyX3 : Nat → FieldType := fun k => match k with
  | 0 => .object "FsckDesk$Image"
  | 1 => .object "FsckDesk$Inodes"
  | _ => .object "FsckDesk$Directories"
theorem nmX3 : ∀ a, a < 3 → ∀ b, b < 3 → a ≠ b → (TX3 a).2.1 ≠ (TX3 b).2.1 := by decide +kernel
theorem tyX3_ok : ∀ k, k < 3 → parseFieldDescriptor (TX3 k).2.2.1 = some (tyX3 k) := by decide +kernel
abbrev cX3_init : ByteArray := prog_5_method_1_code
def yX3_init : MethodName := ⟨RX3, "<init>", "(LFsckDesk$Image;LFsckDesk$Inodes;LFsckDesk$Directories;)V"⟩
abbrev cX3_keepSound : ByteArray := prog_5_method_2_code
def yX3_keepSound : MethodName := ⟨RX3, "keepSound", "()V"⟩
abbrev cX3_hasSoundHead : ByteArray := prog_5_method_3_code
def yX3_hasSoundHead : MethodName := ⟨RX3, "hasSoundHead", "(I)Z"⟩
abbrev cX3_hasSoundSize : ByteArray := prog_5_method_4_code
def yX3_hasSoundSize : MethodName := ⟨RX3, "hasSoundSize", "(I)Z"⟩
abbrev cX3_hasBlankRest : ByteArray := prog_5_method_5_code
def yX3_hasBlankRest : MethodName := ⟨RX3, "hasBlankRest", "(I)Z"⟩
abbrev cX3_provide : ByteArray := prog_5_method_6_code
def yX3_provide : MethodName := ⟨RX3, "provide", "(I)V"⟩
def RX4 : String := "FsckDesk$Inodes"
def TX4 : u_T := fun k => match k with
  | 0 => ("FsckDesk$Inodes", "image", "LFsckDesk$Image;", true)
  | _ => ("FsckDesk$Inodes", "taken", "J", false)
def tyX4 : Nat → FieldType := fun k => match k with
  | 0 => .object "FsckDesk$Image"
  | _ => .long
theorem nmX4 : ∀ a, a < 2 → ∀ b, b < 2 → a ≠ b → (TX4 a).2.1 ≠ (TX4 b).2.1 := by decide +kernel
theorem tyX4_ok : ∀ k, k < 2 → parseFieldDescriptor (TX4 k).2.2.1 = some (tyX4 k) := by decide +kernel
abbrev cX4_init : ByteArray := prog_6_method_1_code
def yX4_init : MethodName := ⟨RX4, "<init>", "(LFsckDesk$Image;)V"⟩
abbrev cX4_isNumber : ByteArray := prog_6_method_2_code
def yX4_isNumber : MethodName := ⟨RX4, "isNumber", "(I)Z"⟩
abbrev cX4_placeOf : ByteArray := prog_6_method_3_code
def yX4_placeOf : MethodName := ⟨RX4, "placeOf", "(I)I"⟩
abbrev cX4_kind : ByteArray := prog_6_method_4_code
def yX4_kind : MethodName := ⟨RX4, "kind", "(I)I"⟩
abbrev cX4_links : ByteArray := prog_6_method_5_code
def yX4_links : MethodName := ⟨RX4, "links", "(I)I"⟩
abbrev cX4_size : ByteArray := prog_6_method_6_code
def yX4_size : MethodName := ⟨RX4, "size", "(I)I"⟩
abbrev cX4_setLinks : ByteArray := prog_6_method_7_code
def yX4_setLinks : MethodName := ⟨RX4, "setLinks", "(II)V"⟩
abbrev cX4_setSize : ByteArray := prog_6_method_8_code
def yX4_setSize : MethodName := ⟨RX4, "setSize", "(II)V"⟩
abbrev cX4_rightSum : ByteArray := prog_6_method_9_code
def yX4_rightSum : MethodName := ⟨RX4, "rightSum", "(I)I"⟩
abbrev cX4_writeSum : ByteArray := prog_6_method_10_code
def yX4_writeSum : MethodName := ⟨RX4, "writeSum", "(I)V"⟩
abbrev cX4_blockCount : ByteArray := prog_6_method_11_code
def yX4_blockCount : MethodName := ⟨RX4, "blockCount", "(I)I"⟩
abbrev cX4_contentPlace : ByteArray := prog_6_method_12_code
def yX4_contentPlace : MethodName := ⟨RX4, "contentPlace", "(II)I"⟩
abbrev cX4_blocksOf : ByteArray := prog_6_method_13_code
def yX4_blocksOf : MethodName := ⟨RX4, "blocksOf", "(I)J"⟩
abbrev cX4_withBlock : ByteArray := prog_6_method_14_code
def yX4_withBlock : MethodName := ⟨RX4, "withBlock", "(JI)J"⟩
abbrev cX4_taken : ByteArray := prog_6_method_15_code
def yX4_taken : MethodName := ⟨RX4, "taken", "()J"⟩
abbrev cX4_forgetTaken : ByteArray := prog_6_method_16_code
def yX4_forgetTaken : MethodName := ⟨RX4, "forgetTaken", "()V"⟩
abbrev cX4_takeBlocks : ByteArray := prog_6_method_17_code
def yX4_takeBlocks : MethodName := ⟨RX4, "takeBlocks", "(I)Z"⟩
abbrev cX4_firstFree : ByteArray := prog_6_method_18_code
def yX4_firstFree : MethodName := ⟨RX4, "firstFree", "()I"⟩
abbrev cX4_hasFreeBlock : ByteArray := prog_6_method_19_code
def yX4_hasFreeBlock : MethodName := ⟨RX4, "hasFreeBlock", "()Z"⟩
abbrev cX4_takeFreeBlock : ByteArray := prog_6_method_20_code
def yX4_takeFreeBlock : MethodName := ⟨RX4, "takeFreeBlock", "()I"⟩
abbrev cX4_begin : ByteArray := prog_6_method_21_code
def yX4_begin : MethodName := ⟨RX4, "begin", "(II)V"⟩
abbrev cX4_addBlock : ByteArray := prog_6_method_22_code
def yX4_addBlock : MethodName := ⟨RX4, "addBlock", "(I)I"⟩
abbrev cX4_erase : ByteArray := prog_6_method_23_code
def yX4_erase : MethodName := ⟨RX4, "erase", "(I)V"⟩
abbrev cX4_wipe : ByteArray := prog_6_method_24_code
def yX4_wipe : MethodName := ⟨RX4, "wipe", "(I)V"⟩
def RX5 : String := "FsckDesk$Journal"
def TX5 : u_T := fun k => match k with
  | _ => ("", "", "", false)
def tyX5 : Nat → FieldType := fun k => match k with
  | _ => .int
theorem nmX5 : ∀ a, a < 0 → ∀ b, b < 0 → a ≠ b → (TX5 a).2.1 ≠ (TX5 b).2.1 := by decide +kernel
theorem tyX5_ok : ∀ k, k < 0 → parseFieldDescriptor (TX5 k).2.2.1 = some (tyX5 k) := by decide +kernel
abbrev cX5_write : ByteArray := prog_7_method_2_code
def yX5_write : MethodName := ⟨RX5, "write", "(LFsckDesk$Image;JI)V"⟩
abbrev cX5_writeSum : ByteArray := prog_7_method_3_code
def yX5_writeSum : MethodName := ⟨RX5, "writeSum", "(LFsckDesk$Image;)V"⟩
abbrev cX5_replay : ByteArray := prog_7_method_4_code
def yX5_replay : MethodName := ⟨RX5, "replay", "(LFsckDesk$Image;)V"⟩
abbrev cX5_isGood : ByteArray := prog_7_method_5_code
def yX5_isGood : MethodName := ⟨RX5, "isGood", "(LFsckDesk$Image;)Z"⟩
abbrev cX5_hasGoodTargets : ByteArray := prog_7_method_6_code
def yX5_hasGoodTargets : MethodName := ⟨RX5, "hasGoodTargets", "(LFsckDesk$Image;I)Z"⟩
abbrev cX5_rightSum : ByteArray := prog_7_method_7_code
def yX5_rightSum : MethodName := ⟨RX5, "rightSum", "(LFsckDesk$Image;)I"⟩
def RX6 : String := "FsckDesk$Name"
def TX6 : u_T := fun k => match k with
  | 0 => ("FsckDesk$Name", "bytes", "[I", true)
  | _ => ("FsckDesk$Name", "length", "I", false)
def tyX6 : Nat → FieldType := fun k => match k with
  | 0 => .array .int
  | _ => .int
theorem nmX6 : ∀ a, a < 2 → ∀ b, b < 2 → a ≠ b → (TX6 a).2.1 ≠ (TX6 b).2.1 := by decide +kernel
theorem tyX6_ok : ∀ k, k < 2 → parseFieldDescriptor (TX6 k).2.2.1 = some (tyX6 k) := by decide +kernel
abbrev cX6_init : ByteArray := prog_8_method_1_code
def yX6_init : MethodName := ⟨RX6, "<init>", "()V"⟩
abbrev cX6_length : ByteArray := prog_8_method_2_code
def yX6_length : MethodName := ⟨RX6, "length", "()I"⟩
abbrev cX6_at : ByteArray := prog_8_method_3_code
def yX6_at : MethodName := ⟨RX6, "at", "(I)I"⟩
abbrev cX6_add : ByteArray := prog_8_method_4_code
def yX6_add : MethodName := ⟨RX6, "add", "(I)V"⟩
abbrev cX6_spell : ByteArray := prog_8_method_5_code
def yX6_spell : MethodName := ⟨RX6, "spell", "(Ljava/lang/String;)V"⟩
abbrev cX6_unpack : ByteArray := prog_8_method_6_code
def yX6_unpack : MethodName := ⟨RX6, "unpack", "(J)V"⟩
abbrev cX6_load : ByteArray := prog_8_method_7_code
def yX6_load : MethodName := ⟨RX6, "load", "(LFsckDesk$Image;II)V"⟩
abbrev cX6_number : ByteArray := prog_8_method_8_code
def yX6_number : MethodName := ⟨RX6, "number", "(II)V"⟩
abbrev cX6_isAllowed : ByteArray := prog_8_method_9_code
def yX6_isAllowed : MethodName := ⟨RX6, "isAllowed", "()Z"⟩
def RX7 : String := "FsckDesk$Repairer"
def TX7 : u_T := fun k => match k with
  | 0 => ("FsckDesk$Repairer", "disk", "LFsckDesk$Image;", true)
  | 1 => ("FsckDesk$Repairer", "planned", "LFsckDesk$Image;", true)
  | 2 => ("FsckDesk$Repairer", "inodes", "LFsckDesk$Inodes;", true)
  | 3 => ("FsckDesk$Repairer", "directories", "LFsckDesk$Directories;", true)
  | 4 => ("FsckDesk$Repairer", "inodePass", "LFsckDesk$InodePass;", true)
  | _ => ("FsckDesk$Repairer", "connector", "LFsckDesk$Connector;", true)
def tyX7 : Nat → FieldType := fun k => match k with
  | 0 => .object "FsckDesk$Image"
  | 1 => .object "FsckDesk$Image"
  | 2 => .object "FsckDesk$Inodes"
  | 3 => .object "FsckDesk$Directories"
  | 4 => .object "FsckDesk$InodePass"
  | _ => .object "FsckDesk$Connector"
theorem nmX7 : ∀ a, a < 6 → ∀ b, b < 6 → a ≠ b → (TX7 a).2.1 ≠ (TX7 b).2.1 := by decide +kernel
theorem tyX7_ok : ∀ k, k < 6 → parseFieldDescriptor (TX7 k).2.2.1 = some (tyX7 k) := by decide +kernel
abbrev cX7_init : ByteArray := prog_9_method_1_code
def yX7_init : MethodName := ⟨RX7, "<init>", "(LFsckDesk$Image;LFsckDesk$Image;LFsckDesk$Inodes;LFsckDesk$Directories;)V"⟩
abbrev cX7_plan : ByteArray := prog_9_method_2_code
def yX7_plan : MethodName := ⟨RX7, "plan", "()I"⟩
abbrev cX7_settle : ByteArray := prog_9_method_3_code
def yX7_settle : MethodName := ⟨RX7, "settle", "()V"⟩
abbrev cX7_writeMaps : ByteArray := prog_9_method_4_code
def yX7_writeMaps : MethodName := ⟨RX7, "writeMaps", "()V"⟩
abbrev cX7_markUsed : ByteArray := prog_9_method_5_code
def yX7_markUsed : MethodName := ⟨RX7, "markUsed", "(II)V"⟩
abbrev cX7_countDiffering : ByteArray := prog_9_method_6_code
def yX7_countDiffering : MethodName := ⟨RX7, "countDiffering", "()I"⟩
abbrev cX7_writeBlocks : ByteArray := prog_9_method_7_code
def yX7_writeBlocks : MethodName := ⟨RX7, "writeBlocks", "(I)I"⟩
abbrev cX7_keepPlan : ByteArray := prog_9_method_8_code
def yX7_keepPlan : MethodName := ⟨RX7, "keepPlan", "()V"⟩
def RX8 : String := "FsckDesk$Super"
def TX8 : u_T := fun k => match k with
  | _ => ("", "", "", false)
def tyX8 : Nat → FieldType := fun k => match k with
  | _ => .int
theorem nmX8 : ∀ a, a < 0 → ∀ b, b < 0 → a ≠ b → (TX8 a).2.1 ≠ (TX8 b).2.1 := by decide +kernel
theorem tyX8_ok : ∀ k, k < 0 → parseFieldDescriptor (TX8 k).2.2.1 = some (tyX8 k) := by decide +kernel
abbrev cX8_isGood : ByteArray := prog_10_method_2_code
def yX8_isGood : MethodName := ⟨RX8, "isGood", "(LFsckDesk$Image;I)Z"⟩
abbrev cX8_write : ByteArray := prog_10_method_3_code
def yX8_write : MethodName := ⟨RX8, "write", "(LFsckDesk$Image;III)V"⟩
abbrev cX8_writeSum : ByteArray := prog_10_method_4_code
def yX8_writeSum : MethodName := ⟨RX8, "writeSum", "(LFsckDesk$Image;I)V"⟩
def RX9 : String := "FsckDesk$Writer"
def TX9 : u_T := fun k => match k with
  | 0 => ("FsckDesk$Writer", "image", "LFsckDesk$Image;", true)
  | 1 => ("FsckDesk$Writer", "inodes", "LFsckDesk$Inodes;", true)
  | _ => ("FsckDesk$Writer", "directories", "LFsckDesk$Directories;", true)
def tyX9 : Nat → FieldType := fun k => match k with
  | 0 => .object "FsckDesk$Image"
  | 1 => .object "FsckDesk$Inodes"
  | _ => .object "FsckDesk$Directories"
theorem nmX9 : ∀ a, a < 3 → ∀ b, b < 3 → a ≠ b → (TX9 a).2.1 ≠ (TX9 b).2.1 := by decide +kernel
theorem tyX9_ok : ∀ k, k < 3 → parseFieldDescriptor (TX9 k).2.2.1 = some (tyX9 k) := by decide +kernel
abbrev cX9_init : ByteArray := prog_11_method_1_code
def yX9_init : MethodName := ⟨RX9, "<init>", "(LFsckDesk$Image;LFsckDesk$Inodes;LFsckDesk$Directories;)V"⟩
abbrev cX9_create : ByteArray := prog_11_method_2_code
def yX9_create : MethodName := ⟨RX9, "create", "(ILFsckDesk$Name;I)I"⟩
abbrev cX9_addEntry : ByteArray := prog_11_method_3_code
def yX9_addEntry : MethodName := ⟨RX9, "addEntry", "(ILFsckDesk$Name;I)Z"⟩
abbrev cX9_mayEnter : ByteArray := prog_11_method_4_code
def yX9_mayEnter : MethodName := ⟨RX9, "mayEnter", "(ILFsckDesk$Name;)Z"⟩
abbrev cX9_enter : ByteArray := prog_11_method_5_code
def yX9_enter : MethodName := ⟨RX9, "enter", "(ILFsckDesk$Name;I)Z"⟩
abbrev cX9_lengthen : ByteArray := prog_11_method_6_code
def yX9_lengthen : MethodName := ⟨RX9, "lengthen", "(II)Z"⟩
abbrev cX9_removeEntry : ByteArray := prog_11_method_7_code
def yX9_removeEntry : MethodName := ⟨RX9, "removeEntry", "(ILFsckDesk$Name;)Z"⟩
def RX10 : String := "FsckDesk"
def TX10 : u_T := fun k => match k with
  | 0 => ("FsckDesk", "disk", "LFsckDesk$Image;", true)
  | 1 => ("FsckDesk", "diskInodes", "LFsckDesk$Inodes;", true)
  | 2 => ("FsckDesk", "diskDirectories", "LFsckDesk$Directories;", true)
  | 3 => ("FsckDesk", "repairer", "LFsckDesk$Repairer;", true)
  | 4 => ("FsckDesk", "writer", "LFsckDesk$Writer;", true)
  | _ => ("FsckDesk", "wanted", "LFsckDesk$Name;", true)
def tyX10 : Nat → FieldType := fun k => match k with
  | 0 => .object "FsckDesk$Image"
  | 1 => .object "FsckDesk$Inodes"
  | 2 => .object "FsckDesk$Directories"
  | 3 => .object "FsckDesk$Repairer"
  | 4 => .object "FsckDesk$Writer"
  | _ => .object "FsckDesk$Name"
theorem nmX10 : ∀ a, a < 6 → ∀ b, b < 6 → a ≠ b → (TX10 a).2.1 ≠ (TX10 b).2.1 := by decide +kernel
theorem tyX10_ok : ∀ k, k < 6 → parseFieldDescriptor (TX10 k).2.2.1 = some (tyX10 k) := by decide +kernel
abbrev cX10_init : ByteArray := prog_1_method_1_code
def yX10_init : MethodName := ⟨RX10, "<init>", "()V"⟩
abbrev cX10_format : ByteArray := prog_1_method_2_code
def yX10_format : MethodName := ⟨RX10, "format", "()I"⟩
abbrev cX10_poke : ByteArray := prog_1_method_3_code
def yX10_poke : MethodName := ⟨RX10, "poke", "(II)Z"⟩
abbrev cX10_peek : ByteArray := prog_1_method_4_code
def yX10_peek : MethodName := ⟨RX10, "peek", "(I)I"⟩
abbrev cX10_seal : ByteArray := prog_1_method_5_code
def yX10_seal : MethodName := ⟨RX10, "seal", "(I)Z"⟩
abbrev cX10_commit : ByteArray := prog_1_method_6_code
def yX10_commit : MethodName := ⟨RX10, "commit", "(JI)Z"⟩
abbrev cX10_check : ByteArray := prog_1_method_7_code
def yX10_check : MethodName := ⟨RX10, "check", "()I"⟩
abbrev cX10_repair : ByteArray := prog_1_method_8_code
def yX10_repair : MethodName := ⟨RX10, "repair", "(I)I"⟩
abbrev cX10_inode : ByteArray := prog_1_method_9_code
def yX10_inode : MethodName := ⟨RX10, "inode", "(II)I"⟩
abbrev cX10_read : ByteArray := prog_1_method_10_code
def yX10_read : MethodName := ⟨RX10, "read", "(II)I"⟩
abbrev cX10_find : ByteArray := prog_1_method_11_code
def yX10_find : MethodName := ⟨RX10, "find", "(IJ)I"⟩
abbrev cX10_make : ByteArray := prog_1_method_12_code
def yX10_make : MethodName := ⟨RX10, "make", "(IJI)I"⟩
abbrev cX10_append : ByteArray := prog_1_method_13_code
def yX10_append : MethodName := ⟨RX10, "append", "(II)Z"⟩
abbrev cX10_link : ByteArray := prog_1_method_14_code
def yX10_link : MethodName := ⟨RX10, "link", "(IJI)Z"⟩
abbrev cX10_unlink : ByteArray := prog_1_method_15_code
def yX10_unlink : MethodName := ⟨RX10, "unlink", "(IJ)Z"⟩
abbrev cX10_isPlace : ByteArray := prog_1_method_16_code
def yX10_isPlace : MethodName := ⟨RX10, "isPlace", "(I)Z"⟩
abbrev cX10_isByte : ByteArray := prog_1_method_17_code
def yX10_isByte : MethodName := ⟨RX10, "isByte", "(I)Z"⟩
abbrev cX10_isDataBlock : ByteArray := prog_1_method_18_code
def yX10_isDataBlock : MethodName := ⟨RX10, "isDataBlock", "(I)Z"⟩
def RX11 : String := "FsckDeskModel"
def TX11 : u_T := fun k => match k with
  | 0 => ("FsckDeskModel", "disk", "[I", true)
  | 1 => ("FsckDeskModel", "w", "[I", true)
  | 2 => ("FsckDeskModel", "taken", "[Z", true)
  | 3 => ("FsckDeskModel", "reached", "[Z", true)
  | 4 => ("FsckDeskModel", "queue", "[I", true)
  | 5 => ("FsckDeskModel", "head", "I", false)
  | 6 => ("FsckDeskModel", "tail", "I", false)
  | 7 => ("FsckDeskModel", "name", "[I", true)
  | _ => ("FsckDeskModel", "nameLength", "I", false)
def tyX11 : Nat → FieldType := fun k => match k with
  | 0 => .array .int
  | 1 => .array .int
  | 2 => .array .boolean
  | 3 => .array .boolean
  | 4 => .array .int
  | 5 => .int
  | 6 => .int
  | 7 => .array .int
  | _ => .int
theorem nmX11 : ∀ a, a < 9 → ∀ b, b < 9 → a ≠ b → (TX11 a).2.1 ≠ (TX11 b).2.1 := by decide +kernel
theorem tyX11_ok : ∀ k, k < 9 → parseFieldDescriptor (TX11 k).2.2.1 = some (tyX11 k) := by decide +kernel
abbrev cX11_init : ByteArray := prog_13_method_1_code
def yX11_init : MethodName := ⟨RX11, "<init>", "()V"⟩
abbrev cX11_two : ByteArray := prog_13_method_2_code
def yX11_two : MethodName := ⟨RX11, "two", "(I)I"⟩
abbrev cX11_put : ByteArray := prog_13_method_3_code
def yX11_put : MethodName := ⟨RX11, "put", "(II)V"⟩
abbrev cX11_sum : ByteArray := prog_13_method_4_code
def yX11_sum : MethodName := ⟨RX11, "sum", "(II)I"⟩
abbrev cX11_clear : ByteArray := prog_13_method_5_code
def yX11_clear : MethodName := ⟨RX11, "clear", "(II)V"⟩
abbrev cX11_isClear : ByteArray := prog_13_method_6_code
def yX11_isClear : MethodName := ⟨RX11, "isClear", "(II)Z"⟩
abbrev cX11_has : ByteArray := prog_13_method_7_code
def yX11_has : MethodName := ⟨RX11, "has", "(IIIII)Z"⟩
abbrev cX11_load : ByteArray := prog_13_method_8_code
def yX11_load : MethodName := ⟨RX11, "load", "()V"⟩
abbrev cX11_store : ByteArray := prog_13_method_9_code
def yX11_store : MethodName := ⟨RX11, "store", "()V"⟩
abbrev cX11_isSuper : ByteArray := prog_13_method_10_code
def yX11_isSuper : MethodName := ⟨RX11, "isSuper", "(I)Z"⟩
abbrev cX11_base : ByteArray := prog_13_method_11_code
def yX11_base : MethodName := ⟨RX11, "base", "(I)I"⟩
abbrev cX11_kind : ByteArray := prog_13_method_12_code
def yX11_kind : MethodName := ⟨RX11, "kind", "(I)I"⟩
abbrev cX11_size : ByteArray := prog_13_method_13_code
def yX11_size : MethodName := ⟨RX11, "size", "(I)I"⟩
abbrev cX11_blocks : ByteArray := prog_13_method_14_code
def yX11_blocks : MethodName := ⟨RX11, "blocks", "(I)I"⟩
abbrev cX11_block : ByteArray := prog_13_method_15_code
def yX11_block : MethodName := ⟨RX11, "block", "(II)I"⟩
abbrev cX11_mark : ByteArray := prog_13_method_16_code
def yX11_mark : MethodName := ⟨RX11, "mark", "(I)Z"⟩
abbrev cX11_isSound : ByteArray := prog_13_method_17_code
def yX11_isSound : MethodName := ⟨RX11, "isSound", "(I)Z"⟩
abbrev cX11_free : ByteArray := prog_13_method_18_code
def yX11_free : MethodName := ⟨RX11, "free", "(I)I"⟩
abbrev cX11_places : ByteArray := prog_13_method_19_code
def yX11_places : MethodName := ⟨RX11, "places", "(I)I"⟩
abbrev cX11_entry : ByteArray := prog_13_method_20_code
def yX11_entry : MethodName := ⟨RX11, "entry", "(II)I"⟩
abbrev cX11_write : ByteArray := prog_13_method_21_code
def yX11_write : MethodName := ⟨RX11, "write", "(II)V"⟩
abbrev cX11_dots : ByteArray := prog_13_method_22_code
def yX11_dots : MethodName := ⟨RX11, "dots", "(I)V"⟩
abbrev cX11_isName : ByteArray := prog_13_method_23_code
def yX11_isName : MethodName := ⟨RX11, "isName", "(I)Z"⟩
abbrev cX11_find : ByteArray := prog_13_method_24_code
def yX11_find : MethodName := ⟨RX11, "find", "(II)I"⟩
abbrev cX11_isValid : ByteArray := prog_13_method_25_code
def yX11_isValid : MethodName := ⟨RX11, "isValid", "(II)Z"⟩
abbrev cX11_lostName : ByteArray := prog_13_method_26_code
def yX11_lostName : MethodName := ⟨RX11, "lostName", "()V"⟩
abbrev cX11_replay : ByteArray := prog_13_method_27_code
def yX11_replay : MethodName := ⟨RX11, "replay", "()V"⟩
abbrev cX11_inodes : ByteArray := prog_13_method_28_code
def yX11_inodes : MethodName := ⟨RX11, "inodes", "()V"⟩
abbrev cX11_make : ByteArray := prog_13_method_29_code
def yX11_make : MethodName := ⟨RX11, "make", "(I)V"⟩
abbrev cX11_directory : ByteArray := prog_13_method_30_code
def yX11_directory : MethodName := ⟨RX11, "directory", "(II)V"⟩
abbrev cX11_entries : ByteArray := prog_13_method_31_code
def yX11_entries : MethodName := ⟨RX11, "entries", "()V"⟩
abbrev cX11_reach : ByteArray := prog_13_method_32_code
def yX11_reach : MethodName := ⟨RX11, "reach", "(I)V"⟩
abbrev cX11_go : ByteArray := prog_13_method_33_code
def yX11_go : MethodName := ⟨RX11, "go", "()V"⟩
abbrev cX11_connect : ByteArray := prog_13_method_34_code
def yX11_connect : MethodName := ⟨RX11, "connect", "()V"⟩
abbrev cX11_lostNameOf : ByteArray := prog_13_method_35_code
def yX11_lostNameOf : MethodName := ⟨RX11, "lostNameOf", "(I)Z"⟩
abbrev cX11_grow : ByteArray := prog_13_method_36_code
def yX11_grow : MethodName := ⟨RX11, "grow", "(II)Z"⟩
abbrev cX11_putEntry : ByteArray := prog_13_method_37_code
def yX11_putEntry : MethodName := ⟨RX11, "putEntry", "(II)Z"⟩
abbrev cX11_drop : ByteArray := prog_13_method_38_code
def yX11_drop : MethodName := ⟨RX11, "drop", "(I)V"⟩
abbrev cX11_count : ByteArray := prog_13_method_39_code
def yX11_count : MethodName := ⟨RX11, "count", "(I)I"⟩
abbrev cX11_finish : ByteArray := prog_13_method_40_code
def yX11_finish : MethodName := ⟨RX11, "finish", "()V"⟩
abbrev cX11_superAt : ByteArray := prog_13_method_41_code
def yX11_superAt : MethodName := ⟨RX11, "superAt", "(III)V"⟩
abbrev cX11_passes : ByteArray := prog_13_method_42_code
def yX11_passes : MethodName := ⟨RX11, "passes", "()Z"⟩
abbrev cX11_differs : ByteArray := prog_13_method_43_code
def yX11_differs : MethodName := ⟨RX11, "differs", "(I)Z"⟩
abbrev cX11_written : ByteArray := prog_13_method_44_code
def yX11_written : MethodName := ⟨RX11, "written", "(IZ)I"⟩
abbrev cX11_format : ByteArray := prog_13_method_45_code
def yX11_format : MethodName := ⟨RX11, "format", "()I"⟩
abbrev cX11_poke : ByteArray := prog_13_method_46_code
def yX11_poke : MethodName := ⟨RX11, "poke", "(II)Z"⟩
abbrev cX11_peek : ByteArray := prog_13_method_47_code
def yX11_peek : MethodName := ⟨RX11, "peek", "(I)I"⟩
abbrev cX11_seal : ByteArray := prog_13_method_48_code
def yX11_seal : MethodName := ⟨RX11, "seal", "(I)Z"⟩
abbrev cX11_commit : ByteArray := prog_13_method_49_code
def yX11_commit : MethodName := ⟨RX11, "commit", "(JI)Z"⟩
abbrev cX11_check : ByteArray := prog_13_method_50_code
def yX11_check : MethodName := ⟨RX11, "check", "()I"⟩
abbrev cX11_repair : ByteArray := prog_13_method_51_code
def yX11_repair : MethodName := ⟨RX11, "repair", "(I)I"⟩
abbrev cX11_inode : ByteArray := prog_13_method_52_code
def yX11_inode : MethodName := ⟨RX11, "inode", "(II)I"⟩
abbrev cX11_read : ByteArray := prog_13_method_53_code
def yX11_read : MethodName := ⟨RX11, "read", "(II)I"⟩
abbrev cX11_nameOf : ByteArray := prog_13_method_54_code
def yX11_nameOf : MethodName := ⟨RX11, "nameOf", "(J)V"⟩
abbrev cX11_find_ : ByteArray := prog_13_method_55_code
def yX11_find_ : MethodName := ⟨RX11, "find", "(IJ)I"⟩
abbrev cX11_mayPut : ByteArray := prog_13_method_56_code
def yX11_mayPut : MethodName := ⟨RX11, "mayPut", "(IJ)Z"⟩
abbrev cX11_make_ : ByteArray := prog_13_method_57_code
def yX11_make_ : MethodName := ⟨RX11, "make", "(IJI)I"⟩
abbrev cX11_append : ByteArray := prog_13_method_58_code
def yX11_append : MethodName := ⟨RX11, "append", "(II)Z"⟩
abbrev cX11_link : ByteArray := prog_13_method_59_code
def yX11_link : MethodName := ⟨RX11, "link", "(IJI)Z"⟩
abbrev cX11_unlink : ByteArray := prog_13_method_60_code
def yX11_unlink : MethodName := ⟨RX11, "unlink", "(IJ)Z"⟩
def RJ13 : String := "java/lang/Long"
def TJ13 : u_T := fun k => match k with
  | _ => ("", "", "", false)
def tyJ13 : Nat → FieldType := fun k => match k with
  | _ => .int
theorem nmJ13 : ∀ a, a < 0 → ∀ b, b < 0 → a ≠ b → (TJ13 a).2.1 ≠ (TJ13 b).2.1 := by decide +kernel
theorem tyJ13_ok : ∀ k, k < 0 → parseFieldDescriptor (TJ13 k).2.2.1 = some (tyJ13 k) := by decide +kernel
abbrev cJ13_bitCount_95d88 : ByteArray := prog_14_method_50_code
def yJ13_bitCount_95d88 : MethodName := ⟨RJ13, "bitCount", "(J)I"⟩
def RJ9 : String := "java/lang/Math"
def TJ9 : u_T := fun k => match k with
  | _ => ("", "", "", false)
def tyJ9 : Nat → FieldType := fun k => match k with
  | _ => .int
theorem nmJ9 : ∀ a, a < 0 → ∀ b, b < 0 → a ≠ b → (TJ9 a).2.1 ≠ (TJ9 b).2.1 := by decide +kernel
theorem tyJ9_ok : ∀ k, k < 0 → parseFieldDescriptor (TJ9 k).2.2.1 = some (tyJ9 k) := by decide +kernel
abbrev cJ9_min_7cf53 : ByteArray := prog_15_method_69_code
def yJ9_min_7cf53 : MethodName := ⟨RJ9, "min", "(II)I"⟩
def RJ0 : String := "java/lang/String"
def TJ0 : u_T := fun k => match k with
  | _ => ("", "", "", false)
def tyJ0 : Nat → FieldType := fun k => match k with
  | _ => .int
theorem nmJ0 : ∀ a, a < 0 → ∀ b, b < 0 → a ≠ b → (TJ0 a).2.1 ≠ (TJ0 b).2.1 := by decide +kernel
theorem tyJ0_ok : ∀ k, k < 0 → parseFieldDescriptor (TJ0 k).2.2.1 = some (tyJ0 k) := by decide +kernel
abbrev cJ0_length_8abf5 : ByteArray := prog_16_method_54_code
def yJ0_length_8abf5 : MethodName := ⟨RJ0, "length", "()I"⟩
abbrev cJ0_charAt_5068e : ByteArray := prog_16_method_56_code
def yJ0_charAt_5068e : MethodName := ⟨RJ0, "charAt", "(I)C"⟩
abbrev cJ0_coder_7d493 : ByteArray := prog_16_method_152_code
def yJ0_coder_7d493 : MethodName := ⟨RJ0, "coder", "()B"⟩
abbrev cJ0_isLatin1_aae02 : ByteArray := prog_16_method_154_code
def yJ0_isLatin1_aae02 : MethodName := ⟨RJ0, "isLatin1", "()Z"⟩
abbrev cJ0_checkIndex_df160 : ByteArray := prog_16_method_155_code
def yJ0_checkIndex_df160 : MethodName := ⟨RJ0, "checkIndex", "(II)V"⟩
def RJ1 : String := "java/lang/StringLatin1"
def TJ1 : u_T := fun k => match k with
  | _ => ("", "", "", false)
def tyJ1 : Nat → FieldType := fun k => match k with
  | _ => .int
theorem nmJ1 : ∀ a, a < 0 → ∀ b, b < 0 → a ≠ b → (TJ1 a).2.1 ≠ (TJ1 b).2.1 := by decide +kernel
theorem tyJ1_ok : ∀ k, k < 0 → parseFieldDescriptor (TJ1 k).2.2.1 = some (tyJ1 k) := by decide +kernel
abbrev cJ1_charAt_3b067 : ByteArray := prog_17_method_2_code
def yJ1_charAt_3b067 : MethodName := ⟨RJ1, "charAt", "([BI)C"⟩
def RJ2 : String := "java/lang/StringUTF16"
def TJ2 : u_T := fun k => match k with
  | _ => ("", "", "", false)
def tyJ2 : Nat → FieldType := fun k => match k with
  | _ => .int
theorem nmJ2 : ∀ a, a < 0 → ∀ b, b < 0 → a ≠ b → (TJ2 a).2.1 ≠ (TJ2 b).2.1 := by decide +kernel
theorem tyJ2_ok : ∀ k, k < 0 → parseFieldDescriptor (TJ2 k).2.2.1 = some (tyJ2 k) := by decide +kernel
abbrev cJ2_getChar_3b067 : ByteArray := prog_18_method_5_code
def yJ2_getChar_3b067 : MethodName := ⟨RJ2, "getChar", "([BI)C"⟩
abbrev cJ2_length_9d52b : ByteArray := prog_18_method_6_code
def yJ2_length_9d52b : MethodName := ⟨RJ2, "length", "([B)I"⟩
abbrev cJ2_charAt_3b067 : ByteArray := prog_18_method_83_code
def yJ2_charAt_3b067 : MethodName := ⟨RJ2, "charAt", "([BI)C"⟩
abbrev cJ2_checkIndex_2214a : ByteArray := prog_18_method_91_code
def yJ2_checkIndex_2214a : MethodName := ⟨RJ2, "checkIndex", "(I[B)V"⟩
def RJ10 : String := "java/lang/System"
def TJ10 : u_T := fun k => match k with
  | _ => ("", "", "", false)
def tyJ10 : Nat → FieldType := fun k => match k with
  | _ => .int
theorem nmJ10 : ∀ a, a < 0 → ∀ b, b < 0 → a ≠ b → (TJ10 a).2.1 ≠ (TJ10 b).2.1 := by decide +kernel
theorem tyJ10_ok : ∀ k, k < 0 → parseFieldDescriptor (TJ10 k).2.2.1 = some (tyJ10 k) := by decide +kernel
def RJ7 : String := "java/util/Arrays"
def TJ7 : u_T := fun k => match k with
  | _ => ("", "", "", false)
def tyJ7 : Nat → FieldType := fun k => match k with
  | _ => .int
theorem nmJ7 : ∀ a, a < 0 → ∀ b, b < 0 → a ≠ b → (TJ7 a).2.1 ≠ (TJ7 b).2.1 := by decide +kernel
theorem tyJ7_ok : ∀ k, k < 0 → parseFieldDescriptor (TJ7 k).2.2.1 = some (tyJ7 k) := by decide +kernel
abbrev cJ7_rangeCheck_23922 : ByteArray := prog_20_method_30_code
def yJ7_rangeCheck_23922 : MethodName := ⟨RJ7, "rangeCheck", "(III)V"⟩
abbrev cJ7_fill_fda19 : ByteArray := prog_20_method_104_code
def yJ7_fill_fda19 : MethodName := ⟨RJ7, "fill", "([IIII)V"⟩
def RJ3 : String := "jdk/internal/util/Preconditions"
def TJ3 : u_T := fun k => match k with
  | _ => ("", "", "", false)
def tyJ3 : Nat → FieldType := fun k => match k with
  | _ => .int
theorem nmJ3 : ∀ a, a < 0 → ∀ b, b < 0 → a ≠ b → (TJ3 a).2.1 ≠ (TJ3 b).2.1 := by decide +kernel
theorem tyJ3_ok : ∀ k, k < 0 → parseFieldDescriptor (TJ3 k).2.2.1 = some (tyJ3 k) := by decide +kernel
abbrev cJ3_checkIndex_8e157 : ByteArray := prog_21_method_11_code
def yJ3_checkIndex_8e157 : MethodName := ⟨RJ3, "checkIndex", "(IILjava/util/function/BiFunction;)I"⟩
def RL : String := "FsckDeskLaw"
abbrev cL_law : ByteArray := code
def yL_law : MethodName := ⟨RL, "law", "([I)Z"⟩
abbrev vwCl : List vw_C := [(RX0, TX0, 8), (RX1, TX1, 3), (RX2, TX2, 1), (RX3, TX3, 3), (RX4, TX4, 2), (RX6, TX6, 2), (RX7, TX7, 6), (RX9, TX9, 3), (RX10, TX10, 6), (RX11, TX11, 9)]
/-- the instruction at a place, and the place behind it -/
abbrev Dc (cc : ByteArray) (pc : Nat) (i : Instr) (n pc2 : Nat) : Prop := decode cc pc = .ok (i, n) ∧ pc + n = pc2
end
section
theorem dX0_init_0 : Dc cX0_init 0 (.aload_n 0) 1 1 := by decide +kernel
theorem dX0_init_1 : Dc cX0_init 1 (.invokespecial 3) 3 4 := by decide +kernel
theorem dX0_init_4 : Dc cX0_init 4 (.aload_n 0) 1 5 := by decide +kernel
theorem dX0_init_5 : Dc cX0_init 5 (.aload_n 1) 1 6 := by decide +kernel
theorem dX0_init_6 : Dc cX0_init 6 (.putfield 9) 3 9 := by decide +kernel
theorem dX0_init_9 : Dc cX0_init 9 (.aload_n 0) 1 10 := by decide +kernel
theorem dX0_init_10 : Dc cX0_init 10 (.aload_n 2) 1 11 := by decide +kernel
theorem dX0_init_11 : Dc cX0_init 11 (.putfield 15) 3 14 := by decide +kernel
theorem dX0_init_14 : Dc cX0_init 14 (.aload_n 0) 1 15 := by decide +kernel
theorem dX0_init_15 : Dc cX0_init 15 (.aload_n 3) 1 16 := by decide +kernel
theorem dX0_init_16 : Dc cX0_init 16 (.putfield 19) 3 19 := by decide +kernel
theorem dX0_init_19 : Dc cX0_init 19 (.aload_n 0) 1 20 := by decide +kernel
theorem dX0_init_20 : Dc cX0_init 20 (.new 23) 3 23 := by decide +kernel
theorem dX0_init_23 : Dc cX0_init 23 (.dup) 1 24 := by decide +kernel
theorem dX0_init_24 : Dc cX0_init 24 (.invokespecial 25) 3 27 := by decide +kernel
theorem dX0_init_27 : Dc cX0_init 27 (.putfield 26) 3 30 := by decide +kernel
theorem dX0_init_30 : Dc cX0_init 30 (.aload_n 0) 1 31 := by decide +kernel
theorem dX0_init_31 : Dc cX0_init 31 (.bipush 32) 2 33 := by decide +kernel
theorem dX0_init_33 : Dc cX0_init 33 (.newarray .int) 2 35 := by decide +kernel
theorem dX0_init_35 : Dc cX0_init 35 (.putfield 30) 3 38 := by decide +kernel
theorem dX0_init_38 : Dc cX0_init 38 (.return_) 1 39 := by decide +kernel
theorem dX0_connect_0 : Dc cX0_connect 0 (.aload_n 0) 1 1 := by decide +kernel
theorem dX0_connect_1 : Dc cX0_connect 1 (.iconst 0) 1 2 := by decide +kernel
theorem dX0_connect_2 : Dc cX0_connect 2 (.putfield 34) 3 5 := by decide +kernel
theorem dX0_connect_5 : Dc cX0_connect 5 (.aload_n 0) 1 6 := by decide +kernel
theorem dX0_connect_6 : Dc cX0_connect 6 (.iconst 0) 1 7 := by decide +kernel
theorem dX0_connect_7 : Dc cX0_connect 7 (.putfield 38) 3 10 := by decide +kernel
theorem dX0_connect_10 : Dc cX0_connect 10 (.aload_n 0) 1 11 := by decide +kernel
theorem dX0_connect_11 : Dc cX0_connect 11 (.iconst 0) 1 12 := by decide +kernel
theorem dX0_connect_12 : Dc cX0_connect 12 (.putfield 41) 3 15 := by decide +kernel
theorem dX0_connect_15 : Dc cX0_connect 15 (.aload_n 0) 1 16 := by decide +kernel
theorem dX0_connect_16 : Dc cX0_connect 16 (.getfield 15) 3 19 := by decide +kernel
theorem dX0_connect_19 : Dc cX0_connect 19 (.iconst 1) 1 20 := by decide +kernel
theorem dX0_connect_20 : Dc cX0_connect 20 (.invokevirtual 44) 3 23 := by decide +kernel
theorem dX0_connect_23 : Dc cX0_connect 23 (.ifCond .eq 12) 3 26 := by decide +kernel
theorem dX0_connect_26 : Dc cX0_connect 26 (.aload_n 0) 1 27 := by decide +kernel
theorem dX0_connect_27 : Dc cX0_connect 27 (.iconst 1) 1 28 := by decide +kernel
theorem dX0_connect_28 : Dc cX0_connect 28 (.invokevirtual 50) 3 31 := by decide +kernel
theorem dX0_connect_31 : Dc cX0_connect 31 (.aload_n 0) 1 32 := by decide +kernel
theorem dX0_connect_32 : Dc cX0_connect 32 (.invokevirtual 54) 3 35 := by decide +kernel
theorem dX0_connect_35 : Dc cX0_connect 35 (.iconst 1) 1 36 := by decide +kernel
theorem dX0_connect_36 : Dc cX0_connect 36 (.istore_n 1) 1 37 := by decide +kernel
theorem dX0_connect_37 : Dc cX0_connect 37 (.iload_n 1) 1 38 := by decide +kernel
theorem dX0_connect_38 : Dc cX0_connect 38 (.bipush 32) 2 40 := by decide +kernel
theorem dX0_connect_40 : Dc cX0_connect 40 (.if_icmp .ge 86) 3 43 := by decide +kernel
theorem dX0_connect_43 : Dc cX0_connect 43 (.aload_n 0) 1 44 := by decide +kernel
theorem dX0_connect_44 : Dc cX0_connect 44 (.getfield 15) 3 47 := by decide +kernel
theorem dX0_connect_47 : Dc cX0_connect 47 (.iload_n 1) 1 48 := by decide +kernel
theorem dX0_connect_48 : Dc cX0_connect 48 (.invokevirtual 44) 3 51 := by decide +kernel
theorem dX0_connect_51 : Dc cX0_connect 51 (.ifCond .eq 69) 3 54 := by decide +kernel
theorem dX0_connect_54 : Dc cX0_connect 54 (.aload_n 0) 1 55 := by decide +kernel
theorem dX0_connect_55 : Dc cX0_connect 55 (.iload_n 1) 1 56 := by decide +kernel
theorem dX0_connect_56 : Dc cX0_connect 56 (.invokevirtual 57) 3 59 := by decide +kernel
theorem dX0_connect_59 : Dc cX0_connect 59 (.ifCond .eq 6) 3 62 := by decide +kernel
theorem dX0_connect_62 : Dc cX0_connect 62 (.goto 58) 3 65 := by decide +kernel
theorem dX0_connect_65 : Dc cX0_connect 65 (.aload_n 0) 1 66 := by decide +kernel
theorem dX0_connect_66 : Dc cX0_connect 66 (.iload_n 1) 1 67 := by decide +kernel
theorem dX0_connect_67 : Dc cX0_connect 67 (.invokevirtual 61) 3 70 := by decide +kernel
theorem dX0_connect_70 : Dc cX0_connect 70 (.ifCond .eq 14) 3 73 := by decide +kernel
theorem dX0_connect_73 : Dc cX0_connect 73 (.aload_n 0) 1 74 := by decide +kernel
theorem dX0_connect_74 : Dc cX0_connect 74 (.getfield 19) 3 77 := by decide +kernel
theorem dX0_connect_77 : Dc cX0_connect 77 (.iconst 2) 1 78 := by decide +kernel
theorem dX0_connect_78 : Dc cX0_connect 78 (.invokevirtual 64) 3 81 := by decide +kernel
theorem dX0_connect_81 : Dc cX0_connect 81 (.goto 4) 3 84 := by decide +kernel
theorem dX0_connect_84 : Dc cX0_connect 84 (.iconst (-1)) 1 85 := by decide +kernel
theorem dX0_connect_85 : Dc cX0_connect 85 (.istore_n 2) 1 86 := by decide +kernel
theorem dX0_connect_86 : Dc cX0_connect 86 (.iload_n 2) 1 87 := by decide +kernel
theorem dX0_connect_87 : Dc cX0_connect 87 (.iconst (-1)) 1 88 := by decide +kernel
theorem dX0_connect_88 : Dc cX0_connect 88 (.if_icmp .eq 16) 3 91 := by decide +kernel
theorem dX0_connect_91 : Dc cX0_connect 91 (.aload_n 0) 1 92 := by decide +kernel
theorem dX0_connect_92 : Dc cX0_connect 92 (.iload_n 1) 1 93 := by decide +kernel
theorem dX0_connect_93 : Dc cX0_connect 93 (.iload_n 2) 1 94 := by decide +kernel
theorem dX0_connect_94 : Dc cX0_connect 94 (.invokevirtual 69) 3 97 := by decide +kernel
theorem dX0_connect_97 : Dc cX0_connect 97 (.aload_n 0) 1 98 := by decide +kernel
theorem dX0_connect_98 : Dc cX0_connect 98 (.invokevirtual 54) 3 101 := by decide +kernel
theorem dX0_connect_101 : Dc cX0_connect 101 (.goto 19) 3 104 := by decide +kernel
theorem dX0_connect_104 : Dc cX0_connect 104 (.aload_n 0) 1 105 := by decide +kernel
theorem dX0_connect_105 : Dc cX0_connect 105 (.getfield 15) 3 108 := by decide +kernel
theorem dX0_connect_108 : Dc cX0_connect 108 (.iload_n 1) 1 109 := by decide +kernel
theorem dX0_connect_109 : Dc cX0_connect 109 (.invokevirtual 73) 3 112 := by decide +kernel
theorem dX0_connect_112 : Dc cX0_connect 112 (.aload_n 0) 1 113 := by decide +kernel
theorem dX0_connect_113 : Dc cX0_connect 113 (.getfield 19) 3 116 := by decide +kernel
theorem dX0_connect_116 : Dc cX0_connect 116 (.iload_n 1) 1 117 := by decide +kernel
theorem dX0_connect_117 : Dc cX0_connect 117 (.invokevirtual 76) 3 120 := by decide +kernel
theorem dX0_connect_120 : Dc cX0_connect 120 (.iinc 1 1) 3 123 := by decide +kernel
theorem dX0_connect_123 : Dc cX0_connect 123 (.goto (-86)) 3 126 := by decide +kernel
theorem dX0_connect_126 : Dc cX0_connect 126 (.return_) 1 127 := by decide +kernel
theorem dX0_isReached_0 : Dc cX0_isReached 0 (.aload_n 0) 1 1 := by decide +kernel
theorem dX0_isReached_1 : Dc cX0_isReached 1 (.getfield 41) 3 4 := by decide +kernel
theorem dX0_isReached_4 : Dc cX0_isReached 4 (.iload_n 1) 1 5 := by decide +kernel
theorem dX0_isReached_5 : Dc cX0_isReached 5 (.ishr) 1 6 := by decide +kernel
theorem dX0_isReached_6 : Dc cX0_isReached 6 (.iconst 1) 1 7 := by decide +kernel
theorem dX0_isReached_7 : Dc cX0_isReached 7 (.iand) 1 8 := by decide +kernel
theorem dX0_isReached_8 : Dc cX0_isReached 8 (.ifCond .eq 7) 3 11 := by decide +kernel
theorem dX0_isReached_11 : Dc cX0_isReached 11 (.iconst 1) 1 12 := by decide +kernel
theorem dX0_isReached_12 : Dc cX0_isReached 12 (.goto 4) 3 15 := by decide +kernel
theorem dX0_isReached_15 : Dc cX0_isReached 15 (.iconst 0) 1 16 := by decide +kernel
theorem dX0_isReached_16 : Dc cX0_isReached 16 (.ireturn) 1 17 := by decide +kernel
theorem dX0_reach_0 : Dc cX0_reach 0 (.aload_n 0) 1 1 := by decide +kernel
theorem dX0_reach_1 : Dc cX0_reach 1 (.dup) 1 2 := by decide +kernel
theorem dX0_reach_2 : Dc cX0_reach 2 (.getfield 41) 3 5 := by decide +kernel
theorem dX0_reach_5 : Dc cX0_reach 5 (.iconst 1) 1 6 := by decide +kernel
theorem dX0_reach_6 : Dc cX0_reach 6 (.iload_n 1) 1 7 := by decide +kernel
theorem dX0_reach_7 : Dc cX0_reach 7 (.ishl) 1 8 := by decide +kernel
theorem dX0_reach_8 : Dc cX0_reach 8 (.ior) 1 9 := by decide +kernel
theorem dX0_reach_9 : Dc cX0_reach 9 (.putfield 41) 3 12 := by decide +kernel
theorem dX0_reach_12 : Dc cX0_reach 12 (.aload_n 0) 1 13 := by decide +kernel
theorem dX0_reach_13 : Dc cX0_reach 13 (.getfield 15) 3 16 := by decide +kernel
theorem dX0_reach_16 : Dc cX0_reach 16 (.iload_n 1) 1 17 := by decide +kernel
theorem dX0_reach_17 : Dc cX0_reach 17 (.invokevirtual 44) 3 20 := by decide +kernel
theorem dX0_reach_20 : Dc cX0_reach 20 (.iconst 2) 1 21 := by decide +kernel
theorem dX0_reach_21 : Dc cX0_reach 21 (.if_icmp .ne 39) 3 24 := by decide +kernel
theorem dX0_reach_24 : Dc cX0_reach 24 (.aload_n 0) 1 25 := by decide +kernel
theorem dX0_reach_25 : Dc cX0_reach 25 (.getfield 38) 3 28 := by decide +kernel
theorem dX0_reach_28 : Dc cX0_reach 28 (.ifCond .lt 32) 3 31 := by decide +kernel
theorem dX0_reach_31 : Dc cX0_reach 31 (.aload_n 0) 1 32 := by decide +kernel
theorem dX0_reach_32 : Dc cX0_reach 32 (.getfield 38) 3 35 := by decide +kernel
theorem dX0_reach_35 : Dc cX0_reach 35 (.bipush 32) 2 37 := by decide +kernel
theorem dX0_reach_37 : Dc cX0_reach 37 (.if_icmp .ge 23) 3 40 := by decide +kernel
theorem dX0_reach_40 : Dc cX0_reach 40 (.aload_n 0) 1 41 := by decide +kernel
theorem dX0_reach_41 : Dc cX0_reach 41 (.getfield 30) 3 44 := by decide +kernel
theorem dX0_reach_44 : Dc cX0_reach 44 (.aload_n 0) 1 45 := by decide +kernel
theorem dX0_reach_45 : Dc cX0_reach 45 (.getfield 38) 3 48 := by decide +kernel
theorem dX0_reach_48 : Dc cX0_reach 48 (.iload_n 1) 1 49 := by decide +kernel
theorem dX0_reach_49 : Dc cX0_reach 49 (.iastore) 1 50 := by decide +kernel
theorem dX0_reach_50 : Dc cX0_reach 50 (.aload_n 0) 1 51 := by decide +kernel
theorem dX0_reach_51 : Dc cX0_reach 51 (.dup) 1 52 := by decide +kernel
theorem dX0_reach_52 : Dc cX0_reach 52 (.getfield 38) 3 55 := by decide +kernel
theorem dX0_reach_55 : Dc cX0_reach 55 (.iconst 1) 1 56 := by decide +kernel
theorem dX0_reach_56 : Dc cX0_reach 56 (.iadd) 1 57 := by decide +kernel
theorem dX0_reach_57 : Dc cX0_reach 57 (.putfield 38) 3 60 := by decide +kernel
theorem dX0_reach_60 : Dc cX0_reach 60 (.return_) 1 61 := by decide +kernel
theorem dX0_goThrough_0 : Dc cX0_goThrough 0 (.aload_n 0) 1 1 := by decide +kernel
theorem dX0_goThrough_1 : Dc cX0_goThrough 1 (.getfield 34) 3 4 := by decide +kernel
theorem dX0_goThrough_4 : Dc cX0_goThrough 4 (.ifCond .lt 82) 3 7 := by decide +kernel
theorem dX0_goThrough_7 : Dc cX0_goThrough 7 (.aload_n 0) 1 8 := by decide +kernel
theorem dX0_goThrough_8 : Dc cX0_goThrough 8 (.getfield 34) 3 11 := by decide +kernel
theorem dX0_goThrough_11 : Dc cX0_goThrough 11 (.aload_n 0) 1 12 := by decide +kernel
theorem dX0_goThrough_12 : Dc cX0_goThrough 12 (.getfield 38) 3 15 := by decide +kernel
theorem dX0_goThrough_15 : Dc cX0_goThrough 15 (.if_icmp .ge 71) 3 18 := by decide +kernel
theorem dX0_goThrough_18 : Dc cX0_goThrough 18 (.aload_n 0) 1 19 := by decide +kernel
theorem dX0_goThrough_19 : Dc cX0_goThrough 19 (.getfield 34) 3 22 := by decide +kernel
theorem dX0_goThrough_22 : Dc cX0_goThrough 22 (.bipush 32) 2 24 := by decide +kernel
theorem dX0_goThrough_24 : Dc cX0_goThrough 24 (.if_icmp .ge 62) 3 27 := by decide +kernel
theorem dX0_goThrough_27 : Dc cX0_goThrough 27 (.aload_n 0) 1 28 := by decide +kernel
theorem dX0_goThrough_28 : Dc cX0_goThrough 28 (.getfield 30) 3 31 := by decide +kernel
theorem dX0_goThrough_31 : Dc cX0_goThrough 31 (.aload_n 0) 1 32 := by decide +kernel
theorem dX0_goThrough_32 : Dc cX0_goThrough 32 (.getfield 34) 3 35 := by decide +kernel
theorem dX0_goThrough_35 : Dc cX0_goThrough 35 (.iaload) 1 36 := by decide +kernel
theorem dX0_goThrough_36 : Dc cX0_goThrough 36 (.istore_n 1) 1 37 := by decide +kernel
theorem dX0_goThrough_37 : Dc cX0_goThrough 37 (.aload_n 0) 1 38 := by decide +kernel
theorem dX0_goThrough_38 : Dc cX0_goThrough 38 (.getfield 19) 3 41 := by decide +kernel
theorem dX0_goThrough_41 : Dc cX0_goThrough 41 (.iload_n 1) 1 42 := by decide +kernel
theorem dX0_goThrough_42 : Dc cX0_goThrough 42 (.invokevirtual 79) 3 45 := by decide +kernel
theorem dX0_goThrough_45 : Dc cX0_goThrough 45 (.istore_n 2) 1 46 := by decide +kernel
theorem dX0_goThrough_46 : Dc cX0_goThrough 46 (.iconst 2) 1 47 := by decide +kernel
theorem dX0_goThrough_47 : Dc cX0_goThrough 47 (.istore_n 3) 1 48 := by decide +kernel
theorem dX0_goThrough_48 : Dc cX0_goThrough 48 (.iload_n 3) 1 49 := by decide +kernel
theorem dX0_goThrough_49 : Dc cX0_goThrough 49 (.iload_n 2) 1 50 := by decide +kernel
theorem dX0_goThrough_50 : Dc cX0_goThrough 50 (.if_icmp .ge 23) 3 53 := by decide +kernel
theorem dX0_goThrough_53 : Dc cX0_goThrough 53 (.aload_n 0) 1 54 := by decide +kernel
theorem dX0_goThrough_54 : Dc cX0_goThrough 54 (.iload_n 1) 1 55 := by decide +kernel
theorem dX0_goThrough_55 : Dc cX0_goThrough 55 (.aload_n 0) 1 56 := by decide +kernel
theorem dX0_goThrough_56 : Dc cX0_goThrough 56 (.getfield 19) 3 59 := by decide +kernel
theorem dX0_goThrough_59 : Dc cX0_goThrough 59 (.iload_n 1) 1 60 := by decide +kernel
theorem dX0_goThrough_60 : Dc cX0_goThrough 60 (.iload_n 3) 1 61 := by decide +kernel
theorem dX0_goThrough_61 : Dc cX0_goThrough 61 (.invokevirtual 82) 3 64 := by decide +kernel
theorem dX0_goThrough_64 : Dc cX0_goThrough 64 (.invokevirtual 86) 3 67 := by decide +kernel
theorem dX0_goThrough_67 : Dc cX0_goThrough 67 (.iinc 3 1) 3 70 := by decide +kernel
theorem dX0_goThrough_70 : Dc cX0_goThrough 70 (.goto (-22)) 3 73 := by decide +kernel
theorem dX0_goThrough_73 : Dc cX0_goThrough 73 (.aload_n 0) 1 74 := by decide +kernel
theorem dX0_goThrough_74 : Dc cX0_goThrough 74 (.dup) 1 75 := by decide +kernel
theorem dX0_goThrough_75 : Dc cX0_goThrough 75 (.getfield 34) 3 78 := by decide +kernel
theorem dX0_goThrough_78 : Dc cX0_goThrough 78 (.iconst 1) 1 79 := by decide +kernel
theorem dX0_goThrough_79 : Dc cX0_goThrough 79 (.iadd) 1 80 := by decide +kernel
theorem dX0_goThrough_80 : Dc cX0_goThrough 80 (.putfield 34) 3 83 := by decide +kernel
theorem dX0_goThrough_83 : Dc cX0_goThrough 83 (.goto (-83)) 3 86 := by decide +kernel
theorem dX0_goThrough_86 : Dc cX0_goThrough 86 (.return_) 1 87 := by decide +kernel
theorem dX0_follow_0 : Dc cX0_follow 0 (.aload_n 0) 1 1 := by decide +kernel
theorem dX0_follow_1 : Dc cX0_follow 1 (.getfield 9) 3 4 := by decide +kernel
theorem dX0_follow_4 : Dc cX0_follow 4 (.iload_n 2) 1 5 := by decide +kernel
theorem dX0_follow_5 : Dc cX0_follow 5 (.invokevirtual 89) 3 8 := by decide +kernel
theorem dX0_follow_8 : Dc cX0_follow 8 (.istore_n 3) 1 9 := by decide +kernel
theorem dX0_follow_9 : Dc cX0_follow 9 (.aload_n 0) 1 10 := by decide +kernel
theorem dX0_follow_10 : Dc cX0_follow 10 (.getfield 15) 3 13 := by decide +kernel
theorem dX0_follow_13 : Dc cX0_follow 13 (.iload_n 3) 1 14 := by decide +kernel
theorem dX0_follow_14 : Dc cX0_follow 14 (.invokevirtual 44) 3 17 := by decide +kernel
theorem dX0_follow_17 : Dc cX0_follow 17 (.istore 4) 2 19 := by decide +kernel
theorem dX0_follow_19 : Dc cX0_follow 19 (.iload 4) 2 21 := by decide +kernel
theorem dX0_follow_21 : Dc cX0_follow 21 (.iconst 2) 1 22 := by decide +kernel
theorem dX0_follow_22 : Dc cX0_follow 22 (.if_icmp .ne 22) 3 25 := by decide +kernel
theorem dX0_follow_25 : Dc cX0_follow 25 (.aload_n 0) 1 26 := by decide +kernel
theorem dX0_follow_26 : Dc cX0_follow 26 (.iload_n 3) 1 27 := by decide +kernel
theorem dX0_follow_27 : Dc cX0_follow 27 (.invokevirtual 57) 3 30 := by decide +kernel
theorem dX0_follow_30 : Dc cX0_follow 30 (.ifCond .eq 14) 3 33 := by decide +kernel
theorem dX0_follow_33 : Dc cX0_follow 33 (.aload_n 0) 1 34 := by decide +kernel
theorem dX0_follow_34 : Dc cX0_follow 34 (.getfield 19) 3 37 := by decide +kernel
theorem dX0_follow_37 : Dc cX0_follow 37 (.iload_n 2) 1 38 := by decide +kernel
theorem dX0_follow_38 : Dc cX0_follow 38 (.invokevirtual 94) 3 41 := by decide +kernel
theorem dX0_follow_41 : Dc cX0_follow 41 (.goto 22) 3 44 := by decide +kernel
theorem dX0_follow_44 : Dc cX0_follow 44 (.iload 4) 2 46 := by decide +kernel
theorem dX0_follow_46 : Dc cX0_follow 46 (.ifCond .eq 17) 3 49 := by decide +kernel
theorem dX0_follow_49 : Dc cX0_follow 49 (.aload_n 0) 1 50 := by decide +kernel
theorem dX0_follow_50 : Dc cX0_follow 50 (.iload_n 3) 1 51 := by decide +kernel
theorem dX0_follow_51 : Dc cX0_follow 51 (.invokevirtual 50) 3 54 := by decide +kernel
theorem dX0_follow_54 : Dc cX0_follow 54 (.aload_n 0) 1 55 := by decide +kernel
theorem dX0_follow_55 : Dc cX0_follow 55 (.getfield 19) 3 58 := by decide +kernel
theorem dX0_follow_58 : Dc cX0_follow 58 (.iload_n 3) 1 59 := by decide +kernel
theorem dX0_follow_59 : Dc cX0_follow 59 (.iload_n 1) 1 60 := by decide +kernel
theorem dX0_follow_60 : Dc cX0_follow 60 (.invokevirtual 97) 3 63 := by decide +kernel
theorem dX0_follow_63 : Dc cX0_follow 63 (.return_) 1 64 := by decide +kernel
theorem dX0_findName_0 : Dc cX0_findName 0 (.aload_n 0) 1 1 := by decide +kernel
theorem dX0_findName_1 : Dc cX0_findName 1 (.iconst 2) 1 2 := by decide +kernel
theorem dX0_findName_2 : Dc cX0_findName 2 (.invokevirtual 57) 3 5 := by decide +kernel
theorem dX0_findName_5 : Dc cX0_findName 5 (.ifCond .eq 8) 3 8 := by decide +kernel
theorem dX0_findName_8 : Dc cX0_findName 8 (.bipush 12) 2 10 := by decide +kernel
theorem dX0_findName_10 : Dc cX0_findName 10 (.goto 4) 3 13 := by decide +kernel
theorem dX0_findName_13 : Dc cX0_findName 13 (.iconst 0) 1 14 := by decide +kernel
theorem dX0_findName_14 : Dc cX0_findName 14 (.istore_n 2) 1 15 := by decide +kernel
theorem dX0_findName_15 : Dc cX0_findName 15 (.iconst 1) 1 16 := by decide +kernel
theorem dX0_findName_16 : Dc cX0_findName 16 (.istore_n 3) 1 17 := by decide +kernel
theorem dX0_findName_17 : Dc cX0_findName 17 (.iload_n 3) 1 18 := by decide +kernel
theorem dX0_findName_18 : Dc cX0_findName 18 (.iload_n 2) 1 19 := by decide +kernel
theorem dX0_findName_19 : Dc cX0_findName 19 (.if_icmp .gt 36) 3 22 := by decide +kernel
theorem dX0_findName_22 : Dc cX0_findName 22 (.aload_n 0) 1 23 := by decide +kernel
theorem dX0_findName_23 : Dc cX0_findName 23 (.getfield 26) 3 26 := by decide +kernel
theorem dX0_findName_26 : Dc cX0_findName 26 (.iload_n 3) 1 27 := by decide +kernel
theorem dX0_findName_27 : Dc cX0_findName 27 (.iload_n 1) 1 28 := by decide +kernel
theorem dX0_findName_28 : Dc cX0_findName 28 (.invokevirtual 100) 3 31 := by decide +kernel
theorem dX0_findName_31 : Dc cX0_findName 31 (.aload_n 0) 1 32 := by decide +kernel
theorem dX0_findName_32 : Dc cX0_findName 32 (.getfield 19) 3 35 := by decide +kernel
theorem dX0_findName_35 : Dc cX0_findName 35 (.iconst 2) 1 36 := by decide +kernel
theorem dX0_findName_36 : Dc cX0_findName 36 (.aload_n 0) 1 37 := by decide +kernel
theorem dX0_findName_37 : Dc cX0_findName 37 (.getfield 26) 3 40 := by decide +kernel
theorem dX0_findName_40 : Dc cX0_findName 40 (.invokevirtual 103) 3 43 := by decide +kernel
theorem dX0_findName_43 : Dc cX0_findName 43 (.iconst (-1)) 1 44 := by decide +kernel
theorem dX0_findName_44 : Dc cX0_findName 44 (.if_icmp .ne 5) 3 47 := by decide +kernel
theorem dX0_findName_47 : Dc cX0_findName 47 (.iconst 1) 1 48 := by decide +kernel
theorem dX0_findName_48 : Dc cX0_findName 48 (.ireturn) 1 49 := by decide +kernel
theorem dX0_findName_49 : Dc cX0_findName 49 (.iinc 3 1) 3 52 := by decide +kernel
theorem dX0_findName_52 : Dc cX0_findName 52 (.goto (-35)) 3 55 := by decide +kernel
theorem dX0_findName_55 : Dc cX0_findName 55 (.iconst 0) 1 56 := by decide +kernel
theorem dX0_findName_56 : Dc cX0_findName 56 (.ireturn) 1 57 := by decide +kernel
theorem dX0_putAway_0 : Dc cX0_putAway 0 (.aload_n 0) 1 1 := by decide +kernel
theorem dX0_putAway_1 : Dc cX0_putAway 1 (.getfield 19) 3 4 := by decide +kernel
theorem dX0_putAway_4 : Dc cX0_putAway 4 (.iload_n 2) 1 5 := by decide +kernel
theorem dX0_putAway_5 : Dc cX0_putAway 5 (.iload_n 1) 1 6 := by decide +kernel
theorem dX0_putAway_6 : Dc cX0_putAway 6 (.aload_n 0) 1 7 := by decide +kernel
theorem dX0_putAway_7 : Dc cX0_putAway 7 (.getfield 26) 3 10 := by decide +kernel
theorem dX0_putAway_10 : Dc cX0_putAway 10 (.invokevirtual 107) 3 13 := by decide +kernel
theorem dX0_putAway_13 : Dc cX0_putAway 13 (.aload_n 0) 1 14 := by decide +kernel
theorem dX0_putAway_14 : Dc cX0_putAway 14 (.iload_n 1) 1 15 := by decide +kernel
theorem dX0_putAway_15 : Dc cX0_putAway 15 (.invokevirtual 50) 3 18 := by decide +kernel
theorem dX0_putAway_18 : Dc cX0_putAway 18 (.aload_n 0) 1 19 := by decide +kernel
theorem dX0_putAway_19 : Dc cX0_putAway 19 (.getfield 19) 3 22 := by decide +kernel
theorem dX0_putAway_22 : Dc cX0_putAway 22 (.iload_n 1) 1 23 := by decide +kernel
theorem dX0_putAway_23 : Dc cX0_putAway 23 (.iconst 2) 1 24 := by decide +kernel
theorem dX0_putAway_24 : Dc cX0_putAway 24 (.invokevirtual 97) 3 27 := by decide +kernel
theorem dX0_putAway_27 : Dc cX0_putAway 27 (.return_) 1 28 := by decide +kernel
theorem dX1_init_0 : Dc cX1_init 0 (.aload_n 0) 1 1 := by decide +kernel
theorem dX1_init_1 : Dc cX1_init 1 (.invokespecial 3) 3 4 := by decide +kernel
theorem dX1_init_4 : Dc cX1_init 4 (.aload_n 0) 1 5 := by decide +kernel
theorem dX1_init_5 : Dc cX1_init 5 (.aload_n 1) 1 6 := by decide +kernel
theorem dX1_init_6 : Dc cX1_init 6 (.putfield 9) 3 9 := by decide +kernel
theorem dX1_init_9 : Dc cX1_init 9 (.aload_n 0) 1 10 := by decide +kernel
theorem dX1_init_10 : Dc cX1_init 10 (.aload_n 2) 1 11 := by decide +kernel
theorem dX1_init_11 : Dc cX1_init 11 (.putfield 15) 3 14 := by decide +kernel
theorem dX1_init_14 : Dc cX1_init 14 (.aload_n 0) 1 15 := by decide +kernel
theorem dX1_init_15 : Dc cX1_init 15 (.new 19) 3 18 := by decide +kernel
theorem dX1_init_18 : Dc cX1_init 18 (.dup) 1 19 := by decide +kernel
theorem dX1_init_19 : Dc cX1_init 19 (.invokespecial 21) 3 22 := by decide +kernel
theorem dX1_init_22 : Dc cX1_init 22 (.putfield 22) 3 25 := by decide +kernel
theorem dX1_init_25 : Dc cX1_init 25 (.return_) 1 26 := by decide +kernel
theorem dX1_entryCount_0 : Dc cX1_entryCount 0 (.aload_n 0) 1 1 := by decide +kernel
theorem dX1_entryCount_1 : Dc cX1_entryCount 1 (.getfield 15) 3 4 := by decide +kernel
theorem dX1_entryCount_4 : Dc cX1_entryCount 4 (.iload_n 1) 1 5 := by decide +kernel
theorem dX1_entryCount_5 : Dc cX1_entryCount 5 (.invokevirtual 26) 3 8 := by decide +kernel
theorem dX1_entryCount_8 : Dc cX1_entryCount 8 (.bipush 16) 2 10 := by decide +kernel
theorem dX1_entryCount_10 : Dc cX1_entryCount 10 (.idiv) 1 11 := by decide +kernel
theorem dX1_entryCount_11 : Dc cX1_entryCount 11 (.sipush 184) 3 14 := by decide +kernel
theorem dX1_entryCount_14 : Dc cX1_entryCount 14 (.invokestatic 32) 3 17 := by decide +kernel
theorem dX1_entryCount_17 : Dc cX1_entryCount 17 (.ireturn) 1 18 := by decide +kernel
theorem dX1_entryPlace_0 : Dc cX1_entryPlace 0 (.aload_n 0) 1 1 := by decide +kernel
theorem dX1_entryPlace_1 : Dc cX1_entryPlace 1 (.getfield 15) 3 4 := by decide +kernel
theorem dX1_entryPlace_4 : Dc cX1_entryPlace 4 (.iload_n 1) 1 5 := by decide +kernel
theorem dX1_entryPlace_5 : Dc cX1_entryPlace 5 (.iload_n 2) 1 6 := by decide +kernel
theorem dX1_entryPlace_6 : Dc cX1_entryPlace 6 (.bipush 16) 2 8 := by decide +kernel
theorem dX1_entryPlace_8 : Dc cX1_entryPlace 8 (.imul) 1 9 := by decide +kernel
theorem dX1_entryPlace_9 : Dc cX1_entryPlace 9 (.invokevirtual 38) 3 12 := by decide +kernel
theorem dX1_entryPlace_12 : Dc cX1_entryPlace 12 (.ireturn) 1 13 := by decide +kernel
theorem dX1_seek_0 : Dc cX1_seek 0 (.aload_n 2) 1 1 := by decide +kernel
theorem dX1_seek_1 : Dc cX1_seek 1 (.invokevirtual 41) 3 4 := by decide +kernel
theorem dX1_seek_4 : Dc cX1_seek 4 (.ifCond .ne 5) 3 7 := by decide +kernel
theorem dX1_seek_7 : Dc cX1_seek 7 (.iconst (-1)) 1 8 := by decide +kernel
theorem dX1_seek_8 : Dc cX1_seek 8 (.ireturn) 1 9 := by decide +kernel
theorem dX1_seek_9 : Dc cX1_seek 9 (.aload_n 0) 1 10 := by decide +kernel
theorem dX1_seek_10 : Dc cX1_seek 10 (.iload_n 1) 1 11 := by decide +kernel
theorem dX1_seek_11 : Dc cX1_seek 11 (.invokevirtual 45) 3 14 := by decide +kernel
theorem dX1_seek_14 : Dc cX1_seek 14 (.istore_n 3) 1 15 := by decide +kernel
theorem dX1_seek_15 : Dc cX1_seek 15 (.iconst 2) 1 16 := by decide +kernel
theorem dX1_seek_16 : Dc cX1_seek 16 (.istore 4) 2 18 := by decide +kernel
theorem dX1_seek_18 : Dc cX1_seek 18 (.iload 4) 2 20 := by decide +kernel
theorem dX1_seek_20 : Dc cX1_seek 20 (.iload_n 3) 1 21 := by decide +kernel
theorem dX1_seek_21 : Dc cX1_seek 21 (.if_icmp .ge 37) 3 24 := by decide +kernel
theorem dX1_seek_24 : Dc cX1_seek 24 (.aload_n 0) 1 25 := by decide +kernel
theorem dX1_seek_25 : Dc cX1_seek 25 (.iload_n 1) 1 26 := by decide +kernel
theorem dX1_seek_26 : Dc cX1_seek 26 (.iload 4) 2 28 := by decide +kernel
theorem dX1_seek_28 : Dc cX1_seek 28 (.invokevirtual 48) 3 31 := by decide +kernel
theorem dX1_seek_31 : Dc cX1_seek 31 (.istore 5) 2 33 := by decide +kernel
theorem dX1_seek_33 : Dc cX1_seek 33 (.iload 5) 2 35 := by decide +kernel
theorem dX1_seek_35 : Dc cX1_seek 35 (.iconst (-1)) 1 36 := by decide +kernel
theorem dX1_seek_36 : Dc cX1_seek 36 (.if_icmp .eq 16) 3 39 := by decide +kernel
theorem dX1_seek_39 : Dc cX1_seek 39 (.aload_n 0) 1 40 := by decide +kernel
theorem dX1_seek_40 : Dc cX1_seek 40 (.iload 5) 2 42 := by decide +kernel
theorem dX1_seek_42 : Dc cX1_seek 42 (.aload_n 2) 1 43 := by decide +kernel
theorem dX1_seek_43 : Dc cX1_seek 43 (.invokevirtual 51) 3 46 := by decide +kernel
theorem dX1_seek_46 : Dc cX1_seek 46 (.ifCond .eq 6) 3 49 := by decide +kernel
theorem dX1_seek_49 : Dc cX1_seek 49 (.iload 5) 2 51 := by decide +kernel
theorem dX1_seek_51 : Dc cX1_seek 51 (.ireturn) 1 52 := by decide +kernel
theorem dX1_seek_52 : Dc cX1_seek 52 (.iinc 4 1) 3 55 := by decide +kernel
theorem dX1_seek_55 : Dc cX1_seek 55 (.goto (-37)) 3 58 := by decide +kernel
theorem dX1_seek_58 : Dc cX1_seek 58 (.iconst (-1)) 1 59 := by decide +kernel
theorem dX1_seek_59 : Dc cX1_seek 59 (.ireturn) 1 60 := by decide +kernel
theorem dX1_isNamed_0 : Dc cX1_isNamed 0 (.aload_n 2) 1 1 := by decide +kernel
theorem dX1_isNamed_1 : Dc cX1_isNamed 1 (.invokevirtual 41) 3 4 := by decide +kernel
theorem dX1_isNamed_4 : Dc cX1_isNamed 4 (.istore_n 3) 1 5 := by decide +kernel
theorem dX1_isNamed_5 : Dc cX1_isNamed 5 (.aload_n 0) 1 6 := by decide +kernel
theorem dX1_isNamed_6 : Dc cX1_isNamed 6 (.getfield 9) 3 9 := by decide +kernel
theorem dX1_isNamed_9 : Dc cX1_isNamed 9 (.iload_n 1) 1 10 := by decide +kernel
theorem dX1_isNamed_10 : Dc cX1_isNamed 10 (.iconst 1) 1 11 := by decide +kernel
theorem dX1_isNamed_11 : Dc cX1_isNamed 11 (.iadd) 1 12 := by decide +kernel
theorem dX1_isNamed_12 : Dc cX1_isNamed 12 (.invokevirtual 55) 3 15 := by decide +kernel
theorem dX1_isNamed_15 : Dc cX1_isNamed 15 (.iload_n 3) 1 16 := by decide +kernel
theorem dX1_isNamed_16 : Dc cX1_isNamed 16 (.if_icmp .eq 5) 3 19 := by decide +kernel
theorem dX1_isNamed_19 : Dc cX1_isNamed 19 (.iconst 0) 1 20 := by decide +kernel
theorem dX1_isNamed_20 : Dc cX1_isNamed 20 (.ireturn) 1 21 := by decide +kernel
theorem dX1_isNamed_21 : Dc cX1_isNamed 21 (.iconst 0) 1 22 := by decide +kernel
theorem dX1_isNamed_22 : Dc cX1_isNamed 22 (.istore 4) 2 24 := by decide +kernel
theorem dX1_isNamed_24 : Dc cX1_isNamed 24 (.iload 4) 2 26 := by decide +kernel
theorem dX1_isNamed_26 : Dc cX1_isNamed 26 (.iload_n 3) 1 27 := by decide +kernel
theorem dX1_isNamed_27 : Dc cX1_isNamed 27 (.if_icmp .ge 33) 3 30 := by decide +kernel
theorem dX1_isNamed_30 : Dc cX1_isNamed 30 (.aload_n 0) 1 31 := by decide +kernel
theorem dX1_isNamed_31 : Dc cX1_isNamed 31 (.getfield 9) 3 34 := by decide +kernel
theorem dX1_isNamed_34 : Dc cX1_isNamed 34 (.iload_n 1) 1 35 := by decide +kernel
theorem dX1_isNamed_35 : Dc cX1_isNamed 35 (.iconst 2) 1 36 := by decide +kernel
theorem dX1_isNamed_36 : Dc cX1_isNamed 36 (.iadd) 1 37 := by decide +kernel
theorem dX1_isNamed_37 : Dc cX1_isNamed 37 (.iload 4) 2 39 := by decide +kernel
theorem dX1_isNamed_39 : Dc cX1_isNamed 39 (.iadd) 1 40 := by decide +kernel
theorem dX1_isNamed_40 : Dc cX1_isNamed 40 (.invokevirtual 55) 3 43 := by decide +kernel
theorem dX1_isNamed_43 : Dc cX1_isNamed 43 (.aload_n 2) 1 44 := by decide +kernel
theorem dX1_isNamed_44 : Dc cX1_isNamed 44 (.iload 4) 2 46 := by decide +kernel
theorem dX1_isNamed_46 : Dc cX1_isNamed 46 (.invokevirtual 60) 3 49 := by decide +kernel
theorem dX1_isNamed_49 : Dc cX1_isNamed 49 (.if_icmp .eq 5) 3 52 := by decide +kernel
theorem dX1_isNamed_52 : Dc cX1_isNamed 52 (.iconst 0) 1 53 := by decide +kernel
theorem dX1_isNamed_53 : Dc cX1_isNamed 53 (.ireturn) 1 54 := by decide +kernel
theorem dX1_isNamed_54 : Dc cX1_isNamed 54 (.iinc 4 1) 3 57 := by decide +kernel
theorem dX1_isNamed_57 : Dc cX1_isNamed 57 (.goto (-33)) 3 60 := by decide +kernel
theorem dX1_isNamed_60 : Dc cX1_isNamed 60 (.iconst 1) 1 61 := by decide +kernel
theorem dX1_isNamed_61 : Dc cX1_isNamed 61 (.ireturn) 1 62 := by decide +kernel
theorem dX1_writeEntry_0 : Dc cX1_writeEntry 0 (.aload_n 0) 1 1 := by decide +kernel
theorem dX1_writeEntry_1 : Dc cX1_writeEntry 1 (.getfield 9) 3 4 := by decide +kernel
theorem dX1_writeEntry_4 : Dc cX1_writeEntry 4 (.iload_n 1) 1 5 := by decide +kernel
theorem dX1_writeEntry_5 : Dc cX1_writeEntry 5 (.bipush 16) 2 7 := by decide +kernel
theorem dX1_writeEntry_7 : Dc cX1_writeEntry 7 (.invokevirtual 61) 3 10 := by decide +kernel
theorem dX1_writeEntry_10 : Dc cX1_writeEntry 10 (.aload_n 0) 1 11 := by decide +kernel
theorem dX1_writeEntry_11 : Dc cX1_writeEntry 11 (.getfield 9) 3 14 := by decide +kernel
theorem dX1_writeEntry_14 : Dc cX1_writeEntry 14 (.iload_n 1) 1 15 := by decide +kernel
theorem dX1_writeEntry_15 : Dc cX1_writeEntry 15 (.iload_n 2) 1 16 := by decide +kernel
theorem dX1_writeEntry_16 : Dc cX1_writeEntry 16 (.invokevirtual 65) 3 19 := by decide +kernel
theorem dX1_writeEntry_19 : Dc cX1_writeEntry 19 (.aload_n 0) 1 20 := by decide +kernel
theorem dX1_writeEntry_20 : Dc cX1_writeEntry 20 (.getfield 9) 3 23 := by decide +kernel
theorem dX1_writeEntry_23 : Dc cX1_writeEntry 23 (.iload_n 1) 1 24 := by decide +kernel
theorem dX1_writeEntry_24 : Dc cX1_writeEntry 24 (.iconst 1) 1 25 := by decide +kernel
theorem dX1_writeEntry_25 : Dc cX1_writeEntry 25 (.iadd) 1 26 := by decide +kernel
theorem dX1_writeEntry_26 : Dc cX1_writeEntry 26 (.aload_n 3) 1 27 := by decide +kernel
theorem dX1_writeEntry_27 : Dc cX1_writeEntry 27 (.invokevirtual 41) 3 30 := by decide +kernel
theorem dX1_writeEntry_30 : Dc cX1_writeEntry 30 (.invokevirtual 65) 3 33 := by decide +kernel
theorem dX1_writeEntry_33 : Dc cX1_writeEntry 33 (.iconst 0) 1 34 := by decide +kernel
theorem dX1_writeEntry_34 : Dc cX1_writeEntry 34 (.istore 4) 2 36 := by decide +kernel
theorem dX1_writeEntry_36 : Dc cX1_writeEntry 36 (.iload 4) 2 38 := by decide +kernel
theorem dX1_writeEntry_38 : Dc cX1_writeEntry 38 (.aload_n 3) 1 39 := by decide +kernel
theorem dX1_writeEntry_39 : Dc cX1_writeEntry 39 (.invokevirtual 41) 3 42 := by decide +kernel
theorem dX1_writeEntry_42 : Dc cX1_writeEntry 42 (.if_icmp .ge 28) 3 45 := by decide +kernel
theorem dX1_writeEntry_45 : Dc cX1_writeEntry 45 (.aload_n 0) 1 46 := by decide +kernel
theorem dX1_writeEntry_46 : Dc cX1_writeEntry 46 (.getfield 9) 3 49 := by decide +kernel
theorem dX1_writeEntry_49 : Dc cX1_writeEntry 49 (.iload_n 1) 1 50 := by decide +kernel
theorem dX1_writeEntry_50 : Dc cX1_writeEntry 50 (.iconst 2) 1 51 := by decide +kernel
theorem dX1_writeEntry_51 : Dc cX1_writeEntry 51 (.iadd) 1 52 := by decide +kernel
theorem dX1_writeEntry_52 : Dc cX1_writeEntry 52 (.iload 4) 2 54 := by decide +kernel
theorem dX1_writeEntry_54 : Dc cX1_writeEntry 54 (.iadd) 1 55 := by decide +kernel
theorem dX1_writeEntry_55 : Dc cX1_writeEntry 55 (.aload_n 3) 1 56 := by decide +kernel
theorem dX1_writeEntry_56 : Dc cX1_writeEntry 56 (.iload 4) 2 58 := by decide +kernel
theorem dX1_writeEntry_58 : Dc cX1_writeEntry 58 (.invokevirtual 60) 3 61 := by decide +kernel
theorem dX1_writeEntry_61 : Dc cX1_writeEntry 61 (.invokevirtual 65) 3 64 := by decide +kernel
theorem dX1_writeEntry_64 : Dc cX1_writeEntry 64 (.iinc 4 1) 3 67 := by decide +kernel
theorem dX1_writeEntry_67 : Dc cX1_writeEntry 67 (.goto (-31)) 3 70 := by decide +kernel
theorem dX1_writeEntry_70 : Dc cX1_writeEntry 70 (.return_) 1 71 := by decide +kernel
theorem dX1_wipeEntry_0 : Dc cX1_wipeEntry 0 (.aload_n 0) 1 1 := by decide +kernel
theorem dX1_wipeEntry_1 : Dc cX1_wipeEntry 1 (.getfield 9) 3 4 := by decide +kernel
theorem dX1_wipeEntry_4 : Dc cX1_wipeEntry 4 (.iload_n 1) 1 5 := by decide +kernel
theorem dX1_wipeEntry_5 : Dc cX1_wipeEntry 5 (.bipush 16) 2 7 := by decide +kernel
theorem dX1_wipeEntry_7 : Dc cX1_wipeEntry 7 (.invokevirtual 61) 3 10 := by decide +kernel
theorem dX1_wipeEntry_10 : Dc cX1_wipeEntry 10 (.return_) 1 11 := by decide +kernel
theorem dX1_writeDots_0 : Dc cX1_writeDots 0 (.aload_n 0) 1 1 := by decide +kernel
theorem dX1_writeDots_1 : Dc cX1_writeDots 1 (.getfield 22) 3 4 := by decide +kernel
theorem dX1_writeDots_4 : Dc cX1_writeDots 4 (.ldc 68) 2 6 := by decide +kernel
theorem dX1_writeDots_6 : Dc cX1_writeDots 6 (.invokevirtual 70) 3 9 := by decide +kernel
theorem dX1_writeDots_9 : Dc cX1_writeDots 9 (.aload_n 0) 1 10 := by decide +kernel
theorem dX1_writeDots_10 : Dc cX1_writeDots 10 (.aload_n 0) 1 11 := by decide +kernel
theorem dX1_writeDots_11 : Dc cX1_writeDots 11 (.iload_n 1) 1 12 := by decide +kernel
theorem dX1_writeDots_12 : Dc cX1_writeDots 12 (.iconst 0) 1 13 := by decide +kernel
theorem dX1_writeDots_13 : Dc cX1_writeDots 13 (.invokevirtual 48) 3 16 := by decide +kernel
theorem dX1_writeDots_16 : Dc cX1_writeDots 16 (.iload_n 1) 1 17 := by decide +kernel
theorem dX1_writeDots_17 : Dc cX1_writeDots 17 (.aload_n 0) 1 18 := by decide +kernel
theorem dX1_writeDots_18 : Dc cX1_writeDots 18 (.getfield 22) 3 21 := by decide +kernel
theorem dX1_writeDots_21 : Dc cX1_writeDots 21 (.invokevirtual 74) 3 24 := by decide +kernel
theorem dX1_writeDots_24 : Dc cX1_writeDots 24 (.aload_n 0) 1 25 := by decide +kernel
theorem dX1_writeDots_25 : Dc cX1_writeDots 25 (.getfield 22) 3 28 := by decide +kernel
theorem dX1_writeDots_28 : Dc cX1_writeDots 28 (.ldc 78) 2 30 := by decide +kernel
theorem dX1_writeDots_30 : Dc cX1_writeDots 30 (.invokevirtual 70) 3 33 := by decide +kernel
theorem dX1_writeDots_33 : Dc cX1_writeDots 33 (.aload_n 0) 1 34 := by decide +kernel
theorem dX1_writeDots_34 : Dc cX1_writeDots 34 (.aload_n 0) 1 35 := by decide +kernel
theorem dX1_writeDots_35 : Dc cX1_writeDots 35 (.iload_n 1) 1 36 := by decide +kernel
theorem dX1_writeDots_36 : Dc cX1_writeDots 36 (.iconst 1) 1 37 := by decide +kernel
theorem dX1_writeDots_37 : Dc cX1_writeDots 37 (.invokevirtual 48) 3 40 := by decide +kernel
theorem dX1_writeDots_40 : Dc cX1_writeDots 40 (.iload_n 2) 1 41 := by decide +kernel
theorem dX1_writeDots_41 : Dc cX1_writeDots 41 (.aload_n 0) 1 42 := by decide +kernel
theorem dX1_writeDots_42 : Dc cX1_writeDots 42 (.getfield 22) 3 45 := by decide +kernel
theorem dX1_writeDots_45 : Dc cX1_writeDots 45 (.invokevirtual 74) 3 48 := by decide +kernel
theorem dX1_writeDots_48 : Dc cX1_writeDots 48 (.return_) 1 49 := by decide +kernel
theorem dX1_setParent_0 : Dc cX1_setParent 0 (.aload_n 0) 1 1 := by decide +kernel
theorem dX1_setParent_1 : Dc cX1_setParent 1 (.getfield 15) 3 4 := by decide +kernel
theorem dX1_setParent_4 : Dc cX1_setParent 4 (.iload_n 1) 1 5 := by decide +kernel
theorem dX1_setParent_5 : Dc cX1_setParent 5 (.invokevirtual 80) 3 8 := by decide +kernel
theorem dX1_setParent_8 : Dc cX1_setParent 8 (.iconst 2) 1 9 := by decide +kernel
theorem dX1_setParent_9 : Dc cX1_setParent 9 (.if_icmp .ne 21) 3 12 := by decide +kernel
theorem dX1_setParent_12 : Dc cX1_setParent 12 (.aload_n 0) 1 13 := by decide +kernel
theorem dX1_setParent_13 : Dc cX1_setParent 13 (.getfield 9) 3 16 := by decide +kernel
theorem dX1_setParent_16 : Dc cX1_setParent 16 (.aload_n 0) 1 17 := by decide +kernel
theorem dX1_setParent_17 : Dc cX1_setParent 17 (.getfield 15) 3 20 := by decide +kernel
theorem dX1_setParent_20 : Dc cX1_setParent 20 (.iload_n 1) 1 21 := by decide +kernel
theorem dX1_setParent_21 : Dc cX1_setParent 21 (.bipush 16) 2 23 := by decide +kernel
theorem dX1_setParent_23 : Dc cX1_setParent 23 (.invokevirtual 38) 3 26 := by decide +kernel
theorem dX1_setParent_26 : Dc cX1_setParent 26 (.iload_n 2) 1 27 := by decide +kernel
theorem dX1_setParent_27 : Dc cX1_setParent 27 (.invokevirtual 65) 3 30 := by decide +kernel
theorem dX1_setParent_30 : Dc cX1_setParent 30 (.return_) 1 31 := by decide +kernel
theorem dX1_begin_0 : Dc cX1_begin 0 (.aload_n 0) 1 1 := by decide +kernel
theorem dX1_begin_1 : Dc cX1_begin 1 (.getfield 15) 3 4 := by decide +kernel
theorem dX1_begin_4 : Dc cX1_begin 4 (.iload_n 1) 1 5 := by decide +kernel
theorem dX1_begin_5 : Dc cX1_begin 5 (.iconst 2) 1 6 := by decide +kernel
theorem dX1_begin_6 : Dc cX1_begin 6 (.invokevirtual 83) 3 9 := by decide +kernel
theorem dX1_begin_9 : Dc cX1_begin 9 (.aload_n 0) 1 10 := by decide +kernel
theorem dX1_begin_10 : Dc cX1_begin 10 (.getfield 15) 3 13 := by decide +kernel
theorem dX1_begin_13 : Dc cX1_begin 13 (.iload_n 1) 1 14 := by decide +kernel
theorem dX1_begin_14 : Dc cX1_begin 14 (.invokevirtual 86) 3 17 := by decide +kernel
theorem dX1_begin_17 : Dc cX1_begin 17 (.iconst (-1)) 1 18 := by decide +kernel
theorem dX1_begin_18 : Dc cX1_begin 18 (.if_icmp .ne 13) 3 21 := by decide +kernel
theorem dX1_begin_21 : Dc cX1_begin 21 (.aload_n 0) 1 22 := by decide +kernel
theorem dX1_begin_22 : Dc cX1_begin 22 (.getfield 15) 3 25 := by decide +kernel
theorem dX1_begin_25 : Dc cX1_begin 25 (.iload_n 1) 1 26 := by decide +kernel
theorem dX1_begin_26 : Dc cX1_begin 26 (.invokevirtual 89) 3 29 := by decide +kernel
theorem dX1_begin_29 : Dc cX1_begin 29 (.iconst 0) 1 30 := by decide +kernel
theorem dX1_begin_30 : Dc cX1_begin 30 (.ireturn) 1 31 := by decide +kernel
theorem dX1_begin_31 : Dc cX1_begin 31 (.aload_n 0) 1 32 := by decide +kernel
theorem dX1_begin_32 : Dc cX1_begin 32 (.getfield 15) 3 35 := by decide +kernel
theorem dX1_begin_35 : Dc cX1_begin 35 (.iload_n 1) 1 36 := by decide +kernel
theorem dX1_begin_36 : Dc cX1_begin 36 (.bipush 64) 2 38 := by decide +kernel
theorem dX1_begin_38 : Dc cX1_begin 38 (.invokevirtual 92) 3 41 := by decide +kernel
theorem dX1_begin_41 : Dc cX1_begin 41 (.aload_n 0) 1 42 := by decide +kernel
theorem dX1_begin_42 : Dc cX1_begin 42 (.iload_n 1) 1 43 := by decide +kernel
theorem dX1_begin_43 : Dc cX1_begin 43 (.iload_n 2) 1 44 := by decide +kernel
theorem dX1_begin_44 : Dc cX1_begin 44 (.invokevirtual 95) 3 47 := by decide +kernel
theorem dX1_begin_47 : Dc cX1_begin 47 (.iconst 1) 1 48 := by decide +kernel
theorem dX1_begin_48 : Dc cX1_begin 48 (.ireturn) 1 49 := by decide +kernel
theorem dX1_roomIn_0 : Dc cX1_roomIn 0 (.aload_n 0) 1 1 := by decide +kernel
theorem dX1_roomIn_1 : Dc cX1_roomIn 1 (.iload_n 1) 1 2 := by decide +kernel
theorem dX1_roomIn_2 : Dc cX1_roomIn 2 (.invokevirtual 45) 3 5 := by decide +kernel
theorem dX1_roomIn_5 : Dc cX1_roomIn 5 (.istore_n 2) 1 6 := by decide +kernel
theorem dX1_roomIn_6 : Dc cX1_roomIn 6 (.iconst 2) 1 7 := by decide +kernel
theorem dX1_roomIn_7 : Dc cX1_roomIn 7 (.istore_n 3) 1 8 := by decide +kernel
theorem dX1_roomIn_8 : Dc cX1_roomIn 8 (.iload_n 3) 1 9 := by decide +kernel
theorem dX1_roomIn_9 : Dc cX1_roomIn 9 (.iload_n 2) 1 10 := by decide +kernel
theorem dX1_roomIn_10 : Dc cX1_roomIn 10 (.if_icmp .ge 32) 3 13 := by decide +kernel
theorem dX1_roomIn_13 : Dc cX1_roomIn 13 (.aload_n 0) 1 14 := by decide +kernel
theorem dX1_roomIn_14 : Dc cX1_roomIn 14 (.iload_n 1) 1 15 := by decide +kernel
theorem dX1_roomIn_15 : Dc cX1_roomIn 15 (.iload_n 3) 1 16 := by decide +kernel
theorem dX1_roomIn_16 : Dc cX1_roomIn 16 (.invokevirtual 48) 3 19 := by decide +kernel
theorem dX1_roomIn_19 : Dc cX1_roomIn 19 (.istore 4) 2 21 := by decide +kernel
theorem dX1_roomIn_21 : Dc cX1_roomIn 21 (.aload_n 0) 1 22 := by decide +kernel
theorem dX1_roomIn_22 : Dc cX1_roomIn 22 (.getfield 9) 3 25 := by decide +kernel
theorem dX1_roomIn_25 : Dc cX1_roomIn 25 (.iload 4) 2 27 := by decide +kernel
theorem dX1_roomIn_27 : Dc cX1_roomIn 27 (.invokevirtual 55) 3 30 := by decide +kernel
theorem dX1_roomIn_30 : Dc cX1_roomIn 30 (.ifCond .ne 6) 3 33 := by decide +kernel
theorem dX1_roomIn_33 : Dc cX1_roomIn 33 (.iload 4) 2 35 := by decide +kernel
theorem dX1_roomIn_35 : Dc cX1_roomIn 35 (.ireturn) 1 36 := by decide +kernel
theorem dX1_roomIn_36 : Dc cX1_roomIn 36 (.iinc 3 1) 3 39 := by decide +kernel
theorem dX1_roomIn_39 : Dc cX1_roomIn 39 (.goto (-31)) 3 42 := by decide +kernel
theorem dX1_roomIn_42 : Dc cX1_roomIn 42 (.aload_n 0) 1 43 := by decide +kernel
theorem dX1_roomIn_43 : Dc cX1_roomIn 43 (.getfield 15) 3 46 := by decide +kernel
theorem dX1_roomIn_46 : Dc cX1_roomIn 46 (.iload_n 1) 1 47 := by decide +kernel
theorem dX1_roomIn_47 : Dc cX1_roomIn 47 (.invokevirtual 86) 3 50 := by decide +kernel
theorem dX1_roomIn_50 : Dc cX1_roomIn 50 (.istore_n 3) 1 51 := by decide +kernel
theorem dX1_roomIn_51 : Dc cX1_roomIn 51 (.iload_n 3) 1 52 := by decide +kernel
theorem dX1_roomIn_52 : Dc cX1_roomIn 52 (.iconst (-1)) 1 53 := by decide +kernel
theorem dX1_roomIn_53 : Dc cX1_roomIn 53 (.if_icmp .ne 5) 3 56 := by decide +kernel
theorem dX1_roomIn_56 : Dc cX1_roomIn 56 (.iconst (-1)) 1 57 := by decide +kernel
theorem dX1_roomIn_57 : Dc cX1_roomIn 57 (.ireturn) 1 58 := by decide +kernel
theorem dX1_roomIn_58 : Dc cX1_roomIn 58 (.aload_n 0) 1 59 := by decide +kernel
theorem dX1_roomIn_59 : Dc cX1_roomIn 59 (.getfield 15) 3 62 := by decide +kernel
theorem dX1_roomIn_62 : Dc cX1_roomIn 62 (.iload_n 1) 1 63 := by decide +kernel
theorem dX1_roomIn_63 : Dc cX1_roomIn 63 (.aload_n 0) 1 64 := by decide +kernel
theorem dX1_roomIn_64 : Dc cX1_roomIn 64 (.getfield 15) 3 67 := by decide +kernel
theorem dX1_roomIn_67 : Dc cX1_roomIn 67 (.iload_n 1) 1 68 := by decide +kernel
theorem dX1_roomIn_68 : Dc cX1_roomIn 68 (.invokevirtual 26) 3 71 := by decide +kernel
theorem dX1_roomIn_71 : Dc cX1_roomIn 71 (.bipush 64) 2 73 := by decide +kernel
theorem dX1_roomIn_73 : Dc cX1_roomIn 73 (.iadd) 1 74 := by decide +kernel
theorem dX1_roomIn_74 : Dc cX1_roomIn 74 (.invokevirtual 92) 3 77 := by decide +kernel
theorem dX1_roomIn_77 : Dc cX1_roomIn 77 (.iload_n 3) 1 78 := by decide +kernel
theorem dX1_roomIn_78 : Dc cX1_roomIn 78 (.bipush 64) 2 80 := by decide +kernel
theorem dX1_roomIn_80 : Dc cX1_roomIn 80 (.imul) 1 81 := by decide +kernel
theorem dX1_roomIn_81 : Dc cX1_roomIn 81 (.ireturn) 1 82 := by decide +kernel
theorem dX1_isEmpty_0 : Dc cX1_isEmpty 0 (.aload_n 0) 1 1 := by decide +kernel
theorem dX1_isEmpty_1 : Dc cX1_isEmpty 1 (.iload_n 1) 1 2 := by decide +kernel
theorem dX1_isEmpty_2 : Dc cX1_isEmpty 2 (.invokevirtual 45) 3 5 := by decide +kernel
theorem dX1_isEmpty_5 : Dc cX1_isEmpty 5 (.istore_n 2) 1 6 := by decide +kernel
theorem dX1_isEmpty_6 : Dc cX1_isEmpty 6 (.iconst 2) 1 7 := by decide +kernel
theorem dX1_isEmpty_7 : Dc cX1_isEmpty 7 (.istore_n 3) 1 8 := by decide +kernel
theorem dX1_isEmpty_8 : Dc cX1_isEmpty 8 (.iload_n 3) 1 9 := by decide +kernel
theorem dX1_isEmpty_9 : Dc cX1_isEmpty 9 (.iload_n 2) 1 10 := by decide +kernel
theorem dX1_isEmpty_10 : Dc cX1_isEmpty 10 (.if_icmp .ge 27) 3 13 := by decide +kernel
theorem dX1_isEmpty_13 : Dc cX1_isEmpty 13 (.aload_n 0) 1 14 := by decide +kernel
theorem dX1_isEmpty_14 : Dc cX1_isEmpty 14 (.getfield 9) 3 17 := by decide +kernel
theorem dX1_isEmpty_17 : Dc cX1_isEmpty 17 (.aload_n 0) 1 18 := by decide +kernel
theorem dX1_isEmpty_18 : Dc cX1_isEmpty 18 (.iload_n 1) 1 19 := by decide +kernel
theorem dX1_isEmpty_19 : Dc cX1_isEmpty 19 (.iload_n 3) 1 20 := by decide +kernel
theorem dX1_isEmpty_20 : Dc cX1_isEmpty 20 (.invokevirtual 48) 3 23 := by decide +kernel
theorem dX1_isEmpty_23 : Dc cX1_isEmpty 23 (.invokevirtual 55) 3 26 := by decide +kernel
theorem dX1_isEmpty_26 : Dc cX1_isEmpty 26 (.ifCond .eq 5) 3 29 := by decide +kernel
theorem dX1_isEmpty_29 : Dc cX1_isEmpty 29 (.iconst 0) 1 30 := by decide +kernel
theorem dX1_isEmpty_30 : Dc cX1_isEmpty 30 (.ireturn) 1 31 := by decide +kernel
theorem dX1_isEmpty_31 : Dc cX1_isEmpty 31 (.iinc 3 1) 3 34 := by decide +kernel
theorem dX1_isEmpty_34 : Dc cX1_isEmpty 34 (.goto (-26)) 3 37 := by decide +kernel
theorem dX1_isEmpty_37 : Dc cX1_isEmpty 37 (.iconst 1) 1 38 := by decide +kernel
theorem dX1_isEmpty_38 : Dc cX1_isEmpty 38 (.ireturn) 1 39 := by decide +kernel
theorem dX1_tidy_0 : Dc cX1_tidy 0 (.aload_n 0) 1 1 := by decide +kernel
theorem dX1_tidy_1 : Dc cX1_tidy 1 (.iload_n 1) 1 2 := by decide +kernel
theorem dX1_tidy_2 : Dc cX1_tidy 2 (.iload_n 1) 1 3 := by decide +kernel
theorem dX1_tidy_3 : Dc cX1_tidy 3 (.invokevirtual 95) 3 6 := by decide +kernel
theorem dX1_tidy_6 : Dc cX1_tidy 6 (.iconst 2) 1 7 := by decide +kernel
theorem dX1_tidy_7 : Dc cX1_tidy 7 (.istore_n 2) 1 8 := by decide +kernel
theorem dX1_tidy_8 : Dc cX1_tidy 8 (.iload_n 1) 1 9 := by decide +kernel
theorem dX1_tidy_9 : Dc cX1_tidy 9 (.iconst 1) 1 10 := by decide +kernel
theorem dX1_tidy_10 : Dc cX1_tidy 10 (.if_icmp .ne 41) 3 13 := by decide +kernel
theorem dX1_tidy_13 : Dc cX1_tidy 13 (.aload_n 0) 1 14 := by decide +kernel
theorem dX1_tidy_14 : Dc cX1_tidy 14 (.getfield 15) 3 17 := by decide +kernel
theorem dX1_tidy_17 : Dc cX1_tidy 17 (.iconst 2) 1 18 := by decide +kernel
theorem dX1_tidy_18 : Dc cX1_tidy 18 (.invokevirtual 80) 3 21 := by decide +kernel
theorem dX1_tidy_21 : Dc cX1_tidy 21 (.ifCond .eq 30) 3 24 := by decide +kernel
theorem dX1_tidy_24 : Dc cX1_tidy 24 (.aload_n 0) 1 25 := by decide +kernel
theorem dX1_tidy_25 : Dc cX1_tidy 25 (.getfield 22) 3 28 := by decide +kernel
theorem dX1_tidy_28 : Dc cX1_tidy 28 (.ldc 98) 2 30 := by decide +kernel
theorem dX1_tidy_30 : Dc cX1_tidy 30 (.invokevirtual 70) 3 33 := by decide +kernel
theorem dX1_tidy_33 : Dc cX1_tidy 33 (.aload_n 0) 1 34 := by decide +kernel
theorem dX1_tidy_34 : Dc cX1_tidy 34 (.aload_n 0) 1 35 := by decide +kernel
theorem dX1_tidy_35 : Dc cX1_tidy 35 (.iconst 1) 1 36 := by decide +kernel
theorem dX1_tidy_36 : Dc cX1_tidy 36 (.iconst 2) 1 37 := by decide +kernel
theorem dX1_tidy_37 : Dc cX1_tidy 37 (.invokevirtual 48) 3 40 := by decide +kernel
theorem dX1_tidy_40 : Dc cX1_tidy 40 (.iconst 2) 1 41 := by decide +kernel
theorem dX1_tidy_41 : Dc cX1_tidy 41 (.aload_n 0) 1 42 := by decide +kernel
theorem dX1_tidy_42 : Dc cX1_tidy 42 (.getfield 22) 3 45 := by decide +kernel
theorem dX1_tidy_45 : Dc cX1_tidy 45 (.invokevirtual 74) 3 48 := by decide +kernel
theorem dX1_tidy_48 : Dc cX1_tidy 48 (.iinc 2 1) 3 51 := by decide +kernel
theorem dX1_tidy_51 : Dc cX1_tidy 51 (.aload_n 0) 1 52 := by decide +kernel
theorem dX1_tidy_52 : Dc cX1_tidy 52 (.iload_n 1) 1 53 := by decide +kernel
theorem dX1_tidy_53 : Dc cX1_tidy 53 (.invokevirtual 45) 3 56 := by decide +kernel
theorem dX1_tidy_56 : Dc cX1_tidy 56 (.istore_n 3) 1 57 := by decide +kernel
theorem dX1_tidy_57 : Dc cX1_tidy 57 (.iload_n 2) 1 58 := by decide +kernel
theorem dX1_tidy_58 : Dc cX1_tidy 58 (.istore 4) 2 60 := by decide +kernel
theorem dX1_tidy_60 : Dc cX1_tidy 60 (.iload 4) 2 62 := by decide +kernel
theorem dX1_tidy_62 : Dc cX1_tidy 62 (.iload_n 3) 1 63 := by decide +kernel
theorem dX1_tidy_63 : Dc cX1_tidy 63 (.if_icmp .ge 34) 3 66 := by decide +kernel
theorem dX1_tidy_66 : Dc cX1_tidy 66 (.aload_n 0) 1 67 := by decide +kernel
theorem dX1_tidy_67 : Dc cX1_tidy 67 (.iload_n 1) 1 68 := by decide +kernel
theorem dX1_tidy_68 : Dc cX1_tidy 68 (.iload 4) 2 70 := by decide +kernel
theorem dX1_tidy_70 : Dc cX1_tidy 70 (.invokevirtual 48) 3 73 := by decide +kernel
theorem dX1_tidy_73 : Dc cX1_tidy 73 (.istore 5) 2 75 := by decide +kernel
theorem dX1_tidy_75 : Dc cX1_tidy 75 (.aload_n 0) 1 76 := by decide +kernel
theorem dX1_tidy_76 : Dc cX1_tidy 76 (.iload_n 1) 1 77 := by decide +kernel
theorem dX1_tidy_77 : Dc cX1_tidy 77 (.iload 5) 2 79 := by decide +kernel
theorem dX1_tidy_79 : Dc cX1_tidy 79 (.invokevirtual 100) 3 82 := by decide +kernel
theorem dX1_tidy_82 : Dc cX1_tidy 82 (.ifCond .ne 9) 3 85 := by decide +kernel
theorem dX1_tidy_85 : Dc cX1_tidy 85 (.aload_n 0) 1 86 := by decide +kernel
theorem dX1_tidy_86 : Dc cX1_tidy 86 (.iload 5) 2 88 := by decide +kernel
theorem dX1_tidy_88 : Dc cX1_tidy 88 (.invokevirtual 104) 3 91 := by decide +kernel
theorem dX1_tidy_91 : Dc cX1_tidy 91 (.iinc 4 1) 3 94 := by decide +kernel
theorem dX1_tidy_94 : Dc cX1_tidy 94 (.goto (-34)) 3 97 := by decide +kernel
theorem dX1_tidy_97 : Dc cX1_tidy 97 (.return_) 1 98 := by decide +kernel
theorem dX1_isValid_0 : Dc cX1_isValid 0 (.aload_n 0) 1 1 := by decide +kernel
theorem dX1_isValid_1 : Dc cX1_isValid 1 (.getfield 9) 3 4 := by decide +kernel
theorem dX1_isValid_4 : Dc cX1_isValid 4 (.iload_n 2) 1 5 := by decide +kernel
theorem dX1_isValid_5 : Dc cX1_isValid 5 (.invokevirtual 55) 3 8 := by decide +kernel
theorem dX1_isValid_8 : Dc cX1_isValid 8 (.istore_n 3) 1 9 := by decide +kernel
theorem dX1_isValid_9 : Dc cX1_isValid 9 (.aload_n 0) 1 10 := by decide +kernel
theorem dX1_isValid_10 : Dc cX1_isValid 10 (.getfield 9) 3 13 := by decide +kernel
theorem dX1_isValid_13 : Dc cX1_isValid 13 (.iload_n 2) 1 14 := by decide +kernel
theorem dX1_isValid_14 : Dc cX1_isValid 14 (.iconst 1) 1 15 := by decide +kernel
theorem dX1_isValid_15 : Dc cX1_isValid 15 (.iadd) 1 16 := by decide +kernel
theorem dX1_isValid_16 : Dc cX1_isValid 16 (.invokevirtual 55) 3 19 := by decide +kernel
theorem dX1_isValid_19 : Dc cX1_isValid 19 (.istore 4) 2 21 := by decide +kernel
theorem dX1_isValid_21 : Dc cX1_isValid 21 (.iload_n 3) 1 22 := by decide +kernel
theorem dX1_isValid_22 : Dc cX1_isValid 22 (.iconst 3) 1 23 := by decide +kernel
theorem dX1_isValid_23 : Dc cX1_isValid 23 (.if_icmp .lt 27) 3 26 := by decide +kernel
theorem dX1_isValid_26 : Dc cX1_isValid 26 (.aload_n 0) 1 27 := by decide +kernel
theorem dX1_isValid_27 : Dc cX1_isValid 27 (.getfield 15) 3 30 := by decide +kernel
theorem dX1_isValid_30 : Dc cX1_isValid 30 (.iload_n 3) 1 31 := by decide +kernel
theorem dX1_isValid_31 : Dc cX1_isValid 31 (.invokevirtual 80) 3 34 := by decide +kernel
theorem dX1_isValid_34 : Dc cX1_isValid 34 (.ifCond .eq 16) 3 37 := by decide +kernel
theorem dX1_isValid_37 : Dc cX1_isValid 37 (.iload 4) 2 39 := by decide +kernel
theorem dX1_isValid_39 : Dc cX1_isValid 39 (.iconst 1) 1 40 := by decide +kernel
theorem dX1_isValid_40 : Dc cX1_isValid 40 (.if_icmp .lt 10) 3 43 := by decide +kernel
theorem dX1_isValid_43 : Dc cX1_isValid 43 (.iload 4) 2 45 := by decide +kernel
theorem dX1_isValid_45 : Dc cX1_isValid 45 (.bipush 14) 2 47 := by decide +kernel
theorem dX1_isValid_47 : Dc cX1_isValid 47 (.if_icmp .le 5) 3 50 := by decide +kernel
theorem dX1_isValid_50 : Dc cX1_isValid 50 (.iconst 0) 1 51 := by decide +kernel
theorem dX1_isValid_51 : Dc cX1_isValid 51 (.ireturn) 1 52 := by decide +kernel
theorem dX1_isValid_52 : Dc cX1_isValid 52 (.aload_n 0) 1 53 := by decide +kernel
theorem dX1_isValid_53 : Dc cX1_isValid 53 (.getfield 22) 3 56 := by decide +kernel
theorem dX1_isValid_56 : Dc cX1_isValid 56 (.aload_n 0) 1 57 := by decide +kernel
theorem dX1_isValid_57 : Dc cX1_isValid 57 (.getfield 9) 3 60 := by decide +kernel
theorem dX1_isValid_60 : Dc cX1_isValid 60 (.iload_n 2) 1 61 := by decide +kernel
theorem dX1_isValid_61 : Dc cX1_isValid 61 (.iconst 2) 1 62 := by decide +kernel
theorem dX1_isValid_62 : Dc cX1_isValid 62 (.iadd) 1 63 := by decide +kernel
theorem dX1_isValid_63 : Dc cX1_isValid 63 (.iload 4) 2 65 := by decide +kernel
theorem dX1_isValid_65 : Dc cX1_isValid 65 (.invokevirtual 107) 3 68 := by decide +kernel
theorem dX1_isValid_68 : Dc cX1_isValid 68 (.aload_n 0) 1 69 := by decide +kernel
theorem dX1_isValid_69 : Dc cX1_isValid 69 (.getfield 9) 3 72 := by decide +kernel
theorem dX1_isValid_72 : Dc cX1_isValid 72 (.iload_n 2) 1 73 := by decide +kernel
theorem dX1_isValid_73 : Dc cX1_isValid 73 (.iconst 2) 1 74 := by decide +kernel
theorem dX1_isValid_74 : Dc cX1_isValid 74 (.iadd) 1 75 := by decide +kernel
theorem dX1_isValid_75 : Dc cX1_isValid 75 (.iload 4) 2 77 := by decide +kernel
theorem dX1_isValid_77 : Dc cX1_isValid 77 (.iadd) 1 78 := by decide +kernel
theorem dX1_isValid_78 : Dc cX1_isValid 78 (.bipush 14) 2 80 := by decide +kernel
theorem dX1_isValid_80 : Dc cX1_isValid 80 (.iload 4) 2 82 := by decide +kernel
theorem dX1_isValid_82 : Dc cX1_isValid 82 (.isub) 1 83 := by decide +kernel
theorem dX1_isValid_83 : Dc cX1_isValid 83 (.invokevirtual 111) 3 86 := by decide +kernel
theorem dX1_isValid_86 : Dc cX1_isValid 86 (.ifCond .eq 30) 3 89 := by decide +kernel
theorem dX1_isValid_89 : Dc cX1_isValid 89 (.aload_n 0) 1 90 := by decide +kernel
theorem dX1_isValid_90 : Dc cX1_isValid 90 (.getfield 22) 3 93 := by decide +kernel
theorem dX1_isValid_93 : Dc cX1_isValid 93 (.invokevirtual 114) 3 96 := by decide +kernel
theorem dX1_isValid_96 : Dc cX1_isValid 96 (.ifCond .eq 20) 3 99 := by decide +kernel
theorem dX1_isValid_99 : Dc cX1_isValid 99 (.aload_n 0) 1 100 := by decide +kernel
theorem dX1_isValid_100 : Dc cX1_isValid 100 (.iload_n 1) 1 101 := by decide +kernel
theorem dX1_isValid_101 : Dc cX1_isValid 101 (.aload_n 0) 1 102 := by decide +kernel
theorem dX1_isValid_102 : Dc cX1_isValid 102 (.getfield 22) 3 105 := by decide +kernel
theorem dX1_isValid_105 : Dc cX1_isValid 105 (.invokevirtual 118) 3 108 := by decide +kernel
theorem dX1_isValid_108 : Dc cX1_isValid 108 (.iload_n 2) 1 109 := by decide +kernel
theorem dX1_isValid_109 : Dc cX1_isValid 109 (.if_icmp .ne 7) 3 112 := by decide +kernel
theorem dX1_isValid_112 : Dc cX1_isValid 112 (.iconst 1) 1 113 := by decide +kernel
theorem dX1_isValid_113 : Dc cX1_isValid 113 (.goto 4) 3 116 := by decide +kernel
theorem dX1_isValid_116 : Dc cX1_isValid 116 (.iconst 0) 1 117 := by decide +kernel
theorem dX1_isValid_117 : Dc cX1_isValid 117 (.ireturn) 1 118 := by decide +kernel
theorem dX1_wipeEntriesOf_0 : Dc cX1_wipeEntriesOf 0 (.iconst 1) 1 1 := by decide +kernel
theorem dX1_wipeEntriesOf_1 : Dc cX1_wipeEntriesOf 1 (.istore_n 2) 1 2 := by decide +kernel
theorem dX1_wipeEntriesOf_2 : Dc cX1_wipeEntriesOf 2 (.iload_n 2) 1 3 := by decide +kernel
theorem dX1_wipeEntriesOf_3 : Dc cX1_wipeEntriesOf 3 (.bipush 32) 2 5 := by decide +kernel
theorem dX1_wipeEntriesOf_5 : Dc cX1_wipeEntriesOf 5 (.if_icmp .ge 74) 3 8 := by decide +kernel
theorem dX1_wipeEntriesOf_8 : Dc cX1_wipeEntriesOf 8 (.aload_n 0) 1 9 := by decide +kernel
theorem dX1_wipeEntriesOf_9 : Dc cX1_wipeEntriesOf 9 (.getfield 15) 3 12 := by decide +kernel
theorem dX1_wipeEntriesOf_12 : Dc cX1_wipeEntriesOf 12 (.iload_n 2) 1 13 := by decide +kernel
theorem dX1_wipeEntriesOf_13 : Dc cX1_wipeEntriesOf 13 (.invokevirtual 80) 3 16 := by decide +kernel
theorem dX1_wipeEntriesOf_16 : Dc cX1_wipeEntriesOf 16 (.iconst 2) 1 17 := by decide +kernel
theorem dX1_wipeEntriesOf_17 : Dc cX1_wipeEntriesOf 17 (.if_icmp .ne 11) 3 20 := by decide +kernel
theorem dX1_wipeEntriesOf_20 : Dc cX1_wipeEntriesOf 20 (.aload_n 0) 1 21 := by decide +kernel
theorem dX1_wipeEntriesOf_21 : Dc cX1_wipeEntriesOf 21 (.iload_n 2) 1 22 := by decide +kernel
theorem dX1_wipeEntriesOf_22 : Dc cX1_wipeEntriesOf 22 (.invokevirtual 45) 3 25 := by decide +kernel
theorem dX1_wipeEntriesOf_25 : Dc cX1_wipeEntriesOf 25 (.goto 4) 3 28 := by decide +kernel
theorem dX1_wipeEntriesOf_28 : Dc cX1_wipeEntriesOf 28 (.iconst 0) 1 29 := by decide +kernel
theorem dX1_wipeEntriesOf_29 : Dc cX1_wipeEntriesOf 29 (.istore_n 3) 1 30 := by decide +kernel
theorem dX1_wipeEntriesOf_30 : Dc cX1_wipeEntriesOf 30 (.iconst 2) 1 31 := by decide +kernel
theorem dX1_wipeEntriesOf_31 : Dc cX1_wipeEntriesOf 31 (.istore 4) 2 33 := by decide +kernel
theorem dX1_wipeEntriesOf_33 : Dc cX1_wipeEntriesOf 33 (.iload 4) 2 35 := by decide +kernel
theorem dX1_wipeEntriesOf_35 : Dc cX1_wipeEntriesOf 35 (.iload_n 3) 1 36 := by decide +kernel
theorem dX1_wipeEntriesOf_36 : Dc cX1_wipeEntriesOf 36 (.if_icmp .ge 37) 3 39 := by decide +kernel
theorem dX1_wipeEntriesOf_39 : Dc cX1_wipeEntriesOf 39 (.aload_n 0) 1 40 := by decide +kernel
theorem dX1_wipeEntriesOf_40 : Dc cX1_wipeEntriesOf 40 (.iload_n 2) 1 41 := by decide +kernel
theorem dX1_wipeEntriesOf_41 : Dc cX1_wipeEntriesOf 41 (.iload 4) 2 43 := by decide +kernel
theorem dX1_wipeEntriesOf_43 : Dc cX1_wipeEntriesOf 43 (.invokevirtual 48) 3 46 := by decide +kernel
theorem dX1_wipeEntriesOf_46 : Dc cX1_wipeEntriesOf 46 (.istore 5) 2 48 := by decide +kernel
theorem dX1_wipeEntriesOf_48 : Dc cX1_wipeEntriesOf 48 (.aload_n 0) 1 49 := by decide +kernel
theorem dX1_wipeEntriesOf_49 : Dc cX1_wipeEntriesOf 49 (.getfield 9) 3 52 := by decide +kernel
theorem dX1_wipeEntriesOf_52 : Dc cX1_wipeEntriesOf 52 (.iload 5) 2 54 := by decide +kernel
theorem dX1_wipeEntriesOf_54 : Dc cX1_wipeEntriesOf 54 (.invokevirtual 55) 3 57 := by decide +kernel
theorem dX1_wipeEntriesOf_57 : Dc cX1_wipeEntriesOf 57 (.iload_n 1) 1 58 := by decide +kernel
theorem dX1_wipeEntriesOf_58 : Dc cX1_wipeEntriesOf 58 (.if_icmp .ne 9) 3 61 := by decide +kernel
theorem dX1_wipeEntriesOf_61 : Dc cX1_wipeEntriesOf 61 (.aload_n 0) 1 62 := by decide +kernel
theorem dX1_wipeEntriesOf_62 : Dc cX1_wipeEntriesOf 62 (.iload 5) 2 64 := by decide +kernel
theorem dX1_wipeEntriesOf_64 : Dc cX1_wipeEntriesOf 64 (.invokevirtual 104) 3 67 := by decide +kernel
theorem dX1_wipeEntriesOf_67 : Dc cX1_wipeEntriesOf 67 (.iinc 4 1) 3 70 := by decide +kernel
theorem dX1_wipeEntriesOf_70 : Dc cX1_wipeEntriesOf 70 (.goto (-37)) 3 73 := by decide +kernel
theorem dX1_wipeEntriesOf_73 : Dc cX1_wipeEntriesOf 73 (.iinc 2 1) 3 76 := by decide +kernel
theorem dX1_wipeEntriesOf_76 : Dc cX1_wipeEntriesOf 76 (.goto (-74)) 3 79 := by decide +kernel
theorem dX1_wipeEntriesOf_79 : Dc cX1_wipeEntriesOf 79 (.return_) 1 80 := by decide +kernel
theorem dX1_countLinks_0 : Dc cX1_countLinks 0 (.iconst 1) 1 1 := by decide +kernel
theorem dX1_countLinks_1 : Dc cX1_countLinks 1 (.istore_n 1) 1 2 := by decide +kernel
theorem dX1_countLinks_2 : Dc cX1_countLinks 2 (.iload_n 1) 1 3 := by decide +kernel
theorem dX1_countLinks_3 : Dc cX1_countLinks 3 (.bipush 32) 2 5 := by decide +kernel
theorem dX1_countLinks_5 : Dc cX1_countLinks 5 (.if_icmp .ge 34) 3 8 := by decide +kernel
theorem dX1_countLinks_8 : Dc cX1_countLinks 8 (.aload_n 0) 1 9 := by decide +kernel
theorem dX1_countLinks_9 : Dc cX1_countLinks 9 (.getfield 15) 3 12 := by decide +kernel
theorem dX1_countLinks_12 : Dc cX1_countLinks 12 (.iload_n 1) 1 13 := by decide +kernel
theorem dX1_countLinks_13 : Dc cX1_countLinks 13 (.aload_n 0) 1 14 := by decide +kernel
theorem dX1_countLinks_14 : Dc cX1_countLinks 14 (.getfield 15) 3 17 := by decide +kernel
theorem dX1_countLinks_17 : Dc cX1_countLinks 17 (.iload_n 1) 1 18 := by decide +kernel
theorem dX1_countLinks_18 : Dc cX1_countLinks 18 (.invokevirtual 80) 3 21 := by decide +kernel
theorem dX1_countLinks_21 : Dc cX1_countLinks 21 (.iconst 2) 1 22 := by decide +kernel
theorem dX1_countLinks_22 : Dc cX1_countLinks 22 (.if_icmp .ne 7) 3 25 := by decide +kernel
theorem dX1_countLinks_25 : Dc cX1_countLinks 25 (.iconst 2) 1 26 := by decide +kernel
theorem dX1_countLinks_26 : Dc cX1_countLinks 26 (.goto 4) 3 29 := by decide +kernel
theorem dX1_countLinks_29 : Dc cX1_countLinks 29 (.iconst 0) 1 30 := by decide +kernel
theorem dX1_countLinks_30 : Dc cX1_countLinks 30 (.invokevirtual 122) 3 33 := by decide +kernel
theorem dX1_countLinks_33 : Dc cX1_countLinks 33 (.iinc 1 1) 3 36 := by decide +kernel
theorem dX1_countLinks_36 : Dc cX1_countLinks 36 (.goto (-34)) 3 39 := by decide +kernel
theorem dX1_countLinks_39 : Dc cX1_countLinks 39 (.iconst 1) 1 40 := by decide +kernel
theorem dX1_countLinks_40 : Dc cX1_countLinks 40 (.istore_n 1) 1 41 := by decide +kernel
theorem dX1_countLinks_41 : Dc cX1_countLinks 41 (.iload_n 1) 1 42 := by decide +kernel
theorem dX1_countLinks_42 : Dc cX1_countLinks 42 (.bipush 32) 2 44 := by decide +kernel
theorem dX1_countLinks_44 : Dc cX1_countLinks 44 (.if_icmp .ge 62) 3 47 := by decide +kernel
theorem dX1_countLinks_47 : Dc cX1_countLinks 47 (.aload_n 0) 1 48 := by decide +kernel
theorem dX1_countLinks_48 : Dc cX1_countLinks 48 (.getfield 15) 3 51 := by decide +kernel
theorem dX1_countLinks_51 : Dc cX1_countLinks 51 (.iload_n 1) 1 52 := by decide +kernel
theorem dX1_countLinks_52 : Dc cX1_countLinks 52 (.invokevirtual 80) 3 55 := by decide +kernel
theorem dX1_countLinks_55 : Dc cX1_countLinks 55 (.iconst 2) 1 56 := by decide +kernel
theorem dX1_countLinks_56 : Dc cX1_countLinks 56 (.if_icmp .ne 11) 3 59 := by decide +kernel
theorem dX1_countLinks_59 : Dc cX1_countLinks 59 (.aload_n 0) 1 60 := by decide +kernel
theorem dX1_countLinks_60 : Dc cX1_countLinks 60 (.iload_n 1) 1 61 := by decide +kernel
theorem dX1_countLinks_61 : Dc cX1_countLinks 61 (.invokevirtual 45) 3 64 := by decide +kernel
theorem dX1_countLinks_64 : Dc cX1_countLinks 64 (.goto 4) 3 67 := by decide +kernel
theorem dX1_countLinks_67 : Dc cX1_countLinks 67 (.iconst 0) 1 68 := by decide +kernel
theorem dX1_countLinks_68 : Dc cX1_countLinks 68 (.istore_n 2) 1 69 := by decide +kernel
theorem dX1_countLinks_69 : Dc cX1_countLinks 69 (.iconst 2) 1 70 := by decide +kernel
theorem dX1_countLinks_70 : Dc cX1_countLinks 70 (.istore_n 3) 1 71 := by decide +kernel
theorem dX1_countLinks_71 : Dc cX1_countLinks 71 (.iload_n 3) 1 72 := by decide +kernel
theorem dX1_countLinks_72 : Dc cX1_countLinks 72 (.iload_n 2) 1 73 := by decide +kernel
theorem dX1_countLinks_73 : Dc cX1_countLinks 73 (.if_icmp .ge 27) 3 76 := by decide +kernel
theorem dX1_countLinks_76 : Dc cX1_countLinks 76 (.aload_n 0) 1 77 := by decide +kernel
theorem dX1_countLinks_77 : Dc cX1_countLinks 77 (.iload_n 1) 1 78 := by decide +kernel
theorem dX1_countLinks_78 : Dc cX1_countLinks 78 (.aload_n 0) 1 79 := by decide +kernel
theorem dX1_countLinks_79 : Dc cX1_countLinks 79 (.getfield 9) 3 82 := by decide +kernel
theorem dX1_countLinks_82 : Dc cX1_countLinks 82 (.aload_n 0) 1 83 := by decide +kernel
theorem dX1_countLinks_83 : Dc cX1_countLinks 83 (.iload_n 1) 1 84 := by decide +kernel
theorem dX1_countLinks_84 : Dc cX1_countLinks 84 (.iload_n 3) 1 85 := by decide +kernel
theorem dX1_countLinks_85 : Dc cX1_countLinks 85 (.invokevirtual 48) 3 88 := by decide +kernel
theorem dX1_countLinks_88 : Dc cX1_countLinks 88 (.invokevirtual 55) 3 91 := by decide +kernel
theorem dX1_countLinks_91 : Dc cX1_countLinks 91 (.invokevirtual 125) 3 94 := by decide +kernel
theorem dX1_countLinks_94 : Dc cX1_countLinks 94 (.iinc 3 1) 3 97 := by decide +kernel
theorem dX1_countLinks_97 : Dc cX1_countLinks 97 (.goto (-26)) 3 100 := by decide +kernel
theorem dX1_countLinks_100 : Dc cX1_countLinks 100 (.iinc 1 1) 3 103 := by decide +kernel
theorem dX1_countLinks_103 : Dc cX1_countLinks 103 (.goto (-62)) 3 106 := by decide +kernel
theorem dX1_countLinks_106 : Dc cX1_countLinks 106 (.return_) 1 107 := by decide +kernel
theorem dX1_countLink_0 : Dc cX1_countLink 0 (.aload_n 0) 1 1 := by decide +kernel
theorem dX1_countLink_1 : Dc cX1_countLink 1 (.getfield 15) 3 4 := by decide +kernel
theorem dX1_countLink_4 : Dc cX1_countLink 4 (.iload_n 2) 1 5 := by decide +kernel
theorem dX1_countLink_5 : Dc cX1_countLink 5 (.invokevirtual 80) 3 8 := by decide +kernel
theorem dX1_countLink_8 : Dc cX1_countLink 8 (.istore_n 3) 1 9 := by decide +kernel
theorem dX1_countLink_9 : Dc cX1_countLink 9 (.iload_n 3) 1 10 := by decide +kernel
theorem dX1_countLink_10 : Dc cX1_countLink 10 (.ifCond .eq 35) 3 13 := by decide +kernel
theorem dX1_countLink_13 : Dc cX1_countLink 13 (.iload_n 3) 1 14 := by decide +kernel
theorem dX1_countLink_14 : Dc cX1_countLink 14 (.iconst 2) 1 15 := by decide +kernel
theorem dX1_countLink_15 : Dc cX1_countLink 15 (.if_icmp .ne 7) 3 18 := by decide +kernel
theorem dX1_countLink_18 : Dc cX1_countLink 18 (.iload_n 1) 1 19 := by decide +kernel
theorem dX1_countLink_19 : Dc cX1_countLink 19 (.goto 4) 3 22 := by decide +kernel
theorem dX1_countLink_22 : Dc cX1_countLink 22 (.iload_n 2) 1 23 := by decide +kernel
theorem dX1_countLink_23 : Dc cX1_countLink 23 (.istore 4) 2 25 := by decide +kernel
theorem dX1_countLink_25 : Dc cX1_countLink 25 (.aload_n 0) 1 26 := by decide +kernel
theorem dX1_countLink_26 : Dc cX1_countLink 26 (.getfield 15) 3 29 := by decide +kernel
theorem dX1_countLink_29 : Dc cX1_countLink 29 (.iload 4) 2 31 := by decide +kernel
theorem dX1_countLink_31 : Dc cX1_countLink 31 (.aload_n 0) 1 32 := by decide +kernel
theorem dX1_countLink_32 : Dc cX1_countLink 32 (.getfield 15) 3 35 := by decide +kernel
theorem dX1_countLink_35 : Dc cX1_countLink 35 (.iload 4) 2 37 := by decide +kernel
theorem dX1_countLink_37 : Dc cX1_countLink 37 (.invokevirtual 128) 3 40 := by decide +kernel
theorem dX1_countLink_40 : Dc cX1_countLink 40 (.iconst 1) 1 41 := by decide +kernel
theorem dX1_countLink_41 : Dc cX1_countLink 41 (.iadd) 1 42 := by decide +kernel
theorem dX1_countLink_42 : Dc cX1_countLink 42 (.invokevirtual 122) 3 45 := by decide +kernel
theorem dX1_countLink_45 : Dc cX1_countLink 45 (.return_) 1 46 := by decide +kernel
theorem dX2_init_0 : Dc cX2_init 0 (.aload_n 0) 1 1 := by decide +kernel
theorem dX2_init_1 : Dc cX2_init 1 (.invokespecial 3) 3 4 := by decide +kernel
theorem dX2_init_4 : Dc cX2_init 4 (.aload_n 0) 1 5 := by decide +kernel
theorem dX2_init_5 : Dc cX2_init 5 (.sipush 4096) 3 8 := by decide +kernel
theorem dX2_init_8 : Dc cX2_init 8 (.newarray .int) 2 10 := by decide +kernel
theorem dX2_init_10 : Dc cX2_init 10 (.putfield 9) 3 13 := by decide +kernel
theorem dX2_init_13 : Dc cX2_init 13 (.return_) 1 14 := by decide +kernel
theorem dX2_at_0 : Dc cX2_at 0 (.iload_n 1) 1 1 := by decide +kernel
theorem dX2_at_1 : Dc cX2_at 1 (.ifCond .lt 19) 3 4 := by decide +kernel
theorem dX2_at_4 : Dc cX2_at 4 (.iload_n 1) 1 5 := by decide +kernel
theorem dX2_at_5 : Dc cX2_at 5 (.sipush 4096) 3 8 := by decide +kernel
theorem dX2_at_8 : Dc cX2_at 8 (.if_icmp .ge 12) 3 11 := by decide +kernel
theorem dX2_at_11 : Dc cX2_at 11 (.aload_n 0) 1 12 := by decide +kernel
theorem dX2_at_12 : Dc cX2_at 12 (.getfield 9) 3 15 := by decide +kernel
theorem dX2_at_15 : Dc cX2_at 15 (.iload_n 1) 1 16 := by decide +kernel
theorem dX2_at_16 : Dc cX2_at 16 (.iaload) 1 17 := by decide +kernel
theorem dX2_at_17 : Dc cX2_at 17 (.goto 4) 3 20 := by decide +kernel
theorem dX2_at_20 : Dc cX2_at 20 (.iconst 0) 1 21 := by decide +kernel
theorem dX2_at_21 : Dc cX2_at 21 (.ireturn) 1 22 := by decide +kernel
theorem dX2_set_0 : Dc cX2_set 0 (.iload_n 1) 1 1 := by decide +kernel
theorem dX2_set_1 : Dc cX2_set 1 (.ifCond .lt 21) 3 4 := by decide +kernel
theorem dX2_set_4 : Dc cX2_set 4 (.iload_n 1) 1 5 := by decide +kernel
theorem dX2_set_5 : Dc cX2_set 5 (.sipush 4096) 3 8 := by decide +kernel
theorem dX2_set_8 : Dc cX2_set 8 (.if_icmp .ge 14) 3 11 := by decide +kernel
theorem dX2_set_11 : Dc cX2_set 11 (.aload_n 0) 1 12 := by decide +kernel
theorem dX2_set_12 : Dc cX2_set 12 (.getfield 9) 3 15 := by decide +kernel
theorem dX2_set_15 : Dc cX2_set 15 (.iload_n 1) 1 16 := by decide +kernel
theorem dX2_set_16 : Dc cX2_set 16 (.iload_n 2) 1 17 := by decide +kernel
theorem dX2_set_17 : Dc cX2_set 17 (.sipush 255) 3 20 := by decide +kernel
theorem dX2_set_20 : Dc cX2_set 20 (.iand) 1 21 := by decide +kernel
theorem dX2_set_21 : Dc cX2_set 21 (.iastore) 1 22 := by decide +kernel
theorem dX2_set_22 : Dc cX2_set 22 (.return_) 1 23 := by decide +kernel
theorem dX2_pairAt_0 : Dc cX2_pairAt 0 (.iload_n 1) 1 1 := by decide +kernel
theorem dX2_pairAt_1 : Dc cX2_pairAt 1 (.ifCond .lt 32) 3 4 := by decide +kernel
theorem dX2_pairAt_4 : Dc cX2_pairAt 4 (.iload_n 1) 1 5 := by decide +kernel
theorem dX2_pairAt_5 : Dc cX2_pairAt 5 (.sipush 4095) 3 8 := by decide +kernel
theorem dX2_pairAt_8 : Dc cX2_pairAt 8 (.if_icmp .ge 25) 3 11 := by decide +kernel
theorem dX2_pairAt_11 : Dc cX2_pairAt 11 (.aload_n 0) 1 12 := by decide +kernel
theorem dX2_pairAt_12 : Dc cX2_pairAt 12 (.getfield 9) 3 15 := by decide +kernel
theorem dX2_pairAt_15 : Dc cX2_pairAt 15 (.iload_n 1) 1 16 := by decide +kernel
theorem dX2_pairAt_16 : Dc cX2_pairAt 16 (.iaload) 1 17 := by decide +kernel
theorem dX2_pairAt_17 : Dc cX2_pairAt 17 (.sipush 256) 3 20 := by decide +kernel
theorem dX2_pairAt_20 : Dc cX2_pairAt 20 (.imul) 1 21 := by decide +kernel
theorem dX2_pairAt_21 : Dc cX2_pairAt 21 (.aload_n 0) 1 22 := by decide +kernel
theorem dX2_pairAt_22 : Dc cX2_pairAt 22 (.getfield 9) 3 25 := by decide +kernel
theorem dX2_pairAt_25 : Dc cX2_pairAt 25 (.iload_n 1) 1 26 := by decide +kernel
theorem dX2_pairAt_26 : Dc cX2_pairAt 26 (.iconst 1) 1 27 := by decide +kernel
theorem dX2_pairAt_27 : Dc cX2_pairAt 27 (.iadd) 1 28 := by decide +kernel
theorem dX2_pairAt_28 : Dc cX2_pairAt 28 (.iaload) 1 29 := by decide +kernel
theorem dX2_pairAt_29 : Dc cX2_pairAt 29 (.iadd) 1 30 := by decide +kernel
theorem dX2_pairAt_30 : Dc cX2_pairAt 30 (.goto 4) 3 33 := by decide +kernel
theorem dX2_pairAt_33 : Dc cX2_pairAt 33 (.iconst 0) 1 34 := by decide +kernel
theorem dX2_pairAt_34 : Dc cX2_pairAt 34 (.ireturn) 1 35 := by decide +kernel
theorem dX2_setPair_0 : Dc cX2_setPair 0 (.iload_n 1) 1 1 := by decide +kernel
theorem dX2_setPair_1 : Dc cX2_setPair 1 (.ifCond .lt 37) 3 4 := by decide +kernel
theorem dX2_setPair_4 : Dc cX2_setPair 4 (.iload_n 1) 1 5 := by decide +kernel
theorem dX2_setPair_5 : Dc cX2_setPair 5 (.sipush 4095) 3 8 := by decide +kernel
theorem dX2_setPair_8 : Dc cX2_setPair 8 (.if_icmp .ge 30) 3 11 := by decide +kernel
theorem dX2_setPair_11 : Dc cX2_setPair 11 (.aload_n 0) 1 12 := by decide +kernel
theorem dX2_setPair_12 : Dc cX2_setPair 12 (.getfield 9) 3 15 := by decide +kernel
theorem dX2_setPair_15 : Dc cX2_setPair 15 (.iload_n 1) 1 16 := by decide +kernel
theorem dX2_setPair_16 : Dc cX2_setPair 16 (.iload_n 2) 1 17 := by decide +kernel
theorem dX2_setPair_17 : Dc cX2_setPair 17 (.bipush 8) 2 19 := by decide +kernel
theorem dX2_setPair_19 : Dc cX2_setPair 19 (.ishr) 1 20 := by decide +kernel
theorem dX2_setPair_20 : Dc cX2_setPair 20 (.sipush 255) 3 23 := by decide +kernel
theorem dX2_setPair_23 : Dc cX2_setPair 23 (.iand) 1 24 := by decide +kernel
theorem dX2_setPair_24 : Dc cX2_setPair 24 (.iastore) 1 25 := by decide +kernel
theorem dX2_setPair_25 : Dc cX2_setPair 25 (.aload_n 0) 1 26 := by decide +kernel
theorem dX2_setPair_26 : Dc cX2_setPair 26 (.getfield 9) 3 29 := by decide +kernel
theorem dX2_setPair_29 : Dc cX2_setPair 29 (.iload_n 1) 1 30 := by decide +kernel
theorem dX2_setPair_30 : Dc cX2_setPair 30 (.iconst 1) 1 31 := by decide +kernel
theorem dX2_setPair_31 : Dc cX2_setPair 31 (.iadd) 1 32 := by decide +kernel
theorem dX2_setPair_32 : Dc cX2_setPair 32 (.iload_n 2) 1 33 := by decide +kernel
theorem dX2_setPair_33 : Dc cX2_setPair 33 (.sipush 255) 3 36 := by decide +kernel
theorem dX2_setPair_36 : Dc cX2_setPair 36 (.iand) 1 37 := by decide +kernel
theorem dX2_setPair_37 : Dc cX2_setPair 37 (.iastore) 1 38 := by decide +kernel
theorem dX2_setPair_38 : Dc cX2_setPair 38 (.return_) 1 39 := by decide +kernel
theorem dX2_hasText_0 : Dc cX2_hasText 0 (.iconst 0) 1 1 := by decide +kernel
theorem dX2_hasText_1 : Dc cX2_hasText 1 (.istore_n 3) 1 2 := by decide +kernel
theorem dX2_hasText_2 : Dc cX2_hasText 2 (.iload_n 3) 1 3 := by decide +kernel
theorem dX2_hasText_3 : Dc cX2_hasText 3 (.aload_n 2) 1 4 := by decide +kernel
theorem dX2_hasText_4 : Dc cX2_hasText 4 (.invokevirtual 15) 3 7 := by decide +kernel
theorem dX2_hasText_7 : Dc cX2_hasText 7 (.if_icmp .ge 26) 3 10 := by decide +kernel
theorem dX2_hasText_10 : Dc cX2_hasText 10 (.aload_n 0) 1 11 := by decide +kernel
theorem dX2_hasText_11 : Dc cX2_hasText 11 (.iload_n 1) 1 12 := by decide +kernel
theorem dX2_hasText_12 : Dc cX2_hasText 12 (.iload_n 3) 1 13 := by decide +kernel
theorem dX2_hasText_13 : Dc cX2_hasText 13 (.iadd) 1 14 := by decide +kernel
theorem dX2_hasText_14 : Dc cX2_hasText 14 (.invokevirtual 21) 3 17 := by decide +kernel
theorem dX2_hasText_17 : Dc cX2_hasText 17 (.aload_n 2) 1 18 := by decide +kernel
theorem dX2_hasText_18 : Dc cX2_hasText 18 (.iload_n 3) 1 19 := by decide +kernel
theorem dX2_hasText_19 : Dc cX2_hasText 19 (.invokevirtual 25) 3 22 := by decide +kernel
theorem dX2_hasText_22 : Dc cX2_hasText 22 (.if_icmp .eq 5) 3 25 := by decide +kernel
theorem dX2_hasText_25 : Dc cX2_hasText 25 (.iconst 0) 1 26 := by decide +kernel
theorem dX2_hasText_26 : Dc cX2_hasText 26 (.ireturn) 1 27 := by decide +kernel
theorem dX2_hasText_27 : Dc cX2_hasText 27 (.iinc 3 1) 3 30 := by decide +kernel
theorem dX2_hasText_30 : Dc cX2_hasText 30 (.goto (-28)) 3 33 := by decide +kernel
theorem dX2_hasText_33 : Dc cX2_hasText 33 (.iconst 1) 1 34 := by decide +kernel
theorem dX2_hasText_34 : Dc cX2_hasText 34 (.ireturn) 1 35 := by decide +kernel
theorem dX2_setText_0 : Dc cX2_setText 0 (.iconst 0) 1 1 := by decide +kernel
theorem dX2_setText_1 : Dc cX2_setText 1 (.istore_n 3) 1 2 := by decide +kernel
theorem dX2_setText_2 : Dc cX2_setText 2 (.iload_n 3) 1 3 := by decide +kernel
theorem dX2_setText_3 : Dc cX2_setText 3 (.aload_n 2) 1 4 := by decide +kernel
theorem dX2_setText_4 : Dc cX2_setText 4 (.invokevirtual 15) 3 7 := by decide +kernel
theorem dX2_setText_7 : Dc cX2_setText 7 (.if_icmp .ge 21) 3 10 := by decide +kernel
theorem dX2_setText_10 : Dc cX2_setText 10 (.aload_n 0) 1 11 := by decide +kernel
theorem dX2_setText_11 : Dc cX2_setText 11 (.iload_n 1) 1 12 := by decide +kernel
theorem dX2_setText_12 : Dc cX2_setText 12 (.iload_n 3) 1 13 := by decide +kernel
theorem dX2_setText_13 : Dc cX2_setText 13 (.iadd) 1 14 := by decide +kernel
theorem dX2_setText_14 : Dc cX2_setText 14 (.aload_n 2) 1 15 := by decide +kernel
theorem dX2_setText_15 : Dc cX2_setText 15 (.iload_n 3) 1 16 := by decide +kernel
theorem dX2_setText_16 : Dc cX2_setText 16 (.invokevirtual 25) 3 19 := by decide +kernel
theorem dX2_setText_19 : Dc cX2_setText 19 (.invokevirtual 29) 3 22 := by decide +kernel
theorem dX2_setText_22 : Dc cX2_setText 22 (.iinc 3 1) 3 25 := by decide +kernel
theorem dX2_setText_25 : Dc cX2_setText 25 (.goto (-23)) 3 28 := by decide +kernel
theorem dX2_setText_28 : Dc cX2_setText 28 (.return_) 1 29 := by decide +kernel
theorem dX2_wipe_0 : Dc cX2_wipe 0 (.iload_n 1) 1 1 := by decide +kernel
theorem dX2_wipe_1 : Dc cX2_wipe 1 (.iload_n 2) 1 2 := by decide +kernel
theorem dX2_wipe_2 : Dc cX2_wipe 2 (.invokestatic 33) 3 5 := by decide +kernel
theorem dX2_wipe_5 : Dc cX2_wipe 5 (.ifCond .eq 15) 3 8 := by decide +kernel
theorem dX2_wipe_8 : Dc cX2_wipe 8 (.aload_n 0) 1 9 := by decide +kernel
theorem dX2_wipe_9 : Dc cX2_wipe 9 (.getfield 9) 3 12 := by decide +kernel
theorem dX2_wipe_12 : Dc cX2_wipe 12 (.iload_n 1) 1 13 := by decide +kernel
theorem dX2_wipe_13 : Dc cX2_wipe 13 (.iload_n 1) 1 14 := by decide +kernel
theorem dX2_wipe_14 : Dc cX2_wipe 14 (.iload_n 2) 1 15 := by decide +kernel
theorem dX2_wipe_15 : Dc cX2_wipe 15 (.iadd) 1 16 := by decide +kernel
theorem dX2_wipe_16 : Dc cX2_wipe 16 (.iconst 0) 1 17 := by decide +kernel
theorem dX2_wipe_17 : Dc cX2_wipe 17 (.invokestatic 37) 3 20 := by decide +kernel
theorem dX2_wipe_20 : Dc cX2_wipe 20 (.return_) 1 21 := by decide +kernel
theorem dX2_isBlank_0 : Dc cX2_isBlank 0 (.iload_n 1) 1 1 := by decide +kernel
theorem dX2_isBlank_1 : Dc cX2_isBlank 1 (.iload_n 2) 1 2 := by decide +kernel
theorem dX2_isBlank_2 : Dc cX2_isBlank 2 (.invokestatic 33) 3 5 := by decide +kernel
theorem dX2_isBlank_5 : Dc cX2_isBlank 5 (.ifCond .ne 5) 3 8 := by decide +kernel
theorem dX2_isBlank_8 : Dc cX2_isBlank 8 (.iconst 1) 1 9 := by decide +kernel
theorem dX2_isBlank_9 : Dc cX2_isBlank 9 (.ireturn) 1 10 := by decide +kernel
theorem dX2_isBlank_10 : Dc cX2_isBlank 10 (.iload_n 1) 1 11 := by decide +kernel
theorem dX2_isBlank_11 : Dc cX2_isBlank 11 (.istore_n 3) 1 12 := by decide +kernel
theorem dX2_isBlank_12 : Dc cX2_isBlank 12 (.iload_n 3) 1 13 := by decide +kernel
theorem dX2_isBlank_13 : Dc cX2_isBlank 13 (.iload_n 1) 1 14 := by decide +kernel
theorem dX2_isBlank_14 : Dc cX2_isBlank 14 (.iload_n 2) 1 15 := by decide +kernel
theorem dX2_isBlank_15 : Dc cX2_isBlank 15 (.iadd) 1 16 := by decide +kernel
theorem dX2_isBlank_16 : Dc cX2_isBlank 16 (.if_icmp .ge 20) 3 19 := by decide +kernel
theorem dX2_isBlank_19 : Dc cX2_isBlank 19 (.aload_n 0) 1 20 := by decide +kernel
theorem dX2_isBlank_20 : Dc cX2_isBlank 20 (.getfield 9) 3 23 := by decide +kernel
theorem dX2_isBlank_23 : Dc cX2_isBlank 23 (.iload_n 3) 1 24 := by decide +kernel
theorem dX2_isBlank_24 : Dc cX2_isBlank 24 (.iaload) 1 25 := by decide +kernel
theorem dX2_isBlank_25 : Dc cX2_isBlank 25 (.ifCond .eq 5) 3 28 := by decide +kernel
theorem dX2_isBlank_28 : Dc cX2_isBlank 28 (.iconst 0) 1 29 := by decide +kernel
theorem dX2_isBlank_29 : Dc cX2_isBlank 29 (.ireturn) 1 30 := by decide +kernel
theorem dX2_isBlank_30 : Dc cX2_isBlank 30 (.iinc 3 1) 3 33 := by decide +kernel
theorem dX2_isBlank_33 : Dc cX2_isBlank 33 (.goto (-21)) 3 36 := by decide +kernel
theorem dX2_isBlank_36 : Dc cX2_isBlank 36 (.iconst 1) 1 37 := by decide +kernel
theorem dX2_isBlank_37 : Dc cX2_isBlank 37 (.ireturn) 1 38 := by decide +kernel
theorem dX2_sum_0 : Dc cX2_sum 0 (.iconst 0) 1 1 := by decide +kernel
theorem dX2_sum_1 : Dc cX2_sum 1 (.istore_n 3) 1 2 := by decide +kernel
theorem dX2_sum_2 : Dc cX2_sum 2 (.iload_n 1) 1 3 := by decide +kernel
theorem dX2_sum_3 : Dc cX2_sum 3 (.iload_n 2) 1 4 := by decide +kernel
theorem dX2_sum_4 : Dc cX2_sum 4 (.invokestatic 33) 3 7 := by decide +kernel
theorem dX2_sum_7 : Dc cX2_sum 7 (.ifCond .eq 30) 3 10 := by decide +kernel
theorem dX2_sum_10 : Dc cX2_sum 10 (.iload_n 1) 1 11 := by decide +kernel
theorem dX2_sum_11 : Dc cX2_sum 11 (.istore 4) 2 13 := by decide +kernel
theorem dX2_sum_13 : Dc cX2_sum 13 (.iload 4) 2 15 := by decide +kernel
theorem dX2_sum_15 : Dc cX2_sum 15 (.iload_n 1) 1 16 := by decide +kernel
theorem dX2_sum_16 : Dc cX2_sum 16 (.iload_n 2) 1 17 := by decide +kernel
theorem dX2_sum_17 : Dc cX2_sum 17 (.iadd) 1 18 := by decide +kernel
theorem dX2_sum_18 : Dc cX2_sum 18 (.if_icmp .ge 19) 3 21 := by decide +kernel
theorem dX2_sum_21 : Dc cX2_sum 21 (.iload_n 3) 1 22 := by decide +kernel
theorem dX2_sum_22 : Dc cX2_sum 22 (.aload_n 0) 1 23 := by decide +kernel
theorem dX2_sum_23 : Dc cX2_sum 23 (.getfield 9) 3 26 := by decide +kernel
theorem dX2_sum_26 : Dc cX2_sum 26 (.iload 4) 2 28 := by decide +kernel
theorem dX2_sum_28 : Dc cX2_sum 28 (.iaload) 1 29 := by decide +kernel
theorem dX2_sum_29 : Dc cX2_sum 29 (.iadd) 1 30 := by decide +kernel
theorem dX2_sum_30 : Dc cX2_sum 30 (.istore_n 3) 1 31 := by decide +kernel
theorem dX2_sum_31 : Dc cX2_sum 31 (.iinc 4 1) 3 34 := by decide +kernel
theorem dX2_sum_34 : Dc cX2_sum 34 (.goto (-21)) 3 37 := by decide +kernel
theorem dX2_sum_37 : Dc cX2_sum 37 (.iload_n 3) 1 38 := by decide +kernel
theorem dX2_sum_38 : Dc cX2_sum 38 (.ldc 43) 2 40 := by decide +kernel
theorem dX2_sum_40 : Dc cX2_sum 40 (.iand) 1 41 := by decide +kernel
theorem dX2_sum_41 : Dc cX2_sum 41 (.ireturn) 1 42 := by decide +kernel
theorem dX2_isRange_0 : Dc cX2_isRange 0 (.iload_n 0) 1 1 := by decide +kernel
theorem dX2_isRange_1 : Dc cX2_isRange 1 (.ifCond .lt 27) 3 4 := by decide +kernel
theorem dX2_isRange_4 : Dc cX2_isRange 4 (.iload_n 0) 1 5 := by decide +kernel
theorem dX2_isRange_5 : Dc cX2_isRange 5 (.sipush 4096) 3 8 := by decide +kernel
theorem dX2_isRange_8 : Dc cX2_isRange 8 (.if_icmp .gt 20) 3 11 := by decide +kernel
theorem dX2_isRange_11 : Dc cX2_isRange 11 (.iload_n 1) 1 12 := by decide +kernel
theorem dX2_isRange_12 : Dc cX2_isRange 12 (.ifCond .lt 16) 3 15 := by decide +kernel
theorem dX2_isRange_15 : Dc cX2_isRange 15 (.iload_n 1) 1 16 := by decide +kernel
theorem dX2_isRange_16 : Dc cX2_isRange 16 (.sipush 4096) 3 19 := by decide +kernel
theorem dX2_isRange_19 : Dc cX2_isRange 19 (.iload_n 0) 1 20 := by decide +kernel
theorem dX2_isRange_20 : Dc cX2_isRange 20 (.isub) 1 21 := by decide +kernel
theorem dX2_isRange_21 : Dc cX2_isRange 21 (.if_icmp .gt 7) 3 24 := by decide +kernel
theorem dX2_isRange_24 : Dc cX2_isRange 24 (.iconst 1) 1 25 := by decide +kernel
theorem dX2_isRange_25 : Dc cX2_isRange 25 (.goto 4) 3 28 := by decide +kernel
theorem dX2_isRange_28 : Dc cX2_isRange 28 (.iconst 0) 1 29 := by decide +kernel
theorem dX2_isRange_29 : Dc cX2_isRange 29 (.ireturn) 1 30 := by decide +kernel
theorem dX2_copyBlock_0 : Dc cX2_copyBlock 0 (.iload_n 1) 1 1 := by decide +kernel
theorem dX2_copyBlock_1 : Dc cX2_copyBlock 1 (.ifCond .lt 40) 3 4 := by decide +kernel
theorem dX2_copyBlock_4 : Dc cX2_copyBlock 4 (.iload_n 1) 1 5 := by decide +kernel
theorem dX2_copyBlock_5 : Dc cX2_copyBlock 5 (.bipush 64) 2 7 := by decide +kernel
theorem dX2_copyBlock_7 : Dc cX2_copyBlock 7 (.if_icmp .ge 34) 3 10 := by decide +kernel
theorem dX2_copyBlock_10 : Dc cX2_copyBlock 10 (.iload_n 3) 1 11 := by decide +kernel
theorem dX2_copyBlock_11 : Dc cX2_copyBlock 11 (.ifCond .lt 30) 3 14 := by decide +kernel
theorem dX2_copyBlock_14 : Dc cX2_copyBlock 14 (.iload_n 3) 1 15 := by decide +kernel
theorem dX2_copyBlock_15 : Dc cX2_copyBlock 15 (.bipush 64) 2 17 := by decide +kernel
theorem dX2_copyBlock_17 : Dc cX2_copyBlock 17 (.if_icmp .ge 24) 3 20 := by decide +kernel
theorem dX2_copyBlock_20 : Dc cX2_copyBlock 20 (.aload_n 2) 1 21 := by decide +kernel
theorem dX2_copyBlock_21 : Dc cX2_copyBlock 21 (.getfield 9) 3 24 := by decide +kernel
theorem dX2_copyBlock_24 : Dc cX2_copyBlock 24 (.iload_n 1) 1 25 := by decide +kernel
theorem dX2_copyBlock_25 : Dc cX2_copyBlock 25 (.bipush 64) 2 27 := by decide +kernel
theorem dX2_copyBlock_27 : Dc cX2_copyBlock 27 (.imul) 1 28 := by decide +kernel
theorem dX2_copyBlock_28 : Dc cX2_copyBlock 28 (.aload_n 0) 1 29 := by decide +kernel
theorem dX2_copyBlock_29 : Dc cX2_copyBlock 29 (.getfield 9) 3 32 := by decide +kernel
theorem dX2_copyBlock_32 : Dc cX2_copyBlock 32 (.iload_n 3) 1 33 := by decide +kernel
theorem dX2_copyBlock_33 : Dc cX2_copyBlock 33 (.bipush 64) 2 35 := by decide +kernel
theorem dX2_copyBlock_35 : Dc cX2_copyBlock 35 (.imul) 1 36 := by decide +kernel
theorem dX2_copyBlock_36 : Dc cX2_copyBlock 36 (.bipush 64) 2 38 := by decide +kernel
theorem dX2_copyBlock_38 : Dc cX2_copyBlock 38 (.invokestatic 44) 3 41 := by decide +kernel
theorem dX2_copyBlock_41 : Dc cX2_copyBlock 41 (.return_) 1 42 := by decide +kernel
theorem dX2_copyAll_0 : Dc cX2_copyAll 0 (.aload_n 1) 1 1 := by decide +kernel
theorem dX2_copyAll_1 : Dc cX2_copyAll 1 (.getfield 9) 3 4 := by decide +kernel
theorem dX2_copyAll_4 : Dc cX2_copyAll 4 (.iconst 0) 1 5 := by decide +kernel
theorem dX2_copyAll_5 : Dc cX2_copyAll 5 (.aload_n 0) 1 6 := by decide +kernel
theorem dX2_copyAll_6 : Dc cX2_copyAll 6 (.getfield 9) 3 9 := by decide +kernel
theorem dX2_copyAll_9 : Dc cX2_copyAll 9 (.iconst 0) 1 10 := by decide +kernel
theorem dX2_copyAll_10 : Dc cX2_copyAll 10 (.sipush 4096) 3 13 := by decide +kernel
theorem dX2_copyAll_13 : Dc cX2_copyAll 13 (.invokestatic 44) 3 16 := by decide +kernel
theorem dX2_copyAll_16 : Dc cX2_copyAll 16 (.return_) 1 17 := by decide +kernel
theorem dX2_sameBlock_0 : Dc cX2_sameBlock 0 (.iload_n 1) 1 1 := by decide +kernel
theorem dX2_sameBlock_1 : Dc cX2_sameBlock 1 (.ifCond .lt 9) 3 4 := by decide +kernel
theorem dX2_sameBlock_4 : Dc cX2_sameBlock 4 (.iload_n 1) 1 5 := by decide +kernel
theorem dX2_sameBlock_5 : Dc cX2_sameBlock 5 (.bipush 64) 2 7 := by decide +kernel
theorem dX2_sameBlock_7 : Dc cX2_sameBlock 7 (.if_icmp .lt 5) 3 10 := by decide +kernel
theorem dX2_sameBlock_10 : Dc cX2_sameBlock 10 (.iconst 1) 1 11 := by decide +kernel
theorem dX2_sameBlock_11 : Dc cX2_sameBlock 11 (.ireturn) 1 12 := by decide +kernel
theorem dX2_sameBlock_12 : Dc cX2_sameBlock 12 (.iload_n 1) 1 13 := by decide +kernel
theorem dX2_sameBlock_13 : Dc cX2_sameBlock 13 (.bipush 64) 2 15 := by decide +kernel
theorem dX2_sameBlock_15 : Dc cX2_sameBlock 15 (.imul) 1 16 := by decide +kernel
theorem dX2_sameBlock_16 : Dc cX2_sameBlock 16 (.istore_n 3) 1 17 := by decide +kernel
theorem dX2_sameBlock_17 : Dc cX2_sameBlock 17 (.iload_n 3) 1 18 := by decide +kernel
theorem dX2_sameBlock_18 : Dc cX2_sameBlock 18 (.istore 4) 2 20 := by decide +kernel
theorem dX2_sameBlock_20 : Dc cX2_sameBlock 20 (.iload 4) 2 22 := by decide +kernel
theorem dX2_sameBlock_22 : Dc cX2_sameBlock 22 (.iload_n 3) 1 23 := by decide +kernel
theorem dX2_sameBlock_23 : Dc cX2_sameBlock 23 (.bipush 64) 2 25 := by decide +kernel
theorem dX2_sameBlock_25 : Dc cX2_sameBlock 25 (.iadd) 1 26 := by decide +kernel
theorem dX2_sameBlock_26 : Dc cX2_sameBlock 26 (.if_icmp .ge 28) 3 29 := by decide +kernel
theorem dX2_sameBlock_29 : Dc cX2_sameBlock 29 (.aload_n 0) 1 30 := by decide +kernel
theorem dX2_sameBlock_30 : Dc cX2_sameBlock 30 (.getfield 9) 3 33 := by decide +kernel
theorem dX2_sameBlock_33 : Dc cX2_sameBlock 33 (.iload 4) 2 35 := by decide +kernel
theorem dX2_sameBlock_35 : Dc cX2_sameBlock 35 (.iaload) 1 36 := by decide +kernel
theorem dX2_sameBlock_36 : Dc cX2_sameBlock 36 (.aload_n 2) 1 37 := by decide +kernel
theorem dX2_sameBlock_37 : Dc cX2_sameBlock 37 (.getfield 9) 3 40 := by decide +kernel
theorem dX2_sameBlock_40 : Dc cX2_sameBlock 40 (.iload 4) 2 42 := by decide +kernel
theorem dX2_sameBlock_42 : Dc cX2_sameBlock 42 (.iaload) 1 43 := by decide +kernel
theorem dX2_sameBlock_43 : Dc cX2_sameBlock 43 (.if_icmp .eq 5) 3 46 := by decide +kernel
theorem dX2_sameBlock_46 : Dc cX2_sameBlock 46 (.iconst 0) 1 47 := by decide +kernel
theorem dX2_sameBlock_47 : Dc cX2_sameBlock 47 (.ireturn) 1 48 := by decide +kernel
theorem dX2_sameBlock_48 : Dc cX2_sameBlock 48 (.iinc 4 1) 3 51 := by decide +kernel
theorem dX2_sameBlock_51 : Dc cX2_sameBlock 51 (.goto (-31)) 3 54 := by decide +kernel
theorem dX2_sameBlock_54 : Dc cX2_sameBlock 54 (.iconst 1) 1 55 := by decide +kernel
theorem dX2_sameBlock_55 : Dc cX2_sameBlock 55 (.ireturn) 1 56 := by decide +kernel
theorem dX3_init_0 : Dc cX3_init 0 (.aload_n 0) 1 1 := by decide +kernel
theorem dX3_init_1 : Dc cX3_init 1 (.invokespecial 3) 3 4 := by decide +kernel
theorem dX3_init_4 : Dc cX3_init 4 (.aload_n 0) 1 5 := by decide +kernel
theorem dX3_init_5 : Dc cX3_init 5 (.aload_n 1) 1 6 := by decide +kernel
theorem dX3_init_6 : Dc cX3_init 6 (.putfield 9) 3 9 := by decide +kernel
theorem dX3_init_9 : Dc cX3_init 9 (.aload_n 0) 1 10 := by decide +kernel
theorem dX3_init_10 : Dc cX3_init 10 (.aload_n 2) 1 11 := by decide +kernel
theorem dX3_init_11 : Dc cX3_init 11 (.putfield 15) 3 14 := by decide +kernel
theorem dX3_init_14 : Dc cX3_init 14 (.aload_n 0) 1 15 := by decide +kernel
theorem dX3_init_15 : Dc cX3_init 15 (.aload_n 3) 1 16 := by decide +kernel
theorem dX3_init_16 : Dc cX3_init 16 (.putfield 19) 3 19 := by decide +kernel
theorem dX3_init_19 : Dc cX3_init 19 (.return_) 1 20 := by decide +kernel
theorem dX3_keepSound_0 : Dc cX3_keepSound 0 (.aload_n 0) 1 1 := by decide +kernel
theorem dX3_keepSound_1 : Dc cX3_keepSound 1 (.getfield 15) 3 4 := by decide +kernel
theorem dX3_keepSound_4 : Dc cX3_keepSound 4 (.invokevirtual 23) 3 7 := by decide +kernel
theorem dX3_keepSound_7 : Dc cX3_keepSound 7 (.aload_n 0) 1 8 := by decide +kernel
theorem dX3_keepSound_8 : Dc cX3_keepSound 8 (.getfield 15) 3 11 := by decide +kernel
theorem dX3_keepSound_11 : Dc cX3_keepSound 11 (.iconst 0) 1 12 := by decide +kernel
theorem dX3_keepSound_12 : Dc cX3_keepSound 12 (.invokevirtual 28) 3 15 := by decide +kernel
theorem dX3_keepSound_15 : Dc cX3_keepSound 15 (.iconst 1) 1 16 := by decide +kernel
theorem dX3_keepSound_16 : Dc cX3_keepSound 16 (.istore_n 1) 1 17 := by decide +kernel
theorem dX3_keepSound_17 : Dc cX3_keepSound 17 (.iload_n 1) 1 18 := by decide +kernel
theorem dX3_keepSound_18 : Dc cX3_keepSound 18 (.bipush 32) 2 20 := by decide +kernel
theorem dX3_keepSound_20 : Dc cX3_keepSound 20 (.if_icmp .ge 62) 3 23 := by decide +kernel
theorem dX3_keepSound_23 : Dc cX3_keepSound 23 (.aload_n 0) 1 24 := by decide +kernel
theorem dX3_keepSound_24 : Dc cX3_keepSound 24 (.iload_n 1) 1 25 := by decide +kernel
theorem dX3_keepSound_25 : Dc cX3_keepSound 25 (.invokevirtual 32) 3 28 := by decide +kernel
theorem dX3_keepSound_28 : Dc cX3_keepSound 28 (.ifCond .eq 34) 3 31 := by decide +kernel
theorem dX3_keepSound_31 : Dc cX3_keepSound 31 (.aload_n 0) 1 32 := by decide +kernel
theorem dX3_keepSound_32 : Dc cX3_keepSound 32 (.iload_n 1) 1 33 := by decide +kernel
theorem dX3_keepSound_33 : Dc cX3_keepSound 33 (.invokevirtual 36) 3 36 := by decide +kernel
theorem dX3_keepSound_36 : Dc cX3_keepSound 36 (.ifCond .eq 26) 3 39 := by decide +kernel
theorem dX3_keepSound_39 : Dc cX3_keepSound 39 (.aload_n 0) 1 40 := by decide +kernel
theorem dX3_keepSound_40 : Dc cX3_keepSound 40 (.iload_n 1) 1 41 := by decide +kernel
theorem dX3_keepSound_41 : Dc cX3_keepSound 41 (.invokevirtual 39) 3 44 := by decide +kernel
theorem dX3_keepSound_44 : Dc cX3_keepSound 44 (.ifCond .eq 18) 3 47 := by decide +kernel
theorem dX3_keepSound_47 : Dc cX3_keepSound 47 (.aload_n 0) 1 48 := by decide +kernel
theorem dX3_keepSound_48 : Dc cX3_keepSound 48 (.getfield 15) 3 51 := by decide +kernel
theorem dX3_keepSound_51 : Dc cX3_keepSound 51 (.iload_n 1) 1 52 := by decide +kernel
theorem dX3_keepSound_52 : Dc cX3_keepSound 52 (.invokevirtual 42) 3 55 := by decide +kernel
theorem dX3_keepSound_55 : Dc cX3_keepSound 55 (.ifCond .eq 7) 3 58 := by decide +kernel
theorem dX3_keepSound_58 : Dc cX3_keepSound 58 (.iconst 1) 1 59 := by decide +kernel
theorem dX3_keepSound_59 : Dc cX3_keepSound 59 (.goto 4) 3 62 := by decide +kernel
theorem dX3_keepSound_62 : Dc cX3_keepSound 62 (.iconst 0) 1 63 := by decide +kernel
theorem dX3_keepSound_63 : Dc cX3_keepSound 63 (.istore_n 2) 1 64 := by decide +kernel
theorem dX3_keepSound_64 : Dc cX3_keepSound 64 (.iload_n 2) 1 65 := by decide +kernel
theorem dX3_keepSound_65 : Dc cX3_keepSound 65 (.ifCond .ne 11) 3 68 := by decide +kernel
theorem dX3_keepSound_68 : Dc cX3_keepSound 68 (.aload_n 0) 1 69 := by decide +kernel
theorem dX3_keepSound_69 : Dc cX3_keepSound 69 (.getfield 15) 3 72 := by decide +kernel
theorem dX3_keepSound_72 : Dc cX3_keepSound 72 (.iload_n 1) 1 73 := by decide +kernel
theorem dX3_keepSound_73 : Dc cX3_keepSound 73 (.invokevirtual 28) 3 76 := by decide +kernel
theorem dX3_keepSound_76 : Dc cX3_keepSound 76 (.iinc 1 1) 3 79 := by decide +kernel
theorem dX3_keepSound_79 : Dc cX3_keepSound 79 (.goto (-62)) 3 82 := by decide +kernel
theorem dX3_keepSound_82 : Dc cX3_keepSound 82 (.return_) 1 83 := by decide +kernel
theorem dX3_hasSoundHead_0 : Dc cX3_hasSoundHead 0 (.aload_n 0) 1 1 := by decide +kernel
theorem dX3_hasSoundHead_1 : Dc cX3_hasSoundHead 1 (.getfield 15) 3 4 := by decide +kernel
theorem dX3_hasSoundHead_4 : Dc cX3_hasSoundHead 4 (.iload_n 1) 1 5 := by decide +kernel
end
section
theorem dX3_hasSoundHead_5 : Dc cX3_hasSoundHead 5 (.invokevirtual 45) 3 8 := by decide +kernel
theorem dX3_hasSoundHead_8 : Dc cX3_hasSoundHead 8 (.istore_n 2) 1 9 := by decide +kernel
theorem dX3_hasSoundHead_9 : Dc cX3_hasSoundHead 9 (.iload_n 1) 1 10 := by decide +kernel
theorem dX3_hasSoundHead_10 : Dc cX3_hasSoundHead 10 (.invokestatic 49) 3 13 := by decide +kernel
theorem dX3_hasSoundHead_13 : Dc cX3_hasSoundHead 13 (.istore_n 3) 1 14 := by decide +kernel
theorem dX3_hasSoundHead_14 : Dc cX3_hasSoundHead 14 (.iload_n 2) 1 15 := by decide +kernel
theorem dX3_hasSoundHead_15 : Dc cX3_hasSoundHead 15 (.iconst 2) 1 16 := by decide +kernel
theorem dX3_hasSoundHead_16 : Dc cX3_hasSoundHead 16 (.if_icmp .eq 13) 3 19 := by decide +kernel
theorem dX3_hasSoundHead_19 : Dc cX3_hasSoundHead 19 (.iload_n 2) 1 20 := by decide +kernel
theorem dX3_hasSoundHead_20 : Dc cX3_hasSoundHead 20 (.iconst 1) 1 21 := by decide +kernel
theorem dX3_hasSoundHead_21 : Dc cX3_hasSoundHead 21 (.if_icmp .ne 51) 3 24 := by decide +kernel
theorem dX3_hasSoundHead_24 : Dc cX3_hasSoundHead 24 (.iload_n 1) 1 25 := by decide +kernel
theorem dX3_hasSoundHead_25 : Dc cX3_hasSoundHead 25 (.iconst 3) 1 26 := by decide +kernel
theorem dX3_hasSoundHead_26 : Dc cX3_hasSoundHead 26 (.if_icmp .lt 46) 3 29 := by decide +kernel
theorem dX3_hasSoundHead_29 : Dc cX3_hasSoundHead 29 (.aload_n 0) 1 30 := by decide +kernel
theorem dX3_hasSoundHead_30 : Dc cX3_hasSoundHead 30 (.getfield 9) 3 33 := by decide +kernel
theorem dX3_hasSoundHead_33 : Dc cX3_hasSoundHead 33 (.iload_n 3) 1 34 := by decide +kernel
theorem dX3_hasSoundHead_34 : Dc cX3_hasSoundHead 34 (.bipush 9) 2 36 := by decide +kernel
theorem dX3_hasSoundHead_36 : Dc cX3_hasSoundHead 36 (.iadd) 1 37 := by decide +kernel
theorem dX3_hasSoundHead_37 : Dc cX3_hasSoundHead 37 (.iconst 1) 1 38 := by decide +kernel
theorem dX3_hasSoundHead_38 : Dc cX3_hasSoundHead 38 (.iadd) 1 39 := by decide +kernel
theorem dX3_hasSoundHead_39 : Dc cX3_hasSoundHead 39 (.iconst 4) 1 40 := by decide +kernel
theorem dX3_hasSoundHead_40 : Dc cX3_hasSoundHead 40 (.invokevirtual 52) 3 43 := by decide +kernel
theorem dX3_hasSoundHead_43 : Dc cX3_hasSoundHead 43 (.ifCond .eq 29) 3 46 := by decide +kernel
theorem dX3_hasSoundHead_46 : Dc cX3_hasSoundHead 46 (.aload_n 0) 1 47 := by decide +kernel
theorem dX3_hasSoundHead_47 : Dc cX3_hasSoundHead 47 (.getfield 9) 3 50 := by decide +kernel
theorem dX3_hasSoundHead_50 : Dc cX3_hasSoundHead 50 (.iload_n 3) 1 51 := by decide +kernel
theorem dX3_hasSoundHead_51 : Dc cX3_hasSoundHead 51 (.bipush 14) 2 53 := by decide +kernel
theorem dX3_hasSoundHead_53 : Dc cX3_hasSoundHead 53 (.iadd) 1 54 := by decide +kernel
theorem dX3_hasSoundHead_54 : Dc cX3_hasSoundHead 54 (.invokevirtual 58) 3 57 := by decide +kernel
theorem dX3_hasSoundHead_57 : Dc cX3_hasSoundHead 57 (.aload_n 0) 1 58 := by decide +kernel
theorem dX3_hasSoundHead_58 : Dc cX3_hasSoundHead 58 (.getfield 15) 3 61 := by decide +kernel
theorem dX3_hasSoundHead_61 : Dc cX3_hasSoundHead 61 (.iload_n 1) 1 62 := by decide +kernel
theorem dX3_hasSoundHead_62 : Dc cX3_hasSoundHead 62 (.invokevirtual 61) 3 65 := by decide +kernel
theorem dX3_hasSoundHead_65 : Dc cX3_hasSoundHead 65 (.if_icmp .ne 7) 3 68 := by decide +kernel
theorem dX3_hasSoundHead_68 : Dc cX3_hasSoundHead 68 (.iconst 1) 1 69 := by decide +kernel
theorem dX3_hasSoundHead_69 : Dc cX3_hasSoundHead 69 (.goto 4) 3 72 := by decide +kernel
theorem dX3_hasSoundHead_72 : Dc cX3_hasSoundHead 72 (.iconst 0) 1 73 := by decide +kernel
theorem dX3_hasSoundHead_73 : Dc cX3_hasSoundHead 73 (.ireturn) 1 74 := by decide +kernel
theorem dX3_hasSoundSize_0 : Dc cX3_hasSoundSize 0 (.aload_n 0) 1 1 := by decide +kernel
theorem dX3_hasSoundSize_1 : Dc cX3_hasSoundSize 1 (.getfield 15) 3 4 := by decide +kernel
theorem dX3_hasSoundSize_4 : Dc cX3_hasSoundSize 4 (.iload_n 1) 1 5 := by decide +kernel
theorem dX3_hasSoundSize_5 : Dc cX3_hasSoundSize 5 (.invokevirtual 64) 3 8 := by decide +kernel
theorem dX3_hasSoundSize_8 : Dc cX3_hasSoundSize 8 (.istore_n 2) 1 9 := by decide +kernel
theorem dX3_hasSoundSize_9 : Dc cX3_hasSoundSize 9 (.iload_n 2) 1 10 := by decide +kernel
theorem dX3_hasSoundSize_10 : Dc cX3_hasSoundSize 10 (.sipush 2944) 3 13 := by decide +kernel
theorem dX3_hasSoundSize_13 : Dc cX3_hasSoundSize 13 (.if_icmp .gt 30) 3 16 := by decide +kernel
theorem dX3_hasSoundSize_16 : Dc cX3_hasSoundSize 16 (.aload_n 0) 1 17 := by decide +kernel
theorem dX3_hasSoundSize_17 : Dc cX3_hasSoundSize 17 (.getfield 15) 3 20 := by decide +kernel
theorem dX3_hasSoundSize_20 : Dc cX3_hasSoundSize 20 (.iload_n 1) 1 21 := by decide +kernel
theorem dX3_hasSoundSize_21 : Dc cX3_hasSoundSize 21 (.invokevirtual 45) 3 24 := by decide +kernel
theorem dX3_hasSoundSize_24 : Dc cX3_hasSoundSize 24 (.iconst 1) 1 25 := by decide +kernel
theorem dX3_hasSoundSize_25 : Dc cX3_hasSoundSize 25 (.if_icmp .eq 14) 3 28 := by decide +kernel
theorem dX3_hasSoundSize_28 : Dc cX3_hasSoundSize 28 (.iload_n 2) 1 29 := by decide +kernel
theorem dX3_hasSoundSize_29 : Dc cX3_hasSoundSize 29 (.ifCond .le 14) 3 32 := by decide +kernel
theorem dX3_hasSoundSize_32 : Dc cX3_hasSoundSize 32 (.iload_n 2) 1 33 := by decide +kernel
theorem dX3_hasSoundSize_33 : Dc cX3_hasSoundSize 33 (.bipush 64) 2 35 := by decide +kernel
theorem dX3_hasSoundSize_35 : Dc cX3_hasSoundSize 35 (.irem) 1 36 := by decide +kernel
theorem dX3_hasSoundSize_36 : Dc cX3_hasSoundSize 36 (.ifCond .ne 7) 3 39 := by decide +kernel
theorem dX3_hasSoundSize_39 : Dc cX3_hasSoundSize 39 (.iconst 1) 1 40 := by decide +kernel
theorem dX3_hasSoundSize_40 : Dc cX3_hasSoundSize 40 (.goto 4) 3 43 := by decide +kernel
theorem dX3_hasSoundSize_43 : Dc cX3_hasSoundSize 43 (.iconst 0) 1 44 := by decide +kernel
theorem dX3_hasSoundSize_44 : Dc cX3_hasSoundSize 44 (.ireturn) 1 45 := by decide +kernel
theorem dX3_hasBlankRest_0 : Dc cX3_hasBlankRest 0 (.aload_n 0) 1 1 := by decide +kernel
theorem dX3_hasBlankRest_1 : Dc cX3_hasBlankRest 1 (.getfield 15) 3 4 := by decide +kernel
theorem dX3_hasBlankRest_4 : Dc cX3_hasBlankRest 4 (.iload_n 1) 1 5 := by decide +kernel
theorem dX3_hasBlankRest_5 : Dc cX3_hasBlankRest 5 (.invokevirtual 67) 3 8 := by decide +kernel
theorem dX3_hasBlankRest_8 : Dc cX3_hasBlankRest 8 (.istore_n 2) 1 9 := by decide +kernel
theorem dX3_hasBlankRest_9 : Dc cX3_hasBlankRest 9 (.iload_n 1) 1 10 := by decide +kernel
theorem dX3_hasBlankRest_10 : Dc cX3_hasBlankRest 10 (.invokestatic 49) 3 13 := by decide +kernel
theorem dX3_hasBlankRest_13 : Dc cX3_hasBlankRest 13 (.istore_n 3) 1 14 := by decide +kernel
theorem dX3_hasBlankRest_14 : Dc cX3_hasBlankRest 14 (.iload_n 2) 1 15 := by decide +kernel
theorem dX3_hasBlankRest_15 : Dc cX3_hasBlankRest 15 (.iconst 5) 1 16 := by decide +kernel
theorem dX3_hasBlankRest_16 : Dc cX3_hasBlankRest 16 (.if_icmp .gt 21) 3 19 := by decide +kernel
theorem dX3_hasBlankRest_19 : Dc cX3_hasBlankRest 19 (.aload_n 0) 1 20 := by decide +kernel
theorem dX3_hasBlankRest_20 : Dc cX3_hasBlankRest 20 (.getfield 9) 3 23 := by decide +kernel
theorem dX3_hasBlankRest_23 : Dc cX3_hasBlankRest 23 (.iload_n 3) 1 24 := by decide +kernel
theorem dX3_hasBlankRest_24 : Dc cX3_hasBlankRest 24 (.iconst 4) 1 25 := by decide +kernel
theorem dX3_hasBlankRest_25 : Dc cX3_hasBlankRest 25 (.iadd) 1 26 := by decide +kernel
theorem dX3_hasBlankRest_26 : Dc cX3_hasBlankRest 26 (.iload_n 2) 1 27 := by decide +kernel
theorem dX3_hasBlankRest_27 : Dc cX3_hasBlankRest 27 (.iadd) 1 28 := by decide +kernel
theorem dX3_hasBlankRest_28 : Dc cX3_hasBlankRest 28 (.iconst 5) 1 29 := by decide +kernel
theorem dX3_hasBlankRest_29 : Dc cX3_hasBlankRest 29 (.iload_n 2) 1 30 := by decide +kernel
theorem dX3_hasBlankRest_30 : Dc cX3_hasBlankRest 30 (.isub) 1 31 := by decide +kernel
theorem dX3_hasBlankRest_31 : Dc cX3_hasBlankRest 31 (.iconst 1) 1 32 := by decide +kernel
theorem dX3_hasBlankRest_32 : Dc cX3_hasBlankRest 32 (.iadd) 1 33 := by decide +kernel
theorem dX3_hasBlankRest_33 : Dc cX3_hasBlankRest 33 (.invokevirtual 52) 3 36 := by decide +kernel
theorem dX3_hasBlankRest_36 : Dc cX3_hasBlankRest 36 (.ireturn) 1 37 := by decide +kernel
theorem dX3_hasBlankRest_37 : Dc cX3_hasBlankRest 37 (.iload_n 2) 1 38 := by decide +kernel
theorem dX3_hasBlankRest_38 : Dc cX3_hasBlankRest 38 (.iconst 5) 1 39 := by decide +kernel
theorem dX3_hasBlankRest_39 : Dc cX3_hasBlankRest 39 (.isub) 1 40 := by decide +kernel
theorem dX3_hasBlankRest_40 : Dc cX3_hasBlankRest 40 (.istore 4) 2 42 := by decide +kernel
theorem dX3_hasBlankRest_42 : Dc cX3_hasBlankRest 42 (.aload_n 0) 1 43 := by decide +kernel
theorem dX3_hasBlankRest_43 : Dc cX3_hasBlankRest 43 (.getfield 9) 3 46 := by decide +kernel
theorem dX3_hasBlankRest_46 : Dc cX3_hasBlankRest 46 (.aload_n 0) 1 47 := by decide +kernel
theorem dX3_hasBlankRest_47 : Dc cX3_hasBlankRest 47 (.getfield 9) 3 50 := by decide +kernel
theorem dX3_hasBlankRest_50 : Dc cX3_hasBlankRest 50 (.iload_n 3) 1 51 := by decide +kernel
theorem dX3_hasBlankRest_51 : Dc cX3_hasBlankRest 51 (.bipush 9) 2 53 := by decide +kernel
theorem dX3_hasBlankRest_53 : Dc cX3_hasBlankRest 53 (.iadd) 1 54 := by decide +kernel
theorem dX3_hasBlankRest_54 : Dc cX3_hasBlankRest 54 (.invokevirtual 70) 3 57 := by decide +kernel
theorem dX3_hasBlankRest_57 : Dc cX3_hasBlankRest 57 (.bipush 64) 2 59 := by decide +kernel
theorem dX3_hasBlankRest_59 : Dc cX3_hasBlankRest 59 (.imul) 1 60 := by decide +kernel
theorem dX3_hasBlankRest_60 : Dc cX3_hasBlankRest 60 (.iload 4) 2 62 := by decide +kernel
theorem dX3_hasBlankRest_62 : Dc cX3_hasBlankRest 62 (.iadd) 1 63 := by decide +kernel
theorem dX3_hasBlankRest_63 : Dc cX3_hasBlankRest 63 (.bipush 64) 2 65 := by decide +kernel
theorem dX3_hasBlankRest_65 : Dc cX3_hasBlankRest 65 (.iload 4) 2 67 := by decide +kernel
theorem dX3_hasBlankRest_67 : Dc cX3_hasBlankRest 67 (.isub) 1 68 := by decide +kernel
theorem dX3_hasBlankRest_68 : Dc cX3_hasBlankRest 68 (.invokevirtual 52) 3 71 := by decide +kernel
theorem dX3_hasBlankRest_71 : Dc cX3_hasBlankRest 71 (.ireturn) 1 72 := by decide +kernel
theorem dX3_provide_0 : Dc cX3_provide 0 (.aload_n 0) 1 1 := by decide +kernel
theorem dX3_provide_1 : Dc cX3_provide 1 (.getfield 15) 3 4 := by decide +kernel
theorem dX3_provide_4 : Dc cX3_provide 4 (.iload_n 1) 1 5 := by decide +kernel
theorem dX3_provide_5 : Dc cX3_provide 5 (.invokevirtual 45) 3 8 := by decide +kernel
theorem dX3_provide_8 : Dc cX3_provide 8 (.ifCond .eq 4) 3 11 := by decide +kernel
theorem dX3_provide_11 : Dc cX3_provide 11 (.return_) 1 12 := by decide +kernel
theorem dX3_provide_12 : Dc cX3_provide 12 (.bipush 31) 2 14 := by decide +kernel
theorem dX3_provide_14 : Dc cX3_provide 14 (.istore_n 2) 1 15 := by decide +kernel
theorem dX3_provide_15 : Dc cX3_provide 15 (.iload_n 2) 1 16 := by decide +kernel
theorem dX3_provide_16 : Dc cX3_provide 16 (.iconst 1) 1 17 := by decide +kernel
theorem dX3_provide_17 : Dc cX3_provide 17 (.if_icmp .le 38) 3 20 := by decide +kernel
theorem dX3_provide_20 : Dc cX3_provide 20 (.aload_n 0) 1 21 := by decide +kernel
theorem dX3_provide_21 : Dc cX3_provide 21 (.getfield 15) 3 24 := by decide +kernel
theorem dX3_provide_24 : Dc cX3_provide 24 (.invokevirtual 73) 3 27 := by decide +kernel
theorem dX3_provide_27 : Dc cX3_provide 27 (.ifCond .ne 28) 3 30 := by decide +kernel
theorem dX3_provide_30 : Dc cX3_provide 30 (.aload_n 0) 1 31 := by decide +kernel
theorem dX3_provide_31 : Dc cX3_provide 31 (.getfield 15) 3 34 := by decide +kernel
theorem dX3_provide_34 : Dc cX3_provide 34 (.iload_n 2) 1 35 := by decide +kernel
theorem dX3_provide_35 : Dc cX3_provide 35 (.invokevirtual 45) 3 38 := by decide +kernel
theorem dX3_provide_38 : Dc cX3_provide 38 (.ifCond .eq 11) 3 41 := by decide +kernel
theorem dX3_provide_41 : Dc cX3_provide 41 (.aload_n 0) 1 42 := by decide +kernel
theorem dX3_provide_42 : Dc cX3_provide 42 (.getfield 15) 3 45 := by decide +kernel
theorem dX3_provide_45 : Dc cX3_provide 45 (.iload_n 2) 1 46 := by decide +kernel
theorem dX3_provide_46 : Dc cX3_provide 46 (.invokevirtual 77) 3 49 := by decide +kernel
theorem dX3_provide_49 : Dc cX3_provide 49 (.iinc 2 (-1)) 3 52 := by decide +kernel
theorem dX3_provide_52 : Dc cX3_provide 52 (.goto (-37)) 3 55 := by decide +kernel
theorem dX3_provide_55 : Dc cX3_provide 55 (.aload_n 0) 1 56 := by decide +kernel
theorem dX3_provide_56 : Dc cX3_provide 56 (.getfield 19) 3 59 := by decide +kernel
theorem dX3_provide_59 : Dc cX3_provide 59 (.iload_n 1) 1 60 := by decide +kernel
theorem dX3_provide_60 : Dc cX3_provide 60 (.iload_n 1) 1 61 := by decide +kernel
theorem dX3_provide_61 : Dc cX3_provide 61 (.invokevirtual 80) 3 64 := by decide +kernel
theorem dX3_provide_64 : Dc cX3_provide 64 (.pop) 1 65 := by decide +kernel
theorem dX3_provide_65 : Dc cX3_provide 65 (.return_) 1 66 := by decide +kernel
theorem dX4_init_0 : Dc cX4_init 0 (.aload_n 0) 1 1 := by decide +kernel
theorem dX4_init_1 : Dc cX4_init 1 (.invokespecial 3) 3 4 := by decide +kernel
theorem dX4_init_4 : Dc cX4_init 4 (.aload_n 0) 1 5 := by decide +kernel
theorem dX4_init_5 : Dc cX4_init 5 (.aload_n 1) 1 6 := by decide +kernel
theorem dX4_init_6 : Dc cX4_init 6 (.putfield 9) 3 9 := by decide +kernel
theorem dX4_init_9 : Dc cX4_init 9 (.return_) 1 10 := by decide +kernel
theorem dX4_isNumber_0 : Dc cX4_isNumber 0 (.iload_n 0) 1 1 := by decide +kernel
theorem dX4_isNumber_1 : Dc cX4_isNumber 1 (.ifCond .lt 13) 3 4 := by decide +kernel
theorem dX4_isNumber_4 : Dc cX4_isNumber 4 (.iload_n 0) 1 5 := by decide +kernel
theorem dX4_isNumber_5 : Dc cX4_isNumber 5 (.bipush 32) 2 7 := by decide +kernel
theorem dX4_isNumber_7 : Dc cX4_isNumber 7 (.if_icmp .ge 7) 3 10 := by decide +kernel
theorem dX4_isNumber_10 : Dc cX4_isNumber 10 (.iconst 1) 1 11 := by decide +kernel
theorem dX4_isNumber_11 : Dc cX4_isNumber 11 (.goto 4) 3 14 := by decide +kernel
theorem dX4_isNumber_14 : Dc cX4_isNumber 14 (.iconst 0) 1 15 := by decide +kernel
theorem dX4_isNumber_15 : Dc cX4_isNumber 15 (.ireturn) 1 16 := by decide +kernel
theorem dX4_placeOf_0 : Dc cX4_placeOf 0 (.sipush 512) 3 3 := by decide +kernel
theorem dX4_placeOf_3 : Dc cX4_placeOf 3 (.iload_n 0) 1 4 := by decide +kernel
theorem dX4_placeOf_4 : Dc cX4_placeOf 4 (.bipush 16) 2 6 := by decide +kernel
theorem dX4_placeOf_6 : Dc cX4_placeOf 6 (.imul) 1 7 := by decide +kernel
theorem dX4_placeOf_7 : Dc cX4_placeOf 7 (.iadd) 1 8 := by decide +kernel
theorem dX4_placeOf_8 : Dc cX4_placeOf 8 (.ireturn) 1 9 := by decide +kernel
theorem dX4_kind_0 : Dc cX4_kind 0 (.iload_n 1) 1 1 := by decide +kernel
theorem dX4_kind_1 : Dc cX4_kind 1 (.invokestatic 15) 3 4 := by decide +kernel
theorem dX4_kind_4 : Dc cX4_kind 4 (.ifCond .eq 17) 3 7 := by decide +kernel
theorem dX4_kind_7 : Dc cX4_kind 7 (.aload_n 0) 1 8 := by decide +kernel
theorem dX4_kind_8 : Dc cX4_kind 8 (.getfield 9) 3 11 := by decide +kernel
theorem dX4_kind_11 : Dc cX4_kind 11 (.iload_n 1) 1 12 := by decide +kernel
theorem dX4_kind_12 : Dc cX4_kind 12 (.invokestatic 19) 3 15 := by decide +kernel
theorem dX4_kind_15 : Dc cX4_kind 15 (.invokevirtual 23) 3 18 := by decide +kernel
theorem dX4_kind_18 : Dc cX4_kind 18 (.goto 4) 3 21 := by decide +kernel
theorem dX4_kind_21 : Dc cX4_kind 21 (.iconst 0) 1 22 := by decide +kernel
theorem dX4_kind_22 : Dc cX4_kind 22 (.ireturn) 1 23 := by decide +kernel
theorem dX4_links_0 : Dc cX4_links 0 (.iload_n 1) 1 1 := by decide +kernel
theorem dX4_links_1 : Dc cX4_links 1 (.invokestatic 15) 3 4 := by decide +kernel
theorem dX4_links_4 : Dc cX4_links 4 (.ifCond .eq 19) 3 7 := by decide +kernel
theorem dX4_links_7 : Dc cX4_links 7 (.aload_n 0) 1 8 := by decide +kernel
theorem dX4_links_8 : Dc cX4_links 8 (.getfield 9) 3 11 := by decide +kernel
theorem dX4_links_11 : Dc cX4_links 11 (.iload_n 1) 1 12 := by decide +kernel
theorem dX4_links_12 : Dc cX4_links 12 (.invokestatic 19) 3 15 := by decide +kernel
theorem dX4_links_15 : Dc cX4_links 15 (.iconst 1) 1 16 := by decide +kernel
theorem dX4_links_16 : Dc cX4_links 16 (.iadd) 1 17 := by decide +kernel
theorem dX4_links_17 : Dc cX4_links 17 (.invokevirtual 23) 3 20 := by decide +kernel
theorem dX4_links_20 : Dc cX4_links 20 (.goto 4) 3 23 := by decide +kernel
theorem dX4_links_23 : Dc cX4_links 23 (.iconst 0) 1 24 := by decide +kernel
theorem dX4_links_24 : Dc cX4_links 24 (.ireturn) 1 25 := by decide +kernel
theorem dX4_size_0 : Dc cX4_size 0 (.iload_n 1) 1 1 := by decide +kernel
theorem dX4_size_1 : Dc cX4_size 1 (.invokestatic 15) 3 4 := by decide +kernel
theorem dX4_size_4 : Dc cX4_size 4 (.ifCond .eq 19) 3 7 := by decide +kernel
theorem dX4_size_7 : Dc cX4_size 7 (.aload_n 0) 1 8 := by decide +kernel
theorem dX4_size_8 : Dc cX4_size 8 (.getfield 9) 3 11 := by decide +kernel
theorem dX4_size_11 : Dc cX4_size 11 (.iload_n 1) 1 12 := by decide +kernel
theorem dX4_size_12 : Dc cX4_size 12 (.invokestatic 19) 3 15 := by decide +kernel
theorem dX4_size_15 : Dc cX4_size 15 (.iconst 2) 1 16 := by decide +kernel
theorem dX4_size_16 : Dc cX4_size 16 (.iadd) 1 17 := by decide +kernel
theorem dX4_size_17 : Dc cX4_size 17 (.invokevirtual 28) 3 20 := by decide +kernel
theorem dX4_size_20 : Dc cX4_size 20 (.goto 4) 3 23 := by decide +kernel
theorem dX4_size_23 : Dc cX4_size 23 (.iconst 0) 1 24 := by decide +kernel
theorem dX4_size_24 : Dc cX4_size 24 (.ireturn) 1 25 := by decide +kernel
theorem dX4_setLinks_0 : Dc cX4_setLinks 0 (.aload_n 0) 1 1 := by decide +kernel
theorem dX4_setLinks_1 : Dc cX4_setLinks 1 (.getfield 9) 3 4 := by decide +kernel
theorem dX4_setLinks_4 : Dc cX4_setLinks 4 (.iload_n 1) 1 5 := by decide +kernel
theorem dX4_setLinks_5 : Dc cX4_setLinks 5 (.invokestatic 19) 3 8 := by decide +kernel
theorem dX4_setLinks_8 : Dc cX4_setLinks 8 (.iconst 1) 1 9 := by decide +kernel
theorem dX4_setLinks_9 : Dc cX4_setLinks 9 (.iadd) 1 10 := by decide +kernel
theorem dX4_setLinks_10 : Dc cX4_setLinks 10 (.iload_n 2) 1 11 := by decide +kernel
theorem dX4_setLinks_11 : Dc cX4_setLinks 11 (.invokevirtual 31) 3 14 := by decide +kernel
theorem dX4_setLinks_14 : Dc cX4_setLinks 14 (.return_) 1 15 := by decide +kernel
theorem dX4_setSize_0 : Dc cX4_setSize 0 (.aload_n 0) 1 1 := by decide +kernel
theorem dX4_setSize_1 : Dc cX4_setSize 1 (.getfield 9) 3 4 := by decide +kernel
theorem dX4_setSize_4 : Dc cX4_setSize 4 (.iload_n 1) 1 5 := by decide +kernel
theorem dX4_setSize_5 : Dc cX4_setSize 5 (.invokestatic 19) 3 8 := by decide +kernel
theorem dX4_setSize_8 : Dc cX4_setSize 8 (.iconst 2) 1 9 := by decide +kernel
theorem dX4_setSize_9 : Dc cX4_setSize 9 (.iadd) 1 10 := by decide +kernel
theorem dX4_setSize_10 : Dc cX4_setSize 10 (.iload_n 2) 1 11 := by decide +kernel
theorem dX4_setSize_11 : Dc cX4_setSize 11 (.invokevirtual 35) 3 14 := by decide +kernel
theorem dX4_setSize_14 : Dc cX4_setSize 14 (.return_) 1 15 := by decide +kernel
theorem dX4_rightSum_0 : Dc cX4_rightSum 0 (.aload_n 0) 1 1 := by decide +kernel
theorem dX4_rightSum_1 : Dc cX4_rightSum 1 (.getfield 9) 3 4 := by decide +kernel
theorem dX4_rightSum_4 : Dc cX4_rightSum 4 (.iload_n 1) 1 5 := by decide +kernel
theorem dX4_rightSum_5 : Dc cX4_rightSum 5 (.invokestatic 19) 3 8 := by decide +kernel
theorem dX4_rightSum_8 : Dc cX4_rightSum 8 (.bipush 14) 2 10 := by decide +kernel
theorem dX4_rightSum_10 : Dc cX4_rightSum 10 (.invokevirtual 38) 3 13 := by decide +kernel
theorem dX4_rightSum_13 : Dc cX4_rightSum 13 (.ireturn) 1 14 := by decide +kernel
theorem dX4_writeSum_0 : Dc cX4_writeSum 0 (.aload_n 0) 1 1 := by decide +kernel
theorem dX4_writeSum_1 : Dc cX4_writeSum 1 (.getfield 9) 3 4 := by decide +kernel
theorem dX4_writeSum_4 : Dc cX4_writeSum 4 (.iload_n 1) 1 5 := by decide +kernel
theorem dX4_writeSum_5 : Dc cX4_writeSum 5 (.invokestatic 19) 3 8 := by decide +kernel
theorem dX4_writeSum_8 : Dc cX4_writeSum 8 (.bipush 14) 2 10 := by decide +kernel
theorem dX4_writeSum_10 : Dc cX4_writeSum 10 (.iadd) 1 11 := by decide +kernel
theorem dX4_writeSum_11 : Dc cX4_writeSum 11 (.aload_n 0) 1 12 := by decide +kernel
theorem dX4_writeSum_12 : Dc cX4_writeSum 12 (.iload_n 1) 1 13 := by decide +kernel
theorem dX4_writeSum_13 : Dc cX4_writeSum 13 (.invokevirtual 42) 3 16 := by decide +kernel
theorem dX4_writeSum_16 : Dc cX4_writeSum 16 (.invokevirtual 35) 3 19 := by decide +kernel
theorem dX4_writeSum_19 : Dc cX4_writeSum 19 (.return_) 1 20 := by decide +kernel
theorem dX4_blockCount_0 : Dc cX4_blockCount 0 (.aload_n 0) 1 1 := by decide +kernel
theorem dX4_blockCount_1 : Dc cX4_blockCount 1 (.iload_n 1) 1 2 := by decide +kernel
theorem dX4_blockCount_2 : Dc cX4_blockCount 2 (.invokevirtual 45) 3 5 := by decide +kernel
theorem dX4_blockCount_5 : Dc cX4_blockCount 5 (.bipush 64) 2 7 := by decide +kernel
theorem dX4_blockCount_7 : Dc cX4_blockCount 7 (.iadd) 1 8 := by decide +kernel
theorem dX4_blockCount_8 : Dc cX4_blockCount 8 (.iconst 1) 1 9 := by decide +kernel
theorem dX4_blockCount_9 : Dc cX4_blockCount 9 (.isub) 1 10 := by decide +kernel
theorem dX4_blockCount_10 : Dc cX4_blockCount 10 (.bipush 64) 2 12 := by decide +kernel
theorem dX4_blockCount_12 : Dc cX4_blockCount 12 (.idiv) 1 13 := by decide +kernel
theorem dX4_blockCount_13 : Dc cX4_blockCount 13 (.ireturn) 1 14 := by decide +kernel
theorem dX4_contentPlace_0 : Dc cX4_contentPlace 0 (.iload_n 2) 1 1 := by decide +kernel
theorem dX4_contentPlace_1 : Dc cX4_contentPlace 1 (.bipush 64) 2 3 := by decide +kernel
theorem dX4_contentPlace_3 : Dc cX4_contentPlace 3 (.idiv) 1 4 := by decide +kernel
theorem dX4_contentPlace_4 : Dc cX4_contentPlace 4 (.istore_n 3) 1 5 := by decide +kernel
theorem dX4_contentPlace_5 : Dc cX4_contentPlace 5 (.iload_n 1) 1 6 := by decide +kernel
theorem dX4_contentPlace_6 : Dc cX4_contentPlace 6 (.invokestatic 15) 3 9 := by decide +kernel
theorem dX4_contentPlace_9 : Dc cX4_contentPlace 9 (.ifCond .eq 13) 3 12 := by decide +kernel
theorem dX4_contentPlace_12 : Dc cX4_contentPlace 12 (.iload_n 2) 1 13 := by decide +kernel
theorem dX4_contentPlace_13 : Dc cX4_contentPlace 13 (.ifCond .lt 9) 3 16 := by decide +kernel
theorem dX4_contentPlace_16 : Dc cX4_contentPlace 16 (.iload_n 3) 1 17 := by decide +kernel
theorem dX4_contentPlace_17 : Dc cX4_contentPlace 17 (.bipush 46) 2 19 := by decide +kernel
theorem dX4_contentPlace_19 : Dc cX4_contentPlace 19 (.if_icmp .lt 5) 3 22 := by decide +kernel
theorem dX4_contentPlace_22 : Dc cX4_contentPlace 22 (.iconst (-1)) 1 23 := by decide +kernel
theorem dX4_contentPlace_23 : Dc cX4_contentPlace 23 (.ireturn) 1 24 := by decide +kernel
theorem dX4_contentPlace_24 : Dc cX4_contentPlace 24 (.iload_n 1) 1 25 := by decide +kernel
theorem dX4_contentPlace_25 : Dc cX4_contentPlace 25 (.invokestatic 19) 3 28 := by decide +kernel
theorem dX4_contentPlace_28 : Dc cX4_contentPlace 28 (.iconst 4) 1 29 := by decide +kernel
theorem dX4_contentPlace_29 : Dc cX4_contentPlace 29 (.iadd) 1 30 := by decide +kernel
theorem dX4_contentPlace_30 : Dc cX4_contentPlace 30 (.iload_n 3) 1 31 := by decide +kernel
theorem dX4_contentPlace_31 : Dc cX4_contentPlace 31 (.iadd) 1 32 := by decide +kernel
theorem dX4_contentPlace_32 : Dc cX4_contentPlace 32 (.istore 4) 2 34 := by decide +kernel
theorem dX4_contentPlace_34 : Dc cX4_contentPlace 34 (.iload_n 3) 1 35 := by decide +kernel
theorem dX4_contentPlace_35 : Dc cX4_contentPlace 35 (.iconst 5) 1 36 := by decide +kernel
theorem dX4_contentPlace_36 : Dc cX4_contentPlace 36 (.if_icmp .lt 40) 3 39 := by decide +kernel
theorem dX4_contentPlace_39 : Dc cX4_contentPlace 39 (.aload_n 0) 1 40 := by decide +kernel
theorem dX4_contentPlace_40 : Dc cX4_contentPlace 40 (.getfield 9) 3 43 := by decide +kernel
theorem dX4_contentPlace_43 : Dc cX4_contentPlace 43 (.iload_n 1) 1 44 := by decide +kernel
theorem dX4_contentPlace_44 : Dc cX4_contentPlace 44 (.invokestatic 19) 3 47 := by decide +kernel
theorem dX4_contentPlace_47 : Dc cX4_contentPlace 47 (.bipush 9) 2 49 := by decide +kernel
theorem dX4_contentPlace_49 : Dc cX4_contentPlace 49 (.iadd) 1 50 := by decide +kernel
theorem dX4_contentPlace_50 : Dc cX4_contentPlace 50 (.invokevirtual 23) 3 53 := by decide +kernel
theorem dX4_contentPlace_53 : Dc cX4_contentPlace 53 (.istore 5) 2 55 := by decide +kernel
theorem dX4_contentPlace_55 : Dc cX4_contentPlace 55 (.iload 5) 2 57 := by decide +kernel
theorem dX4_contentPlace_57 : Dc cX4_contentPlace 57 (.invokestatic 48) 3 60 := by decide +kernel
theorem dX4_contentPlace_60 : Dc cX4_contentPlace 60 (.ifCond .ne 5) 3 63 := by decide +kernel
theorem dX4_contentPlace_63 : Dc cX4_contentPlace 63 (.iconst (-1)) 1 64 := by decide +kernel
theorem dX4_contentPlace_64 : Dc cX4_contentPlace 64 (.ireturn) 1 65 := by decide +kernel
theorem dX4_contentPlace_65 : Dc cX4_contentPlace 65 (.iload 5) 2 67 := by decide +kernel
theorem dX4_contentPlace_67 : Dc cX4_contentPlace 67 (.bipush 64) 2 69 := by decide +kernel
theorem dX4_contentPlace_69 : Dc cX4_contentPlace 69 (.imul) 1 70 := by decide +kernel
theorem dX4_contentPlace_70 : Dc cX4_contentPlace 70 (.iload_n 3) 1 71 := by decide +kernel
theorem dX4_contentPlace_71 : Dc cX4_contentPlace 71 (.iadd) 1 72 := by decide +kernel
theorem dX4_contentPlace_72 : Dc cX4_contentPlace 72 (.iconst 5) 1 73 := by decide +kernel
theorem dX4_contentPlace_73 : Dc cX4_contentPlace 73 (.isub) 1 74 := by decide +kernel
theorem dX4_contentPlace_74 : Dc cX4_contentPlace 74 (.istore 4) 2 76 := by decide +kernel
theorem dX4_contentPlace_76 : Dc cX4_contentPlace 76 (.aload_n 0) 1 77 := by decide +kernel
theorem dX4_contentPlace_77 : Dc cX4_contentPlace 77 (.getfield 9) 3 80 := by decide +kernel
theorem dX4_contentPlace_80 : Dc cX4_contentPlace 80 (.iload 4) 2 82 := by decide +kernel
theorem dX4_contentPlace_82 : Dc cX4_contentPlace 82 (.invokevirtual 23) 3 85 := by decide +kernel
theorem dX4_contentPlace_85 : Dc cX4_contentPlace 85 (.istore 5) 2 87 := by decide +kernel
theorem dX4_contentPlace_87 : Dc cX4_contentPlace 87 (.iload 5) 2 89 := by decide +kernel
theorem dX4_contentPlace_89 : Dc cX4_contentPlace 89 (.invokestatic 48) 3 92 := by decide +kernel
theorem dX4_contentPlace_92 : Dc cX4_contentPlace 92 (.ifCond .eq 16) 3 95 := by decide +kernel
theorem dX4_contentPlace_95 : Dc cX4_contentPlace 95 (.iload 5) 2 97 := by decide +kernel
theorem dX4_contentPlace_97 : Dc cX4_contentPlace 97 (.bipush 64) 2 99 := by decide +kernel
theorem dX4_contentPlace_99 : Dc cX4_contentPlace 99 (.imul) 1 100 := by decide +kernel
theorem dX4_contentPlace_100 : Dc cX4_contentPlace 100 (.iload_n 2) 1 101 := by decide +kernel
theorem dX4_contentPlace_101 : Dc cX4_contentPlace 101 (.bipush 64) 2 103 := by decide +kernel
theorem dX4_contentPlace_103 : Dc cX4_contentPlace 103 (.irem) 1 104 := by decide +kernel
theorem dX4_contentPlace_104 : Dc cX4_contentPlace 104 (.iadd) 1 105 := by decide +kernel
theorem dX4_contentPlace_105 : Dc cX4_contentPlace 105 (.goto 4) 3 108 := by decide +kernel
theorem dX4_contentPlace_108 : Dc cX4_contentPlace 108 (.iconst (-1)) 1 109 := by decide +kernel
theorem dX4_contentPlace_109 : Dc cX4_contentPlace 109 (.ireturn) 1 110 := by decide +kernel
theorem dX4_blocksOf_0 : Dc cX4_blocksOf 0 (.aload_n 0) 1 1 := by decide +kernel
theorem dX4_blocksOf_1 : Dc cX4_blocksOf 1 (.iload_n 1) 1 2 := by decide +kernel
theorem dX4_blocksOf_2 : Dc cX4_blocksOf 2 (.invokevirtual 51) 3 5 := by decide +kernel
theorem dX4_blocksOf_5 : Dc cX4_blocksOf 5 (.istore_n 2) 1 6 := by decide +kernel
theorem dX4_blocksOf_6 : Dc cX4_blocksOf 6 (.lconst 0) 1 7 := by decide +kernel
theorem dX4_blocksOf_7 : Dc cX4_blocksOf 7 (.lstore_n 3) 1 8 := by decide +kernel
theorem dX4_blocksOf_8 : Dc cX4_blocksOf 8 (.iconst 0) 1 9 := by decide +kernel
theorem dX4_blocksOf_9 : Dc cX4_blocksOf 9 (.istore 5) 2 11 := by decide +kernel
theorem dX4_blocksOf_11 : Dc cX4_blocksOf 11 (.iload 5) 2 13 := by decide +kernel
theorem dX4_blocksOf_13 : Dc cX4_blocksOf 13 (.iload_n 2) 1 14 := by decide +kernel
theorem dX4_blocksOf_14 : Dc cX4_blocksOf 14 (.if_icmp .ge 48) 3 17 := by decide +kernel
theorem dX4_blocksOf_17 : Dc cX4_blocksOf 17 (.iload 5) 2 19 := by decide +kernel
theorem dX4_blocksOf_19 : Dc cX4_blocksOf 19 (.bipush 46) 2 21 := by decide +kernel
theorem dX4_blocksOf_21 : Dc cX4_blocksOf 21 (.if_icmp .ge 41) 3 24 := by decide +kernel
theorem dX4_blocksOf_24 : Dc cX4_blocksOf 24 (.aload_n 0) 1 25 := by decide +kernel
theorem dX4_blocksOf_25 : Dc cX4_blocksOf 25 (.iload_n 1) 1 26 := by decide +kernel
theorem dX4_blocksOf_26 : Dc cX4_blocksOf 26 (.iload 5) 2 28 := by decide +kernel
theorem dX4_blocksOf_28 : Dc cX4_blocksOf 28 (.bipush 64) 2 30 := by decide +kernel
theorem dX4_blocksOf_30 : Dc cX4_blocksOf 30 (.imul) 1 31 := by decide +kernel
theorem dX4_blocksOf_31 : Dc cX4_blocksOf 31 (.invokevirtual 54) 3 34 := by decide +kernel
theorem dX4_blocksOf_34 : Dc cX4_blocksOf 34 (.istore 6) 2 36 := by decide +kernel
theorem dX4_blocksOf_36 : Dc cX4_blocksOf 36 (.lload_n 3) 1 37 := by decide +kernel
theorem dX4_blocksOf_37 : Dc cX4_blocksOf 37 (.iload 6) 2 39 := by decide +kernel
theorem dX4_blocksOf_39 : Dc cX4_blocksOf 39 (.iconst (-1)) 1 40 := by decide +kernel
theorem dX4_blocksOf_40 : Dc cX4_blocksOf 40 (.if_icmp .ne 7) 3 43 := by decide +kernel
theorem dX4_blocksOf_43 : Dc cX4_blocksOf 43 (.iconst 0) 1 44 := by decide +kernel
theorem dX4_blocksOf_44 : Dc cX4_blocksOf 44 (.goto 8) 3 47 := by decide +kernel
theorem dX4_blocksOf_47 : Dc cX4_blocksOf 47 (.iload 6) 2 49 := by decide +kernel
theorem dX4_blocksOf_49 : Dc cX4_blocksOf 49 (.bipush 64) 2 51 := by decide +kernel
theorem dX4_blocksOf_51 : Dc cX4_blocksOf 51 (.idiv) 1 52 := by decide +kernel
theorem dX4_blocksOf_52 : Dc cX4_blocksOf 52 (.invokestatic 57) 3 55 := by decide +kernel
theorem dX4_blocksOf_55 : Dc cX4_blocksOf 55 (.lstore_n 3) 1 56 := by decide +kernel
theorem dX4_blocksOf_56 : Dc cX4_blocksOf 56 (.iinc 5 1) 3 59 := by decide +kernel
theorem dX4_blocksOf_59 : Dc cX4_blocksOf 59 (.goto (-48)) 3 62 := by decide +kernel
theorem dX4_blocksOf_62 : Dc cX4_blocksOf 62 (.iload_n 2) 1 63 := by decide +kernel
theorem dX4_blocksOf_63 : Dc cX4_blocksOf 63 (.iconst 5) 1 64 := by decide +kernel
theorem dX4_blocksOf_64 : Dc cX4_blocksOf 64 (.if_icmp .le 22) 3 67 := by decide +kernel
theorem dX4_blocksOf_67 : Dc cX4_blocksOf 67 (.lload_n 3) 1 68 := by decide +kernel
theorem dX4_blocksOf_68 : Dc cX4_blocksOf 68 (.aload_n 0) 1 69 := by decide +kernel
theorem dX4_blocksOf_69 : Dc cX4_blocksOf 69 (.getfield 9) 3 72 := by decide +kernel
theorem dX4_blocksOf_72 : Dc cX4_blocksOf 72 (.iload_n 1) 1 73 := by decide +kernel
theorem dX4_blocksOf_73 : Dc cX4_blocksOf 73 (.invokestatic 19) 3 76 := by decide +kernel
theorem dX4_blocksOf_76 : Dc cX4_blocksOf 76 (.bipush 9) 2 78 := by decide +kernel
theorem dX4_blocksOf_78 : Dc cX4_blocksOf 78 (.iadd) 1 79 := by decide +kernel
theorem dX4_blocksOf_79 : Dc cX4_blocksOf 79 (.invokevirtual 23) 3 82 := by decide +kernel
theorem dX4_blocksOf_82 : Dc cX4_blocksOf 82 (.invokestatic 57) 3 85 := by decide +kernel
theorem dX4_blocksOf_85 : Dc cX4_blocksOf 85 (.lstore_n 3) 1 86 := by decide +kernel
theorem dX4_blocksOf_86 : Dc cX4_blocksOf 86 (.lload_n 3) 1 87 := by decide +kernel
theorem dX4_blocksOf_87 : Dc cX4_blocksOf 87 (.lreturn) 1 88 := by decide +kernel
theorem dX4_withBlock_0 : Dc cX4_withBlock 0 (.iload_n 2) 1 1 := by decide +kernel
theorem dX4_withBlock_1 : Dc cX4_withBlock 1 (.invokestatic 48) 3 4 := by decide +kernel
theorem dX4_withBlock_4 : Dc cX4_withBlock 4 (.ifCond .eq 17) 3 7 := by decide +kernel
theorem dX4_withBlock_7 : Dc cX4_withBlock 7 (.lload_n 0) 1 8 := by decide +kernel
theorem dX4_withBlock_8 : Dc cX4_withBlock 8 (.iload_n 2) 1 9 := by decide +kernel
theorem dX4_withBlock_9 : Dc cX4_withBlock 9 (.lshr) 1 10 := by decide +kernel
theorem dX4_withBlock_10 : Dc cX4_withBlock 10 (.lconst 1) 1 11 := by decide +kernel
theorem dX4_withBlock_11 : Dc cX4_withBlock 11 (.land) 1 12 := by decide +kernel
theorem dX4_withBlock_12 : Dc cX4_withBlock 12 (.lconst 0) 1 13 := by decide +kernel
theorem dX4_withBlock_13 : Dc cX4_withBlock 13 (.lcmp) 1 14 := by decide +kernel
theorem dX4_withBlock_14 : Dc cX4_withBlock 14 (.ifCond .ne 7) 3 17 := by decide +kernel
theorem dX4_withBlock_17 : Dc cX4_withBlock 17 (.iconst 1) 1 18 := by decide +kernel
theorem dX4_withBlock_18 : Dc cX4_withBlock 18 (.goto 4) 3 21 := by decide +kernel
theorem dX4_withBlock_21 : Dc cX4_withBlock 21 (.iconst 0) 1 22 := by decide +kernel
theorem dX4_withBlock_22 : Dc cX4_withBlock 22 (.istore_n 3) 1 23 := by decide +kernel
theorem dX4_withBlock_23 : Dc cX4_withBlock 23 (.iload_n 3) 1 24 := by decide +kernel
theorem dX4_withBlock_24 : Dc cX4_withBlock 24 (.ifCond .eq 11) 3 27 := by decide +kernel
theorem dX4_withBlock_27 : Dc cX4_withBlock 27 (.lload_n 0) 1 28 := by decide +kernel
theorem dX4_withBlock_28 : Dc cX4_withBlock 28 (.lconst 1) 1 29 := by decide +kernel
theorem dX4_withBlock_29 : Dc cX4_withBlock 29 (.iload_n 2) 1 30 := by decide +kernel
theorem dX4_withBlock_30 : Dc cX4_withBlock 30 (.lshl) 1 31 := by decide +kernel
theorem dX4_withBlock_31 : Dc cX4_withBlock 31 (.lor) 1 32 := by decide +kernel
theorem dX4_withBlock_32 : Dc cX4_withBlock 32 (.goto 6) 3 35 := by decide +kernel
theorem dX4_withBlock_35 : Dc cX4_withBlock 35 (.lload_n 0) 1 36 := by decide +kernel
theorem dX4_withBlock_36 : Dc cX4_withBlock 36 (.lconst 1) 1 37 := by decide +kernel
theorem dX4_withBlock_37 : Dc cX4_withBlock 37 (.lor) 1 38 := by decide +kernel
theorem dX4_withBlock_38 : Dc cX4_withBlock 38 (.lreturn) 1 39 := by decide +kernel
theorem dX4_taken_0 : Dc cX4_taken 0 (.aload_n 0) 1 1 := by decide +kernel
theorem dX4_taken_1 : Dc cX4_taken 1 (.getfield 61) 3 4 := by decide +kernel
theorem dX4_taken_4 : Dc cX4_taken 4 (.lreturn) 1 5 := by decide +kernel
theorem dX4_forgetTaken_0 : Dc cX4_forgetTaken 0 (.aload_n 0) 1 1 := by decide +kernel
theorem dX4_forgetTaken_1 : Dc cX4_forgetTaken 1 (.lconst 0) 1 2 := by decide +kernel
theorem dX4_forgetTaken_2 : Dc cX4_forgetTaken 2 (.putfield 61) 3 5 := by decide +kernel
theorem dX4_forgetTaken_5 : Dc cX4_forgetTaken 5 (.return_) 1 6 := by decide +kernel
theorem dX4_takeBlocks_0 : Dc cX4_takeBlocks 0 (.aload_n 0) 1 1 := by decide +kernel
theorem dX4_takeBlocks_1 : Dc cX4_takeBlocks 1 (.iload_n 1) 1 2 := by decide +kernel
theorem dX4_takeBlocks_2 : Dc cX4_takeBlocks 2 (.invokevirtual 65) 3 5 := by decide +kernel
theorem dX4_takeBlocks_5 : Dc cX4_takeBlocks 5 (.lstore_n 2) 1 6 := by decide +kernel
theorem dX4_takeBlocks_6 : Dc cX4_takeBlocks 6 (.lload_n 2) 1 7 := by decide +kernel
theorem dX4_takeBlocks_7 : Dc cX4_takeBlocks 7 (.aload_n 0) 1 8 := by decide +kernel
theorem dX4_takeBlocks_8 : Dc cX4_takeBlocks 8 (.getfield 61) 3 11 := by decide +kernel
theorem dX4_takeBlocks_11 : Dc cX4_takeBlocks 11 (.lconst 1) 1 12 := by decide +kernel
theorem dX4_takeBlocks_12 : Dc cX4_takeBlocks 12 (.lor) 1 13 := by decide +kernel
theorem dX4_takeBlocks_13 : Dc cX4_takeBlocks 13 (.land) 1 14 := by decide +kernel
theorem dX4_takeBlocks_14 : Dc cX4_takeBlocks 14 (.lconst 0) 1 15 := by decide +kernel
theorem dX4_takeBlocks_15 : Dc cX4_takeBlocks 15 (.lcmp) 1 16 := by decide +kernel
theorem dX4_takeBlocks_16 : Dc cX4_takeBlocks 16 (.ifCond .eq 5) 3 19 := by decide +kernel
theorem dX4_takeBlocks_19 : Dc cX4_takeBlocks 19 (.iconst 0) 1 20 := by decide +kernel
theorem dX4_takeBlocks_20 : Dc cX4_takeBlocks 20 (.ireturn) 1 21 := by decide +kernel
theorem dX4_takeBlocks_21 : Dc cX4_takeBlocks 21 (.aload_n 0) 1 22 := by decide +kernel
theorem dX4_takeBlocks_22 : Dc cX4_takeBlocks 22 (.dup) 1 23 := by decide +kernel
theorem dX4_takeBlocks_23 : Dc cX4_takeBlocks 23 (.getfield 61) 3 26 := by decide +kernel
theorem dX4_takeBlocks_26 : Dc cX4_takeBlocks 26 (.lload_n 2) 1 27 := by decide +kernel
theorem dX4_takeBlocks_27 : Dc cX4_takeBlocks 27 (.lor) 1 28 := by decide +kernel
theorem dX4_takeBlocks_28 : Dc cX4_takeBlocks 28 (.putfield 61) 3 31 := by decide +kernel
theorem dX4_takeBlocks_31 : Dc cX4_takeBlocks 31 (.iconst 1) 1 32 := by decide +kernel
theorem dX4_takeBlocks_32 : Dc cX4_takeBlocks 32 (.ireturn) 1 33 := by decide +kernel
theorem dX4_firstFree_0 : Dc cX4_firstFree 0 (.iconst 3) 1 1 := by decide +kernel
theorem dX4_firstFree_1 : Dc cX4_firstFree 1 (.istore_n 1) 1 2 := by decide +kernel
theorem dX4_firstFree_2 : Dc cX4_firstFree 2 (.iload_n 1) 1 3 := by decide +kernel
theorem dX4_firstFree_3 : Dc cX4_firstFree 3 (.bipush 32) 2 5 := by decide +kernel
theorem dX4_firstFree_5 : Dc cX4_firstFree 5 (.if_icmp .ge 19) 3 8 := by decide +kernel
theorem dX4_firstFree_8 : Dc cX4_firstFree 8 (.aload_n 0) 1 9 := by decide +kernel
theorem dX4_firstFree_9 : Dc cX4_firstFree 9 (.iload_n 1) 1 10 := by decide +kernel
theorem dX4_firstFree_10 : Dc cX4_firstFree 10 (.invokevirtual 69) 3 13 := by decide +kernel
theorem dX4_firstFree_13 : Dc cX4_firstFree 13 (.ifCond .ne 5) 3 16 := by decide +kernel
theorem dX4_firstFree_16 : Dc cX4_firstFree 16 (.iload_n 1) 1 17 := by decide +kernel
theorem dX4_firstFree_17 : Dc cX4_firstFree 17 (.ireturn) 1 18 := by decide +kernel
theorem dX4_firstFree_18 : Dc cX4_firstFree 18 (.iinc 1 1) 3 21 := by decide +kernel
theorem dX4_firstFree_21 : Dc cX4_firstFree 21 (.goto (-19)) 3 24 := by decide +kernel
theorem dX4_firstFree_24 : Dc cX4_firstFree 24 (.iconst (-1)) 1 25 := by decide +kernel
theorem dX4_firstFree_25 : Dc cX4_firstFree 25 (.ireturn) 1 26 := by decide +kernel
theorem dX4_hasFreeBlock_0 : Dc cX4_hasFreeBlock 0 (.aload_n 0) 1 1 := by decide +kernel
theorem dX4_hasFreeBlock_1 : Dc cX4_hasFreeBlock 1 (.getfield 61) 3 4 := by decide +kernel
theorem dX4_hasFreeBlock_4 : Dc cX4_hasFreeBlock 4 (.invokestatic 72) 3 7 := by decide +kernel
theorem dX4_hasFreeBlock_7 : Dc cX4_hasFreeBlock 7 (.bipush 47) 2 9 := by decide +kernel
theorem dX4_hasFreeBlock_9 : Dc cX4_hasFreeBlock 9 (.if_icmp .ge 7) 3 12 := by decide +kernel
theorem dX4_hasFreeBlock_12 : Dc cX4_hasFreeBlock 12 (.iconst 1) 1 13 := by decide +kernel
theorem dX4_hasFreeBlock_13 : Dc cX4_hasFreeBlock 13 (.goto 4) 3 16 := by decide +kernel
theorem dX4_hasFreeBlock_16 : Dc cX4_hasFreeBlock 16 (.iconst 0) 1 17 := by decide +kernel
theorem dX4_hasFreeBlock_17 : Dc cX4_hasFreeBlock 17 (.ireturn) 1 18 := by decide +kernel
theorem dX4_takeFreeBlock_0 : Dc cX4_takeFreeBlock 0 (.bipush 16) 2 2 := by decide +kernel
theorem dX4_takeFreeBlock_2 : Dc cX4_takeFreeBlock 2 (.istore_n 1) 1 3 := by decide +kernel
theorem dX4_takeFreeBlock_3 : Dc cX4_takeFreeBlock 3 (.iload_n 1) 1 4 := by decide +kernel
theorem dX4_takeFreeBlock_4 : Dc cX4_takeFreeBlock 4 (.bipush 62) 2 6 := by decide +kernel
theorem dX4_takeFreeBlock_6 : Dc cX4_takeFreeBlock 6 (.if_icmp .gt 49) 3 9 := by decide +kernel
theorem dX4_takeFreeBlock_9 : Dc cX4_takeFreeBlock 9 (.aload_n 0) 1 10 := by decide +kernel
theorem dX4_takeFreeBlock_10 : Dc cX4_takeFreeBlock 10 (.getfield 61) 3 13 := by decide +kernel
theorem dX4_takeFreeBlock_13 : Dc cX4_takeFreeBlock 13 (.iload_n 1) 1 14 := by decide +kernel
theorem dX4_takeFreeBlock_14 : Dc cX4_takeFreeBlock 14 (.lshr) 1 15 := by decide +kernel
theorem dX4_takeFreeBlock_15 : Dc cX4_takeFreeBlock 15 (.lconst 1) 1 16 := by decide +kernel
theorem dX4_takeFreeBlock_16 : Dc cX4_takeFreeBlock 16 (.land) 1 17 := by decide +kernel
theorem dX4_takeFreeBlock_17 : Dc cX4_takeFreeBlock 17 (.lconst 0) 1 18 := by decide +kernel
theorem dX4_takeFreeBlock_18 : Dc cX4_takeFreeBlock 18 (.lcmp) 1 19 := by decide +kernel
theorem dX4_takeFreeBlock_19 : Dc cX4_takeFreeBlock 19 (.ifCond .ne 30) 3 22 := by decide +kernel
theorem dX4_takeFreeBlock_22 : Dc cX4_takeFreeBlock 22 (.aload_n 0) 1 23 := by decide +kernel
theorem dX4_takeFreeBlock_23 : Dc cX4_takeFreeBlock 23 (.dup) 1 24 := by decide +kernel
theorem dX4_takeFreeBlock_24 : Dc cX4_takeFreeBlock 24 (.getfield 61) 3 27 := by decide +kernel
theorem dX4_takeFreeBlock_27 : Dc cX4_takeFreeBlock 27 (.lconst 1) 1 28 := by decide +kernel
theorem dX4_takeFreeBlock_28 : Dc cX4_takeFreeBlock 28 (.iload_n 1) 1 29 := by decide +kernel
theorem dX4_takeFreeBlock_29 : Dc cX4_takeFreeBlock 29 (.lshl) 1 30 := by decide +kernel
theorem dX4_takeFreeBlock_30 : Dc cX4_takeFreeBlock 30 (.lor) 1 31 := by decide +kernel
theorem dX4_takeFreeBlock_31 : Dc cX4_takeFreeBlock 31 (.putfield 61) 3 34 := by decide +kernel
theorem dX4_takeFreeBlock_34 : Dc cX4_takeFreeBlock 34 (.aload_n 0) 1 35 := by decide +kernel
theorem dX4_takeFreeBlock_35 : Dc cX4_takeFreeBlock 35 (.getfield 9) 3 38 := by decide +kernel
theorem dX4_takeFreeBlock_38 : Dc cX4_takeFreeBlock 38 (.iload_n 1) 1 39 := by decide +kernel
theorem dX4_takeFreeBlock_39 : Dc cX4_takeFreeBlock 39 (.bipush 64) 2 41 := by decide +kernel
theorem dX4_takeFreeBlock_41 : Dc cX4_takeFreeBlock 41 (.imul) 1 42 := by decide +kernel
theorem dX4_takeFreeBlock_42 : Dc cX4_takeFreeBlock 42 (.bipush 64) 2 44 := by decide +kernel
theorem dX4_takeFreeBlock_44 : Dc cX4_takeFreeBlock 44 (.invokevirtual 78) 3 47 := by decide +kernel
theorem dX4_takeFreeBlock_47 : Dc cX4_takeFreeBlock 47 (.iload_n 1) 1 48 := by decide +kernel
theorem dX4_takeFreeBlock_48 : Dc cX4_takeFreeBlock 48 (.ireturn) 1 49 := by decide +kernel
theorem dX4_takeFreeBlock_49 : Dc cX4_takeFreeBlock 49 (.iinc 1 1) 3 52 := by decide +kernel
theorem dX4_takeFreeBlock_52 : Dc cX4_takeFreeBlock 52 (.goto (-49)) 3 55 := by decide +kernel
theorem dX4_takeFreeBlock_55 : Dc cX4_takeFreeBlock 55 (.iconst (-1)) 1 56 := by decide +kernel
theorem dX4_takeFreeBlock_56 : Dc cX4_takeFreeBlock 56 (.ireturn) 1 57 := by decide +kernel
theorem dX4_begin_0 : Dc cX4_begin 0 (.aload_n 0) 1 1 := by decide +kernel
theorem dX4_begin_1 : Dc cX4_begin 1 (.getfield 9) 3 4 := by decide +kernel
theorem dX4_begin_4 : Dc cX4_begin 4 (.iload_n 1) 1 5 := by decide +kernel
theorem dX4_begin_5 : Dc cX4_begin 5 (.invokestatic 19) 3 8 := by decide +kernel
theorem dX4_begin_8 : Dc cX4_begin 8 (.iload_n 2) 1 9 := by decide +kernel
theorem dX4_begin_9 : Dc cX4_begin 9 (.invokevirtual 31) 3 12 := by decide +kernel
theorem dX4_begin_12 : Dc cX4_begin 12 (.return_) 1 13 := by decide +kernel
theorem dX4_addBlock_0 : Dc cX4_addBlock 0 (.aload_n 0) 1 1 := by decide +kernel
theorem dX4_addBlock_1 : Dc cX4_addBlock 1 (.iload_n 1) 1 2 := by decide +kernel
theorem dX4_addBlock_2 : Dc cX4_addBlock 2 (.invokevirtual 51) 3 5 := by decide +kernel
theorem dX4_addBlock_5 : Dc cX4_addBlock 5 (.istore_n 2) 1 6 := by decide +kernel
theorem dX4_addBlock_6 : Dc cX4_addBlock 6 (.iload_n 2) 1 7 := by decide +kernel
theorem dX4_addBlock_7 : Dc cX4_addBlock 7 (.iconst 5) 1 8 := by decide +kernel
theorem dX4_addBlock_8 : Dc cX4_addBlock 8 (.if_icmp .ne 7) 3 11 := by decide +kernel
theorem dX4_addBlock_11 : Dc cX4_addBlock 11 (.iconst 2) 1 12 := by decide +kernel
theorem dX4_addBlock_12 : Dc cX4_addBlock 12 (.goto 4) 3 15 := by decide +kernel
theorem dX4_addBlock_15 : Dc cX4_addBlock 15 (.iconst 1) 1 16 := by decide +kernel
theorem dX4_addBlock_16 : Dc cX4_addBlock 16 (.istore_n 3) 1 17 := by decide +kernel
theorem dX4_addBlock_17 : Dc cX4_addBlock 17 (.iload_n 2) 1 18 := by decide +kernel
theorem dX4_addBlock_18 : Dc cX4_addBlock 18 (.bipush 46) 2 20 := by decide +kernel
theorem dX4_addBlock_20 : Dc cX4_addBlock 20 (.if_icmp .ge 17) 3 23 := by decide +kernel
theorem dX4_addBlock_23 : Dc cX4_addBlock 23 (.bipush 47) 2 25 := by decide +kernel
theorem dX4_addBlock_25 : Dc cX4_addBlock 25 (.aload_n 0) 1 26 := by decide +kernel
theorem dX4_addBlock_26 : Dc cX4_addBlock 26 (.getfield 61) 3 29 := by decide +kernel
theorem dX4_addBlock_29 : Dc cX4_addBlock 29 (.invokestatic 72) 3 32 := by decide +kernel
theorem dX4_addBlock_32 : Dc cX4_addBlock 32 (.isub) 1 33 := by decide +kernel
theorem dX4_addBlock_33 : Dc cX4_addBlock 33 (.iload_n 3) 1 34 := by decide +kernel
theorem dX4_addBlock_34 : Dc cX4_addBlock 34 (.if_icmp .ge 5) 3 37 := by decide +kernel
theorem dX4_addBlock_37 : Dc cX4_addBlock 37 (.iconst (-1)) 1 38 := by decide +kernel
theorem dX4_addBlock_38 : Dc cX4_addBlock 38 (.ireturn) 1 39 := by decide +kernel
theorem dX4_addBlock_39 : Dc cX4_addBlock 39 (.aload_n 0) 1 40 := by decide +kernel
theorem dX4_addBlock_40 : Dc cX4_addBlock 40 (.invokevirtual 81) 3 43 := by decide +kernel
theorem dX4_addBlock_43 : Dc cX4_addBlock 43 (.istore 4) 2 45 := by decide +kernel
theorem dX4_addBlock_45 : Dc cX4_addBlock 45 (.iload_n 2) 1 46 := by decide +kernel
theorem dX4_addBlock_46 : Dc cX4_addBlock 46 (.iconst 5) 1 47 := by decide +kernel
theorem dX4_addBlock_47 : Dc cX4_addBlock 47 (.if_icmp .ge 23) 3 50 := by decide +kernel
theorem dX4_addBlock_50 : Dc cX4_addBlock 50 (.aload_n 0) 1 51 := by decide +kernel
theorem dX4_addBlock_51 : Dc cX4_addBlock 51 (.getfield 9) 3 54 := by decide +kernel
theorem dX4_addBlock_54 : Dc cX4_addBlock 54 (.iload_n 1) 1 55 := by decide +kernel
theorem dX4_addBlock_55 : Dc cX4_addBlock 55 (.invokestatic 19) 3 58 := by decide +kernel
theorem dX4_addBlock_58 : Dc cX4_addBlock 58 (.iconst 4) 1 59 := by decide +kernel
theorem dX4_addBlock_59 : Dc cX4_addBlock 59 (.iadd) 1 60 := by decide +kernel
theorem dX4_addBlock_60 : Dc cX4_addBlock 60 (.iload_n 2) 1 61 := by decide +kernel
theorem dX4_addBlock_61 : Dc cX4_addBlock 61 (.iadd) 1 62 := by decide +kernel
theorem dX4_addBlock_62 : Dc cX4_addBlock 62 (.iload 4) 2 64 := by decide +kernel
theorem dX4_addBlock_64 : Dc cX4_addBlock 64 (.invokevirtual 31) 3 67 := by decide +kernel
theorem dX4_addBlock_67 : Dc cX4_addBlock 67 (.iload 4) 2 69 := by decide +kernel
theorem dX4_addBlock_69 : Dc cX4_addBlock 69 (.ireturn) 1 70 := by decide +kernel
theorem dX4_addBlock_70 : Dc cX4_addBlock 70 (.iload_n 2) 1 71 := by decide +kernel
theorem dX4_addBlock_71 : Dc cX4_addBlock 71 (.iconst 5) 1 72 := by decide +kernel
theorem dX4_addBlock_72 : Dc cX4_addBlock 72 (.if_icmp .ne 21) 3 75 := by decide +kernel
theorem dX4_addBlock_75 : Dc cX4_addBlock 75 (.aload_n 0) 1 76 := by decide +kernel
theorem dX4_addBlock_76 : Dc cX4_addBlock 76 (.getfield 9) 3 79 := by decide +kernel
theorem dX4_addBlock_79 : Dc cX4_addBlock 79 (.iload_n 1) 1 80 := by decide +kernel
theorem dX4_addBlock_80 : Dc cX4_addBlock 80 (.invokestatic 19) 3 83 := by decide +kernel
theorem dX4_addBlock_83 : Dc cX4_addBlock 83 (.bipush 9) 2 85 := by decide +kernel
theorem dX4_addBlock_85 : Dc cX4_addBlock 85 (.iadd) 1 86 := by decide +kernel
theorem dX4_addBlock_86 : Dc cX4_addBlock 86 (.aload_n 0) 1 87 := by decide +kernel
theorem dX4_addBlock_87 : Dc cX4_addBlock 87 (.invokevirtual 81) 3 90 := by decide +kernel
theorem dX4_addBlock_90 : Dc cX4_addBlock 90 (.invokevirtual 31) 3 93 := by decide +kernel
theorem dX4_addBlock_93 : Dc cX4_addBlock 93 (.aload_n 0) 1 94 := by decide +kernel
theorem dX4_addBlock_94 : Dc cX4_addBlock 94 (.getfield 9) 3 97 := by decide +kernel
theorem dX4_addBlock_97 : Dc cX4_addBlock 97 (.iload_n 1) 1 98 := by decide +kernel
theorem dX4_addBlock_98 : Dc cX4_addBlock 98 (.invokestatic 19) 3 101 := by decide +kernel
theorem dX4_addBlock_101 : Dc cX4_addBlock 101 (.bipush 9) 2 103 := by decide +kernel
theorem dX4_addBlock_103 : Dc cX4_addBlock 103 (.iadd) 1 104 := by decide +kernel
theorem dX4_addBlock_104 : Dc cX4_addBlock 104 (.invokevirtual 23) 3 107 := by decide +kernel
theorem dX4_addBlock_107 : Dc cX4_addBlock 107 (.istore 5) 2 109 := by decide +kernel
theorem dX4_addBlock_109 : Dc cX4_addBlock 109 (.aload_n 0) 1 110 := by decide +kernel
theorem dX4_addBlock_110 : Dc cX4_addBlock 110 (.getfield 9) 3 113 := by decide +kernel
theorem dX4_addBlock_113 : Dc cX4_addBlock 113 (.iload 5) 2 115 := by decide +kernel
theorem dX4_addBlock_115 : Dc cX4_addBlock 115 (.bipush 64) 2 117 := by decide +kernel
theorem dX4_addBlock_117 : Dc cX4_addBlock 117 (.imul) 1 118 := by decide +kernel
theorem dX4_addBlock_118 : Dc cX4_addBlock 118 (.iload_n 2) 1 119 := by decide +kernel
theorem dX4_addBlock_119 : Dc cX4_addBlock 119 (.iadd) 1 120 := by decide +kernel
theorem dX4_addBlock_120 : Dc cX4_addBlock 120 (.iconst 5) 1 121 := by decide +kernel
theorem dX4_addBlock_121 : Dc cX4_addBlock 121 (.isub) 1 122 := by decide +kernel
theorem dX4_addBlock_122 : Dc cX4_addBlock 122 (.iload 4) 2 124 := by decide +kernel
theorem dX4_addBlock_124 : Dc cX4_addBlock 124 (.invokevirtual 31) 3 127 := by decide +kernel
theorem dX4_addBlock_127 : Dc cX4_addBlock 127 (.iload 4) 2 129 := by decide +kernel
theorem dX4_addBlock_129 : Dc cX4_addBlock 129 (.ireturn) 1 130 := by decide +kernel
theorem dX4_erase_0 : Dc cX4_erase 0 (.aload_n 0) 1 1 := by decide +kernel
theorem dX4_erase_1 : Dc cX4_erase 1 (.dup) 1 2 := by decide +kernel
theorem dX4_erase_2 : Dc cX4_erase 2 (.getfield 61) 3 5 := by decide +kernel
theorem dX4_erase_5 : Dc cX4_erase 5 (.aload_n 0) 1 6 := by decide +kernel
theorem dX4_erase_6 : Dc cX4_erase 6 (.iload_n 1) 1 7 := by decide +kernel
theorem dX4_erase_7 : Dc cX4_erase 7 (.invokevirtual 65) 3 10 := by decide +kernel
theorem dX4_erase_10 : Dc cX4_erase 10 (.ldc2_w 85) 3 13 := by decide +kernel
theorem dX4_erase_13 : Dc cX4_erase 13 (.lxor) 1 14 := by decide +kernel
theorem dX4_erase_14 : Dc cX4_erase 14 (.land) 1 15 := by decide +kernel
theorem dX4_erase_15 : Dc cX4_erase 15 (.putfield 61) 3 18 := by decide +kernel
theorem dX4_erase_18 : Dc cX4_erase 18 (.aload_n 0) 1 19 := by decide +kernel
theorem dX4_erase_19 : Dc cX4_erase 19 (.iload_n 1) 1 20 := by decide +kernel
theorem dX4_erase_20 : Dc cX4_erase 20 (.invokevirtual 87) 3 23 := by decide +kernel
theorem dX4_erase_23 : Dc cX4_erase 23 (.return_) 1 24 := by decide +kernel
theorem dX4_wipe_0 : Dc cX4_wipe 0 (.aload_n 0) 1 1 := by decide +kernel
theorem dX4_wipe_1 : Dc cX4_wipe 1 (.getfield 9) 3 4 := by decide +kernel
theorem dX4_wipe_4 : Dc cX4_wipe 4 (.iload_n 1) 1 5 := by decide +kernel
theorem dX4_wipe_5 : Dc cX4_wipe 5 (.invokestatic 19) 3 8 := by decide +kernel
theorem dX4_wipe_8 : Dc cX4_wipe 8 (.bipush 16) 2 10 := by decide +kernel
theorem dX4_wipe_10 : Dc cX4_wipe 10 (.invokevirtual 78) 3 13 := by decide +kernel
theorem dX4_wipe_13 : Dc cX4_wipe 13 (.return_) 1 14 := by decide +kernel
theorem dX5_write_0 : Dc cX5_write 0 (.aload_n 0) 1 1 := by decide +kernel
theorem dX5_write_1 : Dc cX5_write 1 (.bipush 64) 2 3 := by decide +kernel
theorem dX5_write_3 : Dc cX5_write 3 (.bipush 64) 2 5 := by decide +kernel
theorem dX5_write_5 : Dc cX5_write 5 (.invokevirtual 11) 3 8 := by decide +kernel
theorem dX5_write_8 : Dc cX5_write 8 (.aload_n 0) 1 9 := by decide +kernel
theorem dX5_write_9 : Dc cX5_write 9 (.bipush 64) 2 11 := by decide +kernel
theorem dX5_write_11 : Dc cX5_write 11 (.ldc 17) 2 13 := by decide +kernel
theorem dX5_write_13 : Dc cX5_write 13 (.invokevirtual 19) 3 16 := by decide +kernel
theorem dX5_write_16 : Dc cX5_write 16 (.aload_n 0) 1 17 := by decide +kernel
theorem dX5_write_17 : Dc cX5_write 17 (.bipush 68) 2 19 := by decide +kernel
theorem dX5_write_19 : Dc cX5_write 19 (.iload_n 3) 1 20 := by decide +kernel
theorem dX5_write_20 : Dc cX5_write 20 (.invokevirtual 23) 3 23 := by decide +kernel
theorem dX5_write_23 : Dc cX5_write 23 (.iconst 0) 1 24 := by decide +kernel
theorem dX5_write_24 : Dc cX5_write 24 (.istore 4) 2 26 := by decide +kernel
theorem dX5_write_26 : Dc cX5_write 26 (.iload 4) 2 28 := by decide +kernel
theorem dX5_write_28 : Dc cX5_write 28 (.iload_n 3) 1 29 := by decide +kernel
theorem dX5_write_29 : Dc cX5_write 29 (.if_icmp .ge 39) 3 32 := by decide +kernel
theorem dX5_write_32 : Dc cX5_write 32 (.iload 4) 2 34 := by decide +kernel
theorem dX5_write_34 : Dc cX5_write 34 (.iconst 5) 1 35 := by decide +kernel
theorem dX5_write_35 : Dc cX5_write 35 (.if_icmp .ge 33) 3 38 := by decide +kernel
theorem dX5_write_38 : Dc cX5_write 38 (.aload_n 0) 1 39 := by decide +kernel
theorem dX5_write_39 : Dc cX5_write 39 (.bipush 69) 2 41 := by decide +kernel
theorem dX5_write_41 : Dc cX5_write 41 (.iload 4) 2 43 := by decide +kernel
theorem dX5_write_43 : Dc cX5_write 43 (.iadd) 1 44 := by decide +kernel
theorem dX5_write_44 : Dc cX5_write 44 (.lload_n 1) 1 45 := by decide +kernel
theorem dX5_write_45 : Dc cX5_write 45 (.bipush 56) 2 47 := by decide +kernel
theorem dX5_write_47 : Dc cX5_write 47 (.bipush 8) 2 49 := by decide +kernel
theorem dX5_write_49 : Dc cX5_write 49 (.iload 4) 2 51 := by decide +kernel
theorem dX5_write_51 : Dc cX5_write 51 (.imul) 1 52 := by decide +kernel
theorem dX5_write_52 : Dc cX5_write 52 (.isub) 1 53 := by decide +kernel
theorem dX5_write_53 : Dc cX5_write 53 (.lushr) 1 54 := by decide +kernel
theorem dX5_write_54 : Dc cX5_write 54 (.l2i) 1 55 := by decide +kernel
theorem dX5_write_55 : Dc cX5_write 55 (.sipush 255) 3 58 := by decide +kernel
theorem dX5_write_58 : Dc cX5_write 58 (.iand) 1 59 := by decide +kernel
theorem dX5_write_59 : Dc cX5_write 59 (.invokevirtual 23) 3 62 := by decide +kernel
theorem dX5_write_62 : Dc cX5_write 62 (.iinc 4 1) 3 65 := by decide +kernel
theorem dX5_write_65 : Dc cX5_write 65 (.goto (-39)) 3 68 := by decide +kernel
theorem dX5_write_68 : Dc cX5_write 68 (.aload_n 0) 1 69 := by decide +kernel
theorem dX5_write_69 : Dc cX5_write 69 (.invokestatic 26) 3 72 := by decide +kernel
theorem dX5_write_72 : Dc cX5_write 72 (.return_) 1 73 := by decide +kernel
theorem dX5_writeSum_0 : Dc cX5_writeSum 0 (.aload_n 0) 1 1 := by decide +kernel
theorem dX5_writeSum_1 : Dc cX5_writeSum 1 (.bipush 126) 2 3 := by decide +kernel
theorem dX5_writeSum_3 : Dc cX5_writeSum 3 (.aload_n 0) 1 4 := by decide +kernel
theorem dX5_writeSum_4 : Dc cX5_writeSum 4 (.invokestatic 30) 3 7 := by decide +kernel
theorem dX5_writeSum_7 : Dc cX5_writeSum 7 (.invokevirtual 34) 3 10 := by decide +kernel
theorem dX5_writeSum_10 : Dc cX5_writeSum 10 (.return_) 1 11 := by decide +kernel
theorem dX5_replay_0 : Dc cX5_replay 0 (.aload_n 0) 1 1 := by decide +kernel
theorem dX5_replay_1 : Dc cX5_replay 1 (.invokestatic 37) 3 4 := by decide +kernel
theorem dX5_replay_4 : Dc cX5_replay 4 (.ifCond .eq 44) 3 7 := by decide +kernel
theorem dX5_replay_7 : Dc cX5_replay 7 (.aload_n 0) 1 8 := by decide +kernel
theorem dX5_replay_8 : Dc cX5_replay 8 (.bipush 68) 2 10 := by decide +kernel
theorem dX5_replay_10 : Dc cX5_replay 10 (.invokevirtual 41) 3 13 := by decide +kernel
theorem dX5_replay_13 : Dc cX5_replay 13 (.istore_n 1) 1 14 := by decide +kernel
theorem dX5_replay_14 : Dc cX5_replay 14 (.iconst 0) 1 15 := by decide +kernel
theorem dX5_replay_15 : Dc cX5_replay 15 (.istore_n 2) 1 16 := by decide +kernel
theorem dX5_replay_16 : Dc cX5_replay 16 (.iload_n 2) 1 17 := by decide +kernel
theorem dX5_replay_17 : Dc cX5_replay 17 (.iload_n 1) 1 18 := by decide +kernel
theorem dX5_replay_18 : Dc cX5_replay 18 (.if_icmp .ge 30) 3 21 := by decide +kernel
theorem dX5_replay_21 : Dc cX5_replay 21 (.iload_n 2) 1 22 := by decide +kernel
theorem dX5_replay_22 : Dc cX5_replay 22 (.iconst 5) 1 23 := by decide +kernel
theorem dX5_replay_23 : Dc cX5_replay 23 (.if_icmp .ge 25) 3 26 := by decide +kernel
theorem dX5_replay_26 : Dc cX5_replay 26 (.aload_n 0) 1 27 := by decide +kernel
theorem dX5_replay_27 : Dc cX5_replay 27 (.iconst 2) 1 28 := by decide +kernel
theorem dX5_replay_28 : Dc cX5_replay 28 (.iload_n 2) 1 29 := by decide +kernel
theorem dX5_replay_29 : Dc cX5_replay 29 (.iadd) 1 30 := by decide +kernel
theorem dX5_replay_30 : Dc cX5_replay 30 (.aload_n 0) 1 31 := by decide +kernel
theorem dX5_replay_31 : Dc cX5_replay 31 (.aload_n 0) 1 32 := by decide +kernel
theorem dX5_replay_32 : Dc cX5_replay 32 (.bipush 69) 2 34 := by decide +kernel
theorem dX5_replay_34 : Dc cX5_replay 34 (.iload_n 2) 1 35 := by decide +kernel
theorem dX5_replay_35 : Dc cX5_replay 35 (.iadd) 1 36 := by decide +kernel
theorem dX5_replay_36 : Dc cX5_replay 36 (.invokevirtual 41) 3 39 := by decide +kernel
theorem dX5_replay_39 : Dc cX5_replay 39 (.invokevirtual 45) 3 42 := by decide +kernel
theorem dX5_replay_42 : Dc cX5_replay 42 (.iinc 2 1) 3 45 := by decide +kernel
theorem dX5_replay_45 : Dc cX5_replay 45 (.goto (-29)) 3 48 := by decide +kernel
theorem dX5_replay_48 : Dc cX5_replay 48 (.aload_n 0) 1 49 := by decide +kernel
theorem dX5_replay_49 : Dc cX5_replay 49 (.bipush 64) 2 51 := by decide +kernel
theorem dX5_replay_51 : Dc cX5_replay 51 (.bipush 64) 2 53 := by decide +kernel
theorem dX5_replay_53 : Dc cX5_replay 53 (.invokevirtual 11) 3 56 := by decide +kernel
theorem dX5_replay_56 : Dc cX5_replay 56 (.return_) 1 57 := by decide +kernel
theorem dX5_isGood_0 : Dc cX5_isGood 0 (.aload_n 0) 1 1 := by decide +kernel
theorem dX5_isGood_1 : Dc cX5_isGood 1 (.bipush 68) 2 3 := by decide +kernel
theorem dX5_isGood_3 : Dc cX5_isGood 3 (.invokevirtual 41) 3 6 := by decide +kernel
theorem dX5_isGood_6 : Dc cX5_isGood 6 (.istore_n 1) 1 7 := by decide +kernel
theorem dX5_isGood_7 : Dc cX5_isGood 7 (.aload_n 0) 1 8 := by decide +kernel
theorem dX5_isGood_8 : Dc cX5_isGood 8 (.bipush 64) 2 10 := by decide +kernel
theorem dX5_isGood_10 : Dc cX5_isGood 10 (.ldc 17) 2 12 := by decide +kernel
theorem dX5_isGood_12 : Dc cX5_isGood 12 (.invokevirtual 49) 3 15 := by decide +kernel
theorem dX5_isGood_15 : Dc cX5_isGood 15 (.ifCond .eq 53) 3 18 := by decide +kernel
theorem dX5_isGood_18 : Dc cX5_isGood 18 (.iload_n 1) 1 19 := by decide +kernel
theorem dX5_isGood_19 : Dc cX5_isGood 19 (.iconst 1) 1 20 := by decide +kernel
theorem dX5_isGood_20 : Dc cX5_isGood 20 (.if_icmp .lt 48) 3 23 := by decide +kernel
theorem dX5_isGood_23 : Dc cX5_isGood 23 (.iload_n 1) 1 24 := by decide +kernel
theorem dX5_isGood_24 : Dc cX5_isGood 24 (.iconst 5) 1 25 := by decide +kernel
theorem dX5_isGood_25 : Dc cX5_isGood 25 (.if_icmp .gt 43) 3 28 := by decide +kernel
theorem dX5_isGood_28 : Dc cX5_isGood 28 (.aload_n 0) 1 29 := by decide +kernel
theorem dX5_isGood_29 : Dc cX5_isGood 29 (.bipush 69) 2 31 := by decide +kernel
theorem dX5_isGood_31 : Dc cX5_isGood 31 (.iload_n 1) 1 32 := by decide +kernel
theorem dX5_isGood_32 : Dc cX5_isGood 32 (.iadd) 1 33 := by decide +kernel
theorem dX5_isGood_33 : Dc cX5_isGood 33 (.bipush 57) 2 35 := by decide +kernel
theorem dX5_isGood_35 : Dc cX5_isGood 35 (.iload_n 1) 1 36 := by decide +kernel
theorem dX5_isGood_36 : Dc cX5_isGood 36 (.isub) 1 37 := by decide +kernel
theorem dX5_isGood_37 : Dc cX5_isGood 37 (.invokevirtual 53) 3 40 := by decide +kernel
theorem dX5_isGood_40 : Dc cX5_isGood 40 (.ifCond .eq 28) 3 43 := by decide +kernel
theorem dX5_isGood_43 : Dc cX5_isGood 43 (.aload_n 0) 1 44 := by decide +kernel
theorem dX5_isGood_44 : Dc cX5_isGood 44 (.bipush 126) 2 46 := by decide +kernel
theorem dX5_isGood_46 : Dc cX5_isGood 46 (.invokevirtual 57) 3 49 := by decide +kernel
theorem dX5_isGood_49 : Dc cX5_isGood 49 (.aload_n 0) 1 50 := by decide +kernel
theorem dX5_isGood_50 : Dc cX5_isGood 50 (.invokestatic 30) 3 53 := by decide +kernel
theorem dX5_isGood_53 : Dc cX5_isGood 53 (.if_icmp .ne 15) 3 56 := by decide +kernel
theorem dX5_isGood_56 : Dc cX5_isGood 56 (.aload_n 0) 1 57 := by decide +kernel
theorem dX5_isGood_57 : Dc cX5_isGood 57 (.iload_n 1) 1 58 := by decide +kernel
theorem dX5_isGood_58 : Dc cX5_isGood 58 (.invokestatic 60) 3 61 := by decide +kernel
theorem dX5_isGood_61 : Dc cX5_isGood 61 (.ifCond .eq 7) 3 64 := by decide +kernel
theorem dX5_isGood_64 : Dc cX5_isGood 64 (.iconst 1) 1 65 := by decide +kernel
theorem dX5_isGood_65 : Dc cX5_isGood 65 (.goto 4) 3 68 := by decide +kernel
theorem dX5_isGood_68 : Dc cX5_isGood 68 (.iconst 0) 1 69 := by decide +kernel
theorem dX5_isGood_69 : Dc cX5_isGood 69 (.ireturn) 1 70 := by decide +kernel
theorem dX5_hasGoodTargets_0 : Dc cX5_hasGoodTargets 0 (.lconst 0) 1 1 := by decide +kernel
theorem dX5_hasGoodTargets_1 : Dc cX5_hasGoodTargets 1 (.lstore_n 2) 1 2 := by decide +kernel
theorem dX5_hasGoodTargets_2 : Dc cX5_hasGoodTargets 2 (.iconst 0) 1 3 := by decide +kernel
theorem dX5_hasGoodTargets_3 : Dc cX5_hasGoodTargets 3 (.istore 4) 2 5 := by decide +kernel
theorem dX5_hasGoodTargets_5 : Dc cX5_hasGoodTargets 5 (.iload 4) 2 7 := by decide +kernel
theorem dX5_hasGoodTargets_7 : Dc cX5_hasGoodTargets 7 (.iload_n 1) 1 8 := by decide +kernel
theorem dX5_hasGoodTargets_8 : Dc cX5_hasGoodTargets 8 (.if_icmp .ge 60) 3 11 := by decide +kernel
theorem dX5_hasGoodTargets_11 : Dc cX5_hasGoodTargets 11 (.iload 4) 2 13 := by decide +kernel
theorem dX5_hasGoodTargets_13 : Dc cX5_hasGoodTargets 13 (.iconst 5) 1 14 := by decide +kernel
theorem dX5_hasGoodTargets_14 : Dc cX5_hasGoodTargets 14 (.if_icmp .ge 54) 3 17 := by decide +kernel
theorem dX5_hasGoodTargets_17 : Dc cX5_hasGoodTargets 17 (.aload_n 0) 1 18 := by decide +kernel
theorem dX5_hasGoodTargets_18 : Dc cX5_hasGoodTargets 18 (.bipush 69) 2 20 := by decide +kernel
theorem dX5_hasGoodTargets_20 : Dc cX5_hasGoodTargets 20 (.iload 4) 2 22 := by decide +kernel
theorem dX5_hasGoodTargets_22 : Dc cX5_hasGoodTargets 22 (.iadd) 1 23 := by decide +kernel
theorem dX5_hasGoodTargets_23 : Dc cX5_hasGoodTargets 23 (.invokevirtual 41) 3 26 := by decide +kernel
theorem dX5_hasGoodTargets_26 : Dc cX5_hasGoodTargets 26 (.istore 5) 2 28 := by decide +kernel
theorem dX5_hasGoodTargets_28 : Dc cX5_hasGoodTargets 28 (.iload 5) 2 30 := by decide +kernel
theorem dX5_hasGoodTargets_30 : Dc cX5_hasGoodTargets 30 (.bipush 7) 2 32 := by decide +kernel
theorem dX5_hasGoodTargets_32 : Dc cX5_hasGoodTargets 32 (.if_icmp .lt 21) 3 35 := by decide +kernel
theorem dX5_hasGoodTargets_35 : Dc cX5_hasGoodTargets 35 (.iload 5) 2 37 := by decide +kernel
theorem dX5_hasGoodTargets_37 : Dc cX5_hasGoodTargets 37 (.bipush 62) 2 39 := by decide +kernel
theorem dX5_hasGoodTargets_39 : Dc cX5_hasGoodTargets 39 (.if_icmp .gt 14) 3 42 := by decide +kernel
theorem dX5_hasGoodTargets_42 : Dc cX5_hasGoodTargets 42 (.lload_n 2) 1 43 := by decide +kernel
theorem dX5_hasGoodTargets_43 : Dc cX5_hasGoodTargets 43 (.iload 5) 2 45 := by decide +kernel
theorem dX5_hasGoodTargets_45 : Dc cX5_hasGoodTargets 45 (.lshr) 1 46 := by decide +kernel
theorem dX5_hasGoodTargets_46 : Dc cX5_hasGoodTargets 46 (.lconst 1) 1 47 := by decide +kernel
theorem dX5_hasGoodTargets_47 : Dc cX5_hasGoodTargets 47 (.land) 1 48 := by decide +kernel
theorem dX5_hasGoodTargets_48 : Dc cX5_hasGoodTargets 48 (.lconst 0) 1 49 := by decide +kernel
theorem dX5_hasGoodTargets_49 : Dc cX5_hasGoodTargets 49 (.lcmp) 1 50 := by decide +kernel
theorem dX5_hasGoodTargets_50 : Dc cX5_hasGoodTargets 50 (.ifCond .eq 5) 3 53 := by decide +kernel
theorem dX5_hasGoodTargets_53 : Dc cX5_hasGoodTargets 53 (.iconst 0) 1 54 := by decide +kernel
theorem dX5_hasGoodTargets_54 : Dc cX5_hasGoodTargets 54 (.ireturn) 1 55 := by decide +kernel
theorem dX5_hasGoodTargets_55 : Dc cX5_hasGoodTargets 55 (.lload_n 2) 1 56 := by decide +kernel
theorem dX5_hasGoodTargets_56 : Dc cX5_hasGoodTargets 56 (.lconst 1) 1 57 := by decide +kernel
theorem dX5_hasGoodTargets_57 : Dc cX5_hasGoodTargets 57 (.iload 5) 2 59 := by decide +kernel
theorem dX5_hasGoodTargets_59 : Dc cX5_hasGoodTargets 59 (.lshl) 1 60 := by decide +kernel
theorem dX5_hasGoodTargets_60 : Dc cX5_hasGoodTargets 60 (.lor) 1 61 := by decide +kernel
theorem dX5_hasGoodTargets_61 : Dc cX5_hasGoodTargets 61 (.lstore_n 2) 1 62 := by decide +kernel
theorem dX5_hasGoodTargets_62 : Dc cX5_hasGoodTargets 62 (.iinc 4 1) 3 65 := by decide +kernel
theorem dX5_hasGoodTargets_65 : Dc cX5_hasGoodTargets 65 (.goto (-60)) 3 68 := by decide +kernel
theorem dX5_hasGoodTargets_68 : Dc cX5_hasGoodTargets 68 (.iconst 1) 1 69 := by decide +kernel
theorem dX5_hasGoodTargets_69 : Dc cX5_hasGoodTargets 69 (.ireturn) 1 70 := by decide +kernel
theorem dX5_rightSum_0 : Dc cX5_rightSum 0 (.aload_n 0) 1 1 := by decide +kernel
theorem dX5_rightSum_1 : Dc cX5_rightSum 1 (.bipush 68) 2 3 := by decide +kernel
theorem dX5_rightSum_3 : Dc cX5_rightSum 3 (.invokevirtual 41) 3 6 := by decide +kernel
theorem dX5_rightSum_6 : Dc cX5_rightSum 6 (.iconst 5) 1 7 := by decide +kernel
theorem dX5_rightSum_7 : Dc cX5_rightSum 7 (.invokestatic 64) 3 10 := by decide +kernel
theorem dX5_rightSum_10 : Dc cX5_rightSum 10 (.istore_n 1) 1 11 := by decide +kernel
theorem dX5_rightSum_11 : Dc cX5_rightSum 11 (.aload_n 0) 1 12 := by decide +kernel
theorem dX5_rightSum_12 : Dc cX5_rightSum 12 (.sipush 128) 3 15 := by decide +kernel
theorem dX5_rightSum_15 : Dc cX5_rightSum 15 (.iload_n 1) 1 16 := by decide +kernel
theorem dX5_rightSum_16 : Dc cX5_rightSum 16 (.bipush 64) 2 18 := by decide +kernel
theorem dX5_rightSum_18 : Dc cX5_rightSum 18 (.imul) 1 19 := by decide +kernel
theorem dX5_rightSum_19 : Dc cX5_rightSum 19 (.invokevirtual 70) 3 22 := by decide +kernel
theorem dX5_rightSum_22 : Dc cX5_rightSum 22 (.istore_n 2) 1 23 := by decide +kernel
theorem dX5_rightSum_23 : Dc cX5_rightSum 23 (.aload_n 0) 1 24 := by decide +kernel
theorem dX5_rightSum_24 : Dc cX5_rightSum 24 (.bipush 64) 2 26 := by decide +kernel
theorem dX5_rightSum_26 : Dc cX5_rightSum 26 (.bipush 62) 2 28 := by decide +kernel
theorem dX5_rightSum_28 : Dc cX5_rightSum 28 (.invokevirtual 70) 3 31 := by decide +kernel
theorem dX5_rightSum_31 : Dc cX5_rightSum 31 (.iload_n 2) 1 32 := by decide +kernel
theorem dX5_rightSum_32 : Dc cX5_rightSum 32 (.iadd) 1 33 := by decide +kernel
theorem dX5_rightSum_33 : Dc cX5_rightSum 33 (.ldc 73) 2 35 := by decide +kernel
theorem dX5_rightSum_35 : Dc cX5_rightSum 35 (.iand) 1 36 := by decide +kernel
theorem dX5_rightSum_36 : Dc cX5_rightSum 36 (.ireturn) 1 37 := by decide +kernel
theorem dX6_init_0 : Dc cX6_init 0 (.aload_n 0) 1 1 := by decide +kernel
theorem dX6_init_1 : Dc cX6_init 1 (.invokespecial 3) 3 4 := by decide +kernel
theorem dX6_init_4 : Dc cX6_init 4 (.aload_n 0) 1 5 := by decide +kernel
theorem dX6_init_5 : Dc cX6_init 5 (.bipush 14) 2 7 := by decide +kernel
theorem dX6_init_7 : Dc cX6_init 7 (.newarray .int) 2 9 := by decide +kernel
theorem dX6_init_9 : Dc cX6_init 9 (.putfield 9) 3 12 := by decide +kernel
theorem dX6_init_12 : Dc cX6_init 12 (.return_) 1 13 := by decide +kernel
theorem dX6_length_0 : Dc cX6_length 0 (.aload_n 0) 1 1 := by decide +kernel
theorem dX6_length_1 : Dc cX6_length 1 (.getfield 15) 3 4 := by decide +kernel
theorem dX6_length_4 : Dc cX6_length 4 (.ireturn) 1 5 := by decide +kernel
theorem dX6_at_0 : Dc cX6_at 0 (.iload_n 1) 1 1 := by decide +kernel
theorem dX6_at_1 : Dc cX6_at 1 (.ifCond .lt 26) 3 4 := by decide +kernel
theorem dX6_at_4 : Dc cX6_at 4 (.iload_n 1) 1 5 := by decide +kernel
theorem dX6_at_5 : Dc cX6_at 5 (.aload_n 0) 1 6 := by decide +kernel
theorem dX6_at_6 : Dc cX6_at 6 (.getfield 15) 3 9 := by decide +kernel
theorem dX6_at_9 : Dc cX6_at 9 (.if_icmp .ge 18) 3 12 := by decide +kernel
theorem dX6_at_12 : Dc cX6_at 12 (.iload_n 1) 1 13 := by decide +kernel
theorem dX6_at_13 : Dc cX6_at 13 (.bipush 14) 2 15 := by decide +kernel
theorem dX6_at_15 : Dc cX6_at 15 (.if_icmp .ge 12) 3 18 := by decide +kernel
theorem dX6_at_18 : Dc cX6_at 18 (.aload_n 0) 1 19 := by decide +kernel
theorem dX6_at_19 : Dc cX6_at 19 (.getfield 9) 3 22 := by decide +kernel
theorem dX6_at_22 : Dc cX6_at 22 (.iload_n 1) 1 23 := by decide +kernel
theorem dX6_at_23 : Dc cX6_at 23 (.iaload) 1 24 := by decide +kernel
theorem dX6_at_24 : Dc cX6_at 24 (.goto 4) 3 27 := by decide +kernel
theorem dX6_at_27 : Dc cX6_at 27 (.iconst 0) 1 28 := by decide +kernel
theorem dX6_at_28 : Dc cX6_at 28 (.ireturn) 1 29 := by decide +kernel
theorem dX6_add_0 : Dc cX6_add 0 (.aload_n 0) 1 1 := by decide +kernel
theorem dX6_add_1 : Dc cX6_add 1 (.getfield 15) 3 4 := by decide +kernel
theorem dX6_add_4 : Dc cX6_add 4 (.ifCond .lt 32) 3 7 := by decide +kernel
theorem dX6_add_7 : Dc cX6_add 7 (.aload_n 0) 1 8 := by decide +kernel
theorem dX6_add_8 : Dc cX6_add 8 (.getfield 15) 3 11 := by decide +kernel
theorem dX6_add_11 : Dc cX6_add 11 (.bipush 14) 2 13 := by decide +kernel
theorem dX6_add_13 : Dc cX6_add 13 (.if_icmp .ge 23) 3 16 := by decide +kernel
theorem dX6_add_16 : Dc cX6_add 16 (.aload_n 0) 1 17 := by decide +kernel
theorem dX6_add_17 : Dc cX6_add 17 (.getfield 9) 3 20 := by decide +kernel
theorem dX6_add_20 : Dc cX6_add 20 (.aload_n 0) 1 21 := by decide +kernel
theorem dX6_add_21 : Dc cX6_add 21 (.getfield 15) 3 24 := by decide +kernel
theorem dX6_add_24 : Dc cX6_add 24 (.iload_n 1) 1 25 := by decide +kernel
theorem dX6_add_25 : Dc cX6_add 25 (.iastore) 1 26 := by decide +kernel
theorem dX6_add_26 : Dc cX6_add 26 (.aload_n 0) 1 27 := by decide +kernel
theorem dX6_add_27 : Dc cX6_add 27 (.dup) 1 28 := by decide +kernel
theorem dX6_add_28 : Dc cX6_add 28 (.getfield 15) 3 31 := by decide +kernel
theorem dX6_add_31 : Dc cX6_add 31 (.iconst 1) 1 32 := by decide +kernel
theorem dX6_add_32 : Dc cX6_add 32 (.iadd) 1 33 := by decide +kernel
theorem dX6_add_33 : Dc cX6_add 33 (.putfield 15) 3 36 := by decide +kernel
theorem dX6_add_36 : Dc cX6_add 36 (.return_) 1 37 := by decide +kernel
theorem dX6_spell_0 : Dc cX6_spell 0 (.aload_n 0) 1 1 := by decide +kernel
theorem dX6_spell_1 : Dc cX6_spell 1 (.iconst 0) 1 2 := by decide +kernel
theorem dX6_spell_2 : Dc cX6_spell 2 (.putfield 15) 3 5 := by decide +kernel
theorem dX6_spell_5 : Dc cX6_spell 5 (.iconst 0) 1 6 := by decide +kernel
theorem dX6_spell_6 : Dc cX6_spell 6 (.istore_n 2) 1 7 := by decide +kernel
theorem dX6_spell_7 : Dc cX6_spell 7 (.iload_n 2) 1 8 := by decide +kernel
theorem dX6_spell_8 : Dc cX6_spell 8 (.aload_n 1) 1 9 := by decide +kernel
theorem dX6_spell_9 : Dc cX6_spell 9 (.invokevirtual 19) 3 12 := by decide +kernel
theorem dX6_spell_12 : Dc cX6_spell 12 (.if_icmp .ge 18) 3 15 := by decide +kernel
theorem dX6_spell_15 : Dc cX6_spell 15 (.aload_n 0) 1 16 := by decide +kernel
theorem dX6_spell_16 : Dc cX6_spell 16 (.aload_n 1) 1 17 := by decide +kernel
theorem dX6_spell_17 : Dc cX6_spell 17 (.iload_n 2) 1 18 := by decide +kernel
theorem dX6_spell_18 : Dc cX6_spell 18 (.invokevirtual 24) 3 21 := by decide +kernel
theorem dX6_spell_21 : Dc cX6_spell 21 (.invokevirtual 28) 3 24 := by decide +kernel
theorem dX6_spell_24 : Dc cX6_spell 24 (.iinc 2 1) 3 27 := by decide +kernel
theorem dX6_spell_27 : Dc cX6_spell 27 (.goto (-20)) 3 30 := by decide +kernel
theorem dX6_spell_30 : Dc cX6_spell 30 (.return_) 1 31 := by decide +kernel
theorem dX6_unpack_0 : Dc cX6_unpack 0 (.aload_n 0) 1 1 := by decide +kernel
theorem dX6_unpack_1 : Dc cX6_unpack 1 (.iconst 0) 1 2 := by decide +kernel
theorem dX6_unpack_2 : Dc cX6_unpack 2 (.putfield 15) 3 5 := by decide +kernel
theorem dX6_unpack_5 : Dc cX6_unpack 5 (.bipush 56) 2 7 := by decide +kernel
theorem dX6_unpack_7 : Dc cX6_unpack 7 (.istore_n 3) 1 8 := by decide +kernel
theorem dX6_unpack_8 : Dc cX6_unpack 8 (.iload_n 3) 1 9 := by decide +kernel
theorem dX6_unpack_9 : Dc cX6_unpack 9 (.ifCond .lt 37) 3 12 := by decide +kernel
theorem dX6_unpack_12 : Dc cX6_unpack 12 (.lload_n 1) 1 13 := by decide +kernel
theorem dX6_unpack_13 : Dc cX6_unpack 13 (.iload_n 3) 1 14 := by decide +kernel
theorem dX6_unpack_14 : Dc cX6_unpack 14 (.lushr) 1 15 := by decide +kernel
theorem dX6_unpack_15 : Dc cX6_unpack 15 (.l2i) 1 16 := by decide +kernel
theorem dX6_unpack_16 : Dc cX6_unpack 16 (.sipush 255) 3 19 := by decide +kernel
theorem dX6_unpack_19 : Dc cX6_unpack 19 (.iand) 1 20 := by decide +kernel
theorem dX6_unpack_20 : Dc cX6_unpack 20 (.istore 4) 2 22 := by decide +kernel
theorem dX6_unpack_22 : Dc cX6_unpack 22 (.iload 4) 2 24 := by decide +kernel
theorem dX6_unpack_24 : Dc cX6_unpack 24 (.ifCond .ne 10) 3 27 := by decide +kernel
theorem dX6_unpack_27 : Dc cX6_unpack 27 (.aload_n 0) 1 28 := by decide +kernel
theorem dX6_unpack_28 : Dc cX6_unpack 28 (.getfield 15) 3 31 := by decide +kernel
theorem dX6_unpack_31 : Dc cX6_unpack 31 (.ifCond .le 9) 3 34 := by decide +kernel
theorem dX6_unpack_34 : Dc cX6_unpack 34 (.aload_n 0) 1 35 := by decide +kernel
theorem dX6_unpack_35 : Dc cX6_unpack 35 (.iload 4) 2 37 := by decide +kernel
theorem dX6_unpack_37 : Dc cX6_unpack 37 (.invokevirtual 28) 3 40 := by decide +kernel
theorem dX6_unpack_40 : Dc cX6_unpack 40 (.iinc 3 (-8)) 3 43 := by decide +kernel
theorem dX6_unpack_43 : Dc cX6_unpack 43 (.goto (-35)) 3 46 := by decide +kernel
theorem dX6_unpack_46 : Dc cX6_unpack 46 (.return_) 1 47 := by decide +kernel
theorem dX6_load_0 : Dc cX6_load 0 (.aload_n 0) 1 1 := by decide +kernel
theorem dX6_load_1 : Dc cX6_load 1 (.iconst 0) 1 2 := by decide +kernel
theorem dX6_load_2 : Dc cX6_load 2 (.putfield 15) 3 5 := by decide +kernel
theorem dX6_load_5 : Dc cX6_load 5 (.iconst 0) 1 6 := by decide +kernel
theorem dX6_load_6 : Dc cX6_load 6 (.istore 4) 2 8 := by decide +kernel
theorem dX6_load_8 : Dc cX6_load 8 (.iload 4) 2 10 := by decide +kernel
theorem dX6_load_10 : Dc cX6_load 10 (.iload_n 3) 1 11 := by decide +kernel
theorem dX6_load_11 : Dc cX6_load 11 (.if_icmp .ge 28) 3 14 := by decide +kernel
theorem dX6_load_14 : Dc cX6_load 14 (.iload 4) 2 16 := by decide +kernel
theorem dX6_load_16 : Dc cX6_load 16 (.bipush 14) 2 18 := by decide +kernel
theorem dX6_load_18 : Dc cX6_load 18 (.if_icmp .ge 21) 3 21 := by decide +kernel
theorem dX6_load_21 : Dc cX6_load 21 (.aload_n 0) 1 22 := by decide +kernel
theorem dX6_load_22 : Dc cX6_load 22 (.aload_n 1) 1 23 := by decide +kernel
theorem dX6_load_23 : Dc cX6_load 23 (.iload_n 2) 1 24 := by decide +kernel
theorem dX6_load_24 : Dc cX6_load 24 (.iload 4) 2 26 := by decide +kernel
theorem dX6_load_26 : Dc cX6_load 26 (.iadd) 1 27 := by decide +kernel
theorem dX6_load_27 : Dc cX6_load 27 (.invokevirtual 32) 3 30 := by decide +kernel
theorem dX6_load_30 : Dc cX6_load 30 (.invokevirtual 28) 3 33 := by decide +kernel
theorem dX6_load_33 : Dc cX6_load 33 (.iinc 4 1) 3 36 := by decide +kernel
theorem dX6_load_36 : Dc cX6_load 36 (.goto (-28)) 3 39 := by decide +kernel
theorem dX6_load_39 : Dc cX6_load 39 (.return_) 1 40 := by decide +kernel
theorem dX6_number_0 : Dc cX6_number 0 (.aload_n 0) 1 1 := by decide +kernel
theorem dX6_number_1 : Dc cX6_number 1 (.iconst 0) 1 2 := by decide +kernel
theorem dX6_number_2 : Dc cX6_number 2 (.putfield 15) 3 5 := by decide +kernel
theorem dX6_number_5 : Dc cX6_number 5 (.iconst 0) 1 6 := by decide +kernel
theorem dX6_number_6 : Dc cX6_number 6 (.istore_n 3) 1 7 := by decide +kernel
theorem dX6_number_7 : Dc cX6_number 7 (.iload_n 3) 1 8 := by decide +kernel
theorem dX6_number_8 : Dc cX6_number 8 (.iload_n 1) 1 9 := by decide +kernel
theorem dX6_number_9 : Dc cX6_number 9 (.if_icmp .ge 15) 3 12 := by decide +kernel
theorem dX6_number_12 : Dc cX6_number 12 (.aload_n 0) 1 13 := by decide +kernel
theorem dX6_number_13 : Dc cX6_number 13 (.bipush 35) 2 15 := by decide +kernel
theorem dX6_number_15 : Dc cX6_number 15 (.invokevirtual 28) 3 18 := by decide +kernel
theorem dX6_number_18 : Dc cX6_number 18 (.iinc 3 1) 3 21 := by decide +kernel
theorem dX6_number_21 : Dc cX6_number 21 (.goto (-14)) 3 24 := by decide +kernel
theorem dX6_number_24 : Dc cX6_number 24 (.aload_n 0) 1 25 := by decide +kernel
theorem dX6_number_25 : Dc cX6_number 25 (.bipush 48) 2 27 := by decide +kernel
theorem dX6_number_27 : Dc cX6_number 27 (.iload_n 2) 1 28 := by decide +kernel
theorem dX6_number_28 : Dc cX6_number 28 (.bipush 10) 2 30 := by decide +kernel
theorem dX6_number_30 : Dc cX6_number 30 (.idiv) 1 31 := by decide +kernel
theorem dX6_number_31 : Dc cX6_number 31 (.iadd) 1 32 := by decide +kernel
theorem dX6_number_32 : Dc cX6_number 32 (.invokevirtual 28) 3 35 := by decide +kernel
theorem dX6_number_35 : Dc cX6_number 35 (.aload_n 0) 1 36 := by decide +kernel
theorem dX6_number_36 : Dc cX6_number 36 (.bipush 48) 2 38 := by decide +kernel
theorem dX6_number_38 : Dc cX6_number 38 (.iload_n 2) 1 39 := by decide +kernel
theorem dX6_number_39 : Dc cX6_number 39 (.bipush 10) 2 41 := by decide +kernel
theorem dX6_number_41 : Dc cX6_number 41 (.irem) 1 42 := by decide +kernel
theorem dX6_number_42 : Dc cX6_number 42 (.iadd) 1 43 := by decide +kernel
theorem dX6_number_43 : Dc cX6_number 43 (.invokevirtual 28) 3 46 := by decide +kernel
theorem dX6_number_46 : Dc cX6_number 46 (.return_) 1 47 := by decide +kernel
theorem dX6_isAllowed_0 : Dc cX6_isAllowed 0 (.iconst 0) 1 1 := by decide +kernel
theorem dX6_isAllowed_1 : Dc cX6_isAllowed 1 (.istore_n 1) 1 2 := by decide +kernel
theorem dX6_isAllowed_2 : Dc cX6_isAllowed 2 (.iconst 0) 1 3 := by decide +kernel
theorem dX6_isAllowed_3 : Dc cX6_isAllowed 3 (.istore_n 2) 1 4 := by decide +kernel
theorem dX6_isAllowed_4 : Dc cX6_isAllowed 4 (.iload_n 2) 1 5 := by decide +kernel
theorem dX6_isAllowed_5 : Dc cX6_isAllowed 5 (.aload_n 0) 1 6 := by decide +kernel
theorem dX6_isAllowed_6 : Dc cX6_isAllowed 6 (.getfield 15) 3 9 := by decide +kernel
theorem dX6_isAllowed_9 : Dc cX6_isAllowed 9 (.if_icmp .ge 36) 3 12 := by decide +kernel
theorem dX6_isAllowed_12 : Dc cX6_isAllowed 12 (.aload_n 0) 1 13 := by decide +kernel
theorem dX6_isAllowed_13 : Dc cX6_isAllowed 13 (.iload_n 2) 1 14 := by decide +kernel
theorem dX6_isAllowed_14 : Dc cX6_isAllowed 14 (.invokevirtual 38) 3 17 := by decide +kernel
theorem dX6_isAllowed_17 : Dc cX6_isAllowed 17 (.istore_n 3) 1 18 := by decide +kernel
theorem dX6_isAllowed_18 : Dc cX6_isAllowed 18 (.iload_n 3) 1 19 := by decide +kernel
theorem dX6_isAllowed_19 : Dc cX6_isAllowed 19 (.ifCond .eq 9) 3 22 := by decide +kernel
theorem dX6_isAllowed_22 : Dc cX6_isAllowed 22 (.iload_n 3) 1 23 := by decide +kernel
theorem dX6_isAllowed_23 : Dc cX6_isAllowed 23 (.bipush 47) 2 25 := by decide +kernel
theorem dX6_isAllowed_25 : Dc cX6_isAllowed 25 (.if_icmp .ne 5) 3 28 := by decide +kernel
theorem dX6_isAllowed_28 : Dc cX6_isAllowed 28 (.iconst 0) 1 29 := by decide +kernel
theorem dX6_isAllowed_29 : Dc cX6_isAllowed 29 (.ireturn) 1 30 := by decide +kernel
theorem dX6_isAllowed_30 : Dc cX6_isAllowed 30 (.iload_n 3) 1 31 := by decide +kernel
theorem dX6_isAllowed_31 : Dc cX6_isAllowed 31 (.bipush 46) 2 33 := by decide +kernel
theorem dX6_isAllowed_33 : Dc cX6_isAllowed 33 (.if_icmp .ne 6) 3 36 := by decide +kernel
theorem dX6_isAllowed_36 : Dc cX6_isAllowed 36 (.iinc 1 1) 3 39 := by decide +kernel
theorem dX6_isAllowed_39 : Dc cX6_isAllowed 39 (.iinc 2 1) 3 42 := by decide +kernel
theorem dX6_isAllowed_42 : Dc cX6_isAllowed 42 (.goto (-38)) 3 45 := by decide +kernel
theorem dX6_isAllowed_45 : Dc cX6_isAllowed 45 (.aload_n 0) 1 46 := by decide +kernel
theorem dX6_isAllowed_46 : Dc cX6_isAllowed 46 (.getfield 15) 3 49 := by decide +kernel
theorem dX6_isAllowed_49 : Dc cX6_isAllowed 49 (.iconst 2) 1 50 := by decide +kernel
theorem dX6_isAllowed_50 : Dc cX6_isAllowed 50 (.if_icmp .gt 11) 3 53 := by decide +kernel
theorem dX6_isAllowed_53 : Dc cX6_isAllowed 53 (.iload_n 1) 1 54 := by decide +kernel
theorem dX6_isAllowed_54 : Dc cX6_isAllowed 54 (.aload_n 0) 1 55 := by decide +kernel
theorem dX6_isAllowed_55 : Dc cX6_isAllowed 55 (.getfield 15) 3 58 := by decide +kernel
theorem dX6_isAllowed_58 : Dc cX6_isAllowed 58 (.if_icmp .ge 7) 3 61 := by decide +kernel
theorem dX6_isAllowed_61 : Dc cX6_isAllowed 61 (.iconst 1) 1 62 := by decide +kernel
theorem dX6_isAllowed_62 : Dc cX6_isAllowed 62 (.goto 4) 3 65 := by decide +kernel
theorem dX6_isAllowed_65 : Dc cX6_isAllowed 65 (.iconst 0) 1 66 := by decide +kernel
theorem dX6_isAllowed_66 : Dc cX6_isAllowed 66 (.ireturn) 1 67 := by decide +kernel
theorem dX7_init_0 : Dc cX7_init 0 (.aload_n 0) 1 1 := by decide +kernel
theorem dX7_init_1 : Dc cX7_init 1 (.invokespecial 3) 3 4 := by decide +kernel
theorem dX7_init_4 : Dc cX7_init 4 (.aload_n 0) 1 5 := by decide +kernel
theorem dX7_init_5 : Dc cX7_init 5 (.aload_n 1) 1 6 := by decide +kernel
theorem dX7_init_6 : Dc cX7_init 6 (.putfield 9) 3 9 := by decide +kernel
theorem dX7_init_9 : Dc cX7_init 9 (.aload_n 0) 1 10 := by decide +kernel
theorem dX7_init_10 : Dc cX7_init 10 (.aload_n 2) 1 11 := by decide +kernel
theorem dX7_init_11 : Dc cX7_init 11 (.putfield 15) 3 14 := by decide +kernel
theorem dX7_init_14 : Dc cX7_init 14 (.aload_n 0) 1 15 := by decide +kernel
theorem dX7_init_15 : Dc cX7_init 15 (.aload_n 3) 1 16 := by decide +kernel
theorem dX7_init_16 : Dc cX7_init 16 (.putfield 18) 3 19 := by decide +kernel
theorem dX7_init_19 : Dc cX7_init 19 (.aload_n 0) 1 20 := by decide +kernel
theorem dX7_init_20 : Dc cX7_init 20 (.aload 4) 2 22 := by decide +kernel
theorem dX7_init_22 : Dc cX7_init 22 (.putfield 22) 3 25 := by decide +kernel
theorem dX7_init_25 : Dc cX7_init 25 (.aload_n 0) 1 26 := by decide +kernel
theorem dX7_init_26 : Dc cX7_init 26 (.new 26) 3 29 := by decide +kernel
theorem dX7_init_29 : Dc cX7_init 29 (.dup) 1 30 := by decide +kernel
theorem dX7_init_30 : Dc cX7_init 30 (.aload_n 2) 1 31 := by decide +kernel
theorem dX7_init_31 : Dc cX7_init 31 (.aload_n 3) 1 32 := by decide +kernel
theorem dX7_init_32 : Dc cX7_init 32 (.aload 4) 2 34 := by decide +kernel
theorem dX7_init_34 : Dc cX7_init 34 (.invokespecial 28) 3 37 := by decide +kernel
theorem dX7_init_37 : Dc cX7_init 37 (.putfield 31) 3 40 := by decide +kernel
theorem dX7_init_40 : Dc cX7_init 40 (.aload_n 0) 1 41 := by decide +kernel
theorem dX7_init_41 : Dc cX7_init 41 (.new 35) 3 44 := by decide +kernel
theorem dX7_init_44 : Dc cX7_init 44 (.dup) 1 45 := by decide +kernel
theorem dX7_init_45 : Dc cX7_init 45 (.aload_n 2) 1 46 := by decide +kernel
theorem dX7_init_46 : Dc cX7_init 46 (.aload_n 3) 1 47 := by decide +kernel
theorem dX7_init_47 : Dc cX7_init 47 (.aload 4) 2 49 := by decide +kernel
theorem dX7_init_49 : Dc cX7_init 49 (.invokespecial 37) 3 52 := by decide +kernel
theorem dX7_init_52 : Dc cX7_init 52 (.putfield 38) 3 55 := by decide +kernel
theorem dX7_init_55 : Dc cX7_init 55 (.return_) 1 56 := by decide +kernel
theorem dX7_plan_0 : Dc cX7_plan 0 (.aload_n 0) 1 1 := by decide +kernel
theorem dX7_plan_1 : Dc cX7_plan 1 (.getfield 9) 3 4 := by decide +kernel
theorem dX7_plan_4 : Dc cX7_plan 4 (.iconst 0) 1 5 := by decide +kernel
theorem dX7_plan_5 : Dc cX7_plan 5 (.invokestatic 42) 3 8 := by decide +kernel
theorem dX7_plan_8 : Dc cX7_plan 8 (.ifCond .ne 17) 3 11 := by decide +kernel
theorem dX7_plan_11 : Dc cX7_plan 11 (.aload_n 0) 1 12 := by decide +kernel
theorem dX7_plan_12 : Dc cX7_plan 12 (.getfield 9) 3 15 := by decide +kernel
theorem dX7_plan_15 : Dc cX7_plan 15 (.bipush 63) 2 17 := by decide +kernel
theorem dX7_plan_17 : Dc cX7_plan 17 (.invokestatic 42) 3 20 := by decide +kernel
theorem dX7_plan_20 : Dc cX7_plan 20 (.ifCond .ne 5) 3 23 := by decide +kernel
theorem dX7_plan_23 : Dc cX7_plan 23 (.iconst (-1)) 1 24 := by decide +kernel
theorem dX7_plan_24 : Dc cX7_plan 24 (.ireturn) 1 25 := by decide +kernel
theorem dX7_plan_25 : Dc cX7_plan 25 (.aload_n 0) 1 26 := by decide +kernel
theorem dX7_plan_26 : Dc cX7_plan 26 (.getfield 15) 3 29 := by decide +kernel
theorem dX7_plan_29 : Dc cX7_plan 29 (.aload_n 0) 1 30 := by decide +kernel
theorem dX7_plan_30 : Dc cX7_plan 30 (.getfield 9) 3 33 := by decide +kernel
theorem dX7_plan_33 : Dc cX7_plan 33 (.invokevirtual 48) 3 36 := by decide +kernel
theorem dX7_plan_36 : Dc cX7_plan 36 (.aload_n 0) 1 37 := by decide +kernel
theorem dX7_plan_37 : Dc cX7_plan 37 (.getfield 15) 3 40 := by decide +kernel
theorem dX7_plan_40 : Dc cX7_plan 40 (.invokestatic 54) 3 43 := by decide +kernel
theorem dX7_plan_43 : Dc cX7_plan 43 (.aload_n 0) 1 44 := by decide +kernel
theorem dX7_plan_44 : Dc cX7_plan 44 (.getfield 31) 3 47 := by decide +kernel
theorem dX7_plan_47 : Dc cX7_plan 47 (.invokevirtual 59) 3 50 := by decide +kernel
theorem dX7_plan_50 : Dc cX7_plan 50 (.aload_n 0) 1 51 := by decide +kernel
theorem dX7_plan_51 : Dc cX7_plan 51 (.getfield 31) 3 54 := by decide +kernel
theorem dX7_plan_54 : Dc cX7_plan 54 (.iconst 1) 1 55 := by decide +kernel
theorem dX7_plan_55 : Dc cX7_plan 55 (.invokevirtual 62) 3 58 := by decide +kernel
theorem dX7_plan_58 : Dc cX7_plan 58 (.aload_n 0) 1 59 := by decide +kernel
theorem dX7_plan_59 : Dc cX7_plan 59 (.getfield 31) 3 62 := by decide +kernel
theorem dX7_plan_62 : Dc cX7_plan 62 (.iconst 2) 1 63 := by decide +kernel
theorem dX7_plan_63 : Dc cX7_plan 63 (.invokevirtual 62) 3 66 := by decide +kernel
theorem dX7_plan_66 : Dc cX7_plan 66 (.iconst 1) 1 67 := by decide +kernel
theorem dX7_plan_67 : Dc cX7_plan 67 (.istore_n 1) 1 68 := by decide +kernel
theorem dX7_plan_68 : Dc cX7_plan 68 (.iload_n 1) 1 69 := by decide +kernel
theorem dX7_plan_69 : Dc cX7_plan 69 (.bipush 32) 2 71 := by decide +kernel
theorem dX7_plan_71 : Dc cX7_plan 71 (.if_icmp .ge 29) 3 74 := by decide +kernel
theorem dX7_plan_74 : Dc cX7_plan 74 (.aload_n 0) 1 75 := by decide +kernel
theorem dX7_plan_75 : Dc cX7_plan 75 (.getfield 18) 3 78 := by decide +kernel
theorem dX7_plan_78 : Dc cX7_plan 78 (.iload_n 1) 1 79 := by decide +kernel
theorem dX7_plan_79 : Dc cX7_plan 79 (.invokevirtual 66) 3 82 := by decide +kernel
theorem dX7_plan_82 : Dc cX7_plan 82 (.iconst 2) 1 83 := by decide +kernel
theorem dX7_plan_83 : Dc cX7_plan 83 (.if_icmp .ne 11) 3 86 := by decide +kernel
theorem dX7_plan_86 : Dc cX7_plan 86 (.aload_n 0) 1 87 := by decide +kernel
theorem dX7_plan_87 : Dc cX7_plan 87 (.getfield 22) 3 90 := by decide +kernel
theorem dX7_plan_90 : Dc cX7_plan 90 (.iload_n 1) 1 91 := by decide +kernel
theorem dX7_plan_91 : Dc cX7_plan 91 (.invokevirtual 72) 3 94 := by decide +kernel
theorem dX7_plan_94 : Dc cX7_plan 94 (.iinc 1 1) 3 97 := by decide +kernel
theorem dX7_plan_97 : Dc cX7_plan 97 (.goto (-29)) 3 100 := by decide +kernel
theorem dX7_plan_100 : Dc cX7_plan 100 (.aload_n 0) 1 101 := by decide +kernel
theorem dX7_plan_101 : Dc cX7_plan 101 (.getfield 38) 3 104 := by decide +kernel
theorem dX7_plan_104 : Dc cX7_plan 104 (.invokevirtual 77) 3 107 := by decide +kernel
theorem dX7_plan_107 : Dc cX7_plan 107 (.aload_n 0) 1 108 := by decide +kernel
theorem dX7_plan_108 : Dc cX7_plan 108 (.invokevirtual 80) 3 111 := by decide +kernel
theorem dX7_plan_111 : Dc cX7_plan 111 (.aload_n 0) 1 112 := by decide +kernel
theorem dX7_plan_112 : Dc cX7_plan 112 (.invokevirtual 83) 3 115 := by decide +kernel
theorem dX7_plan_115 : Dc cX7_plan 115 (.ireturn) 1 116 := by decide +kernel
theorem dX7_settle_0 : Dc cX7_settle 0 (.aload_n 0) 1 1 := by decide +kernel
theorem dX7_settle_1 : Dc cX7_settle 1 (.getfield 22) 3 4 := by decide +kernel
theorem dX7_settle_4 : Dc cX7_settle 4 (.invokevirtual 87) 3 7 := by decide +kernel
theorem dX7_settle_7 : Dc cX7_settle 7 (.iconst 0) 1 8 := by decide +kernel
theorem dX7_settle_8 : Dc cX7_settle 8 (.istore_n 1) 1 9 := by decide +kernel
theorem dX7_settle_9 : Dc cX7_settle 9 (.iconst 1) 1 10 := by decide +kernel
theorem dX7_settle_10 : Dc cX7_settle 10 (.istore_n 2) 1 11 := by decide +kernel
theorem dX7_settle_11 : Dc cX7_settle 11 (.iload_n 2) 1 12 := by decide +kernel
theorem dX7_settle_12 : Dc cX7_settle 12 (.bipush 32) 2 14 := by decide +kernel
theorem dX7_settle_14 : Dc cX7_settle 14 (.if_icmp .ge 36) 3 17 := by decide +kernel
theorem dX7_settle_17 : Dc cX7_settle 17 (.aload_n 0) 1 18 := by decide +kernel
theorem dX7_settle_18 : Dc cX7_settle 18 (.getfield 18) 3 21 := by decide +kernel
theorem dX7_settle_21 : Dc cX7_settle 21 (.iload_n 2) 1 22 := by decide +kernel
theorem dX7_settle_22 : Dc cX7_settle 22 (.invokevirtual 90) 3 25 := by decide +kernel
theorem dX7_settle_25 : Dc cX7_settle 25 (.iload_n 1) 1 26 := by decide +kernel
theorem dX7_settle_26 : Dc cX7_settle 26 (.aload_n 0) 1 27 := by decide +kernel
theorem dX7_settle_27 : Dc cX7_settle 27 (.getfield 18) 3 30 := by decide +kernel
theorem dX7_settle_30 : Dc cX7_settle 30 (.iload_n 2) 1 31 := by decide +kernel
theorem dX7_settle_31 : Dc cX7_settle 31 (.invokevirtual 66) 3 34 := by decide +kernel
theorem dX7_settle_34 : Dc cX7_settle 34 (.ifCond .ne 7) 3 37 := by decide +kernel
theorem dX7_settle_37 : Dc cX7_settle 37 (.iconst 1) 1 38 := by decide +kernel
theorem dX7_settle_38 : Dc cX7_settle 38 (.goto 4) 3 41 := by decide +kernel
theorem dX7_settle_41 : Dc cX7_settle 41 (.iconst 0) 1 42 := by decide +kernel
theorem dX7_settle_42 : Dc cX7_settle 42 (.iadd) 1 43 := by decide +kernel
theorem dX7_settle_43 : Dc cX7_settle 43 (.istore_n 1) 1 44 := by decide +kernel
theorem dX7_settle_44 : Dc cX7_settle 44 (.iinc 2 1) 3 47 := by decide +kernel
theorem dX7_settle_47 : Dc cX7_settle 47 (.goto (-36)) 3 50 := by decide +kernel
theorem dX7_settle_50 : Dc cX7_settle 50 (.aload_n 0) 1 51 := by decide +kernel
theorem dX7_settle_51 : Dc cX7_settle 51 (.invokevirtual 93) 3 54 := by decide +kernel
theorem dX7_settle_54 : Dc cX7_settle 54 (.bipush 47) 2 56 := by decide +kernel
theorem dX7_settle_56 : Dc cX7_settle 56 (.aload_n 0) 1 57 := by decide +kernel
theorem dX7_settle_57 : Dc cX7_settle 57 (.getfield 18) 3 60 := by decide +kernel
theorem dX7_settle_60 : Dc cX7_settle 60 (.invokevirtual 96) 3 63 := by decide +kernel
theorem dX7_settle_63 : Dc cX7_settle 63 (.invokestatic 100) 3 66 := by decide +kernel
theorem dX7_settle_66 : Dc cX7_settle 66 (.isub) 1 67 := by decide +kernel
theorem dX7_settle_67 : Dc cX7_settle 67 (.istore_n 2) 1 68 := by decide +kernel
theorem dX7_settle_68 : Dc cX7_settle 68 (.aload_n 0) 1 69 := by decide +kernel
theorem dX7_settle_69 : Dc cX7_settle 69 (.getfield 15) 3 72 := by decide +kernel
theorem dX7_settle_72 : Dc cX7_settle 72 (.iconst 0) 1 73 := by decide +kernel
theorem dX7_settle_73 : Dc cX7_settle 73 (.iload_n 2) 1 74 := by decide +kernel
theorem dX7_settle_74 : Dc cX7_settle 74 (.iload_n 1) 1 75 := by decide +kernel
theorem dX7_settle_75 : Dc cX7_settle 75 (.invokestatic 106) 3 78 := by decide +kernel
theorem dX7_settle_78 : Dc cX7_settle 78 (.aload_n 0) 1 79 := by decide +kernel
theorem dX7_settle_79 : Dc cX7_settle 79 (.getfield 15) 3 82 := by decide +kernel
theorem dX7_settle_82 : Dc cX7_settle 82 (.bipush 63) 2 84 := by decide +kernel
theorem dX7_settle_84 : Dc cX7_settle 84 (.iload_n 2) 1 85 := by decide +kernel
theorem dX7_settle_85 : Dc cX7_settle 85 (.iload_n 1) 1 86 := by decide +kernel
theorem dX7_settle_86 : Dc cX7_settle 86 (.invokestatic 106) 3 89 := by decide +kernel
theorem dX7_settle_89 : Dc cX7_settle 89 (.return_) 1 90 := by decide +kernel
theorem dX7_writeMaps_0 : Dc cX7_writeMaps 0 (.sipush 448) 3 3 := by decide +kernel
theorem dX7_writeMaps_3 : Dc cX7_writeMaps 3 (.istore_n 1) 1 4 := by decide +kernel
theorem dX7_writeMaps_4 : Dc cX7_writeMaps 4 (.aload_n 0) 1 5 := by decide +kernel
theorem dX7_writeMaps_5 : Dc cX7_writeMaps 5 (.getfield 15) 3 8 := by decide +kernel
theorem dX7_writeMaps_8 : Dc cX7_writeMaps 8 (.iload_n 1) 1 9 := by decide +kernel
theorem dX7_writeMaps_9 : Dc cX7_writeMaps 9 (.bipush 64) 2 11 := by decide +kernel
theorem dX7_writeMaps_11 : Dc cX7_writeMaps 11 (.invokevirtual 110) 3 14 := by decide +kernel
theorem dX7_writeMaps_14 : Dc cX7_writeMaps 14 (.iconst 0) 1 15 := by decide +kernel
theorem dX7_writeMaps_15 : Dc cX7_writeMaps 15 (.istore_n 2) 1 16 := by decide +kernel
theorem dX7_writeMaps_16 : Dc cX7_writeMaps 16 (.iload_n 2) 1 17 := by decide +kernel
theorem dX7_writeMaps_17 : Dc cX7_writeMaps 17 (.bipush 64) 2 19 := by decide +kernel
theorem dX7_writeMaps_19 : Dc cX7_writeMaps 19 (.if_icmp .ge 38) 3 22 := by decide +kernel
theorem dX7_writeMaps_22 : Dc cX7_writeMaps 22 (.iload_n 2) 1 23 := by decide +kernel
theorem dX7_writeMaps_23 : Dc cX7_writeMaps 23 (.invokestatic 114) 3 26 := by decide +kernel
theorem dX7_writeMaps_26 : Dc cX7_writeMaps 26 (.ifCond .eq 19) 3 29 := by decide +kernel
theorem dX7_writeMaps_29 : Dc cX7_writeMaps 29 (.aload_n 0) 1 30 := by decide +kernel
theorem dX7_writeMaps_30 : Dc cX7_writeMaps 30 (.getfield 18) 3 33 := by decide +kernel
theorem dX7_writeMaps_33 : Dc cX7_writeMaps 33 (.invokevirtual 96) 3 36 := by decide +kernel
theorem dX7_writeMaps_36 : Dc cX7_writeMaps 36 (.iload_n 2) 1 37 := by decide +kernel
theorem dX7_writeMaps_37 : Dc cX7_writeMaps 37 (.lshr) 1 38 := by decide +kernel
theorem dX7_writeMaps_38 : Dc cX7_writeMaps 38 (.lconst 1) 1 39 := by decide +kernel
theorem dX7_writeMaps_39 : Dc cX7_writeMaps 39 (.land) 1 40 := by decide +kernel
theorem dX7_writeMaps_40 : Dc cX7_writeMaps 40 (.lconst 0) 1 41 := by decide +kernel
theorem dX7_writeMaps_41 : Dc cX7_writeMaps 41 (.lcmp) 1 42 := by decide +kernel
theorem dX7_writeMaps_42 : Dc cX7_writeMaps 42 (.ifCond .eq 9) 3 45 := by decide +kernel
theorem dX7_writeMaps_45 : Dc cX7_writeMaps 45 (.aload_n 0) 1 46 := by decide +kernel
theorem dX7_writeMaps_46 : Dc cX7_writeMaps 46 (.iload_n 1) 1 47 := by decide +kernel
theorem dX7_writeMaps_47 : Dc cX7_writeMaps 47 (.iload_n 2) 1 48 := by decide +kernel
theorem dX7_writeMaps_48 : Dc cX7_writeMaps 48 (.invokevirtual 118) 3 51 := by decide +kernel
theorem dX7_writeMaps_51 : Dc cX7_writeMaps 51 (.iinc 2 1) 3 54 := by decide +kernel
theorem dX7_writeMaps_54 : Dc cX7_writeMaps 54 (.goto (-38)) 3 57 := by decide +kernel
theorem dX7_writeMaps_57 : Dc cX7_writeMaps 57 (.iconst 0) 1 58 := by decide +kernel
theorem dX7_writeMaps_58 : Dc cX7_writeMaps 58 (.istore_n 2) 1 59 := by decide +kernel
end
section
theorem dX7_writeMaps_59 : Dc cX7_writeMaps 59 (.iload_n 2) 1 60 := by decide +kernel
theorem dX7_writeMaps_60 : Dc cX7_writeMaps 60 (.bipush 32) 2 62 := by decide +kernel
theorem dX7_writeMaps_62 : Dc cX7_writeMaps 62 (.if_icmp .ge 33) 3 65 := by decide +kernel
theorem dX7_writeMaps_65 : Dc cX7_writeMaps 65 (.iload_n 2) 1 66 := by decide +kernel
theorem dX7_writeMaps_66 : Dc cX7_writeMaps 66 (.ifCond .eq 14) 3 69 := by decide +kernel
theorem dX7_writeMaps_69 : Dc cX7_writeMaps 69 (.aload_n 0) 1 70 := by decide +kernel
theorem dX7_writeMaps_70 : Dc cX7_writeMaps 70 (.getfield 18) 3 73 := by decide +kernel
theorem dX7_writeMaps_73 : Dc cX7_writeMaps 73 (.iload_n 2) 1 74 := by decide +kernel
theorem dX7_writeMaps_74 : Dc cX7_writeMaps 74 (.invokevirtual 66) 3 77 := by decide +kernel
theorem dX7_writeMaps_77 : Dc cX7_writeMaps 77 (.ifCond .eq 12) 3 80 := by decide +kernel
theorem dX7_writeMaps_80 : Dc cX7_writeMaps 80 (.aload_n 0) 1 81 := by decide +kernel
theorem dX7_writeMaps_81 : Dc cX7_writeMaps 81 (.iload_n 1) 1 82 := by decide +kernel
theorem dX7_writeMaps_82 : Dc cX7_writeMaps 82 (.bipush 8) 2 84 := by decide +kernel
theorem dX7_writeMaps_84 : Dc cX7_writeMaps 84 (.iadd) 1 85 := by decide +kernel
theorem dX7_writeMaps_85 : Dc cX7_writeMaps 85 (.iload_n 2) 1 86 := by decide +kernel
theorem dX7_writeMaps_86 : Dc cX7_writeMaps 86 (.invokevirtual 118) 3 89 := by decide +kernel
theorem dX7_writeMaps_89 : Dc cX7_writeMaps 89 (.iinc 2 1) 3 92 := by decide +kernel
theorem dX7_writeMaps_92 : Dc cX7_writeMaps 92 (.goto (-33)) 3 95 := by decide +kernel
theorem dX7_writeMaps_95 : Dc cX7_writeMaps 95 (.return_) 1 96 := by decide +kernel
theorem dX7_markUsed_0 : Dc cX7_markUsed 0 (.iload_n 1) 1 1 := by decide +kernel
theorem dX7_markUsed_1 : Dc cX7_markUsed 1 (.iload_n 2) 1 2 := by decide +kernel
theorem dX7_markUsed_2 : Dc cX7_markUsed 2 (.bipush 8) 2 4 := by decide +kernel
theorem dX7_markUsed_4 : Dc cX7_markUsed 4 (.idiv) 1 5 := by decide +kernel
theorem dX7_markUsed_5 : Dc cX7_markUsed 5 (.iadd) 1 6 := by decide +kernel
theorem dX7_markUsed_6 : Dc cX7_markUsed 6 (.istore_n 3) 1 7 := by decide +kernel
theorem dX7_markUsed_7 : Dc cX7_markUsed 7 (.aload_n 0) 1 8 := by decide +kernel
theorem dX7_markUsed_8 : Dc cX7_markUsed 8 (.getfield 15) 3 11 := by decide +kernel
theorem dX7_markUsed_11 : Dc cX7_markUsed 11 (.iload_n 3) 1 12 := by decide +kernel
theorem dX7_markUsed_12 : Dc cX7_markUsed 12 (.aload_n 0) 1 13 := by decide +kernel
theorem dX7_markUsed_13 : Dc cX7_markUsed 13 (.getfield 15) 3 16 := by decide +kernel
theorem dX7_markUsed_16 : Dc cX7_markUsed 16 (.iload_n 3) 1 17 := by decide +kernel
theorem dX7_markUsed_17 : Dc cX7_markUsed 17 (.invokevirtual 121) 3 20 := by decide +kernel
theorem dX7_markUsed_20 : Dc cX7_markUsed 20 (.sipush 128) 3 23 := by decide +kernel
theorem dX7_markUsed_23 : Dc cX7_markUsed 23 (.iload_n 2) 1 24 := by decide +kernel
theorem dX7_markUsed_24 : Dc cX7_markUsed 24 (.bipush 8) 2 26 := by decide +kernel
theorem dX7_markUsed_26 : Dc cX7_markUsed 26 (.irem) 1 27 := by decide +kernel
theorem dX7_markUsed_27 : Dc cX7_markUsed 27 (.ishr) 1 28 := by decide +kernel
theorem dX7_markUsed_28 : Dc cX7_markUsed 28 (.ior) 1 29 := by decide +kernel
theorem dX7_markUsed_29 : Dc cX7_markUsed 29 (.invokevirtual 124) 3 32 := by decide +kernel
theorem dX7_markUsed_32 : Dc cX7_markUsed 32 (.return_) 1 33 := by decide +kernel
theorem dX7_countDiffering_0 : Dc cX7_countDiffering 0 (.iconst 0) 1 1 := by decide +kernel
theorem dX7_countDiffering_1 : Dc cX7_countDiffering 1 (.istore_n 1) 1 2 := by decide +kernel
theorem dX7_countDiffering_2 : Dc cX7_countDiffering 2 (.iconst 0) 1 3 := by decide +kernel
theorem dX7_countDiffering_3 : Dc cX7_countDiffering 3 (.istore_n 2) 1 4 := by decide +kernel
theorem dX7_countDiffering_4 : Dc cX7_countDiffering 4 (.iload_n 2) 1 5 := by decide +kernel
theorem dX7_countDiffering_5 : Dc cX7_countDiffering 5 (.bipush 64) 2 7 := by decide +kernel
theorem dX7_countDiffering_7 : Dc cX7_countDiffering 7 (.if_icmp .ge 27) 3 10 := by decide +kernel
theorem dX7_countDiffering_10 : Dc cX7_countDiffering 10 (.aload_n 0) 1 11 := by decide +kernel
theorem dX7_countDiffering_11 : Dc cX7_countDiffering 11 (.getfield 15) 3 14 := by decide +kernel
theorem dX7_countDiffering_14 : Dc cX7_countDiffering 14 (.iload_n 2) 1 15 := by decide +kernel
theorem dX7_countDiffering_15 : Dc cX7_countDiffering 15 (.aload_n 0) 1 16 := by decide +kernel
theorem dX7_countDiffering_16 : Dc cX7_countDiffering 16 (.getfield 9) 3 19 := by decide +kernel
theorem dX7_countDiffering_19 : Dc cX7_countDiffering 19 (.invokevirtual 127) 3 22 := by decide +kernel
theorem dX7_countDiffering_22 : Dc cX7_countDiffering 22 (.ifCond .ne 6) 3 25 := by decide +kernel
theorem dX7_countDiffering_25 : Dc cX7_countDiffering 25 (.iinc 1 1) 3 28 := by decide +kernel
theorem dX7_countDiffering_28 : Dc cX7_countDiffering 28 (.iinc 2 1) 3 31 := by decide +kernel
theorem dX7_countDiffering_31 : Dc cX7_countDiffering 31 (.goto (-27)) 3 34 := by decide +kernel
theorem dX7_countDiffering_34 : Dc cX7_countDiffering 34 (.iload_n 1) 1 35 := by decide +kernel
theorem dX7_countDiffering_35 : Dc cX7_countDiffering 35 (.ireturn) 1 36 := by decide +kernel
theorem dX7_writeBlocks_0 : Dc cX7_writeBlocks 0 (.iconst 0) 1 1 := by decide +kernel
theorem dX7_writeBlocks_1 : Dc cX7_writeBlocks 1 (.istore_n 2) 1 2 := by decide +kernel
theorem dX7_writeBlocks_2 : Dc cX7_writeBlocks 2 (.iconst 0) 1 3 := by decide +kernel
theorem dX7_writeBlocks_3 : Dc cX7_writeBlocks 3 (.istore_n 3) 1 4 := by decide +kernel
theorem dX7_writeBlocks_4 : Dc cX7_writeBlocks 4 (.iload_n 3) 1 5 := by decide +kernel
theorem dX7_writeBlocks_5 : Dc cX7_writeBlocks 5 (.bipush 64) 2 7 := by decide +kernel
theorem dX7_writeBlocks_7 : Dc cX7_writeBlocks 7 (.if_icmp .ge 45) 3 10 := by decide +kernel
theorem dX7_writeBlocks_10 : Dc cX7_writeBlocks 10 (.iload_n 2) 1 11 := by decide +kernel
theorem dX7_writeBlocks_11 : Dc cX7_writeBlocks 11 (.iload_n 1) 1 12 := by decide +kernel
theorem dX7_writeBlocks_12 : Dc cX7_writeBlocks 12 (.if_icmp .ge 40) 3 15 := by decide +kernel
theorem dX7_writeBlocks_15 : Dc cX7_writeBlocks 15 (.aload_n 0) 1 16 := by decide +kernel
theorem dX7_writeBlocks_16 : Dc cX7_writeBlocks 16 (.getfield 15) 3 19 := by decide +kernel
theorem dX7_writeBlocks_19 : Dc cX7_writeBlocks 19 (.iload_n 3) 1 20 := by decide +kernel
theorem dX7_writeBlocks_20 : Dc cX7_writeBlocks 20 (.aload_n 0) 1 21 := by decide +kernel
theorem dX7_writeBlocks_21 : Dc cX7_writeBlocks 21 (.getfield 9) 3 24 := by decide +kernel
theorem dX7_writeBlocks_24 : Dc cX7_writeBlocks 24 (.invokevirtual 127) 3 27 := by decide +kernel
theorem dX7_writeBlocks_27 : Dc cX7_writeBlocks 27 (.ifCond .ne 19) 3 30 := by decide +kernel
theorem dX7_writeBlocks_30 : Dc cX7_writeBlocks 30 (.aload_n 0) 1 31 := by decide +kernel
theorem dX7_writeBlocks_31 : Dc cX7_writeBlocks 31 (.getfield 9) 3 34 := by decide +kernel
theorem dX7_writeBlocks_34 : Dc cX7_writeBlocks 34 (.iload_n 3) 1 35 := by decide +kernel
theorem dX7_writeBlocks_35 : Dc cX7_writeBlocks 35 (.aload_n 0) 1 36 := by decide +kernel
theorem dX7_writeBlocks_36 : Dc cX7_writeBlocks 36 (.getfield 15) 3 39 := by decide +kernel
theorem dX7_writeBlocks_39 : Dc cX7_writeBlocks 39 (.iload_n 3) 1 40 := by decide +kernel
theorem dX7_writeBlocks_40 : Dc cX7_writeBlocks 40 (.invokevirtual 131) 3 43 := by decide +kernel
theorem dX7_writeBlocks_43 : Dc cX7_writeBlocks 43 (.iinc 2 1) 3 46 := by decide +kernel
theorem dX7_writeBlocks_46 : Dc cX7_writeBlocks 46 (.iinc 3 1) 3 49 := by decide +kernel
theorem dX7_writeBlocks_49 : Dc cX7_writeBlocks 49 (.goto (-45)) 3 52 := by decide +kernel
theorem dX7_writeBlocks_52 : Dc cX7_writeBlocks 52 (.iload_n 2) 1 53 := by decide +kernel
theorem dX7_writeBlocks_53 : Dc cX7_writeBlocks 53 (.ireturn) 1 54 := by decide +kernel
theorem dX7_keepPlan_0 : Dc cX7_keepPlan 0 (.aload_n 0) 1 1 := by decide +kernel
theorem dX7_keepPlan_1 : Dc cX7_keepPlan 1 (.invokevirtual 80) 3 4 := by decide +kernel
theorem dX7_keepPlan_4 : Dc cX7_keepPlan 4 (.aload_n 0) 1 5 := by decide +kernel
theorem dX7_keepPlan_5 : Dc cX7_keepPlan 5 (.getfield 9) 3 8 := by decide +kernel
theorem dX7_keepPlan_8 : Dc cX7_keepPlan 8 (.aload_n 0) 1 9 := by decide +kernel
theorem dX7_keepPlan_9 : Dc cX7_keepPlan 9 (.getfield 15) 3 12 := by decide +kernel
theorem dX7_keepPlan_12 : Dc cX7_keepPlan 12 (.invokevirtual 48) 3 15 := by decide +kernel
theorem dX7_keepPlan_15 : Dc cX7_keepPlan 15 (.return_) 1 16 := by decide +kernel
theorem dX8_isGood_0 : Dc cX8_isGood 0 (.iload_n 1) 1 1 := by decide +kernel
theorem dX8_isGood_1 : Dc cX8_isGood 1 (.bipush 64) 2 3 := by decide +kernel
theorem dX8_isGood_3 : Dc cX8_isGood 3 (.imul) 1 4 := by decide +kernel
theorem dX8_isGood_4 : Dc cX8_isGood 4 (.istore_n 2) 1 5 := by decide +kernel
theorem dX8_isGood_5 : Dc cX8_isGood 5 (.aload_n 0) 1 6 := by decide +kernel
theorem dX8_isGood_6 : Dc cX8_isGood 6 (.iload_n 2) 1 7 := by decide +kernel
theorem dX8_isGood_7 : Dc cX8_isGood 7 (.ldc 11) 2 9 := by decide +kernel
theorem dX8_isGood_9 : Dc cX8_isGood 9 (.invokevirtual 13) 3 12 := by decide +kernel
theorem dX8_isGood_12 : Dc cX8_isGood 12 (.ifCond .eq 25) 3 15 := by decide +kernel
theorem dX8_isGood_15 : Dc cX8_isGood 15 (.aload_n 0) 1 16 := by decide +kernel
theorem dX8_isGood_16 : Dc cX8_isGood 16 (.iload_n 2) 1 17 := by decide +kernel
theorem dX8_isGood_17 : Dc cX8_isGood 17 (.bipush 62) 2 19 := by decide +kernel
theorem dX8_isGood_19 : Dc cX8_isGood 19 (.iadd) 1 20 := by decide +kernel
theorem dX8_isGood_20 : Dc cX8_isGood 20 (.invokevirtual 19) 3 23 := by decide +kernel
theorem dX8_isGood_23 : Dc cX8_isGood 23 (.aload_n 0) 1 24 := by decide +kernel
theorem dX8_isGood_24 : Dc cX8_isGood 24 (.iload_n 2) 1 25 := by decide +kernel
theorem dX8_isGood_25 : Dc cX8_isGood 25 (.bipush 62) 2 27 := by decide +kernel
theorem dX8_isGood_27 : Dc cX8_isGood 27 (.invokevirtual 23) 3 30 := by decide +kernel
theorem dX8_isGood_30 : Dc cX8_isGood 30 (.if_icmp .ne 7) 3 33 := by decide +kernel
theorem dX8_isGood_33 : Dc cX8_isGood 33 (.iconst 1) 1 34 := by decide +kernel
theorem dX8_isGood_34 : Dc cX8_isGood 34 (.goto 4) 3 37 := by decide +kernel
theorem dX8_isGood_37 : Dc cX8_isGood 37 (.iconst 0) 1 38 := by decide +kernel
theorem dX8_isGood_38 : Dc cX8_isGood 38 (.ireturn) 1 39 := by decide +kernel
theorem dX8_write_0 : Dc cX8_write 0 (.iload_n 1) 1 1 := by decide +kernel
theorem dX8_write_1 : Dc cX8_write 1 (.bipush 64) 2 3 := by decide +kernel
theorem dX8_write_3 : Dc cX8_write 3 (.imul) 1 4 := by decide +kernel
theorem dX8_write_4 : Dc cX8_write 4 (.istore 4) 2 6 := by decide +kernel
theorem dX8_write_6 : Dc cX8_write 6 (.aload_n 0) 1 7 := by decide +kernel
theorem dX8_write_7 : Dc cX8_write 7 (.iload 4) 2 9 := by decide +kernel
theorem dX8_write_9 : Dc cX8_write 9 (.bipush 64) 2 11 := by decide +kernel
theorem dX8_write_11 : Dc cX8_write 11 (.invokevirtual 27) 3 14 := by decide +kernel
theorem dX8_write_14 : Dc cX8_write 14 (.aload_n 0) 1 15 := by decide +kernel
theorem dX8_write_15 : Dc cX8_write 15 (.iload 4) 2 17 := by decide +kernel
theorem dX8_write_17 : Dc cX8_write 17 (.ldc 11) 2 19 := by decide +kernel
theorem dX8_write_19 : Dc cX8_write 19 (.invokevirtual 31) 3 22 := by decide +kernel
theorem dX8_write_22 : Dc cX8_write 22 (.aload_n 0) 1 23 := by decide +kernel
theorem dX8_write_23 : Dc cX8_write 23 (.iload 4) 2 25 := by decide +kernel
theorem dX8_write_25 : Dc cX8_write 25 (.iconst 4) 1 26 := by decide +kernel
theorem dX8_write_26 : Dc cX8_write 26 (.iadd) 1 27 := by decide +kernel
theorem dX8_write_27 : Dc cX8_write 27 (.iload_n 2) 1 28 := by decide +kernel
theorem dX8_write_28 : Dc cX8_write 28 (.invokevirtual 35) 3 31 := by decide +kernel
theorem dX8_write_31 : Dc cX8_write 31 (.aload_n 0) 1 32 := by decide +kernel
theorem dX8_write_32 : Dc cX8_write 32 (.iload 4) 2 34 := by decide +kernel
theorem dX8_write_34 : Dc cX8_write 34 (.bipush 6) 2 36 := by decide +kernel
theorem dX8_write_36 : Dc cX8_write 36 (.iadd) 1 37 := by decide +kernel
theorem dX8_write_37 : Dc cX8_write 37 (.iload_n 3) 1 38 := by decide +kernel
theorem dX8_write_38 : Dc cX8_write 38 (.invokevirtual 35) 3 41 := by decide +kernel
theorem dX8_write_41 : Dc cX8_write 41 (.aload_n 0) 1 42 := by decide +kernel
theorem dX8_write_42 : Dc cX8_write 42 (.iload_n 1) 1 43 := by decide +kernel
theorem dX8_write_43 : Dc cX8_write 43 (.invokestatic 38) 3 46 := by decide +kernel
theorem dX8_write_46 : Dc cX8_write 46 (.return_) 1 47 := by decide +kernel
theorem dX8_writeSum_0 : Dc cX8_writeSum 0 (.iload_n 1) 1 1 := by decide +kernel
theorem dX8_writeSum_1 : Dc cX8_writeSum 1 (.bipush 64) 2 3 := by decide +kernel
theorem dX8_writeSum_3 : Dc cX8_writeSum 3 (.imul) 1 4 := by decide +kernel
theorem dX8_writeSum_4 : Dc cX8_writeSum 4 (.istore_n 2) 1 5 := by decide +kernel
theorem dX8_writeSum_5 : Dc cX8_writeSum 5 (.aload_n 0) 1 6 := by decide +kernel
theorem dX8_writeSum_6 : Dc cX8_writeSum 6 (.iload_n 2) 1 7 := by decide +kernel
theorem dX8_writeSum_7 : Dc cX8_writeSum 7 (.bipush 62) 2 9 := by decide +kernel
theorem dX8_writeSum_9 : Dc cX8_writeSum 9 (.iadd) 1 10 := by decide +kernel
theorem dX8_writeSum_10 : Dc cX8_writeSum 10 (.aload_n 0) 1 11 := by decide +kernel
theorem dX8_writeSum_11 : Dc cX8_writeSum 11 (.iload_n 2) 1 12 := by decide +kernel
theorem dX8_writeSum_12 : Dc cX8_writeSum 12 (.bipush 62) 2 14 := by decide +kernel
theorem dX8_writeSum_14 : Dc cX8_writeSum 14 (.invokevirtual 23) 3 17 := by decide +kernel
theorem dX8_writeSum_17 : Dc cX8_writeSum 17 (.invokevirtual 35) 3 20 := by decide +kernel
theorem dX8_writeSum_20 : Dc cX8_writeSum 20 (.return_) 1 21 := by decide +kernel
theorem dX9_init_0 : Dc cX9_init 0 (.aload_n 0) 1 1 := by decide +kernel
theorem dX9_init_1 : Dc cX9_init 1 (.invokespecial 3) 3 4 := by decide +kernel
theorem dX9_init_4 : Dc cX9_init 4 (.aload_n 0) 1 5 := by decide +kernel
theorem dX9_init_5 : Dc cX9_init 5 (.aload_n 1) 1 6 := by decide +kernel
theorem dX9_init_6 : Dc cX9_init 6 (.putfield 9) 3 9 := by decide +kernel
theorem dX9_init_9 : Dc cX9_init 9 (.aload_n 0) 1 10 := by decide +kernel
theorem dX9_init_10 : Dc cX9_init 10 (.aload_n 2) 1 11 := by decide +kernel
theorem dX9_init_11 : Dc cX9_init 11 (.putfield 15) 3 14 := by decide +kernel
theorem dX9_init_14 : Dc cX9_init 14 (.aload_n 0) 1 15 := by decide +kernel
theorem dX9_init_15 : Dc cX9_init 15 (.aload_n 3) 1 16 := by decide +kernel
theorem dX9_init_16 : Dc cX9_init 16 (.putfield 19) 3 19 := by decide +kernel
theorem dX9_init_19 : Dc cX9_init 19 (.return_) 1 20 := by decide +kernel
theorem dX9_create_0 : Dc cX9_create 0 (.aload_n 0) 1 1 := by decide +kernel
theorem dX9_create_1 : Dc cX9_create 1 (.getfield 15) 3 4 := by decide +kernel
theorem dX9_create_4 : Dc cX9_create 4 (.invokevirtual 23) 3 7 := by decide +kernel
theorem dX9_create_7 : Dc cX9_create 7 (.istore 4) 2 9 := by decide +kernel
theorem dX9_create_9 : Dc cX9_create 9 (.iload 4) 2 11 := by decide +kernel
theorem dX9_create_11 : Dc cX9_create 11 (.iconst (-1)) 1 12 := by decide +kernel
theorem dX9_create_12 : Dc cX9_create 12 (.if_icmp .eq 12) 3 15 := by decide +kernel
theorem dX9_create_15 : Dc cX9_create 15 (.aload_n 0) 1 16 := by decide +kernel
theorem dX9_create_16 : Dc cX9_create 16 (.iload_n 1) 1 17 := by decide +kernel
theorem dX9_create_17 : Dc cX9_create 17 (.aload_n 2) 1 18 := by decide +kernel
theorem dX9_create_18 : Dc cX9_create 18 (.invokevirtual 29) 3 21 := by decide +kernel
theorem dX9_create_21 : Dc cX9_create 21 (.ifCond .ne 5) 3 24 := by decide +kernel
theorem dX9_create_24 : Dc cX9_create 24 (.iconst (-1)) 1 25 := by decide +kernel
theorem dX9_create_25 : Dc cX9_create 25 (.ireturn) 1 26 := by decide +kernel
theorem dX9_create_26 : Dc cX9_create 26 (.iload_n 3) 1 27 := by decide +kernel
theorem dX9_create_27 : Dc cX9_create 27 (.iconst 1) 1 28 := by decide +kernel
theorem dX9_create_28 : Dc cX9_create 28 (.if_icmp .ne 16) 3 31 := by decide +kernel
theorem dX9_create_31 : Dc cX9_create 31 (.aload_n 0) 1 32 := by decide +kernel
theorem dX9_create_32 : Dc cX9_create 32 (.getfield 15) 3 35 := by decide +kernel
theorem dX9_create_35 : Dc cX9_create 35 (.iload 4) 2 37 := by decide +kernel
theorem dX9_create_37 : Dc cX9_create 37 (.iconst 1) 1 38 := by decide +kernel
theorem dX9_create_38 : Dc cX9_create 38 (.invokevirtual 33) 3 41 := by decide +kernel
theorem dX9_create_41 : Dc cX9_create 41 (.goto 18) 3 44 := by decide +kernel
theorem dX9_create_44 : Dc cX9_create 44 (.aload_n 0) 1 45 := by decide +kernel
theorem dX9_create_45 : Dc cX9_create 45 (.getfield 19) 3 48 := by decide +kernel
theorem dX9_create_48 : Dc cX9_create 48 (.iload 4) 2 50 := by decide +kernel
theorem dX9_create_50 : Dc cX9_create 50 (.iload_n 1) 1 51 := by decide +kernel
theorem dX9_create_51 : Dc cX9_create 51 (.invokevirtual 37) 3 54 := by decide +kernel
theorem dX9_create_54 : Dc cX9_create 54 (.ifCond .ne 5) 3 57 := by decide +kernel
theorem dX9_create_57 : Dc cX9_create 57 (.iconst (-1)) 1 58 := by decide +kernel
theorem dX9_create_58 : Dc cX9_create 58 (.ireturn) 1 59 := by decide +kernel
theorem dX9_create_59 : Dc cX9_create 59 (.aload_n 0) 1 60 := by decide +kernel
theorem dX9_create_60 : Dc cX9_create 60 (.iload_n 1) 1 61 := by decide +kernel
theorem dX9_create_61 : Dc cX9_create 61 (.aload_n 2) 1 62 := by decide +kernel
theorem dX9_create_62 : Dc cX9_create 62 (.iload 4) 2 64 := by decide +kernel
theorem dX9_create_64 : Dc cX9_create 64 (.invokevirtual 42) 3 67 := by decide +kernel
theorem dX9_create_67 : Dc cX9_create 67 (.ifCond .eq 8) 3 70 := by decide +kernel
theorem dX9_create_70 : Dc cX9_create 70 (.iload 4) 2 72 := by decide +kernel
theorem dX9_create_72 : Dc cX9_create 72 (.goto 4) 3 75 := by decide +kernel
theorem dX9_create_75 : Dc cX9_create 75 (.iconst (-1)) 1 76 := by decide +kernel
theorem dX9_create_76 : Dc cX9_create 76 (.ireturn) 1 77 := by decide +kernel
theorem dX9_addEntry_0 : Dc cX9_addEntry 0 (.aload_n 0) 1 1 := by decide +kernel
theorem dX9_addEntry_1 : Dc cX9_addEntry 1 (.getfield 15) 3 4 := by decide +kernel
theorem dX9_addEntry_4 : Dc cX9_addEntry 4 (.iload_n 3) 1 5 := by decide +kernel
theorem dX9_addEntry_5 : Dc cX9_addEntry 5 (.invokevirtual 46) 3 8 := by decide +kernel
theorem dX9_addEntry_8 : Dc cX9_addEntry 8 (.iconst 1) 1 9 := by decide +kernel
theorem dX9_addEntry_9 : Dc cX9_addEntry 9 (.if_icmp .ne 26) 3 12 := by decide +kernel
theorem dX9_addEntry_12 : Dc cX9_addEntry 12 (.aload_n 0) 1 13 := by decide +kernel
theorem dX9_addEntry_13 : Dc cX9_addEntry 13 (.iload_n 1) 1 14 := by decide +kernel
theorem dX9_addEntry_14 : Dc cX9_addEntry 14 (.aload_n 2) 1 15 := by decide +kernel
theorem dX9_addEntry_15 : Dc cX9_addEntry 15 (.invokevirtual 29) 3 18 := by decide +kernel
theorem dX9_addEntry_18 : Dc cX9_addEntry 18 (.ifCond .eq 17) 3 21 := by decide +kernel
theorem dX9_addEntry_21 : Dc cX9_addEntry 21 (.aload_n 0) 1 22 := by decide +kernel
theorem dX9_addEntry_22 : Dc cX9_addEntry 22 (.iload_n 1) 1 23 := by decide +kernel
theorem dX9_addEntry_23 : Dc cX9_addEntry 23 (.aload_n 2) 1 24 := by decide +kernel
theorem dX9_addEntry_24 : Dc cX9_addEntry 24 (.iload_n 3) 1 25 := by decide +kernel
theorem dX9_addEntry_25 : Dc cX9_addEntry 25 (.invokevirtual 42) 3 28 := by decide +kernel
theorem dX9_addEntry_28 : Dc cX9_addEntry 28 (.ifCond .eq 7) 3 31 := by decide +kernel
theorem dX9_addEntry_31 : Dc cX9_addEntry 31 (.iconst 1) 1 32 := by decide +kernel
theorem dX9_addEntry_32 : Dc cX9_addEntry 32 (.goto 4) 3 35 := by decide +kernel
theorem dX9_addEntry_35 : Dc cX9_addEntry 35 (.iconst 0) 1 36 := by decide +kernel
theorem dX9_addEntry_36 : Dc cX9_addEntry 36 (.ireturn) 1 37 := by decide +kernel
theorem dX9_mayEnter_0 : Dc cX9_mayEnter 0 (.aload_n 0) 1 1 := by decide +kernel
theorem dX9_mayEnter_1 : Dc cX9_mayEnter 1 (.getfield 15) 3 4 := by decide +kernel
theorem dX9_mayEnter_4 : Dc cX9_mayEnter 4 (.iload_n 1) 1 5 := by decide +kernel
theorem dX9_mayEnter_5 : Dc cX9_mayEnter 5 (.invokevirtual 46) 3 8 := by decide +kernel
theorem dX9_mayEnter_8 : Dc cX9_mayEnter 8 (.iconst 2) 1 9 := by decide +kernel
theorem dX9_mayEnter_9 : Dc cX9_mayEnter 9 (.if_icmp .ne 27) 3 12 := by decide +kernel
theorem dX9_mayEnter_12 : Dc cX9_mayEnter 12 (.aload_n 2) 1 13 := by decide +kernel
theorem dX9_mayEnter_13 : Dc cX9_mayEnter 13 (.invokevirtual 50) 3 16 := by decide +kernel
theorem dX9_mayEnter_16 : Dc cX9_mayEnter 16 (.ifCond .eq 20) 3 19 := by decide +kernel
theorem dX9_mayEnter_19 : Dc cX9_mayEnter 19 (.aload_n 0) 1 20 := by decide +kernel
theorem dX9_mayEnter_20 : Dc cX9_mayEnter 20 (.getfield 19) 3 23 := by decide +kernel
theorem dX9_mayEnter_23 : Dc cX9_mayEnter 23 (.iload_n 1) 1 24 := by decide +kernel
theorem dX9_mayEnter_24 : Dc cX9_mayEnter 24 (.aload_n 2) 1 25 := by decide +kernel
theorem dX9_mayEnter_25 : Dc cX9_mayEnter 25 (.invokevirtual 56) 3 28 := by decide +kernel
theorem dX9_mayEnter_28 : Dc cX9_mayEnter 28 (.iconst (-1)) 1 29 := by decide +kernel
theorem dX9_mayEnter_29 : Dc cX9_mayEnter 29 (.if_icmp .ne 7) 3 32 := by decide +kernel
theorem dX9_mayEnter_32 : Dc cX9_mayEnter 32 (.iconst 1) 1 33 := by decide +kernel
theorem dX9_mayEnter_33 : Dc cX9_mayEnter 33 (.goto 4) 3 36 := by decide +kernel
theorem dX9_mayEnter_36 : Dc cX9_mayEnter 36 (.iconst 0) 1 37 := by decide +kernel
theorem dX9_mayEnter_37 : Dc cX9_mayEnter 37 (.ireturn) 1 38 := by decide +kernel
theorem dX9_enter_0 : Dc cX9_enter 0 (.aload_n 0) 1 1 := by decide +kernel
theorem dX9_enter_1 : Dc cX9_enter 1 (.getfield 19) 3 4 := by decide +kernel
theorem dX9_enter_4 : Dc cX9_enter 4 (.iload_n 1) 1 5 := by decide +kernel
theorem dX9_enter_5 : Dc cX9_enter 5 (.invokevirtual 60) 3 8 := by decide +kernel
theorem dX9_enter_8 : Dc cX9_enter 8 (.istore 4) 2 10 := by decide +kernel
theorem dX9_enter_10 : Dc cX9_enter 10 (.iload 4) 2 12 := by decide +kernel
theorem dX9_enter_12 : Dc cX9_enter 12 (.iconst (-1)) 1 13 := by decide +kernel
theorem dX9_enter_13 : Dc cX9_enter 13 (.if_icmp .ne 5) 3 16 := by decide +kernel
theorem dX9_enter_16 : Dc cX9_enter 16 (.iconst 0) 1 17 := by decide +kernel
theorem dX9_enter_17 : Dc cX9_enter 17 (.ireturn) 1 18 := by decide +kernel
theorem dX9_enter_18 : Dc cX9_enter 18 (.aload_n 0) 1 19 := by decide +kernel
theorem dX9_enter_19 : Dc cX9_enter 19 (.getfield 19) 3 22 := by decide +kernel
theorem dX9_enter_22 : Dc cX9_enter 22 (.iload 4) 2 24 := by decide +kernel
theorem dX9_enter_24 : Dc cX9_enter 24 (.iload_n 3) 1 25 := by decide +kernel
theorem dX9_enter_25 : Dc cX9_enter 25 (.aload_n 2) 1 26 := by decide +kernel
theorem dX9_enter_26 : Dc cX9_enter 26 (.invokevirtual 63) 3 29 := by decide +kernel
theorem dX9_enter_29 : Dc cX9_enter 29 (.iconst 1) 1 30 := by decide +kernel
theorem dX9_enter_30 : Dc cX9_enter 30 (.ireturn) 1 31 := by decide +kernel
theorem dX9_lengthen_0 : Dc cX9_lengthen 0 (.aload_n 0) 1 1 := by decide +kernel
theorem dX9_lengthen_1 : Dc cX9_lengthen 1 (.getfield 15) 3 4 := by decide +kernel
theorem dX9_lengthen_4 : Dc cX9_lengthen 4 (.iload_n 1) 1 5 := by decide +kernel
theorem dX9_lengthen_5 : Dc cX9_lengthen 5 (.invokevirtual 67) 3 8 := by decide +kernel
theorem dX9_lengthen_8 : Dc cX9_lengthen 8 (.istore_n 3) 1 9 := by decide +kernel
theorem dX9_lengthen_9 : Dc cX9_lengthen 9 (.aload_n 0) 1 10 := by decide +kernel
theorem dX9_lengthen_10 : Dc cX9_lengthen 10 (.getfield 15) 3 13 := by decide +kernel
theorem dX9_lengthen_13 : Dc cX9_lengthen 13 (.iload_n 1) 1 14 := by decide +kernel
theorem dX9_lengthen_14 : Dc cX9_lengthen 14 (.invokevirtual 46) 3 17 := by decide +kernel
theorem dX9_lengthen_17 : Dc cX9_lengthen 17 (.iconst 1) 1 18 := by decide +kernel
theorem dX9_lengthen_18 : Dc cX9_lengthen 18 (.if_icmp .ne 22) 3 21 := by decide +kernel
theorem dX9_lengthen_21 : Dc cX9_lengthen 21 (.iload_n 3) 1 22 := by decide +kernel
theorem dX9_lengthen_22 : Dc cX9_lengthen 22 (.bipush 64) 2 24 := by decide +kernel
theorem dX9_lengthen_24 : Dc cX9_lengthen 24 (.irem) 1 25 := by decide +kernel
theorem dX9_lengthen_25 : Dc cX9_lengthen 25 (.ifCond .ne 17) 3 28 := by decide +kernel
theorem dX9_lengthen_28 : Dc cX9_lengthen 28 (.aload_n 0) 1 29 := by decide +kernel
theorem dX9_lengthen_29 : Dc cX9_lengthen 29 (.getfield 15) 3 32 := by decide +kernel
theorem dX9_lengthen_32 : Dc cX9_lengthen 32 (.iload_n 1) 1 33 := by decide +kernel
theorem dX9_lengthen_33 : Dc cX9_lengthen 33 (.invokevirtual 70) 3 36 := by decide +kernel
theorem dX9_lengthen_36 : Dc cX9_lengthen 36 (.iconst (-1)) 1 37 := by decide +kernel
theorem dX9_lengthen_37 : Dc cX9_lengthen 37 (.if_icmp .ne 5) 3 40 := by decide +kernel
theorem dX9_lengthen_40 : Dc cX9_lengthen 40 (.iconst 0) 1 41 := by decide +kernel
theorem dX9_lengthen_41 : Dc cX9_lengthen 41 (.ireturn) 1 42 := by decide +kernel
theorem dX9_lengthen_42 : Dc cX9_lengthen 42 (.aload_n 0) 1 43 := by decide +kernel
theorem dX9_lengthen_43 : Dc cX9_lengthen 43 (.getfield 9) 3 46 := by decide +kernel
theorem dX9_lengthen_46 : Dc cX9_lengthen 46 (.aload_n 0) 1 47 := by decide +kernel
theorem dX9_lengthen_47 : Dc cX9_lengthen 47 (.getfield 15) 3 50 := by decide +kernel
theorem dX9_lengthen_50 : Dc cX9_lengthen 50 (.iload_n 1) 1 51 := by decide +kernel
theorem dX9_lengthen_51 : Dc cX9_lengthen 51 (.iload_n 3) 1 52 := by decide +kernel
theorem dX9_lengthen_52 : Dc cX9_lengthen 52 (.invokevirtual 73) 3 55 := by decide +kernel
theorem dX9_lengthen_55 : Dc cX9_lengthen 55 (.iload_n 2) 1 56 := by decide +kernel
theorem dX9_lengthen_56 : Dc cX9_lengthen 56 (.invokevirtual 77) 3 59 := by decide +kernel
theorem dX9_lengthen_59 : Dc cX9_lengthen 59 (.aload_n 0) 1 60 := by decide +kernel
theorem dX9_lengthen_60 : Dc cX9_lengthen 60 (.getfield 15) 3 63 := by decide +kernel
theorem dX9_lengthen_63 : Dc cX9_lengthen 63 (.iload_n 1) 1 64 := by decide +kernel
theorem dX9_lengthen_64 : Dc cX9_lengthen 64 (.iload_n 3) 1 65 := by decide +kernel
theorem dX9_lengthen_65 : Dc cX9_lengthen 65 (.iconst 1) 1 66 := by decide +kernel
theorem dX9_lengthen_66 : Dc cX9_lengthen 66 (.iadd) 1 67 := by decide +kernel
theorem dX9_lengthen_67 : Dc cX9_lengthen 67 (.invokevirtual 82) 3 70 := by decide +kernel
theorem dX9_lengthen_70 : Dc cX9_lengthen 70 (.iconst 1) 1 71 := by decide +kernel
theorem dX9_lengthen_71 : Dc cX9_lengthen 71 (.ireturn) 1 72 := by decide +kernel
theorem dX9_removeEntry_0 : Dc cX9_removeEntry 0 (.aload_n 0) 1 1 := by decide +kernel
theorem dX9_removeEntry_1 : Dc cX9_removeEntry 1 (.getfield 15) 3 4 := by decide +kernel
theorem dX9_removeEntry_4 : Dc cX9_removeEntry 4 (.iload_n 1) 1 5 := by decide +kernel
theorem dX9_removeEntry_5 : Dc cX9_removeEntry 5 (.invokevirtual 46) 3 8 := by decide +kernel
theorem dX9_removeEntry_8 : Dc cX9_removeEntry 8 (.iconst 2) 1 9 := by decide +kernel
theorem dX9_removeEntry_9 : Dc cX9_removeEntry 9 (.if_icmp .ne 15) 3 12 := by decide +kernel
theorem dX9_removeEntry_12 : Dc cX9_removeEntry 12 (.aload_n 0) 1 13 := by decide +kernel
theorem dX9_removeEntry_13 : Dc cX9_removeEntry 13 (.getfield 19) 3 16 := by decide +kernel
theorem dX9_removeEntry_16 : Dc cX9_removeEntry 16 (.iload_n 1) 1 17 := by decide +kernel
theorem dX9_removeEntry_17 : Dc cX9_removeEntry 17 (.aload_n 2) 1 18 := by decide +kernel
theorem dX9_removeEntry_18 : Dc cX9_removeEntry 18 (.invokevirtual 56) 3 21 := by decide +kernel
theorem dX9_removeEntry_21 : Dc cX9_removeEntry 21 (.goto 4) 3 24 := by decide +kernel
theorem dX9_removeEntry_24 : Dc cX9_removeEntry 24 (.iconst (-1)) 1 25 := by decide +kernel
theorem dX9_removeEntry_25 : Dc cX9_removeEntry 25 (.istore_n 3) 1 26 := by decide +kernel
theorem dX9_removeEntry_26 : Dc cX9_removeEntry 26 (.iload_n 3) 1 27 := by decide +kernel
theorem dX9_removeEntry_27 : Dc cX9_removeEntry 27 (.iconst (-1)) 1 28 := by decide +kernel
theorem dX9_removeEntry_28 : Dc cX9_removeEntry 28 (.if_icmp .ne 5) 3 31 := by decide +kernel
theorem dX9_removeEntry_31 : Dc cX9_removeEntry 31 (.iconst 0) 1 32 := by decide +kernel
theorem dX9_removeEntry_32 : Dc cX9_removeEntry 32 (.ireturn) 1 33 := by decide +kernel
theorem dX9_removeEntry_33 : Dc cX9_removeEntry 33 (.aload_n 0) 1 34 := by decide +kernel
theorem dX9_removeEntry_34 : Dc cX9_removeEntry 34 (.getfield 9) 3 37 := by decide +kernel
theorem dX9_removeEntry_37 : Dc cX9_removeEntry 37 (.iload_n 3) 1 38 := by decide +kernel
theorem dX9_removeEntry_38 : Dc cX9_removeEntry 38 (.invokevirtual 85) 3 41 := by decide +kernel
theorem dX9_removeEntry_41 : Dc cX9_removeEntry 41 (.istore 4) 2 43 := by decide +kernel
theorem dX9_removeEntry_43 : Dc cX9_removeEntry 43 (.aload_n 0) 1 44 := by decide +kernel
theorem dX9_removeEntry_44 : Dc cX9_removeEntry 44 (.getfield 15) 3 47 := by decide +kernel
theorem dX9_removeEntry_47 : Dc cX9_removeEntry 47 (.iload 4) 2 49 := by decide +kernel
theorem dX9_removeEntry_49 : Dc cX9_removeEntry 49 (.invokevirtual 46) 3 52 := by decide +kernel
theorem dX9_removeEntry_52 : Dc cX9_removeEntry 52 (.iconst 1) 1 53 := by decide +kernel
theorem dX9_removeEntry_53 : Dc cX9_removeEntry 53 (.if_icmp .ne 7) 3 56 := by decide +kernel
theorem dX9_removeEntry_56 : Dc cX9_removeEntry 56 (.iconst 1) 1 57 := by decide +kernel
theorem dX9_removeEntry_57 : Dc cX9_removeEntry 57 (.goto 4) 3 60 := by decide +kernel
theorem dX9_removeEntry_60 : Dc cX9_removeEntry 60 (.iconst 0) 1 61 := by decide +kernel
theorem dX9_removeEntry_61 : Dc cX9_removeEntry 61 (.istore 5) 2 63 := by decide +kernel
theorem dX9_removeEntry_63 : Dc cX9_removeEntry 63 (.iload 5) 2 65 := by decide +kernel
theorem dX9_removeEntry_65 : Dc cX9_removeEntry 65 (.ifCond .ne 17) 3 68 := by decide +kernel
theorem dX9_removeEntry_68 : Dc cX9_removeEntry 68 (.aload_n 0) 1 69 := by decide +kernel
theorem dX9_removeEntry_69 : Dc cX9_removeEntry 69 (.getfield 19) 3 72 := by decide +kernel
theorem dX9_removeEntry_72 : Dc cX9_removeEntry 72 (.iload 4) 2 74 := by decide +kernel
theorem dX9_removeEntry_74 : Dc cX9_removeEntry 74 (.invokevirtual 88) 3 77 := by decide +kernel
theorem dX9_removeEntry_77 : Dc cX9_removeEntry 77 (.ifCond .ne 5) 3 80 := by decide +kernel
theorem dX9_removeEntry_80 : Dc cX9_removeEntry 80 (.iconst 0) 1 81 := by decide +kernel
theorem dX9_removeEntry_81 : Dc cX9_removeEntry 81 (.ireturn) 1 82 := by decide +kernel
theorem dX9_removeEntry_82 : Dc cX9_removeEntry 82 (.aload_n 0) 1 83 := by decide +kernel
theorem dX9_removeEntry_83 : Dc cX9_removeEntry 83 (.getfield 19) 3 86 := by decide +kernel
theorem dX9_removeEntry_86 : Dc cX9_removeEntry 86 (.iload_n 3) 1 87 := by decide +kernel
theorem dX9_removeEntry_87 : Dc cX9_removeEntry 87 (.invokevirtual 92) 3 90 := by decide +kernel
theorem dX9_removeEntry_90 : Dc cX9_removeEntry 90 (.iload 5) 2 92 := by decide +kernel
theorem dX9_removeEntry_92 : Dc cX9_removeEntry 92 (.ifCond .eq 16) 3 95 := by decide +kernel
theorem dX9_removeEntry_95 : Dc cX9_removeEntry 95 (.aload_n 0) 1 96 := by decide +kernel
theorem dX9_removeEntry_96 : Dc cX9_removeEntry 96 (.getfield 15) 3 99 := by decide +kernel
theorem dX9_removeEntry_99 : Dc cX9_removeEntry 99 (.iload 4) 2 101 := by decide +kernel
theorem dX9_removeEntry_101 : Dc cX9_removeEntry 101 (.invokevirtual 96) 3 104 := by decide +kernel
theorem dX9_removeEntry_104 : Dc cX9_removeEntry 104 (.iconst 1) 1 105 := by decide +kernel
theorem dX9_removeEntry_105 : Dc cX9_removeEntry 105 (.if_icmp .ne 12) 3 108 := by decide +kernel
theorem dX9_removeEntry_108 : Dc cX9_removeEntry 108 (.aload_n 0) 1 109 := by decide +kernel
theorem dX9_removeEntry_109 : Dc cX9_removeEntry 109 (.getfield 15) 3 112 := by decide +kernel
theorem dX9_removeEntry_112 : Dc cX9_removeEntry 112 (.iload 4) 2 114 := by decide +kernel
theorem dX9_removeEntry_114 : Dc cX9_removeEntry 114 (.invokevirtual 99) 3 117 := by decide +kernel
theorem dX9_removeEntry_117 : Dc cX9_removeEntry 117 (.iconst 1) 1 118 := by decide +kernel
theorem dX9_removeEntry_118 : Dc cX9_removeEntry 118 (.ireturn) 1 119 := by decide +kernel
theorem dX10_init_0 : Dc cX10_init 0 (.aload_n 0) 1 1 := by decide +kernel
theorem dX10_init_1 : Dc cX10_init 1 (.invokespecial 1) 3 4 := by decide +kernel
theorem dX10_init_4 : Dc cX10_init 4 (.new 7) 3 7 := by decide +kernel
theorem dX10_init_7 : Dc cX10_init 7 (.dup) 1 8 := by decide +kernel
theorem dX10_init_8 : Dc cX10_init 8 (.invokespecial 9) 3 11 := by decide +kernel
theorem dX10_init_11 : Dc cX10_init 11 (.astore_n 1) 1 12 := by decide +kernel
theorem dX10_init_12 : Dc cX10_init 12 (.new 10) 3 15 := by decide +kernel
theorem dX10_init_15 : Dc cX10_init 15 (.dup) 1 16 := by decide +kernel
theorem dX10_init_16 : Dc cX10_init 16 (.aload_n 1) 1 17 := by decide +kernel
theorem dX10_init_17 : Dc cX10_init 17 (.invokespecial 12) 3 20 := by decide +kernel
theorem dX10_init_20 : Dc cX10_init 20 (.astore_n 2) 1 21 := by decide +kernel
theorem dX10_init_21 : Dc cX10_init 21 (.new 7) 3 24 := by decide +kernel
theorem dX10_init_24 : Dc cX10_init 24 (.dup) 1 25 := by decide +kernel
theorem dX10_init_25 : Dc cX10_init 25 (.invokespecial 9) 3 28 := by decide +kernel
theorem dX10_init_28 : Dc cX10_init 28 (.astore_n 3) 1 29 := by decide +kernel
theorem dX10_init_29 : Dc cX10_init 29 (.new 10) 3 32 := by decide +kernel
theorem dX10_init_32 : Dc cX10_init 32 (.dup) 1 33 := by decide +kernel
theorem dX10_init_33 : Dc cX10_init 33 (.aload_n 3) 1 34 := by decide +kernel
theorem dX10_init_34 : Dc cX10_init 34 (.invokespecial 12) 3 37 := by decide +kernel
theorem dX10_init_37 : Dc cX10_init 37 (.astore 4) 2 39 := by decide +kernel
theorem dX10_init_39 : Dc cX10_init 39 (.new 15) 3 42 := by decide +kernel
theorem dX10_init_42 : Dc cX10_init 42 (.dup) 1 43 := by decide +kernel
theorem dX10_init_43 : Dc cX10_init 43 (.aload_n 3) 1 44 := by decide +kernel
theorem dX10_init_44 : Dc cX10_init 44 (.aload 4) 2 46 := by decide +kernel
theorem dX10_init_46 : Dc cX10_init 46 (.invokespecial 17) 3 49 := by decide +kernel
theorem dX10_init_49 : Dc cX10_init 49 (.astore 5) 2 51 := by decide +kernel
theorem dX10_init_51 : Dc cX10_init 51 (.aload_n 0) 1 52 := by decide +kernel
theorem dX10_init_52 : Dc cX10_init 52 (.aload_n 1) 1 53 := by decide +kernel
theorem dX10_init_53 : Dc cX10_init 53 (.putfield 20) 3 56 := by decide +kernel
theorem dX10_init_56 : Dc cX10_init 56 (.aload_n 0) 1 57 := by decide +kernel
theorem dX10_init_57 : Dc cX10_init 57 (.aload_n 2) 1 58 := by decide +kernel
theorem dX10_init_58 : Dc cX10_init 58 (.putfield 26) 3 61 := by decide +kernel
theorem dX10_init_61 : Dc cX10_init 61 (.aload_n 0) 1 62 := by decide +kernel
theorem dX10_init_62 : Dc cX10_init 62 (.new 15) 3 65 := by decide +kernel
theorem dX10_init_65 : Dc cX10_init 65 (.dup) 1 66 := by decide +kernel
theorem dX10_init_66 : Dc cX10_init 66 (.aload_n 1) 1 67 := by decide +kernel
theorem dX10_init_67 : Dc cX10_init 67 (.aload_n 2) 1 68 := by decide +kernel
theorem dX10_init_68 : Dc cX10_init 68 (.invokespecial 17) 3 71 := by decide +kernel
theorem dX10_init_71 : Dc cX10_init 71 (.putfield 30) 3 74 := by decide +kernel
theorem dX10_init_74 : Dc cX10_init 74 (.aload_n 0) 1 75 := by decide +kernel
theorem dX10_init_75 : Dc cX10_init 75 (.new 34) 3 78 := by decide +kernel
theorem dX10_init_78 : Dc cX10_init 78 (.dup) 1 79 := by decide +kernel
theorem dX10_init_79 : Dc cX10_init 79 (.aload_n 1) 1 80 := by decide +kernel
theorem dX10_init_80 : Dc cX10_init 80 (.aload_n 3) 1 81 := by decide +kernel
theorem dX10_init_81 : Dc cX10_init 81 (.aload 4) 2 83 := by decide +kernel
theorem dX10_init_83 : Dc cX10_init 83 (.aload 5) 2 85 := by decide +kernel
theorem dX10_init_85 : Dc cX10_init 85 (.invokespecial 36) 3 88 := by decide +kernel
theorem dX10_init_88 : Dc cX10_init 88 (.putfield 39) 3 91 := by decide +kernel
theorem dX10_init_91 : Dc cX10_init 91 (.aload_n 0) 1 92 := by decide +kernel
theorem dX10_init_92 : Dc cX10_init 92 (.new 43) 3 95 := by decide +kernel
theorem dX10_init_95 : Dc cX10_init 95 (.dup) 1 96 := by decide +kernel
theorem dX10_init_96 : Dc cX10_init 96 (.aload_n 3) 1 97 := by decide +kernel
theorem dX10_init_97 : Dc cX10_init 97 (.aload 4) 2 99 := by decide +kernel
theorem dX10_init_99 : Dc cX10_init 99 (.aload 5) 2 101 := by decide +kernel
theorem dX10_init_101 : Dc cX10_init 101 (.invokespecial 45) 3 104 := by decide +kernel
theorem dX10_init_104 : Dc cX10_init 104 (.putfield 48) 3 107 := by decide +kernel
theorem dX10_init_107 : Dc cX10_init 107 (.aload_n 0) 1 108 := by decide +kernel
theorem dX10_init_108 : Dc cX10_init 108 (.new 52) 3 111 := by decide +kernel
theorem dX10_init_111 : Dc cX10_init 111 (.dup) 1 112 := by decide +kernel
theorem dX10_init_112 : Dc cX10_init 112 (.invokespecial 54) 3 115 := by decide +kernel
theorem dX10_init_115 : Dc cX10_init 115 (.putfield 55) 3 118 := by decide +kernel
theorem dX10_init_118 : Dc cX10_init 118 (.return_) 1 119 := by decide +kernel
theorem dX10_format_0 : Dc cX10_format 0 (.aload_n 0) 1 1 := by decide +kernel
theorem dX10_format_1 : Dc cX10_format 1 (.getfield 20) 3 4 := by decide +kernel
theorem dX10_format_4 : Dc cX10_format 4 (.iconst 0) 1 5 := by decide +kernel
theorem dX10_format_5 : Dc cX10_format 5 (.sipush 4096) 3 8 := by decide +kernel
theorem dX10_format_8 : Dc cX10_format 8 (.invokevirtual 59) 3 11 := by decide +kernel
theorem dX10_format_11 : Dc cX10_format 11 (.aload_n 0) 1 12 := by decide +kernel
theorem dX10_format_12 : Dc cX10_format 12 (.getfield 20) 3 15 := by decide +kernel
theorem dX10_format_15 : Dc cX10_format 15 (.iconst 0) 1 16 := by decide +kernel
theorem dX10_format_16 : Dc cX10_format 16 (.iconst 0) 1 17 := by decide +kernel
theorem dX10_format_17 : Dc cX10_format 17 (.iconst 0) 1 18 := by decide +kernel
theorem dX10_format_18 : Dc cX10_format 18 (.invokestatic 63) 3 21 := by decide +kernel
theorem dX10_format_21 : Dc cX10_format 21 (.aload_n 0) 1 22 := by decide +kernel
theorem dX10_format_22 : Dc cX10_format 22 (.getfield 39) 3 25 := by decide +kernel
theorem dX10_format_25 : Dc cX10_format 25 (.invokevirtual 69) 3 28 := by decide +kernel
theorem dX10_format_28 : Dc cX10_format 28 (.pop) 1 29 := by decide +kernel
theorem dX10_format_29 : Dc cX10_format 29 (.aload_n 0) 1 30 := by decide +kernel
theorem dX10_format_30 : Dc cX10_format 30 (.getfield 39) 3 33 := by decide +kernel
theorem dX10_format_33 : Dc cX10_format 33 (.bipush 64) 2 35 := by decide +kernel
theorem dX10_format_35 : Dc cX10_format 35 (.invokevirtual 73) 3 38 := by decide +kernel
theorem dX10_format_38 : Dc cX10_format 38 (.ireturn) 1 39 := by decide +kernel
theorem dX10_poke_0 : Dc cX10_poke 0 (.iload_n 1) 1 1 := by decide +kernel
theorem dX10_poke_1 : Dc cX10_poke 1 (.invokestatic 77) 3 4 := by decide +kernel
theorem dX10_poke_4 : Dc cX10_poke 4 (.ifCond .eq 10) 3 7 := by decide +kernel
theorem dX10_poke_7 : Dc cX10_poke 7 (.iload_n 2) 1 8 := by decide +kernel
theorem dX10_poke_8 : Dc cX10_poke 8 (.invokestatic 81) 3 11 := by decide +kernel
theorem dX10_poke_11 : Dc cX10_poke 11 (.ifCond .ne 5) 3 14 := by decide +kernel
theorem dX10_poke_14 : Dc cX10_poke 14 (.iconst 0) 1 15 := by decide +kernel
theorem dX10_poke_15 : Dc cX10_poke 15 (.ireturn) 1 16 := by decide +kernel
theorem dX10_poke_16 : Dc cX10_poke 16 (.aload_n 0) 1 17 := by decide +kernel
theorem dX10_poke_17 : Dc cX10_poke 17 (.getfield 20) 3 20 := by decide +kernel
theorem dX10_poke_20 : Dc cX10_poke 20 (.iload_n 1) 1 21 := by decide +kernel
theorem dX10_poke_21 : Dc cX10_poke 21 (.iload_n 2) 1 22 := by decide +kernel
theorem dX10_poke_22 : Dc cX10_poke 22 (.invokevirtual 84) 3 25 := by decide +kernel
theorem dX10_poke_25 : Dc cX10_poke 25 (.iconst 1) 1 26 := by decide +kernel
theorem dX10_poke_26 : Dc cX10_poke 26 (.ireturn) 1 27 := by decide +kernel
theorem dX10_peek_0 : Dc cX10_peek 0 (.iload_n 1) 1 1 := by decide +kernel
theorem dX10_peek_1 : Dc cX10_peek 1 (.invokestatic 77) 3 4 := by decide +kernel
theorem dX10_peek_4 : Dc cX10_peek 4 (.ifCond .eq 14) 3 7 := by decide +kernel
theorem dX10_peek_7 : Dc cX10_peek 7 (.aload_n 0) 1 8 := by decide +kernel
theorem dX10_peek_8 : Dc cX10_peek 8 (.getfield 20) 3 11 := by decide +kernel
theorem dX10_peek_11 : Dc cX10_peek 11 (.iload_n 1) 1 12 := by decide +kernel
theorem dX10_peek_12 : Dc cX10_peek 12 (.invokevirtual 87) 3 15 := by decide +kernel
theorem dX10_peek_15 : Dc cX10_peek 15 (.goto 4) 3 18 := by decide +kernel
theorem dX10_peek_18 : Dc cX10_peek 18 (.iconst (-1)) 1 19 := by decide +kernel
theorem dX10_peek_19 : Dc cX10_peek 19 (.ireturn) 1 20 := by decide +kernel
theorem dX10_seal_0 : Dc cX10_seal 0 (.iload_n 1) 1 1 := by decide +kernel
theorem dX10_seal_1 : Dc cX10_seal 1 (.ifCond .lt 9) 3 4 := by decide +kernel
theorem dX10_seal_4 : Dc cX10_seal 4 (.iload_n 1) 1 5 := by decide +kernel
theorem dX10_seal_5 : Dc cX10_seal 5 (.bipush 35) 2 7 := by decide +kernel
theorem dX10_seal_7 : Dc cX10_seal 7 (.if_icmp .lt 5) 3 10 := by decide +kernel
theorem dX10_seal_10 : Dc cX10_seal 10 (.iconst 0) 1 11 := by decide +kernel
theorem dX10_seal_11 : Dc cX10_seal 11 (.ireturn) 1 12 := by decide +kernel
theorem dX10_seal_12 : Dc cX10_seal 12 (.iload_n 1) 1 13 := by decide +kernel
theorem dX10_seal_13 : Dc cX10_seal 13 (.ifCond .ne 14) 3 16 := by decide +kernel
theorem dX10_seal_16 : Dc cX10_seal 16 (.aload_n 0) 1 17 := by decide +kernel
theorem dX10_seal_17 : Dc cX10_seal 17 (.getfield 20) 3 20 := by decide +kernel
theorem dX10_seal_20 : Dc cX10_seal 20 (.iconst 0) 1 21 := by decide +kernel
theorem dX10_seal_21 : Dc cX10_seal 21 (.invokestatic 90) 3 24 := by decide +kernel
theorem dX10_seal_24 : Dc cX10_seal 24 (.goto 45) 3 27 := by decide +kernel
theorem dX10_seal_27 : Dc cX10_seal 27 (.iload_n 1) 1 28 := by decide +kernel
theorem dX10_seal_28 : Dc cX10_seal 28 (.iconst 1) 1 29 := by decide +kernel
theorem dX10_seal_29 : Dc cX10_seal 29 (.if_icmp .ne 15) 3 32 := by decide +kernel
theorem dX10_seal_32 : Dc cX10_seal 32 (.aload_n 0) 1 33 := by decide +kernel
theorem dX10_seal_33 : Dc cX10_seal 33 (.getfield 20) 3 36 := by decide +kernel
theorem dX10_seal_36 : Dc cX10_seal 36 (.bipush 63) 2 38 := by decide +kernel
theorem dX10_seal_38 : Dc cX10_seal 38 (.invokestatic 90) 3 41 := by decide +kernel
theorem dX10_seal_41 : Dc cX10_seal 41 (.goto 28) 3 44 := by decide +kernel
theorem dX10_seal_44 : Dc cX10_seal 44 (.iload_n 1) 1 45 := by decide +kernel
theorem dX10_seal_45 : Dc cX10_seal 45 (.iconst 2) 1 46 := by decide +kernel
theorem dX10_seal_46 : Dc cX10_seal 46 (.if_icmp .ne 13) 3 49 := by decide +kernel
theorem dX10_seal_49 : Dc cX10_seal 49 (.aload_n 0) 1 50 := by decide +kernel
theorem dX10_seal_50 : Dc cX10_seal 50 (.getfield 20) 3 53 := by decide +kernel
theorem dX10_seal_53 : Dc cX10_seal 53 (.invokestatic 94) 3 56 := by decide +kernel
theorem dX10_seal_56 : Dc cX10_seal 56 (.goto 13) 3 59 := by decide +kernel
theorem dX10_seal_59 : Dc cX10_seal 59 (.aload_n 0) 1 60 := by decide +kernel
theorem dX10_seal_60 : Dc cX10_seal 60 (.getfield 26) 3 63 := by decide +kernel
theorem dX10_seal_63 : Dc cX10_seal 63 (.iload_n 1) 1 64 := by decide +kernel
theorem dX10_seal_64 : Dc cX10_seal 64 (.iconst 3) 1 65 := by decide +kernel
theorem dX10_seal_65 : Dc cX10_seal 65 (.isub) 1 66 := by decide +kernel
theorem dX10_seal_66 : Dc cX10_seal 66 (.invokevirtual 98) 3 69 := by decide +kernel
theorem dX10_seal_69 : Dc cX10_seal 69 (.iconst 1) 1 70 := by decide +kernel
theorem dX10_seal_70 : Dc cX10_seal 70 (.ireturn) 1 71 := by decide +kernel
theorem dX10_commit_0 : Dc cX10_commit 0 (.iload_n 3) 1 1 := by decide +kernel
theorem dX10_commit_1 : Dc cX10_commit 1 (.iconst 1) 1 2 := by decide +kernel
theorem dX10_commit_2 : Dc cX10_commit 2 (.if_icmp .lt 8) 3 5 := by decide +kernel
theorem dX10_commit_5 : Dc cX10_commit 5 (.iload_n 3) 1 6 := by decide +kernel
theorem dX10_commit_6 : Dc cX10_commit 6 (.iconst 5) 1 7 := by decide +kernel
theorem dX10_commit_7 : Dc cX10_commit 7 (.if_icmp .le 5) 3 10 := by decide +kernel
theorem dX10_commit_10 : Dc cX10_commit 10 (.iconst 0) 1 11 := by decide +kernel
theorem dX10_commit_11 : Dc cX10_commit 11 (.ireturn) 1 12 := by decide +kernel
theorem dX10_commit_12 : Dc cX10_commit 12 (.aload_n 0) 1 13 := by decide +kernel
theorem dX10_commit_13 : Dc cX10_commit 13 (.getfield 20) 3 16 := by decide +kernel
theorem dX10_commit_16 : Dc cX10_commit 16 (.lload_n 1) 1 17 := by decide +kernel
theorem dX10_commit_17 : Dc cX10_commit 17 (.iload_n 3) 1 18 := by decide +kernel
theorem dX10_commit_18 : Dc cX10_commit 18 (.invokestatic 101) 3 21 := by decide +kernel
theorem dX10_commit_21 : Dc cX10_commit 21 (.iconst 1) 1 22 := by decide +kernel
theorem dX10_commit_22 : Dc cX10_commit 22 (.ireturn) 1 23 := by decide +kernel
theorem dX10_check_0 : Dc cX10_check 0 (.aload_n 0) 1 1 := by decide +kernel
theorem dX10_check_1 : Dc cX10_check 1 (.getfield 39) 3 4 := by decide +kernel
theorem dX10_check_4 : Dc cX10_check 4 (.invokevirtual 69) 3 7 := by decide +kernel
theorem dX10_check_7 : Dc cX10_check 7 (.ireturn) 1 8 := by decide +kernel
theorem dX10_repair_0 : Dc cX10_repair 0 (.iload_n 1) 1 1 := by decide +kernel
theorem dX10_repair_1 : Dc cX10_repair 1 (.iconst (-1)) 1 2 := by decide +kernel
theorem dX10_repair_2 : Dc cX10_repair 2 (.if_icmp .lt 20) 3 5 := by decide +kernel
theorem dX10_repair_5 : Dc cX10_repair 5 (.iload_n 1) 1 6 := by decide +kernel
theorem dX10_repair_6 : Dc cX10_repair 6 (.bipush 64) 2 8 := by decide +kernel
theorem dX10_repair_8 : Dc cX10_repair 8 (.if_icmp .gt 14) 3 11 := by decide +kernel
theorem dX10_repair_11 : Dc cX10_repair 11 (.aload_n 0) 1 12 := by decide +kernel
theorem dX10_repair_12 : Dc cX10_repair 12 (.getfield 39) 3 15 := by decide +kernel
theorem dX10_repair_15 : Dc cX10_repair 15 (.invokevirtual 69) 3 18 := by decide +kernel
theorem dX10_repair_18 : Dc cX10_repair 18 (.iconst (-1)) 1 19 := by decide +kernel
theorem dX10_repair_19 : Dc cX10_repair 19 (.if_icmp .ne 5) 3 22 := by decide +kernel
theorem dX10_repair_22 : Dc cX10_repair 22 (.iconst (-1)) 1 23 := by decide +kernel
theorem dX10_repair_23 : Dc cX10_repair 23 (.ireturn) 1 24 := by decide +kernel
theorem dX10_repair_24 : Dc cX10_repair 24 (.aload_n 0) 1 25 := by decide +kernel
theorem dX10_repair_25 : Dc cX10_repair 25 (.getfield 39) 3 28 := by decide +kernel
theorem dX10_repair_28 : Dc cX10_repair 28 (.iload_n 1) 1 29 := by decide +kernel
theorem dX10_repair_29 : Dc cX10_repair 29 (.iconst (-1)) 1 30 := by decide +kernel
theorem dX10_repair_30 : Dc cX10_repair 30 (.if_icmp .ne 8) 3 33 := by decide +kernel
theorem dX10_repair_33 : Dc cX10_repair 33 (.bipush 64) 2 35 := by decide +kernel
theorem dX10_repair_35 : Dc cX10_repair 35 (.goto 4) 3 38 := by decide +kernel
theorem dX10_repair_38 : Dc cX10_repair 38 (.iload_n 1) 1 39 := by decide +kernel
theorem dX10_repair_39 : Dc cX10_repair 39 (.invokevirtual 73) 3 42 := by decide +kernel
theorem dX10_repair_42 : Dc cX10_repair 42 (.ireturn) 1 43 := by decide +kernel
theorem dX10_inode_0 : Dc cX10_inode 0 (.iload_n 1) 1 1 := by decide +kernel
theorem dX10_inode_1 : Dc cX10_inode 1 (.invokestatic 104) 3 4 := by decide +kernel
theorem dX10_inode_4 : Dc cX10_inode 4 (.ifCond .ne 5) 3 7 := by decide +kernel
theorem dX10_inode_7 : Dc cX10_inode 7 (.iconst (-1)) 1 8 := by decide +kernel
theorem dX10_inode_8 : Dc cX10_inode 8 (.ireturn) 1 9 := by decide +kernel
theorem dX10_inode_9 : Dc cX10_inode 9 (.iload_n 2) 1 10 := by decide +kernel
theorem dX10_inode_10 : Dc cX10_inode 10 (.tableswitch 53 0 2 #[26, 35, 44]) 26 36 := by decide +kernel
theorem dX10_inode_36 : Dc cX10_inode 36 (.aload_n 0) 1 37 := by decide +kernel
theorem dX10_inode_37 : Dc cX10_inode 37 (.getfield 26) 3 40 := by decide +kernel
theorem dX10_inode_40 : Dc cX10_inode 40 (.iload_n 1) 1 41 := by decide +kernel
theorem dX10_inode_41 : Dc cX10_inode 41 (.invokevirtual 107) 3 44 := by decide +kernel
theorem dX10_inode_44 : Dc cX10_inode 44 (.ireturn) 1 45 := by decide +kernel
theorem dX10_inode_45 : Dc cX10_inode 45 (.aload_n 0) 1 46 := by decide +kernel
theorem dX10_inode_46 : Dc cX10_inode 46 (.getfield 26) 3 49 := by decide +kernel
theorem dX10_inode_49 : Dc cX10_inode 49 (.iload_n 1) 1 50 := by decide +kernel
theorem dX10_inode_50 : Dc cX10_inode 50 (.invokevirtual 110) 3 53 := by decide +kernel
theorem dX10_inode_53 : Dc cX10_inode 53 (.ireturn) 1 54 := by decide +kernel
theorem dX10_inode_54 : Dc cX10_inode 54 (.aload_n 0) 1 55 := by decide +kernel
theorem dX10_inode_55 : Dc cX10_inode 55 (.getfield 26) 3 58 := by decide +kernel
theorem dX10_inode_58 : Dc cX10_inode 58 (.iload_n 1) 1 59 := by decide +kernel
theorem dX10_inode_59 : Dc cX10_inode 59 (.invokevirtual 113) 3 62 := by decide +kernel
theorem dX10_inode_62 : Dc cX10_inode 62 (.ireturn) 1 63 := by decide +kernel
theorem dX10_inode_63 : Dc cX10_inode 63 (.iconst (-1)) 1 64 := by decide +kernel
theorem dX10_inode_64 : Dc cX10_inode 64 (.ireturn) 1 65 := by decide +kernel
theorem dX10_read_0 : Dc cX10_read 0 (.iload_n 2) 1 1 := by decide +kernel
theorem dX10_read_1 : Dc cX10_read 1 (.ifCond .lt 15) 3 4 := by decide +kernel
theorem dX10_read_4 : Dc cX10_read 4 (.iload_n 2) 1 5 := by decide +kernel
theorem dX10_read_5 : Dc cX10_read 5 (.aload_n 0) 1 6 := by decide +kernel
theorem dX10_read_6 : Dc cX10_read 6 (.getfield 26) 3 9 := by decide +kernel
theorem dX10_read_9 : Dc cX10_read 9 (.iload_n 1) 1 10 := by decide +kernel
theorem dX10_read_10 : Dc cX10_read 10 (.invokevirtual 113) 3 13 := by decide +kernel
theorem dX10_read_13 : Dc cX10_read 13 (.if_icmp .lt 5) 3 16 := by decide +kernel
theorem dX10_read_16 : Dc cX10_read 16 (.iconst (-1)) 1 17 := by decide +kernel
theorem dX10_read_17 : Dc cX10_read 17 (.ireturn) 1 18 := by decide +kernel
theorem dX10_read_18 : Dc cX10_read 18 (.aload_n 0) 1 19 := by decide +kernel
theorem dX10_read_19 : Dc cX10_read 19 (.getfield 26) 3 22 := by decide +kernel
theorem dX10_read_22 : Dc cX10_read 22 (.iload_n 1) 1 23 := by decide +kernel
theorem dX10_read_23 : Dc cX10_read 23 (.iload_n 2) 1 24 := by decide +kernel
theorem dX10_read_24 : Dc cX10_read 24 (.invokevirtual 116) 3 27 := by decide +kernel
theorem dX10_read_27 : Dc cX10_read 27 (.istore_n 3) 1 28 := by decide +kernel
theorem dX10_read_28 : Dc cX10_read 28 (.iload_n 3) 1 29 := by decide +kernel
theorem dX10_read_29 : Dc cX10_read 29 (.iconst (-1)) 1 30 := by decide +kernel
theorem dX10_read_30 : Dc cX10_read 30 (.if_icmp .ne 7) 3 33 := by decide +kernel
theorem dX10_read_33 : Dc cX10_read 33 (.iconst (-1)) 1 34 := by decide +kernel
theorem dX10_read_34 : Dc cX10_read 34 (.goto 11) 3 37 := by decide +kernel
theorem dX10_read_37 : Dc cX10_read 37 (.aload_n 0) 1 38 := by decide +kernel
theorem dX10_read_38 : Dc cX10_read 38 (.getfield 20) 3 41 := by decide +kernel
theorem dX10_read_41 : Dc cX10_read 41 (.iload_n 3) 1 42 := by decide +kernel
theorem dX10_read_42 : Dc cX10_read 42 (.invokevirtual 87) 3 45 := by decide +kernel
theorem dX10_read_45 : Dc cX10_read 45 (.ireturn) 1 46 := by decide +kernel
theorem dX10_find_0 : Dc cX10_find 0 (.aload_n 0) 1 1 := by decide +kernel
theorem dX10_find_1 : Dc cX10_find 1 (.getfield 55) 3 4 := by decide +kernel
theorem dX10_find_4 : Dc cX10_find 4 (.lload_n 2) 1 5 := by decide +kernel
theorem dX10_find_5 : Dc cX10_find 5 (.invokevirtual 120) 3 8 := by decide +kernel
theorem dX10_find_8 : Dc cX10_find 8 (.aload_n 0) 1 9 := by decide +kernel
theorem dX10_find_9 : Dc cX10_find 9 (.getfield 30) 3 12 := by decide +kernel
theorem dX10_find_12 : Dc cX10_find 12 (.iload_n 1) 1 13 := by decide +kernel
theorem dX10_find_13 : Dc cX10_find 13 (.aload_n 0) 1 14 := by decide +kernel
theorem dX10_find_14 : Dc cX10_find 14 (.getfield 55) 3 17 := by decide +kernel
theorem dX10_find_17 : Dc cX10_find 17 (.invokevirtual 124) 3 20 := by decide +kernel
theorem dX10_find_20 : Dc cX10_find 20 (.istore 4) 2 22 := by decide +kernel
theorem dX10_find_22 : Dc cX10_find 22 (.iload 4) 2 24 := by decide +kernel
theorem dX10_find_24 : Dc cX10_find 24 (.iconst (-1)) 1 25 := by decide +kernel
theorem dX10_find_25 : Dc cX10_find 25 (.if_icmp .ne 7) 3 28 := by decide +kernel
theorem dX10_find_28 : Dc cX10_find 28 (.iconst (-1)) 1 29 := by decide +kernel
theorem dX10_find_29 : Dc cX10_find 29 (.goto 12) 3 32 := by decide +kernel
theorem dX10_find_32 : Dc cX10_find 32 (.aload_n 0) 1 33 := by decide +kernel
theorem dX10_find_33 : Dc cX10_find 33 (.getfield 20) 3 36 := by decide +kernel
theorem dX10_find_36 : Dc cX10_find 36 (.iload 4) 2 38 := by decide +kernel
theorem dX10_find_38 : Dc cX10_find 38 (.invokevirtual 87) 3 41 := by decide +kernel
theorem dX10_find_41 : Dc cX10_find 41 (.ireturn) 1 42 := by decide +kernel
theorem dX10_make_0 : Dc cX10_make 0 (.iload 4) 2 2 := by decide +kernel
theorem dX10_make_2 : Dc cX10_make 2 (.iconst 1) 1 3 := by decide +kernel
theorem dX10_make_3 : Dc cX10_make 3 (.if_icmp .eq 9) 3 6 := by decide +kernel
theorem dX10_make_6 : Dc cX10_make 6 (.iload 4) 2 8 := by decide +kernel
theorem dX10_make_8 : Dc cX10_make 8 (.iconst 2) 1 9 := by decide +kernel
theorem dX10_make_9 : Dc cX10_make 9 (.if_icmp .ne 13) 3 12 := by decide +kernel
theorem dX10_make_12 : Dc cX10_make 12 (.aload_n 0) 1 13 := by decide +kernel
theorem dX10_make_13 : Dc cX10_make 13 (.getfield 39) 3 16 := by decide +kernel
theorem dX10_make_16 : Dc cX10_make 16 (.invokevirtual 69) 3 19 := by decide +kernel
theorem dX10_make_19 : Dc cX10_make 19 (.ifCond .eq 5) 3 22 := by decide +kernel
theorem dX10_make_22 : Dc cX10_make 22 (.iconst (-1)) 1 23 := by decide +kernel
theorem dX10_make_23 : Dc cX10_make 23 (.ireturn) 1 24 := by decide +kernel
theorem dX10_make_24 : Dc cX10_make 24 (.aload_n 0) 1 25 := by decide +kernel
theorem dX10_make_25 : Dc cX10_make 25 (.getfield 55) 3 28 := by decide +kernel
theorem dX10_make_28 : Dc cX10_make 28 (.lload_n 2) 1 29 := by decide +kernel
theorem dX10_make_29 : Dc cX10_make 29 (.invokevirtual 120) 3 32 := by decide +kernel
theorem dX10_make_32 : Dc cX10_make 32 (.aload_n 0) 1 33 := by decide +kernel
theorem dX10_make_33 : Dc cX10_make 33 (.getfield 48) 3 36 := by decide +kernel
theorem dX10_make_36 : Dc cX10_make 36 (.iload_n 1) 1 37 := by decide +kernel
theorem dX10_make_37 : Dc cX10_make 37 (.aload_n 0) 1 38 := by decide +kernel
theorem dX10_make_38 : Dc cX10_make 38 (.getfield 55) 3 41 := by decide +kernel
theorem dX10_make_41 : Dc cX10_make 41 (.iload 4) 2 43 := by decide +kernel
theorem dX10_make_43 : Dc cX10_make 43 (.invokevirtual 128) 3 46 := by decide +kernel
theorem dX10_make_46 : Dc cX10_make 46 (.istore 5) 2 48 := by decide +kernel
theorem dX10_make_48 : Dc cX10_make 48 (.iload 5) 2 50 := by decide +kernel
theorem dX10_make_50 : Dc cX10_make 50 (.iconst (-1)) 1 51 := by decide +kernel
theorem dX10_make_51 : Dc cX10_make 51 (.if_icmp .eq 10) 3 54 := by decide +kernel
theorem dX10_make_54 : Dc cX10_make 54 (.aload_n 0) 1 55 := by decide +kernel
theorem dX10_make_55 : Dc cX10_make 55 (.getfield 39) 3 58 := by decide +kernel
theorem dX10_make_58 : Dc cX10_make 58 (.invokevirtual 132) 3 61 := by decide +kernel
theorem dX10_make_61 : Dc cX10_make 61 (.iload 5) 2 63 := by decide +kernel
theorem dX10_make_63 : Dc cX10_make 63 (.ireturn) 1 64 := by decide +kernel
theorem dX10_append_0 : Dc cX10_append 0 (.iload_n 2) 1 1 := by decide +kernel
theorem dX10_append_1 : Dc cX10_append 1 (.invokestatic 81) 3 4 := by decide +kernel
theorem dX10_append_4 : Dc cX10_append 4 (.ifCond .eq 29) 3 7 := by decide +kernel
theorem dX10_append_7 : Dc cX10_append 7 (.aload_n 0) 1 8 := by decide +kernel
theorem dX10_append_8 : Dc cX10_append 8 (.getfield 39) 3 11 := by decide +kernel
theorem dX10_append_11 : Dc cX10_append 11 (.invokevirtual 69) 3 14 := by decide +kernel
theorem dX10_append_14 : Dc cX10_append 14 (.ifCond .ne 19) 3 17 := by decide +kernel
theorem dX10_append_17 : Dc cX10_append 17 (.aload_n 0) 1 18 := by decide +kernel
theorem dX10_append_18 : Dc cX10_append 18 (.getfield 48) 3 21 := by decide +kernel
theorem dX10_append_21 : Dc cX10_append 21 (.iload_n 1) 1 22 := by decide +kernel
theorem dX10_append_22 : Dc cX10_append 22 (.iload_n 2) 1 23 := by decide +kernel
theorem dX10_append_23 : Dc cX10_append 23 (.invokevirtual 135) 3 26 := by decide +kernel
theorem dX10_append_26 : Dc cX10_append 26 (.ifCond .eq 7) 3 29 := by decide +kernel
theorem dX10_append_29 : Dc cX10_append 29 (.iconst 1) 1 30 := by decide +kernel
theorem dX10_append_30 : Dc cX10_append 30 (.goto 4) 3 33 := by decide +kernel
theorem dX10_append_33 : Dc cX10_append 33 (.iconst 0) 1 34 := by decide +kernel
theorem dX10_append_34 : Dc cX10_append 34 (.istore_n 3) 1 35 := by decide +kernel
theorem dX10_append_35 : Dc cX10_append 35 (.iload_n 3) 1 36 := by decide +kernel
theorem dX10_append_36 : Dc cX10_append 36 (.ifCond .eq 10) 3 39 := by decide +kernel
theorem dX10_append_39 : Dc cX10_append 39 (.aload_n 0) 1 40 := by decide +kernel
theorem dX10_append_40 : Dc cX10_append 40 (.getfield 39) 3 43 := by decide +kernel
theorem dX10_append_43 : Dc cX10_append 43 (.invokevirtual 132) 3 46 := by decide +kernel
theorem dX10_append_46 : Dc cX10_append 46 (.iload_n 3) 1 47 := by decide +kernel
theorem dX10_append_47 : Dc cX10_append 47 (.ireturn) 1 48 := by decide +kernel
theorem dX10_link_0 : Dc cX10_link 0 (.aload_n 0) 1 1 := by decide +kernel
theorem dX10_link_1 : Dc cX10_link 1 (.getfield 55) 3 4 := by decide +kernel
theorem dX10_link_4 : Dc cX10_link 4 (.lload_n 2) 1 5 := by decide +kernel
theorem dX10_link_5 : Dc cX10_link 5 (.invokevirtual 120) 3 8 := by decide +kernel
theorem dX10_link_8 : Dc cX10_link 8 (.aload_n 0) 1 9 := by decide +kernel
theorem dX10_link_9 : Dc cX10_link 9 (.getfield 39) 3 12 := by decide +kernel
theorem dX10_link_12 : Dc cX10_link 12 (.invokevirtual 69) 3 15 := by decide +kernel
theorem dX10_link_15 : Dc cX10_link 15 (.ifCond .ne 24) 3 18 := by decide +kernel
theorem dX10_link_18 : Dc cX10_link 18 (.aload_n 0) 1 19 := by decide +kernel
theorem dX10_link_19 : Dc cX10_link 19 (.getfield 48) 3 22 := by decide +kernel
theorem dX10_link_22 : Dc cX10_link 22 (.iload_n 1) 1 23 := by decide +kernel
theorem dX10_link_23 : Dc cX10_link 23 (.aload_n 0) 1 24 := by decide +kernel
theorem dX10_link_24 : Dc cX10_link 24 (.getfield 55) 3 27 := by decide +kernel
theorem dX10_link_27 : Dc cX10_link 27 (.iload 4) 2 29 := by decide +kernel
theorem dX10_link_29 : Dc cX10_link 29 (.invokevirtual 139) 3 32 := by decide +kernel
theorem dX10_link_32 : Dc cX10_link 32 (.ifCond .eq 7) 3 35 := by decide +kernel
theorem dX10_link_35 : Dc cX10_link 35 (.iconst 1) 1 36 := by decide +kernel
theorem dX10_link_36 : Dc cX10_link 36 (.goto 4) 3 39 := by decide +kernel
theorem dX10_link_39 : Dc cX10_link 39 (.iconst 0) 1 40 := by decide +kernel
theorem dX10_link_40 : Dc cX10_link 40 (.istore 5) 2 42 := by decide +kernel
theorem dX10_link_42 : Dc cX10_link 42 (.iload 5) 2 44 := by decide +kernel
theorem dX10_link_44 : Dc cX10_link 44 (.ifCond .eq 10) 3 47 := by decide +kernel
theorem dX10_link_47 : Dc cX10_link 47 (.aload_n 0) 1 48 := by decide +kernel
theorem dX10_link_48 : Dc cX10_link 48 (.getfield 39) 3 51 := by decide +kernel
theorem dX10_link_51 : Dc cX10_link 51 (.invokevirtual 132) 3 54 := by decide +kernel
theorem dX10_link_54 : Dc cX10_link 54 (.iload 5) 2 56 := by decide +kernel
theorem dX10_link_56 : Dc cX10_link 56 (.ireturn) 1 57 := by decide +kernel
theorem dX10_unlink_0 : Dc cX10_unlink 0 (.aload_n 0) 1 1 := by decide +kernel
theorem dX10_unlink_1 : Dc cX10_unlink 1 (.getfield 55) 3 4 := by decide +kernel
theorem dX10_unlink_4 : Dc cX10_unlink 4 (.lload_n 2) 1 5 := by decide +kernel
theorem dX10_unlink_5 : Dc cX10_unlink 5 (.invokevirtual 120) 3 8 := by decide +kernel
theorem dX10_unlink_8 : Dc cX10_unlink 8 (.aload_n 0) 1 9 := by decide +kernel
theorem dX10_unlink_9 : Dc cX10_unlink 9 (.getfield 39) 3 12 := by decide +kernel
theorem dX10_unlink_12 : Dc cX10_unlink 12 (.invokevirtual 69) 3 15 := by decide +kernel
theorem dX10_unlink_15 : Dc cX10_unlink 15 (.ifCond .ne 22) 3 18 := by decide +kernel
theorem dX10_unlink_18 : Dc cX10_unlink 18 (.aload_n 0) 1 19 := by decide +kernel
theorem dX10_unlink_19 : Dc cX10_unlink 19 (.getfield 48) 3 22 := by decide +kernel
theorem dX10_unlink_22 : Dc cX10_unlink 22 (.iload_n 1) 1 23 := by decide +kernel
theorem dX10_unlink_23 : Dc cX10_unlink 23 (.aload_n 0) 1 24 := by decide +kernel
theorem dX10_unlink_24 : Dc cX10_unlink 24 (.getfield 55) 3 27 := by decide +kernel
theorem dX10_unlink_27 : Dc cX10_unlink 27 (.invokevirtual 143) 3 30 := by decide +kernel
theorem dX10_unlink_30 : Dc cX10_unlink 30 (.ifCond .eq 7) 3 33 := by decide +kernel
theorem dX10_unlink_33 : Dc cX10_unlink 33 (.iconst 1) 1 34 := by decide +kernel
theorem dX10_unlink_34 : Dc cX10_unlink 34 (.goto 4) 3 37 := by decide +kernel
theorem dX10_unlink_37 : Dc cX10_unlink 37 (.iconst 0) 1 38 := by decide +kernel
theorem dX10_unlink_38 : Dc cX10_unlink 38 (.istore 4) 2 40 := by decide +kernel
theorem dX10_unlink_40 : Dc cX10_unlink 40 (.iload 4) 2 42 := by decide +kernel
theorem dX10_unlink_42 : Dc cX10_unlink 42 (.ifCond .eq 10) 3 45 := by decide +kernel
theorem dX10_unlink_45 : Dc cX10_unlink 45 (.aload_n 0) 1 46 := by decide +kernel
theorem dX10_unlink_46 : Dc cX10_unlink 46 (.getfield 39) 3 49 := by decide +kernel
theorem dX10_unlink_49 : Dc cX10_unlink 49 (.invokevirtual 132) 3 52 := by decide +kernel
theorem dX10_unlink_52 : Dc cX10_unlink 52 (.iload 4) 2 54 := by decide +kernel
theorem dX10_unlink_54 : Dc cX10_unlink 54 (.ireturn) 1 55 := by decide +kernel
theorem dX10_isPlace_0 : Dc cX10_isPlace 0 (.iload_n 0) 1 1 := by decide +kernel
theorem dX10_isPlace_1 : Dc cX10_isPlace 1 (.ifCond .lt 14) 3 4 := by decide +kernel
theorem dX10_isPlace_4 : Dc cX10_isPlace 4 (.iload_n 0) 1 5 := by decide +kernel
theorem dX10_isPlace_5 : Dc cX10_isPlace 5 (.sipush 4096) 3 8 := by decide +kernel
theorem dX10_isPlace_8 : Dc cX10_isPlace 8 (.if_icmp .ge 7) 3 11 := by decide +kernel
theorem dX10_isPlace_11 : Dc cX10_isPlace 11 (.iconst 1) 1 12 := by decide +kernel
theorem dX10_isPlace_12 : Dc cX10_isPlace 12 (.goto 4) 3 15 := by decide +kernel
theorem dX10_isPlace_15 : Dc cX10_isPlace 15 (.iconst 0) 1 16 := by decide +kernel
theorem dX10_isPlace_16 : Dc cX10_isPlace 16 (.ireturn) 1 17 := by decide +kernel
theorem dX10_isByte_0 : Dc cX10_isByte 0 (.iload_n 0) 1 1 := by decide +kernel
theorem dX10_isByte_1 : Dc cX10_isByte 1 (.ifCond .lt 14) 3 4 := by decide +kernel
theorem dX10_isByte_4 : Dc cX10_isByte 4 (.iload_n 0) 1 5 := by decide +kernel
theorem dX10_isByte_5 : Dc cX10_isByte 5 (.sipush 255) 3 8 := by decide +kernel
theorem dX10_isByte_8 : Dc cX10_isByte 8 (.if_icmp .gt 7) 3 11 := by decide +kernel
theorem dX10_isByte_11 : Dc cX10_isByte 11 (.iconst 1) 1 12 := by decide +kernel
theorem dX10_isByte_12 : Dc cX10_isByte 12 (.goto 4) 3 15 := by decide +kernel
theorem dX10_isByte_15 : Dc cX10_isByte 15 (.iconst 0) 1 16 := by decide +kernel
theorem dX10_isByte_16 : Dc cX10_isByte 16 (.ireturn) 1 17 := by decide +kernel
theorem dX10_isDataBlock_0 : Dc cX10_isDataBlock 0 (.iload_n 0) 1 1 := by decide +kernel
theorem dX10_isDataBlock_1 : Dc cX10_isDataBlock 1 (.bipush 16) 2 3 := by decide +kernel
theorem dX10_isDataBlock_3 : Dc cX10_isDataBlock 3 (.if_icmp .lt 13) 3 6 := by decide +kernel
theorem dX10_isDataBlock_6 : Dc cX10_isDataBlock 6 (.iload_n 0) 1 7 := by decide +kernel
theorem dX10_isDataBlock_7 : Dc cX10_isDataBlock 7 (.bipush 62) 2 9 := by decide +kernel
theorem dX10_isDataBlock_9 : Dc cX10_isDataBlock 9 (.if_icmp .gt 7) 3 12 := by decide +kernel
theorem dX10_isDataBlock_12 : Dc cX10_isDataBlock 12 (.iconst 1) 1 13 := by decide +kernel
theorem dX10_isDataBlock_13 : Dc cX10_isDataBlock 13 (.goto 4) 3 16 := by decide +kernel
theorem dX10_isDataBlock_16 : Dc cX10_isDataBlock 16 (.iconst 0) 1 17 := by decide +kernel
theorem dX10_isDataBlock_17 : Dc cX10_isDataBlock 17 (.ireturn) 1 18 := by decide +kernel
theorem dX11_init_0 : Dc cX11_init 0 (.aload_n 0) 1 1 := by decide +kernel
theorem dX11_init_1 : Dc cX11_init 1 (.invokespecial 1) 3 4 := by decide +kernel
theorem dX11_init_4 : Dc cX11_init 4 (.aload_n 0) 1 5 := by decide +kernel
theorem dX11_init_5 : Dc cX11_init 5 (.sipush 4096) 3 8 := by decide +kernel
theorem dX11_init_8 : Dc cX11_init 8 (.newarray .int) 2 10 := by decide +kernel
theorem dX11_init_10 : Dc cX11_init 10 (.putfield 7) 3 13 := by decide +kernel
theorem dX11_init_13 : Dc cX11_init 13 (.aload_n 0) 1 14 := by decide +kernel
theorem dX11_init_14 : Dc cX11_init 14 (.sipush 4096) 3 17 := by decide +kernel
theorem dX11_init_17 : Dc cX11_init 17 (.newarray .int) 2 19 := by decide +kernel
theorem dX11_init_19 : Dc cX11_init 19 (.putfield 13) 3 22 := by decide +kernel
theorem dX11_init_22 : Dc cX11_init 22 (.aload_n 0) 1 23 := by decide +kernel
theorem dX11_init_23 : Dc cX11_init 23 (.bipush 64) 2 25 := by decide +kernel
theorem dX11_init_25 : Dc cX11_init 25 (.newarray .boolean) 2 27 := by decide +kernel
theorem dX11_init_27 : Dc cX11_init 27 (.putfield 16) 3 30 := by decide +kernel
theorem dX11_init_30 : Dc cX11_init 30 (.aload_n 0) 1 31 := by decide +kernel
theorem dX11_init_31 : Dc cX11_init 31 (.bipush 32) 2 33 := by decide +kernel
theorem dX11_init_33 : Dc cX11_init 33 (.newarray .boolean) 2 35 := by decide +kernel
theorem dX11_init_35 : Dc cX11_init 35 (.putfield 20) 3 38 := by decide +kernel
theorem dX11_init_38 : Dc cX11_init 38 (.aload_n 0) 1 39 := by decide +kernel
theorem dX11_init_39 : Dc cX11_init 39 (.bipush 32) 2 41 := by decide +kernel
theorem dX11_init_41 : Dc cX11_init 41 (.newarray .int) 2 43 := by decide +kernel
theorem dX11_init_43 : Dc cX11_init 43 (.putfield 23) 3 46 := by decide +kernel
theorem dX11_init_46 : Dc cX11_init 46 (.aload_n 0) 1 47 := by decide +kernel
theorem dX11_init_47 : Dc cX11_init 47 (.bipush 14) 2 49 := by decide +kernel
theorem dX11_init_49 : Dc cX11_init 49 (.newarray .int) 2 51 := by decide +kernel
theorem dX11_init_51 : Dc cX11_init 51 (.putfield 26) 3 54 := by decide +kernel
theorem dX11_init_54 : Dc cX11_init 54 (.return_) 1 55 := by decide +kernel
theorem dX11_two_0 : Dc cX11_two 0 (.aload_n 0) 1 1 := by decide +kernel
theorem dX11_two_1 : Dc cX11_two 1 (.getfield 13) 3 4 := by decide +kernel
theorem dX11_two_4 : Dc cX11_two 4 (.iload_n 1) 1 5 := by decide +kernel
theorem dX11_two_5 : Dc cX11_two 5 (.iaload) 1 6 := by decide +kernel
theorem dX11_two_6 : Dc cX11_two 6 (.sipush 256) 3 9 := by decide +kernel
theorem dX11_two_9 : Dc cX11_two 9 (.imul) 1 10 := by decide +kernel
theorem dX11_two_10 : Dc cX11_two 10 (.aload_n 0) 1 11 := by decide +kernel
theorem dX11_two_11 : Dc cX11_two 11 (.getfield 13) 3 14 := by decide +kernel
theorem dX11_two_14 : Dc cX11_two 14 (.iload_n 1) 1 15 := by decide +kernel
theorem dX11_two_15 : Dc cX11_two 15 (.iconst 1) 1 16 := by decide +kernel
theorem dX11_two_16 : Dc cX11_two 16 (.iadd) 1 17 := by decide +kernel
theorem dX11_two_17 : Dc cX11_two 17 (.iaload) 1 18 := by decide +kernel
theorem dX11_two_18 : Dc cX11_two 18 (.iadd) 1 19 := by decide +kernel
theorem dX11_two_19 : Dc cX11_two 19 (.ireturn) 1 20 := by decide +kernel
theorem dX11_put_0 : Dc cX11_put 0 (.aload_n 0) 1 1 := by decide +kernel
theorem dX11_put_1 : Dc cX11_put 1 (.getfield 13) 3 4 := by decide +kernel
theorem dX11_put_4 : Dc cX11_put 4 (.iload_n 1) 1 5 := by decide +kernel
theorem dX11_put_5 : Dc cX11_put 5 (.iload_n 2) 1 6 := by decide +kernel
theorem dX11_put_6 : Dc cX11_put 6 (.sipush 256) 3 9 := by decide +kernel
theorem dX11_put_9 : Dc cX11_put 9 (.idiv) 1 10 := by decide +kernel
theorem dX11_put_10 : Dc cX11_put 10 (.sipush 256) 3 13 := by decide +kernel
theorem dX11_put_13 : Dc cX11_put 13 (.irem) 1 14 := by decide +kernel
theorem dX11_put_14 : Dc cX11_put 14 (.iastore) 1 15 := by decide +kernel
theorem dX11_put_15 : Dc cX11_put 15 (.aload_n 0) 1 16 := by decide +kernel
theorem dX11_put_16 : Dc cX11_put 16 (.getfield 13) 3 19 := by decide +kernel
theorem dX11_put_19 : Dc cX11_put 19 (.iload_n 1) 1 20 := by decide +kernel
theorem dX11_put_20 : Dc cX11_put 20 (.iconst 1) 1 21 := by decide +kernel
theorem dX11_put_21 : Dc cX11_put 21 (.iadd) 1 22 := by decide +kernel
theorem dX11_put_22 : Dc cX11_put 22 (.iload_n 2) 1 23 := by decide +kernel
theorem dX11_put_23 : Dc cX11_put 23 (.sipush 256) 3 26 := by decide +kernel
theorem dX11_put_26 : Dc cX11_put 26 (.irem) 1 27 := by decide +kernel
theorem dX11_put_27 : Dc cX11_put 27 (.iastore) 1 28 := by decide +kernel
theorem dX11_put_28 : Dc cX11_put 28 (.return_) 1 29 := by decide +kernel
theorem dX11_sum_0 : Dc cX11_sum 0 (.iconst 0) 1 1 := by decide +kernel
theorem dX11_sum_1 : Dc cX11_sum 1 (.istore_n 3) 1 2 := by decide +kernel
theorem dX11_sum_2 : Dc cX11_sum 2 (.iload_n 1) 1 3 := by decide +kernel
theorem dX11_sum_3 : Dc cX11_sum 3 (.istore 4) 2 5 := by decide +kernel
theorem dX11_sum_5 : Dc cX11_sum 5 (.iload 4) 2 7 := by decide +kernel
theorem dX11_sum_7 : Dc cX11_sum 7 (.iload_n 1) 1 8 := by decide +kernel
theorem dX11_sum_8 : Dc cX11_sum 8 (.iload_n 2) 1 9 := by decide +kernel
theorem dX11_sum_9 : Dc cX11_sum 9 (.iadd) 1 10 := by decide +kernel
theorem dX11_sum_10 : Dc cX11_sum 10 (.if_icmp .ge 19) 3 13 := by decide +kernel
theorem dX11_sum_13 : Dc cX11_sum 13 (.iload_n 3) 1 14 := by decide +kernel
theorem dX11_sum_14 : Dc cX11_sum 14 (.aload_n 0) 1 15 := by decide +kernel
theorem dX11_sum_15 : Dc cX11_sum 15 (.getfield 13) 3 18 := by decide +kernel
theorem dX11_sum_18 : Dc cX11_sum 18 (.iload 4) 2 20 := by decide +kernel
theorem dX11_sum_20 : Dc cX11_sum 20 (.iaload) 1 21 := by decide +kernel
theorem dX11_sum_21 : Dc cX11_sum 21 (.iadd) 1 22 := by decide +kernel
theorem dX11_sum_22 : Dc cX11_sum 22 (.istore_n 3) 1 23 := by decide +kernel
theorem dX11_sum_23 : Dc cX11_sum 23 (.iinc 4 1) 3 26 := by decide +kernel
theorem dX11_sum_26 : Dc cX11_sum 26 (.goto (-21)) 3 29 := by decide +kernel
theorem dX11_sum_29 : Dc cX11_sum 29 (.iload_n 3) 1 30 := by decide +kernel
theorem dX11_sum_30 : Dc cX11_sum 30 (.ldc 29) 2 32 := by decide +kernel
theorem dX11_sum_32 : Dc cX11_sum 32 (.irem) 1 33 := by decide +kernel
theorem dX11_sum_33 : Dc cX11_sum 33 (.ireturn) 1 34 := by decide +kernel
theorem dX11_clear_0 : Dc cX11_clear 0 (.iload_n 1) 1 1 := by decide +kernel
theorem dX11_clear_1 : Dc cX11_clear 1 (.istore_n 3) 1 2 := by decide +kernel
theorem dX11_clear_2 : Dc cX11_clear 2 (.iload_n 3) 1 3 := by decide +kernel
theorem dX11_clear_3 : Dc cX11_clear 3 (.iload_n 1) 1 4 := by decide +kernel
theorem dX11_clear_4 : Dc cX11_clear 4 (.iload_n 2) 1 5 := by decide +kernel
theorem dX11_clear_5 : Dc cX11_clear 5 (.iadd) 1 6 := by decide +kernel
theorem dX11_clear_6 : Dc cX11_clear 6 (.if_icmp .ge 16) 3 9 := by decide +kernel
theorem dX11_clear_9 : Dc cX11_clear 9 (.aload_n 0) 1 10 := by decide +kernel
theorem dX11_clear_10 : Dc cX11_clear 10 (.getfield 13) 3 13 := by decide +kernel
theorem dX11_clear_13 : Dc cX11_clear 13 (.iload_n 3) 1 14 := by decide +kernel
theorem dX11_clear_14 : Dc cX11_clear 14 (.iconst 0) 1 15 := by decide +kernel
theorem dX11_clear_15 : Dc cX11_clear 15 (.iastore) 1 16 := by decide +kernel
theorem dX11_clear_16 : Dc cX11_clear 16 (.iinc 3 1) 3 19 := by decide +kernel
theorem dX11_clear_19 : Dc cX11_clear 19 (.goto (-17)) 3 22 := by decide +kernel
theorem dX11_clear_22 : Dc cX11_clear 22 (.return_) 1 23 := by decide +kernel
theorem dX11_isClear_0 : Dc cX11_isClear 0 (.iconst 1) 1 1 := by decide +kernel
theorem dX11_isClear_1 : Dc cX11_isClear 1 (.istore_n 3) 1 2 := by decide +kernel
theorem dX11_isClear_2 : Dc cX11_isClear 2 (.iload_n 1) 1 3 := by decide +kernel
theorem dX11_isClear_3 : Dc cX11_isClear 3 (.istore 4) 2 5 := by decide +kernel
theorem dX11_isClear_5 : Dc cX11_isClear 5 (.iload 4) 2 7 := by decide +kernel
theorem dX11_isClear_7 : Dc cX11_isClear 7 (.iload_n 1) 1 8 := by decide +kernel
theorem dX11_isClear_8 : Dc cX11_isClear 8 (.iload_n 2) 1 9 := by decide +kernel
theorem dX11_isClear_9 : Dc cX11_isClear 9 (.iadd) 1 10 := by decide +kernel
theorem dX11_isClear_10 : Dc cX11_isClear 10 (.if_icmp .ge 29) 3 13 := by decide +kernel
theorem dX11_isClear_13 : Dc cX11_isClear 13 (.iload_n 3) 1 14 := by decide +kernel
theorem dX11_isClear_14 : Dc cX11_isClear 14 (.ifCond .eq 17) 3 17 := by decide +kernel
theorem dX11_isClear_17 : Dc cX11_isClear 17 (.aload_n 0) 1 18 := by decide +kernel
theorem dX11_isClear_18 : Dc cX11_isClear 18 (.getfield 13) 3 21 := by decide +kernel
theorem dX11_isClear_21 : Dc cX11_isClear 21 (.iload 4) 2 23 := by decide +kernel
theorem dX11_isClear_23 : Dc cX11_isClear 23 (.iaload) 1 24 := by decide +kernel
theorem dX11_isClear_24 : Dc cX11_isClear 24 (.ifCond .ne 7) 3 27 := by decide +kernel
theorem dX11_isClear_27 : Dc cX11_isClear 27 (.iconst 1) 1 28 := by decide +kernel
theorem dX11_isClear_28 : Dc cX11_isClear 28 (.goto 4) 3 31 := by decide +kernel
theorem dX11_isClear_31 : Dc cX11_isClear 31 (.iconst 0) 1 32 := by decide +kernel
theorem dX11_isClear_32 : Dc cX11_isClear 32 (.istore_n 3) 1 33 := by decide +kernel
theorem dX11_isClear_33 : Dc cX11_isClear 33 (.iinc 4 1) 3 36 := by decide +kernel
theorem dX11_isClear_36 : Dc cX11_isClear 36 (.goto (-31)) 3 39 := by decide +kernel
theorem dX11_isClear_39 : Dc cX11_isClear 39 (.iload_n 3) 1 40 := by decide +kernel
theorem dX11_isClear_40 : Dc cX11_isClear 40 (.ireturn) 1 41 := by decide +kernel
theorem dX11_has_0 : Dc cX11_has 0 (.aload_n 0) 1 1 := by decide +kernel
theorem dX11_has_1 : Dc cX11_has 1 (.getfield 13) 3 4 := by decide +kernel
theorem dX11_has_4 : Dc cX11_has 4 (.iload_n 1) 1 5 := by decide +kernel
theorem dX11_has_5 : Dc cX11_has 5 (.iaload) 1 6 := by decide +kernel
theorem dX11_has_6 : Dc cX11_has 6 (.iload_n 2) 1 7 := by decide +kernel
theorem dX11_has_7 : Dc cX11_has 7 (.if_icmp .ne 45) 3 10 := by decide +kernel
theorem dX11_has_10 : Dc cX11_has 10 (.aload_n 0) 1 11 := by decide +kernel
theorem dX11_has_11 : Dc cX11_has 11 (.getfield 13) 3 14 := by decide +kernel
theorem dX11_has_14 : Dc cX11_has 14 (.iload_n 1) 1 15 := by decide +kernel
theorem dX11_has_15 : Dc cX11_has 15 (.iconst 1) 1 16 := by decide +kernel
theorem dX11_has_16 : Dc cX11_has 16 (.iadd) 1 17 := by decide +kernel
theorem dX11_has_17 : Dc cX11_has 17 (.iaload) 1 18 := by decide +kernel
theorem dX11_has_18 : Dc cX11_has 18 (.iload_n 3) 1 19 := by decide +kernel
theorem dX11_has_19 : Dc cX11_has 19 (.if_icmp .ne 33) 3 22 := by decide +kernel
theorem dX11_has_22 : Dc cX11_has 22 (.aload_n 0) 1 23 := by decide +kernel
theorem dX11_has_23 : Dc cX11_has 23 (.getfield 13) 3 26 := by decide +kernel
theorem dX11_has_26 : Dc cX11_has 26 (.iload_n 1) 1 27 := by decide +kernel
theorem dX11_has_27 : Dc cX11_has 27 (.iconst 2) 1 28 := by decide +kernel
theorem dX11_has_28 : Dc cX11_has 28 (.iadd) 1 29 := by decide +kernel
theorem dX11_has_29 : Dc cX11_has 29 (.iaload) 1 30 := by decide +kernel
theorem dX11_has_30 : Dc cX11_has 30 (.iload 4) 2 32 := by decide +kernel
theorem dX11_has_32 : Dc cX11_has 32 (.if_icmp .ne 20) 3 35 := by decide +kernel
theorem dX11_has_35 : Dc cX11_has 35 (.aload_n 0) 1 36 := by decide +kernel
theorem dX11_has_36 : Dc cX11_has 36 (.getfield 13) 3 39 := by decide +kernel
theorem dX11_has_39 : Dc cX11_has 39 (.iload_n 1) 1 40 := by decide +kernel
theorem dX11_has_40 : Dc cX11_has 40 (.iconst 3) 1 41 := by decide +kernel
theorem dX11_has_41 : Dc cX11_has 41 (.iadd) 1 42 := by decide +kernel
theorem dX11_has_42 : Dc cX11_has 42 (.iaload) 1 43 := by decide +kernel
theorem dX11_has_43 : Dc cX11_has 43 (.iload 5) 2 45 := by decide +kernel
theorem dX11_has_45 : Dc cX11_has 45 (.if_icmp .ne 7) 3 48 := by decide +kernel
theorem dX11_has_48 : Dc cX11_has 48 (.iconst 1) 1 49 := by decide +kernel
theorem dX11_has_49 : Dc cX11_has 49 (.goto 4) 3 52 := by decide +kernel
theorem dX11_has_52 : Dc cX11_has 52 (.iconst 0) 1 53 := by decide +kernel
theorem dX11_has_53 : Dc cX11_has 53 (.ireturn) 1 54 := by decide +kernel
theorem dX11_load_0 : Dc cX11_load 0 (.iconst 0) 1 1 := by decide +kernel
theorem dX11_load_1 : Dc cX11_load 1 (.istore_n 1) 1 2 := by decide +kernel
theorem dX11_load_2 : Dc cX11_load 2 (.iload_n 1) 1 3 := by decide +kernel
theorem dX11_load_3 : Dc cX11_load 3 (.sipush 4096) 3 6 := by decide +kernel
theorem dX11_load_6 : Dc cX11_load 6 (.if_icmp .ge 21) 3 9 := by decide +kernel
theorem dX11_load_9 : Dc cX11_load 9 (.aload_n 0) 1 10 := by decide +kernel
theorem dX11_load_10 : Dc cX11_load 10 (.getfield 13) 3 13 := by decide +kernel
theorem dX11_load_13 : Dc cX11_load 13 (.iload_n 1) 1 14 := by decide +kernel
theorem dX11_load_14 : Dc cX11_load 14 (.aload_n 0) 1 15 := by decide +kernel
theorem dX11_load_15 : Dc cX11_load 15 (.getfield 7) 3 18 := by decide +kernel
theorem dX11_load_18 : Dc cX11_load 18 (.iload_n 1) 1 19 := by decide +kernel
theorem dX11_load_19 : Dc cX11_load 19 (.iaload) 1 20 := by decide +kernel
theorem dX11_load_20 : Dc cX11_load 20 (.iastore) 1 21 := by decide +kernel
theorem dX11_load_21 : Dc cX11_load 21 (.iinc 1 1) 3 24 := by decide +kernel
theorem dX11_load_24 : Dc cX11_load 24 (.goto (-22)) 3 27 := by decide +kernel
theorem dX11_load_27 : Dc cX11_load 27 (.return_) 1 28 := by decide +kernel
theorem dX11_store_0 : Dc cX11_store 0 (.iconst 0) 1 1 := by decide +kernel
theorem dX11_store_1 : Dc cX11_store 1 (.istore_n 1) 1 2 := by decide +kernel
theorem dX11_store_2 : Dc cX11_store 2 (.iload_n 1) 1 3 := by decide +kernel
theorem dX11_store_3 : Dc cX11_store 3 (.sipush 4096) 3 6 := by decide +kernel
theorem dX11_store_6 : Dc cX11_store 6 (.if_icmp .ge 21) 3 9 := by decide +kernel
theorem dX11_store_9 : Dc cX11_store 9 (.aload_n 0) 1 10 := by decide +kernel
theorem dX11_store_10 : Dc cX11_store 10 (.getfield 7) 3 13 := by decide +kernel
theorem dX11_store_13 : Dc cX11_store 13 (.iload_n 1) 1 14 := by decide +kernel
theorem dX11_store_14 : Dc cX11_store 14 (.aload_n 0) 1 15 := by decide +kernel
theorem dX11_store_15 : Dc cX11_store 15 (.getfield 13) 3 18 := by decide +kernel
theorem dX11_store_18 : Dc cX11_store 18 (.iload_n 1) 1 19 := by decide +kernel
theorem dX11_store_19 : Dc cX11_store 19 (.iaload) 1 20 := by decide +kernel
theorem dX11_store_20 : Dc cX11_store 20 (.iastore) 1 21 := by decide +kernel
theorem dX11_store_21 : Dc cX11_store 21 (.iinc 1 1) 3 24 := by decide +kernel
theorem dX11_store_24 : Dc cX11_store 24 (.goto (-22)) 3 27 := by decide +kernel
theorem dX11_store_27 : Dc cX11_store 27 (.return_) 1 28 := by decide +kernel
theorem dX11_isSuper_0 : Dc cX11_isSuper 0 (.aload_n 0) 1 1 := by decide +kernel
theorem dX11_isSuper_1 : Dc cX11_isSuper 1 (.iload_n 1) 1 2 := by decide +kernel
theorem dX11_isSuper_2 : Dc cX11_isSuper 2 (.bipush 83) 2 4 := by decide +kernel
theorem dX11_isSuper_4 : Dc cX11_isSuper 4 (.bipush 70) 2 6 := by decide +kernel
theorem dX11_isSuper_6 : Dc cX11_isSuper 6 (.bipush 83) 2 8 := by decide +kernel
theorem dX11_isSuper_8 : Dc cX11_isSuper 8 (.bipush 75) 2 10 := by decide +kernel
theorem dX11_isSuper_10 : Dc cX11_isSuper 10 (.invokevirtual 30) 3 13 := by decide +kernel
theorem dX11_isSuper_13 : Dc cX11_isSuper 13 (.ifCond .eq 25) 3 16 := by decide +kernel
theorem dX11_isSuper_16 : Dc cX11_isSuper 16 (.aload_n 0) 1 17 := by decide +kernel
theorem dX11_isSuper_17 : Dc cX11_isSuper 17 (.iload_n 1) 1 18 := by decide +kernel
theorem dX11_isSuper_18 : Dc cX11_isSuper 18 (.bipush 62) 2 20 := by decide +kernel
theorem dX11_isSuper_20 : Dc cX11_isSuper 20 (.iadd) 1 21 := by decide +kernel
theorem dX11_isSuper_21 : Dc cX11_isSuper 21 (.invokevirtual 34) 3 24 := by decide +kernel
theorem dX11_isSuper_24 : Dc cX11_isSuper 24 (.aload_n 0) 1 25 := by decide +kernel
theorem dX11_isSuper_25 : Dc cX11_isSuper 25 (.iload_n 1) 1 26 := by decide +kernel
theorem dX11_isSuper_26 : Dc cX11_isSuper 26 (.bipush 62) 2 28 := by decide +kernel
theorem dX11_isSuper_28 : Dc cX11_isSuper 28 (.invokevirtual 38) 3 31 := by decide +kernel
theorem dX11_isSuper_31 : Dc cX11_isSuper 31 (.if_icmp .ne 7) 3 34 := by decide +kernel
theorem dX11_isSuper_34 : Dc cX11_isSuper 34 (.iconst 1) 1 35 := by decide +kernel
theorem dX11_isSuper_35 : Dc cX11_isSuper 35 (.goto 4) 3 38 := by decide +kernel
theorem dX11_isSuper_38 : Dc cX11_isSuper 38 (.iconst 0) 1 39 := by decide +kernel
theorem dX11_isSuper_39 : Dc cX11_isSuper 39 (.ireturn) 1 40 := by decide +kernel
theorem dX11_base_0 : Dc cX11_base 0 (.sipush 512) 3 3 := by decide +kernel
theorem dX11_base_3 : Dc cX11_base 3 (.bipush 16) 2 5 := by decide +kernel
theorem dX11_base_5 : Dc cX11_base 5 (.iload_n 0) 1 6 := by decide +kernel
theorem dX11_base_6 : Dc cX11_base 6 (.imul) 1 7 := by decide +kernel
theorem dX11_base_7 : Dc cX11_base 7 (.iadd) 1 8 := by decide +kernel
theorem dX11_base_8 : Dc cX11_base 8 (.ireturn) 1 9 := by decide +kernel
theorem dX11_kind_0 : Dc cX11_kind 0 (.aload_n 0) 1 1 := by decide +kernel
theorem dX11_kind_1 : Dc cX11_kind 1 (.getfield 13) 3 4 := by decide +kernel
theorem dX11_kind_4 : Dc cX11_kind 4 (.iload_n 1) 1 5 := by decide +kernel
theorem dX11_kind_5 : Dc cX11_kind 5 (.invokestatic 42) 3 8 := by decide +kernel
theorem dX11_kind_8 : Dc cX11_kind 8 (.iaload) 1 9 := by decide +kernel
theorem dX11_kind_9 : Dc cX11_kind 9 (.ireturn) 1 10 := by decide +kernel
theorem dX11_size_0 : Dc cX11_size 0 (.aload_n 0) 1 1 := by decide +kernel
theorem dX11_size_1 : Dc cX11_size 1 (.iload_n 1) 1 2 := by decide +kernel
theorem dX11_size_2 : Dc cX11_size 2 (.invokestatic 42) 3 5 := by decide +kernel
theorem dX11_size_5 : Dc cX11_size 5 (.iconst 2) 1 6 := by decide +kernel
theorem dX11_size_6 : Dc cX11_size 6 (.iadd) 1 7 := by decide +kernel
theorem dX11_size_7 : Dc cX11_size 7 (.invokevirtual 34) 3 10 := by decide +kernel
theorem dX11_size_10 : Dc cX11_size 10 (.ireturn) 1 11 := by decide +kernel
theorem dX11_blocks_0 : Dc cX11_blocks 0 (.aload_n 0) 1 1 := by decide +kernel
theorem dX11_blocks_1 : Dc cX11_blocks 1 (.iload_n 1) 1 2 := by decide +kernel
theorem dX11_blocks_2 : Dc cX11_blocks 2 (.invokevirtual 45) 3 5 := by decide +kernel
theorem dX11_blocks_5 : Dc cX11_blocks 5 (.bipush 63) 2 7 := by decide +kernel
theorem dX11_blocks_7 : Dc cX11_blocks 7 (.iadd) 1 8 := by decide +kernel
theorem dX11_blocks_8 : Dc cX11_blocks 8 (.bipush 64) 2 10 := by decide +kernel
theorem dX11_blocks_10 : Dc cX11_blocks 10 (.idiv) 1 11 := by decide +kernel
theorem dX11_blocks_11 : Dc cX11_blocks 11 (.ireturn) 1 12 := by decide +kernel
theorem dX11_block_0 : Dc cX11_block 0 (.iload_n 2) 1 1 := by decide +kernel
theorem dX11_block_1 : Dc cX11_block 1 (.iconst 5) 1 2 := by decide +kernel
theorem dX11_block_2 : Dc cX11_block 2 (.if_icmp .ge 19) 3 5 := by decide +kernel
theorem dX11_block_5 : Dc cX11_block 5 (.aload_n 0) 1 6 := by decide +kernel
theorem dX11_block_6 : Dc cX11_block 6 (.getfield 13) 3 9 := by decide +kernel
theorem dX11_block_9 : Dc cX11_block 9 (.iload_n 1) 1 10 := by decide +kernel
theorem dX11_block_10 : Dc cX11_block 10 (.invokestatic 42) 3 13 := by decide +kernel
theorem dX11_block_13 : Dc cX11_block 13 (.iconst 4) 1 14 := by decide +kernel
theorem dX11_block_14 : Dc cX11_block 14 (.iadd) 1 15 := by decide +kernel
theorem dX11_block_15 : Dc cX11_block 15 (.iload_n 2) 1 16 := by decide +kernel
theorem dX11_block_16 : Dc cX11_block 16 (.iadd) 1 17 := by decide +kernel
theorem dX11_block_17 : Dc cX11_block 17 (.iaload) 1 18 := by decide +kernel
theorem dX11_block_18 : Dc cX11_block 18 (.goto 27) 3 21 := by decide +kernel
theorem dX11_block_21 : Dc cX11_block 21 (.aload_n 0) 1 22 := by decide +kernel
theorem dX11_block_22 : Dc cX11_block 22 (.getfield 13) 3 25 := by decide +kernel
theorem dX11_block_25 : Dc cX11_block 25 (.bipush 64) 2 27 := by decide +kernel
theorem dX11_block_27 : Dc cX11_block 27 (.aload_n 0) 1 28 := by decide +kernel
theorem dX11_block_28 : Dc cX11_block 28 (.getfield 13) 3 31 := by decide +kernel
theorem dX11_block_31 : Dc cX11_block 31 (.iload_n 1) 1 32 := by decide +kernel
theorem dX11_block_32 : Dc cX11_block 32 (.invokestatic 42) 3 35 := by decide +kernel
theorem dX11_block_35 : Dc cX11_block 35 (.bipush 9) 2 37 := by decide +kernel
theorem dX11_block_37 : Dc cX11_block 37 (.iadd) 1 38 := by decide +kernel
theorem dX11_block_38 : Dc cX11_block 38 (.iaload) 1 39 := by decide +kernel
theorem dX11_block_39 : Dc cX11_block 39 (.imul) 1 40 := by decide +kernel
theorem dX11_block_40 : Dc cX11_block 40 (.iload_n 2) 1 41 := by decide +kernel
theorem dX11_block_41 : Dc cX11_block 41 (.iadd) 1 42 := by decide +kernel
theorem dX11_block_42 : Dc cX11_block 42 (.iconst 5) 1 43 := by decide +kernel
theorem dX11_block_43 : Dc cX11_block 43 (.isub) 1 44 := by decide +kernel
theorem dX11_block_44 : Dc cX11_block 44 (.iaload) 1 45 := by decide +kernel
theorem dX11_block_45 : Dc cX11_block 45 (.ireturn) 1 46 := by decide +kernel
theorem dX11_mark_0 : Dc cX11_mark 0 (.iload_n 1) 1 1 := by decide +kernel
theorem dX11_mark_1 : Dc cX11_mark 1 (.bipush 16) 2 3 := by decide +kernel
theorem dX11_mark_3 : Dc cX11_mark 3 (.if_icmp .lt 18) 3 6 := by decide +kernel
theorem dX11_mark_6 : Dc cX11_mark 6 (.iload_n 1) 1 7 := by decide +kernel
theorem dX11_mark_7 : Dc cX11_mark 7 (.bipush 63) 2 9 := by decide +kernel
theorem dX11_mark_9 : Dc cX11_mark 9 (.if_icmp .ge 12) 3 12 := by decide +kernel
theorem dX11_mark_12 : Dc cX11_mark 12 (.aload_n 0) 1 13 := by decide +kernel
theorem dX11_mark_13 : Dc cX11_mark 13 (.getfield 16) 3 16 := by decide +kernel
theorem dX11_mark_16 : Dc cX11_mark 16 (.iload_n 1) 1 17 := by decide +kernel
theorem dX11_mark_17 : Dc cX11_mark 17 (.baload) 1 18 := by decide +kernel
theorem dX11_mark_18 : Dc cX11_mark 18 (.ifCond .eq 5) 3 21 := by decide +kernel
theorem dX11_mark_21 : Dc cX11_mark 21 (.iconst 0) 1 22 := by decide +kernel
theorem dX11_mark_22 : Dc cX11_mark 22 (.ireturn) 1 23 := by decide +kernel
theorem dX11_mark_23 : Dc cX11_mark 23 (.aload_n 0) 1 24 := by decide +kernel
theorem dX11_mark_24 : Dc cX11_mark 24 (.getfield 16) 3 27 := by decide +kernel
theorem dX11_mark_27 : Dc cX11_mark 27 (.iload_n 1) 1 28 := by decide +kernel
theorem dX11_mark_28 : Dc cX11_mark 28 (.iconst 1) 1 29 := by decide +kernel
theorem dX11_mark_29 : Dc cX11_mark 29 (.bastore) 1 30 := by decide +kernel
theorem dX11_mark_30 : Dc cX11_mark 30 (.iconst 1) 1 31 := by decide +kernel
theorem dX11_mark_31 : Dc cX11_mark 31 (.ireturn) 1 32 := by decide +kernel
theorem dX11_isSound_0 : Dc cX11_isSound 0 (.iload_n 1) 1 1 := by decide +kernel
theorem dX11_isSound_1 : Dc cX11_isSound 1 (.invokestatic 42) 3 4 := by decide +kernel
theorem dX11_isSound_4 : Dc cX11_isSound 4 (.istore_n 2) 1 5 := by decide +kernel
theorem dX11_isSound_5 : Dc cX11_isSound 5 (.aload_n 0) 1 6 := by decide +kernel
theorem dX11_isSound_6 : Dc cX11_isSound 6 (.getfield 13) 3 9 := by decide +kernel
theorem dX11_isSound_9 : Dc cX11_isSound 9 (.iload_n 2) 1 10 := by decide +kernel
theorem dX11_isSound_10 : Dc cX11_isSound 10 (.iaload) 1 11 := by decide +kernel
theorem dX11_isSound_11 : Dc cX11_isSound 11 (.istore_n 3) 1 12 := by decide +kernel
theorem dX11_isSound_12 : Dc cX11_isSound 12 (.aload_n 0) 1 13 := by decide +kernel
theorem dX11_isSound_13 : Dc cX11_isSound 13 (.iload_n 1) 1 14 := by decide +kernel
theorem dX11_isSound_14 : Dc cX11_isSound 14 (.invokevirtual 45) 3 17 := by decide +kernel
theorem dX11_isSound_17 : Dc cX11_isSound 17 (.istore 4) 2 19 := by decide +kernel
theorem dX11_isSound_19 : Dc cX11_isSound 19 (.iload_n 3) 1 20 := by decide +kernel
theorem dX11_isSound_20 : Dc cX11_isSound 20 (.iconst 1) 1 21 := by decide +kernel
theorem dX11_isSound_21 : Dc cX11_isSound 21 (.if_icmp .lt 74) 3 24 := by decide +kernel
theorem dX11_isSound_24 : Dc cX11_isSound 24 (.iload_n 3) 1 25 := by decide +kernel
theorem dX11_isSound_25 : Dc cX11_isSound 25 (.iconst 2) 1 26 := by decide +kernel
theorem dX11_isSound_26 : Dc cX11_isSound 26 (.if_icmp .gt 69) 3 29 := by decide +kernel
theorem dX11_isSound_29 : Dc cX11_isSound 29 (.iload_n 1) 1 30 := by decide +kernel
theorem dX11_isSound_30 : Dc cX11_isSound 30 (.iconst 3) 1 31 := by decide +kernel
theorem dX11_isSound_31 : Dc cX11_isSound 31 (.if_icmp .ge 8) 3 34 := by decide +kernel
theorem dX11_isSound_34 : Dc cX11_isSound 34 (.iload_n 3) 1 35 := by decide +kernel
theorem dX11_isSound_35 : Dc cX11_isSound 35 (.iconst 2) 1 36 := by decide +kernel
theorem dX11_isSound_36 : Dc cX11_isSound 36 (.if_icmp .ne 59) 3 39 := by decide +kernel
theorem dX11_isSound_39 : Dc cX11_isSound 39 (.aload_n 0) 1 40 := by decide +kernel
theorem dX11_isSound_40 : Dc cX11_isSound 40 (.iload_n 2) 1 41 := by decide +kernel
theorem dX11_isSound_41 : Dc cX11_isSound 41 (.bipush 14) 2 43 := by decide +kernel
theorem dX11_isSound_43 : Dc cX11_isSound 43 (.iadd) 1 44 := by decide +kernel
theorem dX11_isSound_44 : Dc cX11_isSound 44 (.invokevirtual 34) 3 47 := by decide +kernel
theorem dX11_isSound_47 : Dc cX11_isSound 47 (.aload_n 0) 1 48 := by decide +kernel
theorem dX11_isSound_48 : Dc cX11_isSound 48 (.iload_n 2) 1 49 := by decide +kernel
theorem dX11_isSound_49 : Dc cX11_isSound 49 (.bipush 14) 2 51 := by decide +kernel
theorem dX11_isSound_51 : Dc cX11_isSound 51 (.invokevirtual 38) 3 54 := by decide +kernel
theorem dX11_isSound_54 : Dc cX11_isSound 54 (.if_icmp .ne 41) 3 57 := by decide +kernel
theorem dX11_isSound_57 : Dc cX11_isSound 57 (.aload_n 0) 1 58 := by decide +kernel
theorem dX11_isSound_58 : Dc cX11_isSound 58 (.iload_n 2) 1 59 := by decide +kernel
theorem dX11_isSound_59 : Dc cX11_isSound 59 (.bipush 10) 2 61 := by decide +kernel
theorem dX11_isSound_61 : Dc cX11_isSound 61 (.iadd) 1 62 := by decide +kernel
theorem dX11_isSound_62 : Dc cX11_isSound 62 (.iconst 4) 1 63 := by decide +kernel
theorem dX11_isSound_63 : Dc cX11_isSound 63 (.invokevirtual 48) 3 66 := by decide +kernel
theorem dX11_isSound_66 : Dc cX11_isSound 66 (.ifCond .eq 29) 3 69 := by decide +kernel
theorem dX11_isSound_69 : Dc cX11_isSound 69 (.iload 4) 2 71 := by decide +kernel
theorem dX11_isSound_71 : Dc cX11_isSound 71 (.sipush 2944) 3 74 := by decide +kernel
theorem dX11_isSound_74 : Dc cX11_isSound 74 (.if_icmp .gt 21) 3 77 := by decide +kernel
theorem dX11_isSound_77 : Dc cX11_isSound 77 (.iload_n 3) 1 78 := by decide +kernel
end
section
theorem dX11_isSound_78 : Dc cX11_isSound 78 (.iconst 2) 1 79 := by decide +kernel
theorem dX11_isSound_79 : Dc cX11_isSound 79 (.if_icmp .ne 18) 3 82 := by decide +kernel
theorem dX11_isSound_82 : Dc cX11_isSound 82 (.iload 4) 2 84 := by decide +kernel
theorem dX11_isSound_84 : Dc cX11_isSound 84 (.ifCond .eq 11) 3 87 := by decide +kernel
theorem dX11_isSound_87 : Dc cX11_isSound 87 (.iload 4) 2 89 := by decide +kernel
theorem dX11_isSound_89 : Dc cX11_isSound 89 (.bipush 64) 2 91 := by decide +kernel
theorem dX11_isSound_91 : Dc cX11_isSound 91 (.irem) 1 92 := by decide +kernel
theorem dX11_isSound_92 : Dc cX11_isSound 92 (.ifCond .eq 5) 3 95 := by decide +kernel
theorem dX11_isSound_95 : Dc cX11_isSound 95 (.iconst 0) 1 96 := by decide +kernel
theorem dX11_isSound_96 : Dc cX11_isSound 96 (.ireturn) 1 97 := by decide +kernel
theorem dX11_isSound_97 : Dc cX11_isSound 97 (.aload_n 0) 1 98 := by decide +kernel
theorem dX11_isSound_98 : Dc cX11_isSound 98 (.iload_n 1) 1 99 := by decide +kernel
theorem dX11_isSound_99 : Dc cX11_isSound 99 (.invokevirtual 52) 3 102 := by decide +kernel
theorem dX11_isSound_102 : Dc cX11_isSound 102 (.istore 5) 2 104 := by decide +kernel
theorem dX11_isSound_104 : Dc cX11_isSound 104 (.iconst 1) 1 105 := by decide +kernel
theorem dX11_isSound_105 : Dc cX11_isSound 105 (.istore 6) 2 107 := by decide +kernel
theorem dX11_isSound_107 : Dc cX11_isSound 107 (.iconst 0) 1 108 := by decide +kernel
theorem dX11_isSound_108 : Dc cX11_isSound 108 (.istore 7) 2 110 := by decide +kernel
theorem dX11_isSound_110 : Dc cX11_isSound 110 (.iload 7) 2 112 := by decide +kernel
theorem dX11_isSound_112 : Dc cX11_isSound 112 (.iconst 5) 1 113 := by decide +kernel
theorem dX11_isSound_113 : Dc cX11_isSound 113 (.if_icmp .ge 42) 3 116 := by decide +kernel
theorem dX11_isSound_116 : Dc cX11_isSound 116 (.iload 6) 2 118 := by decide +kernel
theorem dX11_isSound_118 : Dc cX11_isSound 118 (.ifCond .eq 28) 3 121 := by decide +kernel
theorem dX11_isSound_121 : Dc cX11_isSound 121 (.iload 7) 2 123 := by decide +kernel
theorem dX11_isSound_123 : Dc cX11_isSound 123 (.iload 5) 2 125 := by decide +kernel
theorem dX11_isSound_125 : Dc cX11_isSound 125 (.if_icmp .lt 17) 3 128 := by decide +kernel
theorem dX11_isSound_128 : Dc cX11_isSound 128 (.aload_n 0) 1 129 := by decide +kernel
theorem dX11_isSound_129 : Dc cX11_isSound 129 (.getfield 13) 3 132 := by decide +kernel
theorem dX11_isSound_132 : Dc cX11_isSound 132 (.iload_n 2) 1 133 := by decide +kernel
theorem dX11_isSound_133 : Dc cX11_isSound 133 (.iconst 4) 1 134 := by decide +kernel
theorem dX11_isSound_134 : Dc cX11_isSound 134 (.iadd) 1 135 := by decide +kernel
theorem dX11_isSound_135 : Dc cX11_isSound 135 (.iload 7) 2 137 := by decide +kernel
theorem dX11_isSound_137 : Dc cX11_isSound 137 (.iadd) 1 138 := by decide +kernel
theorem dX11_isSound_138 : Dc cX11_isSound 138 (.iaload) 1 139 := by decide +kernel
theorem dX11_isSound_139 : Dc cX11_isSound 139 (.ifCond .ne 7) 3 142 := by decide +kernel
theorem dX11_isSound_142 : Dc cX11_isSound 142 (.iconst 1) 1 143 := by decide +kernel
theorem dX11_isSound_143 : Dc cX11_isSound 143 (.goto 4) 3 146 := by decide +kernel
theorem dX11_isSound_146 : Dc cX11_isSound 146 (.iconst 0) 1 147 := by decide +kernel
theorem dX11_isSound_147 : Dc cX11_isSound 147 (.istore 6) 2 149 := by decide +kernel
theorem dX11_isSound_149 : Dc cX11_isSound 149 (.iinc 7 1) 3 152 := by decide +kernel
theorem dX11_isSound_152 : Dc cX11_isSound 152 (.goto (-42)) 3 155 := by decide +kernel
theorem dX11_isSound_155 : Dc cX11_isSound 155 (.iload 6) 2 157 := by decide +kernel
theorem dX11_isSound_157 : Dc cX11_isSound 157 (.ifCond .eq 38) 3 160 := by decide +kernel
theorem dX11_isSound_160 : Dc cX11_isSound 160 (.iload 5) 2 162 := by decide +kernel
theorem dX11_isSound_162 : Dc cX11_isSound 162 (.iconst 5) 1 163 := by decide +kernel
theorem dX11_isSound_163 : Dc cX11_isSound 163 (.if_icmp .le 7) 3 166 := by decide +kernel
theorem dX11_isSound_166 : Dc cX11_isSound 166 (.iconst 1) 1 167 := by decide +kernel
theorem dX11_isSound_167 : Dc cX11_isSound 167 (.goto 4) 3 170 := by decide +kernel
theorem dX11_isSound_170 : Dc cX11_isSound 170 (.iconst 0) 1 171 := by decide +kernel
theorem dX11_isSound_171 : Dc cX11_isSound 171 (.aload_n 0) 1 172 := by decide +kernel
theorem dX11_isSound_172 : Dc cX11_isSound 172 (.getfield 13) 3 175 := by decide +kernel
theorem dX11_isSound_175 : Dc cX11_isSound 175 (.iload_n 2) 1 176 := by decide +kernel
theorem dX11_isSound_176 : Dc cX11_isSound 176 (.bipush 9) 2 178 := by decide +kernel
theorem dX11_isSound_178 : Dc cX11_isSound 178 (.iadd) 1 179 := by decide +kernel
theorem dX11_isSound_179 : Dc cX11_isSound 179 (.iaload) 1 180 := by decide +kernel
theorem dX11_isSound_180 : Dc cX11_isSound 180 (.ifCond .eq 7) 3 183 := by decide +kernel
theorem dX11_isSound_183 : Dc cX11_isSound 183 (.iconst 1) 1 184 := by decide +kernel
theorem dX11_isSound_184 : Dc cX11_isSound 184 (.goto 4) 3 187 := by decide +kernel
theorem dX11_isSound_187 : Dc cX11_isSound 187 (.iconst 0) 1 188 := by decide +kernel
theorem dX11_isSound_188 : Dc cX11_isSound 188 (.if_icmp .ne 7) 3 191 := by decide +kernel
theorem dX11_isSound_191 : Dc cX11_isSound 191 (.iconst 1) 1 192 := by decide +kernel
theorem dX11_isSound_192 : Dc cX11_isSound 192 (.goto 4) 3 195 := by decide +kernel
theorem dX11_isSound_195 : Dc cX11_isSound 195 (.iconst 0) 1 196 := by decide +kernel
theorem dX11_isSound_196 : Dc cX11_isSound 196 (.istore 6) 2 198 := by decide +kernel
theorem dX11_isSound_198 : Dc cX11_isSound 198 (.iconst 0) 1 199 := by decide +kernel
theorem dX11_isSound_199 : Dc cX11_isSound 199 (.istore 7) 2 201 := by decide +kernel
theorem dX11_isSound_201 : Dc cX11_isSound 201 (.aload_n 0) 1 202 := by decide +kernel
theorem dX11_isSound_202 : Dc cX11_isSound 202 (.getfield 13) 3 205 := by decide +kernel
theorem dX11_isSound_205 : Dc cX11_isSound 205 (.iload_n 2) 1 206 := by decide +kernel
theorem dX11_isSound_206 : Dc cX11_isSound 206 (.bipush 9) 2 208 := by decide +kernel
theorem dX11_isSound_208 : Dc cX11_isSound 208 (.iadd) 1 209 := by decide +kernel
theorem dX11_isSound_209 : Dc cX11_isSound 209 (.iaload) 1 210 := by decide +kernel
theorem dX11_isSound_210 : Dc cX11_isSound 210 (.istore 8) 2 212 := by decide +kernel
theorem dX11_isSound_212 : Dc cX11_isSound 212 (.iload 6) 2 214 := by decide +kernel
theorem dX11_isSound_214 : Dc cX11_isSound 214 (.ifCond .eq 76) 3 217 := by decide +kernel
theorem dX11_isSound_217 : Dc cX11_isSound 217 (.iload 5) 2 219 := by decide +kernel
theorem dX11_isSound_219 : Dc cX11_isSound 219 (.iconst 5) 1 220 := by decide +kernel
theorem dX11_isSound_220 : Dc cX11_isSound 220 (.if_icmp .le 70) 3 223 := by decide +kernel
theorem dX11_isSound_223 : Dc cX11_isSound 223 (.aload_n 0) 1 224 := by decide +kernel
theorem dX11_isSound_224 : Dc cX11_isSound 224 (.iload 8) 2 226 := by decide +kernel
theorem dX11_isSound_226 : Dc cX11_isSound 226 (.invokevirtual 55) 3 229 := by decide +kernel
theorem dX11_isSound_229 : Dc cX11_isSound 229 (.istore 6) 2 231 := by decide +kernel
theorem dX11_isSound_231 : Dc cX11_isSound 231 (.iload 6) 2 233 := by decide +kernel
theorem dX11_isSound_233 : Dc cX11_isSound 233 (.ifCond .eq 7) 3 236 := by decide +kernel
theorem dX11_isSound_236 : Dc cX11_isSound 236 (.iconst 1) 1 237 := by decide +kernel
theorem dX11_isSound_237 : Dc cX11_isSound 237 (.goto 4) 3 240 := by decide +kernel
theorem dX11_isSound_240 : Dc cX11_isSound 240 (.iconst 0) 1 241 := by decide +kernel
theorem dX11_isSound_241 : Dc cX11_isSound 241 (.istore 7) 2 243 := by decide +kernel
theorem dX11_isSound_243 : Dc cX11_isSound 243 (.iload 5) 2 245 := by decide +kernel
theorem dX11_isSound_245 : Dc cX11_isSound 245 (.iconst 5) 1 246 := by decide +kernel
theorem dX11_isSound_246 : Dc cX11_isSound 246 (.isub) 1 247 := by decide +kernel
theorem dX11_isSound_247 : Dc cX11_isSound 247 (.istore 9) 2 249 := by decide +kernel
theorem dX11_isSound_249 : Dc cX11_isSound 249 (.iload 9) 2 251 := by decide +kernel
theorem dX11_isSound_251 : Dc cX11_isSound 251 (.bipush 64) 2 253 := by decide +kernel
theorem dX11_isSound_253 : Dc cX11_isSound 253 (.if_icmp .ge 37) 3 256 := by decide +kernel
theorem dX11_isSound_256 : Dc cX11_isSound 256 (.iload 6) 2 258 := by decide +kernel
theorem dX11_isSound_258 : Dc cX11_isSound 258 (.ifCond .eq 32) 3 261 := by decide +kernel
theorem dX11_isSound_261 : Dc cX11_isSound 261 (.aload_n 0) 1 262 := by decide +kernel
theorem dX11_isSound_262 : Dc cX11_isSound 262 (.getfield 13) 3 265 := by decide +kernel
theorem dX11_isSound_265 : Dc cX11_isSound 265 (.bipush 64) 2 267 := by decide +kernel
theorem dX11_isSound_267 : Dc cX11_isSound 267 (.iload 8) 2 269 := by decide +kernel
theorem dX11_isSound_269 : Dc cX11_isSound 269 (.imul) 1 270 := by decide +kernel
theorem dX11_isSound_270 : Dc cX11_isSound 270 (.iload 9) 2 272 := by decide +kernel
theorem dX11_isSound_272 : Dc cX11_isSound 272 (.iadd) 1 273 := by decide +kernel
theorem dX11_isSound_273 : Dc cX11_isSound 273 (.iaload) 1 274 := by decide +kernel
theorem dX11_isSound_274 : Dc cX11_isSound 274 (.ifCond .ne 7) 3 277 := by decide +kernel
theorem dX11_isSound_277 : Dc cX11_isSound 277 (.iconst 1) 1 278 := by decide +kernel
theorem dX11_isSound_278 : Dc cX11_isSound 278 (.goto 4) 3 281 := by decide +kernel
theorem dX11_isSound_281 : Dc cX11_isSound 281 (.iconst 0) 1 282 := by decide +kernel
theorem dX11_isSound_282 : Dc cX11_isSound 282 (.istore 6) 2 284 := by decide +kernel
theorem dX11_isSound_284 : Dc cX11_isSound 284 (.iinc 9 1) 3 287 := by decide +kernel
theorem dX11_isSound_287 : Dc cX11_isSound 287 (.goto (-38)) 3 290 := by decide +kernel
theorem dX11_isSound_290 : Dc cX11_isSound 290 (.iconst 0) 1 291 := by decide +kernel
theorem dX11_isSound_291 : Dc cX11_isSound 291 (.istore 9) 2 293 := by decide +kernel
theorem dX11_isSound_293 : Dc cX11_isSound 293 (.iload 6) 2 295 := by decide +kernel
theorem dX11_isSound_295 : Dc cX11_isSound 295 (.ifCond .eq 41) 3 298 := by decide +kernel
theorem dX11_isSound_298 : Dc cX11_isSound 298 (.iload 9) 2 300 := by decide +kernel
theorem dX11_isSound_300 : Dc cX11_isSound 300 (.iload 5) 2 302 := by decide +kernel
theorem dX11_isSound_302 : Dc cX11_isSound 302 (.if_icmp .ge 34) 3 305 := by decide +kernel
theorem dX11_isSound_305 : Dc cX11_isSound 305 (.aload_n 0) 1 306 := by decide +kernel
theorem dX11_isSound_306 : Dc cX11_isSound 306 (.aload_n 0) 1 307 := by decide +kernel
theorem dX11_isSound_307 : Dc cX11_isSound 307 (.iload_n 1) 1 308 := by decide +kernel
theorem dX11_isSound_308 : Dc cX11_isSound 308 (.iload 9) 2 310 := by decide +kernel
theorem dX11_isSound_310 : Dc cX11_isSound 310 (.invokevirtual 59) 3 313 := by decide +kernel
theorem dX11_isSound_313 : Dc cX11_isSound 313 (.invokevirtual 55) 3 316 := by decide +kernel
theorem dX11_isSound_316 : Dc cX11_isSound 316 (.istore 6) 2 318 := by decide +kernel
theorem dX11_isSound_318 : Dc cX11_isSound 318 (.iload 9) 2 320 := by decide +kernel
theorem dX11_isSound_320 : Dc cX11_isSound 320 (.iload 6) 2 322 := by decide +kernel
theorem dX11_isSound_322 : Dc cX11_isSound 322 (.ifCond .eq 7) 3 325 := by decide +kernel
theorem dX11_isSound_325 : Dc cX11_isSound 325 (.iconst 1) 1 326 := by decide +kernel
theorem dX11_isSound_326 : Dc cX11_isSound 326 (.goto 4) 3 329 := by decide +kernel
theorem dX11_isSound_329 : Dc cX11_isSound 329 (.iconst 0) 1 330 := by decide +kernel
theorem dX11_isSound_330 : Dc cX11_isSound 330 (.iadd) 1 331 := by decide +kernel
theorem dX11_isSound_331 : Dc cX11_isSound 331 (.istore 9) 2 333 := by decide +kernel
theorem dX11_isSound_333 : Dc cX11_isSound 333 (.goto (-40)) 3 336 := by decide +kernel
theorem dX11_isSound_336 : Dc cX11_isSound 336 (.iload 6) 2 338 := by decide +kernel
theorem dX11_isSound_338 : Dc cX11_isSound 338 (.ifCond .ne 46) 3 341 := by decide +kernel
theorem dX11_isSound_341 : Dc cX11_isSound 341 (.iconst 0) 1 342 := by decide +kernel
theorem dX11_isSound_342 : Dc cX11_isSound 342 (.istore 10) 2 344 := by decide +kernel
theorem dX11_isSound_344 : Dc cX11_isSound 344 (.iload 10) 2 346 := by decide +kernel
theorem dX11_isSound_346 : Dc cX11_isSound 346 (.iload 9) 2 348 := by decide +kernel
theorem dX11_isSound_348 : Dc cX11_isSound 348 (.if_icmp .ge 22) 3 351 := by decide +kernel
theorem dX11_isSound_351 : Dc cX11_isSound 351 (.aload_n 0) 1 352 := by decide +kernel
theorem dX11_isSound_352 : Dc cX11_isSound 352 (.getfield 16) 3 355 := by decide +kernel
theorem dX11_isSound_355 : Dc cX11_isSound 355 (.aload_n 0) 1 356 := by decide +kernel
theorem dX11_isSound_356 : Dc cX11_isSound 356 (.iload_n 1) 1 357 := by decide +kernel
theorem dX11_isSound_357 : Dc cX11_isSound 357 (.iload 10) 2 359 := by decide +kernel
theorem dX11_isSound_359 : Dc cX11_isSound 359 (.invokevirtual 59) 3 362 := by decide +kernel
theorem dX11_isSound_362 : Dc cX11_isSound 362 (.iconst 0) 1 363 := by decide +kernel
theorem dX11_isSound_363 : Dc cX11_isSound 363 (.bastore) 1 364 := by decide +kernel
theorem dX11_isSound_364 : Dc cX11_isSound 364 (.iinc 10 1) 3 367 := by decide +kernel
theorem dX11_isSound_367 : Dc cX11_isSound 367 (.goto (-23)) 3 370 := by decide +kernel
theorem dX11_isSound_370 : Dc cX11_isSound 370 (.iload 7) 2 372 := by decide +kernel
theorem dX11_isSound_372 : Dc cX11_isSound 372 (.iconst 1) 1 373 := by decide +kernel
theorem dX11_isSound_373 : Dc cX11_isSound 373 (.if_icmp .ne 11) 3 376 := by decide +kernel
theorem dX11_isSound_376 : Dc cX11_isSound 376 (.aload_n 0) 1 377 := by decide +kernel
theorem dX11_isSound_377 : Dc cX11_isSound 377 (.getfield 16) 3 380 := by decide +kernel
theorem dX11_isSound_380 : Dc cX11_isSound 380 (.iload 8) 2 382 := by decide +kernel
theorem dX11_isSound_382 : Dc cX11_isSound 382 (.iconst 0) 1 383 := by decide +kernel
theorem dX11_isSound_383 : Dc cX11_isSound 383 (.bastore) 1 384 := by decide +kernel
theorem dX11_isSound_384 : Dc cX11_isSound 384 (.iload 6) 2 386 := by decide +kernel
theorem dX11_isSound_386 : Dc cX11_isSound 386 (.ireturn) 1 387 := by decide +kernel
theorem dX11_free_0 : Dc cX11_free 0 (.iconst 0) 1 1 := by decide +kernel
theorem dX11_free_1 : Dc cX11_free 1 (.istore_n 2) 1 2 := by decide +kernel
theorem dX11_free_2 : Dc cX11_free 2 (.iload_n 2) 1 3 := by decide +kernel
theorem dX11_free_3 : Dc cX11_free 3 (.bipush 64) 2 5 := by decide +kernel
theorem dX11_free_5 : Dc cX11_free 5 (.if_icmp .ge 16) 3 8 := by decide +kernel
theorem dX11_free_8 : Dc cX11_free 8 (.aload_n 0) 1 9 := by decide +kernel
theorem dX11_free_9 : Dc cX11_free 9 (.getfield 16) 3 12 := by decide +kernel
theorem dX11_free_12 : Dc cX11_free 12 (.iload_n 2) 1 13 := by decide +kernel
theorem dX11_free_13 : Dc cX11_free 13 (.iconst 0) 1 14 := by decide +kernel
theorem dX11_free_14 : Dc cX11_free 14 (.bastore) 1 15 := by decide +kernel
theorem dX11_free_15 : Dc cX11_free 15 (.iinc 2 1) 3 18 := by decide +kernel
theorem dX11_free_18 : Dc cX11_free 18 (.goto (-16)) 3 21 := by decide +kernel
theorem dX11_free_21 : Dc cX11_free 21 (.iconst 1) 1 22 := by decide +kernel
theorem dX11_free_22 : Dc cX11_free 22 (.istore_n 2) 1 23 := by decide +kernel
theorem dX11_free_23 : Dc cX11_free 23 (.iload_n 2) 1 24 := by decide +kernel
theorem dX11_free_24 : Dc cX11_free 24 (.bipush 32) 2 26 := by decide +kernel
theorem dX11_free_26 : Dc cX11_free 26 (.if_icmp .ge 81) 3 29 := by decide +kernel
theorem dX11_free_29 : Dc cX11_free 29 (.iconst 0) 1 30 := by decide +kernel
theorem dX11_free_30 : Dc cX11_free 30 (.istore_n 3) 1 31 := by decide +kernel
theorem dX11_free_31 : Dc cX11_free 31 (.aload_n 0) 1 32 := by decide +kernel
theorem dX11_free_32 : Dc cX11_free 32 (.iload_n 2) 1 33 := by decide +kernel
theorem dX11_free_33 : Dc cX11_free 33 (.invokevirtual 62) 3 36 := by decide +kernel
theorem dX11_free_36 : Dc cX11_free 36 (.ifCond .le 30) 3 39 := by decide +kernel
theorem dX11_free_39 : Dc cX11_free 39 (.iload_n 3) 1 40 := by decide +kernel
theorem dX11_free_40 : Dc cX11_free 40 (.aload_n 0) 1 41 := by decide +kernel
theorem dX11_free_41 : Dc cX11_free 41 (.iload_n 2) 1 42 := by decide +kernel
theorem dX11_free_42 : Dc cX11_free 42 (.invokevirtual 52) 3 45 := by decide +kernel
theorem dX11_free_45 : Dc cX11_free 45 (.if_icmp .ge 21) 3 48 := by decide +kernel
theorem dX11_free_48 : Dc cX11_free 48 (.aload_n 0) 1 49 := by decide +kernel
theorem dX11_free_49 : Dc cX11_free 49 (.getfield 16) 3 52 := by decide +kernel
theorem dX11_free_52 : Dc cX11_free 52 (.aload_n 0) 1 53 := by decide +kernel
theorem dX11_free_53 : Dc cX11_free 53 (.iload_n 2) 1 54 := by decide +kernel
theorem dX11_free_54 : Dc cX11_free 54 (.iload_n 3) 1 55 := by decide +kernel
theorem dX11_free_55 : Dc cX11_free 55 (.invokevirtual 59) 3 58 := by decide +kernel
theorem dX11_free_58 : Dc cX11_free 58 (.iconst 1) 1 59 := by decide +kernel
theorem dX11_free_59 : Dc cX11_free 59 (.bastore) 1 60 := by decide +kernel
theorem dX11_free_60 : Dc cX11_free 60 (.iinc 3 1) 3 63 := by decide +kernel
theorem dX11_free_63 : Dc cX11_free 63 (.goto (-32)) 3 66 := by decide +kernel
theorem dX11_free_66 : Dc cX11_free 66 (.aload_n 0) 1 67 := by decide +kernel
theorem dX11_free_67 : Dc cX11_free 67 (.iload_n 2) 1 68 := by decide +kernel
theorem dX11_free_68 : Dc cX11_free 68 (.invokevirtual 62) 3 71 := by decide +kernel
theorem dX11_free_71 : Dc cX11_free 71 (.ifCond .le 30) 3 74 := by decide +kernel
theorem dX11_free_74 : Dc cX11_free 74 (.aload_n 0) 1 75 := by decide +kernel
theorem dX11_free_75 : Dc cX11_free 75 (.iload_n 2) 1 76 := by decide +kernel
theorem dX11_free_76 : Dc cX11_free 76 (.invokevirtual 52) 3 79 := by decide +kernel
theorem dX11_free_79 : Dc cX11_free 79 (.iconst 5) 1 80 := by decide +kernel
theorem dX11_free_80 : Dc cX11_free 80 (.if_icmp .le 21) 3 83 := by decide +kernel
theorem dX11_free_83 : Dc cX11_free 83 (.aload_n 0) 1 84 := by decide +kernel
theorem dX11_free_84 : Dc cX11_free 84 (.getfield 16) 3 87 := by decide +kernel
theorem dX11_free_87 : Dc cX11_free 87 (.aload_n 0) 1 88 := by decide +kernel
theorem dX11_free_88 : Dc cX11_free 88 (.getfield 13) 3 91 := by decide +kernel
theorem dX11_free_91 : Dc cX11_free 91 (.iload_n 2) 1 92 := by decide +kernel
theorem dX11_free_92 : Dc cX11_free 92 (.invokestatic 42) 3 95 := by decide +kernel
theorem dX11_free_95 : Dc cX11_free 95 (.bipush 9) 2 97 := by decide +kernel
theorem dX11_free_97 : Dc cX11_free 97 (.iadd) 1 98 := by decide +kernel
theorem dX11_free_98 : Dc cX11_free 98 (.iaload) 1 99 := by decide +kernel
theorem dX11_free_99 : Dc cX11_free 99 (.iconst 1) 1 100 := by decide +kernel
theorem dX11_free_100 : Dc cX11_free 100 (.bastore) 1 101 := by decide +kernel
theorem dX11_free_101 : Dc cX11_free 101 (.iinc 2 1) 3 104 := by decide +kernel
theorem dX11_free_104 : Dc cX11_free 104 (.goto (-81)) 3 107 := by decide +kernel
theorem dX11_free_107 : Dc cX11_free 107 (.iload_n 1) 1 108 := by decide +kernel
theorem dX11_free_108 : Dc cX11_free 108 (.iconst 1) 1 109 := by decide +kernel
theorem dX11_free_109 : Dc cX11_free 109 (.iadd) 1 110 := by decide +kernel
theorem dX11_free_110 : Dc cX11_free 110 (.istore_n 2) 1 111 := by decide +kernel
theorem dX11_free_111 : Dc cX11_free 111 (.iload_n 2) 1 112 := by decide +kernel
theorem dX11_free_112 : Dc cX11_free 112 (.bipush 63) 2 114 := by decide +kernel
theorem dX11_free_114 : Dc cX11_free 114 (.if_icmp .ge 26) 3 117 := by decide +kernel
theorem dX11_free_117 : Dc cX11_free 117 (.iload_n 2) 1 118 := by decide +kernel
theorem dX11_free_118 : Dc cX11_free 118 (.bipush 16) 2 120 := by decide +kernel
theorem dX11_free_120 : Dc cX11_free 120 (.if_icmp .lt 14) 3 123 := by decide +kernel
theorem dX11_free_123 : Dc cX11_free 123 (.aload_n 0) 1 124 := by decide +kernel
theorem dX11_free_124 : Dc cX11_free 124 (.getfield 16) 3 127 := by decide +kernel
theorem dX11_free_127 : Dc cX11_free 127 (.iload_n 2) 1 128 := by decide +kernel
theorem dX11_free_128 : Dc cX11_free 128 (.baload) 1 129 := by decide +kernel
theorem dX11_free_129 : Dc cX11_free 129 (.ifCond .ne 5) 3 132 := by decide +kernel
theorem dX11_free_132 : Dc cX11_free 132 (.iload_n 2) 1 133 := by decide +kernel
theorem dX11_free_133 : Dc cX11_free 133 (.ireturn) 1 134 := by decide +kernel
theorem dX11_free_134 : Dc cX11_free 134 (.iinc 2 1) 3 137 := by decide +kernel
theorem dX11_free_137 : Dc cX11_free 137 (.goto (-26)) 3 140 := by decide +kernel
theorem dX11_free_140 : Dc cX11_free 140 (.iconst (-1)) 1 141 := by decide +kernel
theorem dX11_free_141 : Dc cX11_free 141 (.ireturn) 1 142 := by decide +kernel
theorem dX11_places_0 : Dc cX11_places 0 (.aload_n 0) 1 1 := by decide +kernel
theorem dX11_places_1 : Dc cX11_places 1 (.iload_n 1) 1 2 := by decide +kernel
theorem dX11_places_2 : Dc cX11_places 2 (.invokevirtual 45) 3 5 := by decide +kernel
theorem dX11_places_5 : Dc cX11_places 5 (.bipush 16) 2 7 := by decide +kernel
theorem dX11_places_7 : Dc cX11_places 7 (.idiv) 1 8 := by decide +kernel
theorem dX11_places_8 : Dc cX11_places 8 (.ireturn) 1 9 := by decide +kernel
theorem dX11_entry_0 : Dc cX11_entry 0 (.bipush 64) 2 2 := by decide +kernel
theorem dX11_entry_2 : Dc cX11_entry 2 (.aload_n 0) 1 3 := by decide +kernel
theorem dX11_entry_3 : Dc cX11_entry 3 (.iload_n 1) 1 4 := by decide +kernel
theorem dX11_entry_4 : Dc cX11_entry 4 (.iload_n 2) 1 5 := by decide +kernel
theorem dX11_entry_5 : Dc cX11_entry 5 (.iconst 4) 1 6 := by decide +kernel
theorem dX11_entry_6 : Dc cX11_entry 6 (.idiv) 1 7 := by decide +kernel
theorem dX11_entry_7 : Dc cX11_entry 7 (.invokevirtual 59) 3 10 := by decide +kernel
theorem dX11_entry_10 : Dc cX11_entry 10 (.imul) 1 11 := by decide +kernel
theorem dX11_entry_11 : Dc cX11_entry 11 (.bipush 16) 2 13 := by decide +kernel
theorem dX11_entry_13 : Dc cX11_entry 13 (.iload_n 2) 1 14 := by decide +kernel
theorem dX11_entry_14 : Dc cX11_entry 14 (.iconst 4) 1 15 := by decide +kernel
theorem dX11_entry_15 : Dc cX11_entry 15 (.irem) 1 16 := by decide +kernel
theorem dX11_entry_16 : Dc cX11_entry 16 (.imul) 1 17 := by decide +kernel
theorem dX11_entry_17 : Dc cX11_entry 17 (.iadd) 1 18 := by decide +kernel
theorem dX11_entry_18 : Dc cX11_entry 18 (.ireturn) 1 19 := by decide +kernel
theorem dX11_write_0 : Dc cX11_write 0 (.aload_n 0) 1 1 := by decide +kernel
theorem dX11_write_1 : Dc cX11_write 1 (.iload_n 1) 1 2 := by decide +kernel
theorem dX11_write_2 : Dc cX11_write 2 (.bipush 16) 2 4 := by decide +kernel
theorem dX11_write_4 : Dc cX11_write 4 (.invokevirtual 65) 3 7 := by decide +kernel
theorem dX11_write_7 : Dc cX11_write 7 (.aload_n 0) 1 8 := by decide +kernel
theorem dX11_write_8 : Dc cX11_write 8 (.getfield 13) 3 11 := by decide +kernel
theorem dX11_write_11 : Dc cX11_write 11 (.iload_n 1) 1 12 := by decide +kernel
theorem dX11_write_12 : Dc cX11_write 12 (.iload_n 2) 1 13 := by decide +kernel
theorem dX11_write_13 : Dc cX11_write 13 (.iastore) 1 14 := by decide +kernel
theorem dX11_write_14 : Dc cX11_write 14 (.aload_n 0) 1 15 := by decide +kernel
theorem dX11_write_15 : Dc cX11_write 15 (.getfield 13) 3 18 := by decide +kernel
theorem dX11_write_18 : Dc cX11_write 18 (.iload_n 1) 1 19 := by decide +kernel
theorem dX11_write_19 : Dc cX11_write 19 (.iconst 1) 1 20 := by decide +kernel
theorem dX11_write_20 : Dc cX11_write 20 (.iadd) 1 21 := by decide +kernel
theorem dX11_write_21 : Dc cX11_write 21 (.aload_n 0) 1 22 := by decide +kernel
theorem dX11_write_22 : Dc cX11_write 22 (.getfield 69) 3 25 := by decide +kernel
theorem dX11_write_25 : Dc cX11_write 25 (.iastore) 1 26 := by decide +kernel
theorem dX11_write_26 : Dc cX11_write 26 (.iconst 0) 1 27 := by decide +kernel
theorem dX11_write_27 : Dc cX11_write 27 (.istore_n 3) 1 28 := by decide +kernel
theorem dX11_write_28 : Dc cX11_write 28 (.iload_n 3) 1 29 := by decide +kernel
theorem dX11_write_29 : Dc cX11_write 29 (.aload_n 0) 1 30 := by decide +kernel
theorem dX11_write_30 : Dc cX11_write 30 (.getfield 69) 3 33 := by decide +kernel
theorem dX11_write_33 : Dc cX11_write 33 (.if_icmp .ge 25) 3 36 := by decide +kernel
theorem dX11_write_36 : Dc cX11_write 36 (.aload_n 0) 1 37 := by decide +kernel
theorem dX11_write_37 : Dc cX11_write 37 (.getfield 13) 3 40 := by decide +kernel
theorem dX11_write_40 : Dc cX11_write 40 (.iload_n 1) 1 41 := by decide +kernel
theorem dX11_write_41 : Dc cX11_write 41 (.iconst 2) 1 42 := by decide +kernel
theorem dX11_write_42 : Dc cX11_write 42 (.iadd) 1 43 := by decide +kernel
theorem dX11_write_43 : Dc cX11_write 43 (.iload_n 3) 1 44 := by decide +kernel
theorem dX11_write_44 : Dc cX11_write 44 (.iadd) 1 45 := by decide +kernel
theorem dX11_write_45 : Dc cX11_write 45 (.aload_n 0) 1 46 := by decide +kernel
theorem dX11_write_46 : Dc cX11_write 46 (.getfield 26) 3 49 := by decide +kernel
theorem dX11_write_49 : Dc cX11_write 49 (.iload_n 3) 1 50 := by decide +kernel
theorem dX11_write_50 : Dc cX11_write 50 (.iaload) 1 51 := by decide +kernel
theorem dX11_write_51 : Dc cX11_write 51 (.iastore) 1 52 := by decide +kernel
theorem dX11_write_52 : Dc cX11_write 52 (.iinc 3 1) 3 55 := by decide +kernel
theorem dX11_write_55 : Dc cX11_write 55 (.goto (-27)) 3 58 := by decide +kernel
theorem dX11_write_58 : Dc cX11_write 58 (.return_) 1 59 := by decide +kernel
theorem dX11_dots_0 : Dc cX11_dots 0 (.aload_n 0) 1 1 := by decide +kernel
theorem dX11_dots_1 : Dc cX11_dots 1 (.iload_n 1) 1 2 := by decide +kernel
theorem dX11_dots_2 : Dc cX11_dots 2 (.putfield 69) 3 5 := by decide +kernel
theorem dX11_dots_5 : Dc cX11_dots 5 (.iconst 0) 1 6 := by decide +kernel
theorem dX11_dots_6 : Dc cX11_dots 6 (.istore_n 2) 1 7 := by decide +kernel
theorem dX11_dots_7 : Dc cX11_dots 7 (.iload_n 2) 1 8 := by decide +kernel
theorem dX11_dots_8 : Dc cX11_dots 8 (.iload_n 1) 1 9 := by decide +kernel
theorem dX11_dots_9 : Dc cX11_dots 9 (.if_icmp .ge 17) 3 12 := by decide +kernel
theorem dX11_dots_12 : Dc cX11_dots 12 (.aload_n 0) 1 13 := by decide +kernel
theorem dX11_dots_13 : Dc cX11_dots 13 (.getfield 26) 3 16 := by decide +kernel
theorem dX11_dots_16 : Dc cX11_dots 16 (.iload_n 2) 1 17 := by decide +kernel
theorem dX11_dots_17 : Dc cX11_dots 17 (.bipush 46) 2 19 := by decide +kernel
theorem dX11_dots_19 : Dc cX11_dots 19 (.iastore) 1 20 := by decide +kernel
theorem dX11_dots_20 : Dc cX11_dots 20 (.iinc 2 1) 3 23 := by decide +kernel
theorem dX11_dots_23 : Dc cX11_dots 23 (.goto (-16)) 3 26 := by decide +kernel
theorem dX11_dots_26 : Dc cX11_dots 26 (.return_) 1 27 := by decide +kernel
theorem dX11_isName_0 : Dc cX11_isName 0 (.aload_n 0) 1 1 := by decide +kernel
theorem dX11_isName_1 : Dc cX11_isName 1 (.getfield 13) 3 4 := by decide +kernel
theorem dX11_isName_4 : Dc cX11_isName 4 (.iload_n 1) 1 5 := by decide +kernel
theorem dX11_isName_5 : Dc cX11_isName 5 (.iconst 1) 1 6 := by decide +kernel
theorem dX11_isName_6 : Dc cX11_isName 6 (.iadd) 1 7 := by decide +kernel
theorem dX11_isName_7 : Dc cX11_isName 7 (.iaload) 1 8 := by decide +kernel
theorem dX11_isName_8 : Dc cX11_isName 8 (.aload_n 0) 1 9 := by decide +kernel
theorem dX11_isName_9 : Dc cX11_isName 9 (.getfield 69) 3 12 := by decide +kernel
theorem dX11_isName_12 : Dc cX11_isName 12 (.if_icmp .ne 7) 3 15 := by decide +kernel
theorem dX11_isName_15 : Dc cX11_isName 15 (.iconst 1) 1 16 := by decide +kernel
theorem dX11_isName_16 : Dc cX11_isName 16 (.goto 4) 3 19 := by decide +kernel
theorem dX11_isName_19 : Dc cX11_isName 19 (.iconst 0) 1 20 := by decide +kernel
theorem dX11_isName_20 : Dc cX11_isName 20 (.istore_n 2) 1 21 := by decide +kernel
theorem dX11_isName_21 : Dc cX11_isName 21 (.iconst 0) 1 22 := by decide +kernel
theorem dX11_isName_22 : Dc cX11_isName 22 (.istore_n 3) 1 23 := by decide +kernel
theorem dX11_isName_23 : Dc cX11_isName 23 (.iload_n 3) 1 24 := by decide +kernel
theorem dX11_isName_24 : Dc cX11_isName 24 (.aload_n 0) 1 25 := by decide +kernel
theorem dX11_isName_25 : Dc cX11_isName 25 (.getfield 69) 3 28 := by decide +kernel
theorem dX11_isName_28 : Dc cX11_isName 28 (.if_icmp .ge 38) 3 31 := by decide +kernel
theorem dX11_isName_31 : Dc cX11_isName 31 (.iload_n 2) 1 32 := by decide +kernel
theorem dX11_isName_32 : Dc cX11_isName 32 (.ifCond .eq 26) 3 35 := by decide +kernel
theorem dX11_isName_35 : Dc cX11_isName 35 (.aload_n 0) 1 36 := by decide +kernel
theorem dX11_isName_36 : Dc cX11_isName 36 (.getfield 13) 3 39 := by decide +kernel
theorem dX11_isName_39 : Dc cX11_isName 39 (.iload_n 1) 1 40 := by decide +kernel
theorem dX11_isName_40 : Dc cX11_isName 40 (.iconst 2) 1 41 := by decide +kernel
theorem dX11_isName_41 : Dc cX11_isName 41 (.iadd) 1 42 := by decide +kernel
theorem dX11_isName_42 : Dc cX11_isName 42 (.iload_n 3) 1 43 := by decide +kernel
theorem dX11_isName_43 : Dc cX11_isName 43 (.iadd) 1 44 := by decide +kernel
theorem dX11_isName_44 : Dc cX11_isName 44 (.iaload) 1 45 := by decide +kernel
theorem dX11_isName_45 : Dc cX11_isName 45 (.aload_n 0) 1 46 := by decide +kernel
theorem dX11_isName_46 : Dc cX11_isName 46 (.getfield 26) 3 49 := by decide +kernel
theorem dX11_isName_49 : Dc cX11_isName 49 (.iload_n 3) 1 50 := by decide +kernel
theorem dX11_isName_50 : Dc cX11_isName 50 (.iaload) 1 51 := by decide +kernel
theorem dX11_isName_51 : Dc cX11_isName 51 (.if_icmp .ne 7) 3 54 := by decide +kernel
theorem dX11_isName_54 : Dc cX11_isName 54 (.iconst 1) 1 55 := by decide +kernel
theorem dX11_isName_55 : Dc cX11_isName 55 (.goto 4) 3 58 := by decide +kernel
theorem dX11_isName_58 : Dc cX11_isName 58 (.iconst 0) 1 59 := by decide +kernel
theorem dX11_isName_59 : Dc cX11_isName 59 (.istore_n 2) 1 60 := by decide +kernel
theorem dX11_isName_60 : Dc cX11_isName 60 (.iinc 3 1) 3 63 := by decide +kernel
theorem dX11_isName_63 : Dc cX11_isName 63 (.goto (-40)) 3 66 := by decide +kernel
theorem dX11_isName_66 : Dc cX11_isName 66 (.iload_n 2) 1 67 := by decide +kernel
theorem dX11_isName_67 : Dc cX11_isName 67 (.ireturn) 1 68 := by decide +kernel
theorem dX11_find_0 : Dc cX11_find 0 (.iconst 2) 1 1 := by decide +kernel
theorem dX11_find_1 : Dc cX11_find 1 (.istore_n 3) 1 2 := by decide +kernel
theorem dX11_find_2 : Dc cX11_find 2 (.iload_n 3) 1 3 := by decide +kernel
theorem dX11_find_3 : Dc cX11_find 3 (.iload_n 2) 1 4 := by decide +kernel
theorem dX11_find_4 : Dc cX11_find 4 (.if_icmp .ge 38) 3 7 := by decide +kernel
theorem dX11_find_7 : Dc cX11_find 7 (.aload_n 0) 1 8 := by decide +kernel
theorem dX11_find_8 : Dc cX11_find 8 (.getfield 13) 3 11 := by decide +kernel
theorem dX11_find_11 : Dc cX11_find 11 (.aload_n 0) 1 12 := by decide +kernel
theorem dX11_find_12 : Dc cX11_find 12 (.iload_n 1) 1 13 := by decide +kernel
theorem dX11_find_13 : Dc cX11_find 13 (.iload_n 3) 1 14 := by decide +kernel
theorem dX11_find_14 : Dc cX11_find 14 (.invokevirtual 73) 3 17 := by decide +kernel
theorem dX11_find_17 : Dc cX11_find 17 (.iaload) 1 18 := by decide +kernel
theorem dX11_find_18 : Dc cX11_find 18 (.ifCond .eq 18) 3 21 := by decide +kernel
theorem dX11_find_21 : Dc cX11_find 21 (.aload_n 0) 1 22 := by decide +kernel
theorem dX11_find_22 : Dc cX11_find 22 (.aload_n 0) 1 23 := by decide +kernel
theorem dX11_find_23 : Dc cX11_find 23 (.iload_n 1) 1 24 := by decide +kernel
theorem dX11_find_24 : Dc cX11_find 24 (.iload_n 3) 1 25 := by decide +kernel
theorem dX11_find_25 : Dc cX11_find 25 (.invokevirtual 73) 3 28 := by decide +kernel
theorem dX11_find_28 : Dc cX11_find 28 (.invokevirtual 76) 3 31 := by decide +kernel
theorem dX11_find_31 : Dc cX11_find 31 (.ifCond .eq 5) 3 34 := by decide +kernel
theorem dX11_find_34 : Dc cX11_find 34 (.iload_n 3) 1 35 := by decide +kernel
theorem dX11_find_35 : Dc cX11_find 35 (.ireturn) 1 36 := by decide +kernel
theorem dX11_find_36 : Dc cX11_find 36 (.iinc 3 1) 3 39 := by decide +kernel
theorem dX11_find_39 : Dc cX11_find 39 (.goto (-37)) 3 42 := by decide +kernel
theorem dX11_find_42 : Dc cX11_find 42 (.iconst (-1)) 1 43 := by decide +kernel
theorem dX11_find_43 : Dc cX11_find 43 (.ireturn) 1 44 := by decide +kernel
theorem dX11_isValid_0 : Dc cX11_isValid 0 (.aload_n 0) 1 1 := by decide +kernel
theorem dX11_isValid_1 : Dc cX11_isValid 1 (.iload_n 1) 1 2 := by decide +kernel
theorem dX11_isValid_2 : Dc cX11_isValid 2 (.iload_n 2) 1 3 := by decide +kernel
theorem dX11_isValid_3 : Dc cX11_isValid 3 (.invokevirtual 73) 3 6 := by decide +kernel
theorem dX11_isValid_6 : Dc cX11_isValid 6 (.istore_n 3) 1 7 := by decide +kernel
theorem dX11_isValid_7 : Dc cX11_isValid 7 (.aload_n 0) 1 8 := by decide +kernel
theorem dX11_isValid_8 : Dc cX11_isValid 8 (.getfield 13) 3 11 := by decide +kernel
theorem dX11_isValid_11 : Dc cX11_isValid 11 (.iload_n 3) 1 12 := by decide +kernel
theorem dX11_isValid_12 : Dc cX11_isValid 12 (.iaload) 1 13 := by decide +kernel
theorem dX11_isValid_13 : Dc cX11_isValid 13 (.istore 4) 2 15 := by decide +kernel
theorem dX11_isValid_15 : Dc cX11_isValid 15 (.aload_n 0) 1 16 := by decide +kernel
theorem dX11_isValid_16 : Dc cX11_isValid 16 (.getfield 13) 3 19 := by decide +kernel
theorem dX11_isValid_19 : Dc cX11_isValid 19 (.iload_n 3) 1 20 := by decide +kernel
theorem dX11_isValid_20 : Dc cX11_isValid 20 (.iconst 1) 1 21 := by decide +kernel
theorem dX11_isValid_21 : Dc cX11_isValid 21 (.iadd) 1 22 := by decide +kernel
theorem dX11_isValid_22 : Dc cX11_isValid 22 (.iaload) 1 23 := by decide +kernel
theorem dX11_isValid_23 : Dc cX11_isValid 23 (.istore 5) 2 25 := by decide +kernel
theorem dX11_isValid_25 : Dc cX11_isValid 25 (.iload 4) 2 27 := by decide +kernel
theorem dX11_isValid_27 : Dc cX11_isValid 27 (.iconst 3) 1 28 := by decide +kernel
theorem dX11_isValid_28 : Dc cX11_isValid 28 (.if_icmp .lt 50) 3 31 := by decide +kernel
theorem dX11_isValid_31 : Dc cX11_isValid 31 (.iload 4) 2 33 := by decide +kernel
theorem dX11_isValid_33 : Dc cX11_isValid 33 (.bipush 32) 2 35 := by decide +kernel
theorem dX11_isValid_35 : Dc cX11_isValid 35 (.if_icmp .ge 43) 3 38 := by decide +kernel
theorem dX11_isValid_38 : Dc cX11_isValid 38 (.aload_n 0) 1 39 := by decide +kernel
theorem dX11_isValid_39 : Dc cX11_isValid 39 (.iload 4) 2 41 := by decide +kernel
theorem dX11_isValid_41 : Dc cX11_isValid 41 (.invokevirtual 62) 3 44 := by decide +kernel
theorem dX11_isValid_44 : Dc cX11_isValid 44 (.ifCond .eq 34) 3 47 := by decide +kernel
theorem dX11_isValid_47 : Dc cX11_isValid 47 (.iload 5) 2 49 := by decide +kernel
theorem dX11_isValid_49 : Dc cX11_isValid 49 (.iconst 1) 1 50 := by decide +kernel
theorem dX11_isValid_50 : Dc cX11_isValid 50 (.if_icmp .lt 28) 3 53 := by decide +kernel
theorem dX11_isValid_53 : Dc cX11_isValid 53 (.iload 5) 2 55 := by decide +kernel
theorem dX11_isValid_55 : Dc cX11_isValid 55 (.bipush 14) 2 57 := by decide +kernel
theorem dX11_isValid_57 : Dc cX11_isValid 57 (.if_icmp .gt 21) 3 60 := by decide +kernel
theorem dX11_isValid_60 : Dc cX11_isValid 60 (.aload_n 0) 1 61 := by decide +kernel
theorem dX11_isValid_61 : Dc cX11_isValid 61 (.iload_n 3) 1 62 := by decide +kernel
theorem dX11_isValid_62 : Dc cX11_isValid 62 (.iconst 2) 1 63 := by decide +kernel
theorem dX11_isValid_63 : Dc cX11_isValid 63 (.iadd) 1 64 := by decide +kernel
theorem dX11_isValid_64 : Dc cX11_isValid 64 (.iload 5) 2 66 := by decide +kernel
theorem dX11_isValid_66 : Dc cX11_isValid 66 (.iadd) 1 67 := by decide +kernel
theorem dX11_isValid_67 : Dc cX11_isValid 67 (.bipush 14) 2 69 := by decide +kernel
theorem dX11_isValid_69 : Dc cX11_isValid 69 (.iload 5) 2 71 := by decide +kernel
theorem dX11_isValid_71 : Dc cX11_isValid 71 (.isub) 1 72 := by decide +kernel
theorem dX11_isValid_72 : Dc cX11_isValid 72 (.invokevirtual 48) 3 75 := by decide +kernel
theorem dX11_isValid_75 : Dc cX11_isValid 75 (.ifCond .ne 5) 3 78 := by decide +kernel
theorem dX11_isValid_78 : Dc cX11_isValid 78 (.iconst 0) 1 79 := by decide +kernel
theorem dX11_isValid_79 : Dc cX11_isValid 79 (.ireturn) 1 80 := by decide +kernel
theorem dX11_isValid_80 : Dc cX11_isValid 80 (.aload_n 0) 1 81 := by decide +kernel
theorem dX11_isValid_81 : Dc cX11_isValid 81 (.iload 5) 2 83 := by decide +kernel
theorem dX11_isValid_83 : Dc cX11_isValid 83 (.putfield 69) 3 86 := by decide +kernel
theorem dX11_isValid_86 : Dc cX11_isValid 86 (.iconst 1) 1 87 := by decide +kernel
theorem dX11_isValid_87 : Dc cX11_isValid 87 (.istore 6) 2 89 := by decide +kernel
theorem dX11_isValid_89 : Dc cX11_isValid 89 (.iload 5) 2 91 := by decide +kernel
theorem dX11_isValid_91 : Dc cX11_isValid 91 (.iconst 3) 1 92 := by decide +kernel
theorem dX11_isValid_92 : Dc cX11_isValid 92 (.if_icmp .ge 7) 3 95 := by decide +kernel
theorem dX11_isValid_95 : Dc cX11_isValid 95 (.iconst 1) 1 96 := by decide +kernel
theorem dX11_isValid_96 : Dc cX11_isValid 96 (.goto 4) 3 99 := by decide +kernel
theorem dX11_isValid_99 : Dc cX11_isValid 99 (.iconst 0) 1 100 := by decide +kernel
theorem dX11_isValid_100 : Dc cX11_isValid 100 (.istore 7) 2 102 := by decide +kernel
theorem dX11_isValid_102 : Dc cX11_isValid 102 (.iconst 0) 1 103 := by decide +kernel
theorem dX11_isValid_103 : Dc cX11_isValid 103 (.istore 8) 2 105 := by decide +kernel
theorem dX11_isValid_105 : Dc cX11_isValid 105 (.iload 8) 2 107 := by decide +kernel
theorem dX11_isValid_107 : Dc cX11_isValid 107 (.iload 5) 2 109 := by decide +kernel
theorem dX11_isValid_109 : Dc cX11_isValid 109 (.if_icmp .ge 85) 3 112 := by decide +kernel
theorem dX11_isValid_112 : Dc cX11_isValid 112 (.aload_n 0) 1 113 := by decide +kernel
theorem dX11_isValid_113 : Dc cX11_isValid 113 (.getfield 26) 3 116 := by decide +kernel
theorem dX11_isValid_116 : Dc cX11_isValid 116 (.iload 8) 2 118 := by decide +kernel
theorem dX11_isValid_118 : Dc cX11_isValid 118 (.aload_n 0) 1 119 := by decide +kernel
theorem dX11_isValid_119 : Dc cX11_isValid 119 (.getfield 13) 3 122 := by decide +kernel
theorem dX11_isValid_122 : Dc cX11_isValid 122 (.iload_n 3) 1 123 := by decide +kernel
theorem dX11_isValid_123 : Dc cX11_isValid 123 (.iconst 2) 1 124 := by decide +kernel
theorem dX11_isValid_124 : Dc cX11_isValid 124 (.iadd) 1 125 := by decide +kernel
theorem dX11_isValid_125 : Dc cX11_isValid 125 (.iload 8) 2 127 := by decide +kernel
theorem dX11_isValid_127 : Dc cX11_isValid 127 (.iadd) 1 128 := by decide +kernel
theorem dX11_isValid_128 : Dc cX11_isValid 128 (.iaload) 1 129 := by decide +kernel
theorem dX11_isValid_129 : Dc cX11_isValid 129 (.iastore) 1 130 := by decide +kernel
theorem dX11_isValid_130 : Dc cX11_isValid 130 (.iload 6) 2 132 := by decide +kernel
theorem dX11_isValid_132 : Dc cX11_isValid 132 (.ifCond .eq 29) 3 135 := by decide +kernel
theorem dX11_isValid_135 : Dc cX11_isValid 135 (.aload_n 0) 1 136 := by decide +kernel
theorem dX11_isValid_136 : Dc cX11_isValid 136 (.getfield 26) 3 139 := by decide +kernel
theorem dX11_isValid_139 : Dc cX11_isValid 139 (.iload 8) 2 141 := by decide +kernel
theorem dX11_isValid_141 : Dc cX11_isValid 141 (.iaload) 1 142 := by decide +kernel
theorem dX11_isValid_142 : Dc cX11_isValid 142 (.ifCond .eq 19) 3 145 := by decide +kernel
theorem dX11_isValid_145 : Dc cX11_isValid 145 (.aload_n 0) 1 146 := by decide +kernel
theorem dX11_isValid_146 : Dc cX11_isValid 146 (.getfield 26) 3 149 := by decide +kernel
theorem dX11_isValid_149 : Dc cX11_isValid 149 (.iload 8) 2 151 := by decide +kernel
theorem dX11_isValid_151 : Dc cX11_isValid 151 (.iaload) 1 152 := by decide +kernel
theorem dX11_isValid_152 : Dc cX11_isValid 152 (.bipush 47) 2 154 := by decide +kernel
theorem dX11_isValid_154 : Dc cX11_isValid 154 (.if_icmp .eq 7) 3 157 := by decide +kernel
theorem dX11_isValid_157 : Dc cX11_isValid 157 (.iconst 1) 1 158 := by decide +kernel
theorem dX11_isValid_158 : Dc cX11_isValid 158 (.goto 4) 3 161 := by decide +kernel
theorem dX11_isValid_161 : Dc cX11_isValid 161 (.iconst 0) 1 162 := by decide +kernel
theorem dX11_isValid_162 : Dc cX11_isValid 162 (.istore 6) 2 164 := by decide +kernel
theorem dX11_isValid_164 : Dc cX11_isValid 164 (.iload 7) 2 166 := by decide +kernel
theorem dX11_isValid_166 : Dc cX11_isValid 166 (.ifCond .eq 19) 3 169 := by decide +kernel
theorem dX11_isValid_169 : Dc cX11_isValid 169 (.aload_n 0) 1 170 := by decide +kernel
theorem dX11_isValid_170 : Dc cX11_isValid 170 (.getfield 26) 3 173 := by decide +kernel
theorem dX11_isValid_173 : Dc cX11_isValid 173 (.iload 8) 2 175 := by decide +kernel
theorem dX11_isValid_175 : Dc cX11_isValid 175 (.iaload) 1 176 := by decide +kernel
theorem dX11_isValid_176 : Dc cX11_isValid 176 (.bipush 46) 2 178 := by decide +kernel
theorem dX11_isValid_178 : Dc cX11_isValid 178 (.if_icmp .ne 7) 3 181 := by decide +kernel
theorem dX11_isValid_181 : Dc cX11_isValid 181 (.iconst 1) 1 182 := by decide +kernel
theorem dX11_isValid_182 : Dc cX11_isValid 182 (.goto 4) 3 185 := by decide +kernel
theorem dX11_isValid_185 : Dc cX11_isValid 185 (.iconst 0) 1 186 := by decide +kernel
theorem dX11_isValid_186 : Dc cX11_isValid 186 (.istore 7) 2 188 := by decide +kernel
theorem dX11_isValid_188 : Dc cX11_isValid 188 (.iinc 8 1) 3 191 := by decide +kernel
theorem dX11_isValid_191 : Dc cX11_isValid 191 (.goto (-86)) 3 194 := by decide +kernel
theorem dX11_isValid_194 : Dc cX11_isValid 194 (.iload 6) 2 196 := by decide +kernel
theorem dX11_isValid_196 : Dc cX11_isValid 196 (.ifCond .eq 22) 3 199 := by decide +kernel
theorem dX11_isValid_199 : Dc cX11_isValid 199 (.iload 7) 2 201 := by decide +kernel
theorem dX11_isValid_201 : Dc cX11_isValid 201 (.ifCond .ne 17) 3 204 := by decide +kernel
theorem dX11_isValid_204 : Dc cX11_isValid 204 (.aload_n 0) 1 205 := by decide +kernel
theorem dX11_isValid_205 : Dc cX11_isValid 205 (.iload_n 1) 1 206 := by decide +kernel
theorem dX11_isValid_206 : Dc cX11_isValid 206 (.iload_n 2) 1 207 := by decide +kernel
theorem dX11_isValid_207 : Dc cX11_isValid 207 (.invokevirtual 79) 3 210 := by decide +kernel
theorem dX11_isValid_210 : Dc cX11_isValid 210 (.iconst (-1)) 1 211 := by decide +kernel
theorem dX11_isValid_211 : Dc cX11_isValid 211 (.if_icmp .ne 7) 3 214 := by decide +kernel
theorem dX11_isValid_214 : Dc cX11_isValid 214 (.iconst 1) 1 215 := by decide +kernel
theorem dX11_isValid_215 : Dc cX11_isValid 215 (.goto 4) 3 218 := by decide +kernel
theorem dX11_isValid_218 : Dc cX11_isValid 218 (.iconst 0) 1 219 := by decide +kernel
theorem dX11_isValid_219 : Dc cX11_isValid 219 (.ireturn) 1 220 := by decide +kernel
theorem dX11_lostName_0 : Dc cX11_lostName 0 (.ldc 82) 2 2 := by decide +kernel
theorem dX11_lostName_2 : Dc cX11_lostName 2 (.astore_n 1) 1 3 := by decide +kernel
theorem dX11_lostName_3 : Dc cX11_lostName 3 (.aload_n 0) 1 4 := by decide +kernel
theorem dX11_lostName_4 : Dc cX11_lostName 4 (.bipush 10) 2 6 := by decide +kernel
theorem dX11_lostName_6 : Dc cX11_lostName 6 (.putfield 69) 3 9 := by decide +kernel
theorem dX11_lostName_9 : Dc cX11_lostName 9 (.iconst 0) 1 10 := by decide +kernel
theorem dX11_lostName_10 : Dc cX11_lostName 10 (.istore_n 2) 1 11 := by decide +kernel
theorem dX11_lostName_11 : Dc cX11_lostName 11 (.iload_n 2) 1 12 := by decide +kernel
theorem dX11_lostName_12 : Dc cX11_lostName 12 (.bipush 10) 2 14 := by decide +kernel
theorem dX11_lostName_14 : Dc cX11_lostName 14 (.if_icmp .ge 20) 3 17 := by decide +kernel
theorem dX11_lostName_17 : Dc cX11_lostName 17 (.aload_n 0) 1 18 := by decide +kernel
theorem dX11_lostName_18 : Dc cX11_lostName 18 (.getfield 26) 3 21 := by decide +kernel
theorem dX11_lostName_21 : Dc cX11_lostName 21 (.iload_n 2) 1 22 := by decide +kernel
theorem dX11_lostName_22 : Dc cX11_lostName 22 (.aload_n 1) 1 23 := by decide +kernel
theorem dX11_lostName_23 : Dc cX11_lostName 23 (.iload_n 2) 1 24 := by decide +kernel
theorem dX11_lostName_24 : Dc cX11_lostName 24 (.invokevirtual 84) 3 27 := by decide +kernel
theorem dX11_lostName_27 : Dc cX11_lostName 27 (.iastore) 1 28 := by decide +kernel
theorem dX11_lostName_28 : Dc cX11_lostName 28 (.iinc 2 1) 3 31 := by decide +kernel
theorem dX11_lostName_31 : Dc cX11_lostName 31 (.goto (-20)) 3 34 := by decide +kernel
theorem dX11_lostName_34 : Dc cX11_lostName 34 (.return_) 1 35 := by decide +kernel
theorem dX11_replay_0 : Dc cX11_replay 0 (.aload_n 0) 1 1 := by decide +kernel
theorem dX11_replay_1 : Dc cX11_replay 1 (.getfield 13) 3 4 := by decide +kernel
theorem dX11_replay_4 : Dc cX11_replay 4 (.bipush 68) 2 6 := by decide +kernel
theorem dX11_replay_6 : Dc cX11_replay 6 (.iaload) 1 7 := by decide +kernel
theorem dX11_replay_7 : Dc cX11_replay 7 (.istore_n 1) 1 8 := by decide +kernel
theorem dX11_replay_8 : Dc cX11_replay 8 (.aload_n 0) 1 9 := by decide +kernel
theorem dX11_replay_9 : Dc cX11_replay 9 (.bipush 64) 2 11 := by decide +kernel
theorem dX11_replay_11 : Dc cX11_replay 11 (.bipush 74) 2 13 := by decide +kernel
theorem dX11_replay_13 : Dc cX11_replay 13 (.bipush 82) 2 15 := by decide +kernel
theorem dX11_replay_15 : Dc cX11_replay 15 (.bipush 78) 2 17 := by decide +kernel
theorem dX11_replay_17 : Dc cX11_replay 17 (.bipush 76) 2 19 := by decide +kernel
theorem dX11_replay_19 : Dc cX11_replay 19 (.invokevirtual 30) 3 22 := by decide +kernel
theorem dX11_replay_22 : Dc cX11_replay 22 (.ifCond .eq 17) 3 25 := by decide +kernel
theorem dX11_replay_25 : Dc cX11_replay 25 (.iload_n 1) 1 26 := by decide +kernel
theorem dX11_replay_26 : Dc cX11_replay 26 (.iconst 1) 1 27 := by decide +kernel
theorem dX11_replay_27 : Dc cX11_replay 27 (.if_icmp .lt 12) 3 30 := by decide +kernel
theorem dX11_replay_30 : Dc cX11_replay 30 (.iload_n 1) 1 31 := by decide +kernel
theorem dX11_replay_31 : Dc cX11_replay 31 (.iconst 5) 1 32 := by decide +kernel
theorem dX11_replay_32 : Dc cX11_replay 32 (.if_icmp .gt 7) 3 35 := by decide +kernel
theorem dX11_replay_35 : Dc cX11_replay 35 (.iconst 1) 1 36 := by decide +kernel
theorem dX11_replay_36 : Dc cX11_replay 36 (.goto 4) 3 39 := by decide +kernel
theorem dX11_replay_39 : Dc cX11_replay 39 (.iconst 0) 1 40 := by decide +kernel
theorem dX11_replay_40 : Dc cX11_replay 40 (.istore_n 2) 1 41 := by decide +kernel
theorem dX11_replay_41 : Dc cX11_replay 41 (.iload_n 2) 1 42 := by decide +kernel
theorem dX11_replay_42 : Dc cX11_replay 42 (.ifCond .eq 144) 3 45 := by decide +kernel
theorem dX11_replay_45 : Dc cX11_replay 45 (.aload_n 0) 1 46 := by decide +kernel
theorem dX11_replay_46 : Dc cX11_replay 46 (.bipush 69) 2 48 := by decide +kernel
theorem dX11_replay_48 : Dc cX11_replay 48 (.iload_n 1) 1 49 := by decide +kernel
theorem dX11_replay_49 : Dc cX11_replay 49 (.iadd) 1 50 := by decide +kernel
theorem dX11_replay_50 : Dc cX11_replay 50 (.bipush 57) 2 52 := by decide +kernel
theorem dX11_replay_52 : Dc cX11_replay 52 (.iload_n 1) 1 53 := by decide +kernel
theorem dX11_replay_53 : Dc cX11_replay 53 (.isub) 1 54 := by decide +kernel
theorem dX11_replay_54 : Dc cX11_replay 54 (.invokevirtual 48) 3 57 := by decide +kernel
theorem dX11_replay_57 : Dc cX11_replay 57 (.ifCond .eq 39) 3 60 := by decide +kernel
theorem dX11_replay_60 : Dc cX11_replay 60 (.aload_n 0) 1 61 := by decide +kernel
theorem dX11_replay_61 : Dc cX11_replay 61 (.bipush 126) 2 63 := by decide +kernel
theorem dX11_replay_63 : Dc cX11_replay 63 (.invokevirtual 34) 3 66 := by decide +kernel
theorem dX11_replay_66 : Dc cX11_replay 66 (.aload_n 0) 1 67 := by decide +kernel
theorem dX11_replay_67 : Dc cX11_replay 67 (.bipush 64) 2 69 := by decide +kernel
theorem dX11_replay_69 : Dc cX11_replay 69 (.bipush 62) 2 71 := by decide +kernel
theorem dX11_replay_71 : Dc cX11_replay 71 (.invokevirtual 38) 3 74 := by decide +kernel
theorem dX11_replay_74 : Dc cX11_replay 74 (.aload_n 0) 1 75 := by decide +kernel
theorem dX11_replay_75 : Dc cX11_replay 75 (.sipush 128) 3 78 := by decide +kernel
theorem dX11_replay_78 : Dc cX11_replay 78 (.iload_n 1) 1 79 := by decide +kernel
theorem dX11_replay_79 : Dc cX11_replay 79 (.bipush 64) 2 81 := by decide +kernel
theorem dX11_replay_81 : Dc cX11_replay 81 (.imul) 1 82 := by decide +kernel
theorem dX11_replay_82 : Dc cX11_replay 82 (.invokevirtual 38) 3 85 := by decide +kernel
theorem dX11_replay_85 : Dc cX11_replay 85 (.iadd) 1 86 := by decide +kernel
theorem dX11_replay_86 : Dc cX11_replay 86 (.ldc 29) 2 88 := by decide +kernel
theorem dX11_replay_88 : Dc cX11_replay 88 (.irem) 1 89 := by decide +kernel
theorem dX11_replay_89 : Dc cX11_replay 89 (.if_icmp .ne 7) 3 92 := by decide +kernel
theorem dX11_replay_92 : Dc cX11_replay 92 (.iconst 1) 1 93 := by decide +kernel
theorem dX11_replay_93 : Dc cX11_replay 93 (.goto 4) 3 96 := by decide +kernel
theorem dX11_replay_96 : Dc cX11_replay 96 (.iconst 0) 1 97 := by decide +kernel
theorem dX11_replay_97 : Dc cX11_replay 97 (.istore_n 2) 1 98 := by decide +kernel
theorem dX11_replay_98 : Dc cX11_replay 98 (.iconst 0) 1 99 := by decide +kernel
theorem dX11_replay_99 : Dc cX11_replay 99 (.istore_n 3) 1 100 := by decide +kernel
theorem dX11_replay_100 : Dc cX11_replay 100 (.iload_n 3) 1 101 := by decide +kernel
theorem dX11_replay_101 : Dc cX11_replay 101 (.iload_n 1) 1 102 := by decide +kernel
theorem dX11_replay_102 : Dc cX11_replay 102 (.if_icmp .ge 84) 3 105 := by decide +kernel
theorem dX11_replay_105 : Dc cX11_replay 105 (.aload_n 0) 1 106 := by decide +kernel
theorem dX11_replay_106 : Dc cX11_replay 106 (.getfield 13) 3 109 := by decide +kernel
theorem dX11_replay_109 : Dc cX11_replay 109 (.bipush 69) 2 111 := by decide +kernel
theorem dX11_replay_111 : Dc cX11_replay 111 (.iload_n 3) 1 112 := by decide +kernel
theorem dX11_replay_112 : Dc cX11_replay 112 (.iadd) 1 113 := by decide +kernel
theorem dX11_replay_113 : Dc cX11_replay 113 (.iaload) 1 114 := by decide +kernel
theorem dX11_replay_114 : Dc cX11_replay 114 (.istore 4) 2 116 := by decide +kernel
theorem dX11_replay_116 : Dc cX11_replay 116 (.iload_n 2) 1 117 := by decide +kernel
theorem dX11_replay_117 : Dc cX11_replay 117 (.ifCond .eq 21) 3 120 := by decide +kernel
theorem dX11_replay_120 : Dc cX11_replay 120 (.iload 4) 2 122 := by decide +kernel
theorem dX11_replay_122 : Dc cX11_replay 122 (.bipush 7) 2 124 := by decide +kernel
theorem dX11_replay_124 : Dc cX11_replay 124 (.if_icmp .lt 14) 3 127 := by decide +kernel
theorem dX11_replay_127 : Dc cX11_replay 127 (.iload 4) 2 129 := by decide +kernel
theorem dX11_replay_129 : Dc cX11_replay 129 (.bipush 63) 2 131 := by decide +kernel
theorem dX11_replay_131 : Dc cX11_replay 131 (.if_icmp .ge 7) 3 134 := by decide +kernel
theorem dX11_replay_134 : Dc cX11_replay 134 (.iconst 1) 1 135 := by decide +kernel
theorem dX11_replay_135 : Dc cX11_replay 135 (.goto 4) 3 138 := by decide +kernel
theorem dX11_replay_138 : Dc cX11_replay 138 (.iconst 0) 1 139 := by decide +kernel
theorem dX11_replay_139 : Dc cX11_replay 139 (.istore_n 2) 1 140 := by decide +kernel
theorem dX11_replay_140 : Dc cX11_replay 140 (.iconst 0) 1 141 := by decide +kernel
theorem dX11_replay_141 : Dc cX11_replay 141 (.istore 5) 2 143 := by decide +kernel
theorem dX11_replay_143 : Dc cX11_replay 143 (.iload 5) 2 145 := by decide +kernel
theorem dX11_replay_145 : Dc cX11_replay 145 (.iload_n 3) 1 146 := by decide +kernel
theorem dX11_replay_146 : Dc cX11_replay 146 (.if_icmp .ge 34) 3 149 := by decide +kernel
theorem dX11_replay_149 : Dc cX11_replay 149 (.iload_n 2) 1 150 := by decide +kernel
theorem dX11_replay_150 : Dc cX11_replay 150 (.ifCond .eq 22) 3 153 := by decide +kernel
theorem dX11_replay_153 : Dc cX11_replay 153 (.aload_n 0) 1 154 := by decide +kernel
theorem dX11_replay_154 : Dc cX11_replay 154 (.getfield 13) 3 157 := by decide +kernel
theorem dX11_replay_157 : Dc cX11_replay 157 (.bipush 69) 2 159 := by decide +kernel
theorem dX11_replay_159 : Dc cX11_replay 159 (.iload 5) 2 161 := by decide +kernel
theorem dX11_replay_161 : Dc cX11_replay 161 (.iadd) 1 162 := by decide +kernel
theorem dX11_replay_162 : Dc cX11_replay 162 (.iaload) 1 163 := by decide +kernel
theorem dX11_replay_163 : Dc cX11_replay 163 (.iload 4) 2 165 := by decide +kernel
theorem dX11_replay_165 : Dc cX11_replay 165 (.if_icmp .eq 7) 3 168 := by decide +kernel
theorem dX11_replay_168 : Dc cX11_replay 168 (.iconst 1) 1 169 := by decide +kernel
theorem dX11_replay_169 : Dc cX11_replay 169 (.goto 4) 3 172 := by decide +kernel
theorem dX11_replay_172 : Dc cX11_replay 172 (.iconst 0) 1 173 := by decide +kernel
theorem dX11_replay_173 : Dc cX11_replay 173 (.istore_n 2) 1 174 := by decide +kernel
theorem dX11_replay_174 : Dc cX11_replay 174 (.iinc 5 1) 3 177 := by decide +kernel
theorem dX11_replay_177 : Dc cX11_replay 177 (.goto (-34)) 3 180 := by decide +kernel
theorem dX11_replay_180 : Dc cX11_replay 180 (.iinc 3 1) 3 183 := by decide +kernel
theorem dX11_replay_183 : Dc cX11_replay 183 (.goto (-83)) 3 186 := by decide +kernel
theorem dX11_replay_186 : Dc cX11_replay 186 (.iconst 0) 1 187 := by decide +kernel
theorem dX11_replay_187 : Dc cX11_replay 187 (.istore_n 3) 1 188 := by decide +kernel
theorem dX11_replay_188 : Dc cX11_replay 188 (.iload_n 3) 1 189 := by decide +kernel
theorem dX11_replay_189 : Dc cX11_replay 189 (.iload_n 1) 1 190 := by decide +kernel
theorem dX11_replay_190 : Dc cX11_replay 190 (.if_icmp .ge 67) 3 193 := by decide +kernel
theorem dX11_replay_193 : Dc cX11_replay 193 (.iload_n 2) 1 194 := by decide +kernel
theorem dX11_replay_194 : Dc cX11_replay 194 (.ifCond .eq 63) 3 197 := by decide +kernel
theorem dX11_replay_197 : Dc cX11_replay 197 (.aload_n 0) 1 198 := by decide +kernel
theorem dX11_replay_198 : Dc cX11_replay 198 (.getfield 13) 3 201 := by decide +kernel
theorem dX11_replay_201 : Dc cX11_replay 201 (.bipush 69) 2 203 := by decide +kernel
theorem dX11_replay_203 : Dc cX11_replay 203 (.iload_n 3) 1 204 := by decide +kernel
theorem dX11_replay_204 : Dc cX11_replay 204 (.iadd) 1 205 := by decide +kernel
theorem dX11_replay_205 : Dc cX11_replay 205 (.iaload) 1 206 := by decide +kernel
theorem dX11_replay_206 : Dc cX11_replay 206 (.istore 4) 2 208 := by decide +kernel
theorem dX11_replay_208 : Dc cX11_replay 208 (.iconst 0) 1 209 := by decide +kernel
theorem dX11_replay_209 : Dc cX11_replay 209 (.istore 5) 2 211 := by decide +kernel
theorem dX11_replay_211 : Dc cX11_replay 211 (.iload 5) 2 213 := by decide +kernel
theorem dX11_replay_213 : Dc cX11_replay 213 (.bipush 64) 2 215 := by decide +kernel
theorem dX11_replay_215 : Dc cX11_replay 215 (.if_icmp .ge 36) 3 218 := by decide +kernel
theorem dX11_replay_218 : Dc cX11_replay 218 (.aload_n 0) 1 219 := by decide +kernel
theorem dX11_replay_219 : Dc cX11_replay 219 (.getfield 13) 3 222 := by decide +kernel
theorem dX11_replay_222 : Dc cX11_replay 222 (.bipush 64) 2 224 := by decide +kernel
theorem dX11_replay_224 : Dc cX11_replay 224 (.iload 4) 2 226 := by decide +kernel
theorem dX11_replay_226 : Dc cX11_replay 226 (.imul) 1 227 := by decide +kernel
theorem dX11_replay_227 : Dc cX11_replay 227 (.iload 5) 2 229 := by decide +kernel
theorem dX11_replay_229 : Dc cX11_replay 229 (.iadd) 1 230 := by decide +kernel
theorem dX11_replay_230 : Dc cX11_replay 230 (.aload_n 0) 1 231 := by decide +kernel
theorem dX11_replay_231 : Dc cX11_replay 231 (.getfield 13) 3 234 := by decide +kernel
theorem dX11_replay_234 : Dc cX11_replay 234 (.bipush 64) 2 236 := by decide +kernel
theorem dX11_replay_236 : Dc cX11_replay 236 (.iconst 2) 1 237 := by decide +kernel
theorem dX11_replay_237 : Dc cX11_replay 237 (.iload_n 3) 1 238 := by decide +kernel
theorem dX11_replay_238 : Dc cX11_replay 238 (.iadd) 1 239 := by decide +kernel
theorem dX11_replay_239 : Dc cX11_replay 239 (.imul) 1 240 := by decide +kernel
theorem dX11_replay_240 : Dc cX11_replay 240 (.iload 5) 2 242 := by decide +kernel
theorem dX11_replay_242 : Dc cX11_replay 242 (.iadd) 1 243 := by decide +kernel
theorem dX11_replay_243 : Dc cX11_replay 243 (.iaload) 1 244 := by decide +kernel
theorem dX11_replay_244 : Dc cX11_replay 244 (.iastore) 1 245 := by decide +kernel
theorem dX11_replay_245 : Dc cX11_replay 245 (.iinc 5 1) 3 248 := by decide +kernel
theorem dX11_replay_248 : Dc cX11_replay 248 (.goto (-37)) 3 251 := by decide +kernel
theorem dX11_replay_251 : Dc cX11_replay 251 (.iinc 3 1) 3 254 := by decide +kernel
theorem dX11_replay_254 : Dc cX11_replay 254 (.goto (-66)) 3 257 := by decide +kernel
theorem dX11_replay_257 : Dc cX11_replay 257 (.aload_n 0) 1 258 := by decide +kernel
theorem dX11_replay_258 : Dc cX11_replay 258 (.bipush 64) 2 260 := by decide +kernel
theorem dX11_replay_260 : Dc cX11_replay 260 (.bipush 64) 2 262 := by decide +kernel
theorem dX11_replay_262 : Dc cX11_replay 262 (.invokevirtual 65) 3 265 := by decide +kernel
theorem dX11_replay_265 : Dc cX11_replay 265 (.return_) 1 266 := by decide +kernel
theorem dX11_inodes_0 : Dc cX11_inodes 0 (.iconst 0) 1 1 := by decide +kernel
theorem dX11_inodes_1 : Dc cX11_inodes 1 (.istore_n 1) 1 2 := by decide +kernel
theorem dX11_inodes_2 : Dc cX11_inodes 2 (.iload_n 1) 1 3 := by decide +kernel
theorem dX11_inodes_3 : Dc cX11_inodes 3 (.bipush 64) 2 5 := by decide +kernel
theorem dX11_inodes_5 : Dc cX11_inodes 5 (.if_icmp .ge 16) 3 8 := by decide +kernel
theorem dX11_inodes_8 : Dc cX11_inodes 8 (.aload_n 0) 1 9 := by decide +kernel
theorem dX11_inodes_9 : Dc cX11_inodes 9 (.getfield 16) 3 12 := by decide +kernel
theorem dX11_inodes_12 : Dc cX11_inodes 12 (.iload_n 1) 1 13 := by decide +kernel
theorem dX11_inodes_13 : Dc cX11_inodes 13 (.iconst 0) 1 14 := by decide +kernel
theorem dX11_inodes_14 : Dc cX11_inodes 14 (.bastore) 1 15 := by decide +kernel
theorem dX11_inodes_15 : Dc cX11_inodes 15 (.iinc 1 1) 3 18 := by decide +kernel
theorem dX11_inodes_18 : Dc cX11_inodes 18 (.goto (-16)) 3 21 := by decide +kernel
theorem dX11_inodes_21 : Dc cX11_inodes 21 (.aload_n 0) 1 22 := by decide +kernel
theorem dX11_inodes_22 : Dc cX11_inodes 22 (.iconst 0) 1 23 := by decide +kernel
theorem dX11_inodes_23 : Dc cX11_inodes 23 (.invokestatic 42) 3 26 := by decide +kernel
theorem dX11_inodes_26 : Dc cX11_inodes 26 (.bipush 16) 2 28 := by decide +kernel
theorem dX11_inodes_28 : Dc cX11_inodes 28 (.invokevirtual 65) 3 31 := by decide +kernel
theorem dX11_inodes_31 : Dc cX11_inodes 31 (.iconst 1) 1 32 := by decide +kernel
theorem dX11_inodes_32 : Dc cX11_inodes 32 (.istore_n 1) 1 33 := by decide +kernel
theorem dX11_inodes_33 : Dc cX11_inodes 33 (.iload_n 1) 1 34 := by decide +kernel
theorem dX11_inodes_34 : Dc cX11_inodes 34 (.bipush 32) 2 36 := by decide +kernel
theorem dX11_inodes_36 : Dc cX11_inodes 36 (.if_icmp .ge 27) 3 39 := by decide +kernel
theorem dX11_inodes_39 : Dc cX11_inodes 39 (.aload_n 0) 1 40 := by decide +kernel
theorem dX11_inodes_40 : Dc cX11_inodes 40 (.iload_n 1) 1 41 := by decide +kernel
theorem dX11_inodes_41 : Dc cX11_inodes 41 (.invokevirtual 90) 3 44 := by decide +kernel
theorem dX11_inodes_44 : Dc cX11_inodes 44 (.ifCond .ne 13) 3 47 := by decide +kernel
theorem dX11_inodes_47 : Dc cX11_inodes 47 (.aload_n 0) 1 48 := by decide +kernel
theorem dX11_inodes_48 : Dc cX11_inodes 48 (.iload_n 1) 1 49 := by decide +kernel
theorem dX11_inodes_49 : Dc cX11_inodes 49 (.invokestatic 42) 3 52 := by decide +kernel
theorem dX11_inodes_52 : Dc cX11_inodes 52 (.bipush 16) 2 54 := by decide +kernel
theorem dX11_inodes_54 : Dc cX11_inodes 54 (.invokevirtual 65) 3 57 := by decide +kernel
theorem dX11_inodes_57 : Dc cX11_inodes 57 (.iinc 1 1) 3 60 := by decide +kernel
theorem dX11_inodes_60 : Dc cX11_inodes 60 (.goto (-27)) 3 63 := by decide +kernel
theorem dX11_inodes_63 : Dc cX11_inodes 63 (.iconst 1) 1 64 := by decide +kernel
theorem dX11_inodes_64 : Dc cX11_inodes 64 (.istore_n 1) 1 65 := by decide +kernel
theorem dX11_inodes_65 : Dc cX11_inodes 65 (.iload_n 1) 1 66 := by decide +kernel
theorem dX11_inodes_66 : Dc cX11_inodes 66 (.iconst 2) 1 67 := by decide +kernel
theorem dX11_inodes_67 : Dc cX11_inodes 67 (.if_icmp .gt 22) 3 70 := by decide +kernel
theorem dX11_inodes_70 : Dc cX11_inodes 70 (.aload_n 0) 1 71 := by decide +kernel
theorem dX11_inodes_71 : Dc cX11_inodes 71 (.iload_n 1) 1 72 := by decide +kernel
theorem dX11_inodes_72 : Dc cX11_inodes 72 (.invokevirtual 62) 3 75 := by decide +kernel
theorem dX11_inodes_75 : Dc cX11_inodes 75 (.ifCond .ne 8) 3 78 := by decide +kernel
theorem dX11_inodes_78 : Dc cX11_inodes 78 (.aload_n 0) 1 79 := by decide +kernel
theorem dX11_inodes_79 : Dc cX11_inodes 79 (.iload_n 1) 1 80 := by decide +kernel
theorem dX11_inodes_80 : Dc cX11_inodes 80 (.invokevirtual 93) 3 83 := by decide +kernel
theorem dX11_inodes_83 : Dc cX11_inodes 83 (.iinc 1 1) 3 86 := by decide +kernel
theorem dX11_inodes_86 : Dc cX11_inodes 86 (.goto (-21)) 3 89 := by decide +kernel
theorem dX11_inodes_89 : Dc cX11_inodes 89 (.return_) 1 90 := by decide +kernel
theorem dX11_make_0 : Dc cX11_make 0 (.aload_n 0) 1 1 := by decide +kernel
theorem dX11_make_1 : Dc cX11_make 1 (.iconst 0) 1 2 := by decide +kernel
theorem dX11_make_2 : Dc cX11_make 2 (.invokevirtual 97) 3 5 := by decide +kernel
theorem dX11_make_5 : Dc cX11_make 5 (.istore_n 2) 1 6 := by decide +kernel
theorem dX11_make_6 : Dc cX11_make 6 (.bipush 31) 2 8 := by decide +kernel
theorem dX11_make_8 : Dc cX11_make 8 (.istore_n 3) 1 9 := by decide +kernel
theorem dX11_make_9 : Dc cX11_make 9 (.iload_n 3) 1 10 := by decide +kernel
theorem dX11_make_10 : Dc cX11_make 10 (.iconst 1) 1 11 := by decide +kernel
theorem dX11_make_11 : Dc cX11_make 11 (.if_icmp .le 38) 3 14 := by decide +kernel
theorem dX11_make_14 : Dc cX11_make 14 (.iload_n 2) 1 15 := by decide +kernel
theorem dX11_make_15 : Dc cX11_make 15 (.iconst (-1)) 1 16 := by decide +kernel
theorem dX11_make_16 : Dc cX11_make 16 (.if_icmp .ne 33) 3 19 := by decide +kernel
theorem dX11_make_19 : Dc cX11_make 19 (.aload_n 0) 1 20 := by decide +kernel
theorem dX11_make_20 : Dc cX11_make 20 (.iload_n 3) 1 21 := by decide +kernel
theorem dX11_make_21 : Dc cX11_make 21 (.invokevirtual 62) 3 24 := by decide +kernel
theorem dX11_make_24 : Dc cX11_make 24 (.ifCond .le 19) 3 27 := by decide +kernel
theorem dX11_make_27 : Dc cX11_make 27 (.aload_n 0) 1 28 := by decide +kernel
theorem dX11_make_28 : Dc cX11_make 28 (.iload_n 3) 1 29 := by decide +kernel
theorem dX11_make_29 : Dc cX11_make 29 (.invokestatic 42) 3 32 := by decide +kernel
theorem dX11_make_32 : Dc cX11_make 32 (.bipush 16) 2 34 := by decide +kernel
theorem dX11_make_34 : Dc cX11_make 34 (.invokevirtual 65) 3 37 := by decide +kernel
theorem dX11_make_37 : Dc cX11_make 37 (.aload_n 0) 1 38 := by decide +kernel
theorem dX11_make_38 : Dc cX11_make 38 (.iconst 0) 1 39 := by decide +kernel
theorem dX11_make_39 : Dc cX11_make 39 (.invokevirtual 97) 3 42 := by decide +kernel
theorem dX11_make_42 : Dc cX11_make 42 (.istore_n 2) 1 43 := by decide +kernel
theorem dX11_make_43 : Dc cX11_make 43 (.iinc 3 (-1)) 3 46 := by decide +kernel
theorem dX11_make_46 : Dc cX11_make 46 (.goto (-37)) 3 49 := by decide +kernel
theorem dX11_make_49 : Dc cX11_make 49 (.iload_n 2) 1 50 := by decide +kernel
theorem dX11_make_50 : Dc cX11_make 50 (.iconst (-1)) 1 51 := by decide +kernel
theorem dX11_make_51 : Dc cX11_make 51 (.if_icmp .eq 9) 3 54 := by decide +kernel
theorem dX11_make_54 : Dc cX11_make 54 (.aload_n 0) 1 55 := by decide +kernel
theorem dX11_make_55 : Dc cX11_make 55 (.iload_n 1) 1 56 := by decide +kernel
theorem dX11_make_56 : Dc cX11_make 56 (.iload_n 2) 1 57 := by decide +kernel
theorem dX11_make_57 : Dc cX11_make 57 (.invokevirtual 100) 3 60 := by decide +kernel
theorem dX11_make_60 : Dc cX11_make 60 (.return_) 1 61 := by decide +kernel
theorem dX11_directory_0 : Dc cX11_directory 0 (.aload_n 0) 1 1 := by decide +kernel
theorem dX11_directory_1 : Dc cX11_directory 1 (.getfield 13) 3 4 := by decide +kernel
theorem dX11_directory_4 : Dc cX11_directory 4 (.iload_n 1) 1 5 := by decide +kernel
theorem dX11_directory_5 : Dc cX11_directory 5 (.invokestatic 42) 3 8 := by decide +kernel
theorem dX11_directory_8 : Dc cX11_directory 8 (.iconst 2) 1 9 := by decide +kernel
theorem dX11_directory_9 : Dc cX11_directory 9 (.iastore) 1 10 := by decide +kernel
theorem dX11_directory_10 : Dc cX11_directory 10 (.aload_n 0) 1 11 := by decide +kernel
theorem dX11_directory_11 : Dc cX11_directory 11 (.iload_n 1) 1 12 := by decide +kernel
theorem dX11_directory_12 : Dc cX11_directory 12 (.invokestatic 42) 3 15 := by decide +kernel
theorem dX11_directory_15 : Dc cX11_directory 15 (.iconst 2) 1 16 := by decide +kernel
theorem dX11_directory_16 : Dc cX11_directory 16 (.iadd) 1 17 := by decide +kernel
theorem dX11_directory_17 : Dc cX11_directory 17 (.bipush 64) 2 19 := by decide +kernel
theorem dX11_directory_19 : Dc cX11_directory 19 (.invokevirtual 103) 3 22 := by decide +kernel
theorem dX11_directory_22 : Dc cX11_directory 22 (.aload_n 0) 1 23 := by decide +kernel
theorem dX11_directory_23 : Dc cX11_directory 23 (.getfield 13) 3 26 := by decide +kernel
theorem dX11_directory_26 : Dc cX11_directory 26 (.iload_n 1) 1 27 := by decide +kernel
theorem dX11_directory_27 : Dc cX11_directory 27 (.invokestatic 42) 3 30 := by decide +kernel
theorem dX11_directory_30 : Dc cX11_directory 30 (.iconst 4) 1 31 := by decide +kernel
theorem dX11_directory_31 : Dc cX11_directory 31 (.iadd) 1 32 := by decide +kernel
theorem dX11_directory_32 : Dc cX11_directory 32 (.iload_n 2) 1 33 := by decide +kernel
theorem dX11_directory_33 : Dc cX11_directory 33 (.iastore) 1 34 := by decide +kernel
theorem dX11_directory_34 : Dc cX11_directory 34 (.aload_n 0) 1 35 := by decide +kernel
theorem dX11_directory_35 : Dc cX11_directory 35 (.bipush 64) 2 37 := by decide +kernel
theorem dX11_directory_37 : Dc cX11_directory 37 (.iload_n 2) 1 38 := by decide +kernel
theorem dX11_directory_38 : Dc cX11_directory 38 (.imul) 1 39 := by decide +kernel
theorem dX11_directory_39 : Dc cX11_directory 39 (.bipush 64) 2 41 := by decide +kernel
theorem dX11_directory_41 : Dc cX11_directory 41 (.invokevirtual 65) 3 44 := by decide +kernel
theorem dX11_directory_44 : Dc cX11_directory 44 (.return_) 1 45 := by decide +kernel
theorem dX11_entries_0 : Dc cX11_entries 0 (.iconst 1) 1 1 := by decide +kernel
theorem dX11_entries_1 : Dc cX11_entries 1 (.istore_n 1) 1 2 := by decide +kernel
theorem dX11_entries_2 : Dc cX11_entries 2 (.iload_n 1) 1 3 := by decide +kernel
theorem dX11_entries_3 : Dc cX11_entries 3 (.bipush 32) 2 5 := by decide +kernel
theorem dX11_entries_5 : Dc cX11_entries 5 (.if_icmp .ge 110) 3 8 := by decide +kernel
theorem dX11_entries_8 : Dc cX11_entries 8 (.iconst 0) 1 9 := by decide +kernel
theorem dX11_entries_9 : Dc cX11_entries 9 (.istore_n 2) 1 10 := by decide +kernel
theorem dX11_entries_10 : Dc cX11_entries 10 (.aload_n 0) 1 11 := by decide +kernel
theorem dX11_entries_11 : Dc cX11_entries 11 (.iload_n 1) 1 12 := by decide +kernel
theorem dX11_entries_12 : Dc cX11_entries 12 (.invokevirtual 62) 3 15 := by decide +kernel
theorem dX11_entries_15 : Dc cX11_entries 15 (.iconst 2) 1 16 := by decide +kernel
theorem dX11_entries_16 : Dc cX11_entries 16 (.if_icmp .ne 93) 3 19 := by decide +kernel
theorem dX11_entries_19 : Dc cX11_entries 19 (.iload_n 2) 1 20 := by decide +kernel
theorem dX11_entries_20 : Dc cX11_entries 20 (.aload_n 0) 1 21 := by decide +kernel
theorem dX11_entries_21 : Dc cX11_entries 21 (.iload_n 1) 1 22 := by decide +kernel
theorem dX11_entries_22 : Dc cX11_entries 22 (.invokevirtual 106) 3 25 := by decide +kernel
theorem dX11_entries_25 : Dc cX11_entries 25 (.if_icmp .ge 84) 3 28 := by decide +kernel
theorem dX11_entries_28 : Dc cX11_entries 28 (.aload_n 0) 1 29 := by decide +kernel
theorem dX11_entries_29 : Dc cX11_entries 29 (.iload_n 1) 1 30 := by decide +kernel
theorem dX11_entries_30 : Dc cX11_entries 30 (.iload_n 2) 1 31 := by decide +kernel
theorem dX11_entries_31 : Dc cX11_entries 31 (.invokevirtual 73) 3 34 := by decide +kernel
theorem dX11_entries_34 : Dc cX11_entries 34 (.istore_n 3) 1 35 := by decide +kernel
theorem dX11_entries_35 : Dc cX11_entries 35 (.iload_n 2) 1 36 := by decide +kernel
theorem dX11_entries_36 : Dc cX11_entries 36 (.iconst 2) 1 37 := by decide +kernel
theorem dX11_entries_37 : Dc cX11_entries 37 (.if_icmp .ge 19) 3 40 := by decide +kernel
theorem dX11_entries_40 : Dc cX11_entries 40 (.aload_n 0) 1 41 := by decide +kernel
theorem dX11_entries_41 : Dc cX11_entries 41 (.iload_n 2) 1 42 := by decide +kernel
theorem dX11_entries_42 : Dc cX11_entries 42 (.iconst 1) 1 43 := by decide +kernel
theorem dX11_entries_43 : Dc cX11_entries 43 (.iadd) 1 44 := by decide +kernel
theorem dX11_entries_44 : Dc cX11_entries 44 (.invokevirtual 109) 3 47 := by decide +kernel
theorem dX11_entries_47 : Dc cX11_entries 47 (.aload_n 0) 1 48 := by decide +kernel
theorem dX11_entries_48 : Dc cX11_entries 48 (.iload_n 3) 1 49 := by decide +kernel
theorem dX11_entries_49 : Dc cX11_entries 49 (.iload_n 1) 1 50 := by decide +kernel
theorem dX11_entries_50 : Dc cX11_entries 50 (.invokevirtual 112) 3 53 := by decide +kernel
theorem dX11_entries_53 : Dc cX11_entries 53 (.goto 50) 3 56 := by decide +kernel
theorem dX11_entries_56 : Dc cX11_entries 56 (.iload_n 2) 1 57 := by decide +kernel
theorem dX11_entries_57 : Dc cX11_entries 57 (.iconst 2) 1 58 := by decide +kernel
theorem dX11_entries_58 : Dc cX11_entries 58 (.if_icmp .ne 29) 3 61 := by decide +kernel
theorem dX11_entries_61 : Dc cX11_entries 61 (.iload_n 1) 1 62 := by decide +kernel
theorem dX11_entries_62 : Dc cX11_entries 62 (.iconst 1) 1 63 := by decide +kernel
theorem dX11_entries_63 : Dc cX11_entries 63 (.if_icmp .ne 24) 3 66 := by decide +kernel
theorem dX11_entries_66 : Dc cX11_entries 66 (.aload_n 0) 1 67 := by decide +kernel
theorem dX11_entries_67 : Dc cX11_entries 67 (.iconst 2) 1 68 := by decide +kernel
theorem dX11_entries_68 : Dc cX11_entries 68 (.invokevirtual 62) 3 71 := by decide +kernel
theorem dX11_entries_71 : Dc cX11_entries 71 (.ifCond .le 16) 3 74 := by decide +kernel
theorem dX11_entries_74 : Dc cX11_entries 74 (.aload_n 0) 1 75 := by decide +kernel
theorem dX11_entries_75 : Dc cX11_entries 75 (.invokevirtual 115) 3 78 := by decide +kernel
theorem dX11_entries_78 : Dc cX11_entries 78 (.aload_n 0) 1 79 := by decide +kernel
theorem dX11_entries_79 : Dc cX11_entries 79 (.iload_n 3) 1 80 := by decide +kernel
theorem dX11_entries_80 : Dc cX11_entries 80 (.iconst 2) 1 81 := by decide +kernel
theorem dX11_entries_81 : Dc cX11_entries 81 (.invokevirtual 112) 3 84 := by decide +kernel
theorem dX11_entries_84 : Dc cX11_entries 84 (.goto 19) 3 87 := by decide +kernel
theorem dX11_entries_87 : Dc cX11_entries 87 (.aload_n 0) 1 88 := by decide +kernel
theorem dX11_entries_88 : Dc cX11_entries 88 (.iload_n 1) 1 89 := by decide +kernel
theorem dX11_entries_89 : Dc cX11_entries 89 (.iload_n 2) 1 90 := by decide +kernel
theorem dX11_entries_90 : Dc cX11_entries 90 (.invokevirtual 118) 3 93 := by decide +kernel
theorem dX11_entries_93 : Dc cX11_entries 93 (.ifCond .ne 10) 3 96 := by decide +kernel
theorem dX11_entries_96 : Dc cX11_entries 96 (.aload_n 0) 1 97 := by decide +kernel
theorem dX11_entries_97 : Dc cX11_entries 97 (.iload_n 3) 1 98 := by decide +kernel
theorem dX11_entries_98 : Dc cX11_entries 98 (.bipush 16) 2 100 := by decide +kernel
theorem dX11_entries_100 : Dc cX11_entries 100 (.invokevirtual 65) 3 103 := by decide +kernel
theorem dX11_entries_103 : Dc cX11_entries 103 (.iinc 2 1) 3 106 := by decide +kernel
theorem dX11_entries_106 : Dc cX11_entries 106 (.goto (-96)) 3 109 := by decide +kernel
theorem dX11_entries_109 : Dc cX11_entries 109 (.iinc 1 1) 3 112 := by decide +kernel
theorem dX11_entries_112 : Dc cX11_entries 112 (.goto (-110)) 3 115 := by decide +kernel
theorem dX11_entries_115 : Dc cX11_entries 115 (.return_) 1 116 := by decide +kernel
theorem dX11_reach_0 : Dc cX11_reach 0 (.aload_n 0) 1 1 := by decide +kernel
theorem dX11_reach_1 : Dc cX11_reach 1 (.getfield 20) 3 4 := by decide +kernel
theorem dX11_reach_4 : Dc cX11_reach 4 (.iload_n 1) 1 5 := by decide +kernel
theorem dX11_reach_5 : Dc cX11_reach 5 (.iconst 1) 1 6 := by decide +kernel
theorem dX11_reach_6 : Dc cX11_reach 6 (.bastore) 1 7 := by decide +kernel
theorem dX11_reach_7 : Dc cX11_reach 7 (.aload_n 0) 1 8 := by decide +kernel
theorem dX11_reach_8 : Dc cX11_reach 8 (.iload_n 1) 1 9 := by decide +kernel
theorem dX11_reach_9 : Dc cX11_reach 9 (.invokevirtual 62) 3 12 := by decide +kernel
theorem dX11_reach_12 : Dc cX11_reach 12 (.iconst 2) 1 13 := by decide +kernel
theorem dX11_reach_13 : Dc cX11_reach 13 (.if_icmp .ne 23) 3 16 := by decide +kernel
theorem dX11_reach_16 : Dc cX11_reach 16 (.aload_n 0) 1 17 := by decide +kernel
theorem dX11_reach_17 : Dc cX11_reach 17 (.getfield 23) 3 20 := by decide +kernel
theorem dX11_reach_20 : Dc cX11_reach 20 (.aload_n 0) 1 21 := by decide +kernel
theorem dX11_reach_21 : Dc cX11_reach 21 (.getfield 121) 3 24 := by decide +kernel
theorem dX11_reach_24 : Dc cX11_reach 24 (.iload_n 1) 1 25 := by decide +kernel
theorem dX11_reach_25 : Dc cX11_reach 25 (.iastore) 1 26 := by decide +kernel
theorem dX11_reach_26 : Dc cX11_reach 26 (.aload_n 0) 1 27 := by decide +kernel
theorem dX11_reach_27 : Dc cX11_reach 27 (.dup) 1 28 := by decide +kernel
theorem dX11_reach_28 : Dc cX11_reach 28 (.getfield 121) 3 31 := by decide +kernel
theorem dX11_reach_31 : Dc cX11_reach 31 (.iconst 1) 1 32 := by decide +kernel
theorem dX11_reach_32 : Dc cX11_reach 32 (.iadd) 1 33 := by decide +kernel
theorem dX11_reach_33 : Dc cX11_reach 33 (.putfield 121) 3 36 := by decide +kernel
theorem dX11_reach_36 : Dc cX11_reach 36 (.return_) 1 37 := by decide +kernel
theorem dX11_go_0 : Dc cX11_go 0 (.aload_n 0) 1 1 := by decide +kernel
theorem dX11_go_1 : Dc cX11_go 1 (.getfield 124) 3 4 := by decide +kernel
theorem dX11_go_4 : Dc cX11_go 4 (.aload_n 0) 1 5 := by decide +kernel
theorem dX11_go_5 : Dc cX11_go 5 (.getfield 121) 3 8 := by decide +kernel
theorem dX11_go_8 : Dc cX11_go 8 (.if_icmp .ge 137) 3 11 := by decide +kernel
theorem dX11_go_11 : Dc cX11_go 11 (.aload_n 0) 1 12 := by decide +kernel
theorem dX11_go_12 : Dc cX11_go 12 (.getfield 23) 3 15 := by decide +kernel
theorem dX11_go_15 : Dc cX11_go 15 (.aload_n 0) 1 16 := by decide +kernel
theorem dX11_go_16 : Dc cX11_go 16 (.getfield 124) 3 19 := by decide +kernel
theorem dX11_go_19 : Dc cX11_go 19 (.iaload) 1 20 := by decide +kernel
theorem dX11_go_20 : Dc cX11_go 20 (.istore_n 1) 1 21 := by decide +kernel
theorem dX11_go_21 : Dc cX11_go 21 (.aload_n 0) 1 22 := by decide +kernel
theorem dX11_go_22 : Dc cX11_go 22 (.dup) 1 23 := by decide +kernel
theorem dX11_go_23 : Dc cX11_go 23 (.getfield 124) 3 26 := by decide +kernel
theorem dX11_go_26 : Dc cX11_go 26 (.iconst 1) 1 27 := by decide +kernel
theorem dX11_go_27 : Dc cX11_go 27 (.iadd) 1 28 := by decide +kernel
theorem dX11_go_28 : Dc cX11_go 28 (.putfield 124) 3 31 := by decide +kernel
theorem dX11_go_31 : Dc cX11_go 31 (.iconst 2) 1 32 := by decide +kernel
theorem dX11_go_32 : Dc cX11_go 32 (.istore_n 2) 1 33 := by decide +kernel
theorem dX11_go_33 : Dc cX11_go 33 (.iload_n 2) 1 34 := by decide +kernel
theorem dX11_go_34 : Dc cX11_go 34 (.aload_n 0) 1 35 := by decide +kernel
theorem dX11_go_35 : Dc cX11_go 35 (.iload_n 1) 1 36 := by decide +kernel
theorem dX11_go_36 : Dc cX11_go 36 (.invokevirtual 106) 3 39 := by decide +kernel
theorem dX11_go_39 : Dc cX11_go 39 (.if_icmp .ge 103) 3 42 := by decide +kernel
theorem dX11_go_42 : Dc cX11_go 42 (.aload_n 0) 1 43 := by decide +kernel
theorem dX11_go_43 : Dc cX11_go 43 (.iload_n 1) 1 44 := by decide +kernel
theorem dX11_go_44 : Dc cX11_go 44 (.iload_n 2) 1 45 := by decide +kernel
theorem dX11_go_45 : Dc cX11_go 45 (.invokevirtual 73) 3 48 := by decide +kernel
theorem dX11_go_48 : Dc cX11_go 48 (.istore_n 3) 1 49 := by decide +kernel
theorem dX11_go_49 : Dc cX11_go 49 (.aload_n 0) 1 50 := by decide +kernel
theorem dX11_go_50 : Dc cX11_go 50 (.getfield 13) 3 53 := by decide +kernel
theorem dX11_go_53 : Dc cX11_go 53 (.iload_n 3) 1 54 := by decide +kernel
theorem dX11_go_54 : Dc cX11_go 54 (.iaload) 1 55 := by decide +kernel
theorem dX11_go_55 : Dc cX11_go 55 (.istore 4) 2 57 := by decide +kernel
theorem dX11_go_57 : Dc cX11_go 57 (.iload 4) 2 59 := by decide +kernel
theorem dX11_go_59 : Dc cX11_go 59 (.ifCond .eq 33) 3 62 := by decide +kernel
theorem dX11_go_62 : Dc cX11_go 62 (.aload_n 0) 1 63 := by decide +kernel
theorem dX11_go_63 : Dc cX11_go 63 (.iload 4) 2 65 := by decide +kernel
theorem dX11_go_65 : Dc cX11_go 65 (.invokevirtual 62) 3 68 := by decide +kernel
theorem dX11_go_68 : Dc cX11_go 68 (.iconst 2) 1 69 := by decide +kernel
theorem dX11_go_69 : Dc cX11_go 69 (.if_icmp .ne 23) 3 72 := by decide +kernel
theorem dX11_go_72 : Dc cX11_go 72 (.aload_n 0) 1 73 := by decide +kernel
theorem dX11_go_73 : Dc cX11_go 73 (.getfield 20) 3 76 := by decide +kernel
theorem dX11_go_76 : Dc cX11_go 76 (.iload 4) 2 78 := by decide +kernel
theorem dX11_go_78 : Dc cX11_go 78 (.baload) 1 79 := by decide +kernel
theorem dX11_go_79 : Dc cX11_go 79 (.ifCond .eq 13) 3 82 := by decide +kernel
theorem dX11_go_82 : Dc cX11_go 82 (.aload_n 0) 1 83 := by decide +kernel
theorem dX11_go_83 : Dc cX11_go 83 (.iload_n 3) 1 84 := by decide +kernel
theorem dX11_go_84 : Dc cX11_go 84 (.bipush 16) 2 86 := by decide +kernel
theorem dX11_go_86 : Dc cX11_go 86 (.invokevirtual 65) 3 89 := by decide +kernel
theorem dX11_go_89 : Dc cX11_go 89 (.goto 47) 3 92 := by decide +kernel
theorem dX11_go_92 : Dc cX11_go 92 (.iload 4) 2 94 := by decide +kernel
theorem dX11_go_94 : Dc cX11_go 94 (.ifCond .eq 42) 3 97 := by decide +kernel
theorem dX11_go_97 : Dc cX11_go 97 (.aload_n 0) 1 98 := by decide +kernel
theorem dX11_go_98 : Dc cX11_go 98 (.iload 4) 2 100 := by decide +kernel
theorem dX11_go_100 : Dc cX11_go 100 (.invokevirtual 62) 3 103 := by decide +kernel
theorem dX11_go_103 : Dc cX11_go 103 (.iconst 2) 1 104 := by decide +kernel
theorem dX11_go_104 : Dc cX11_go 104 (.if_icmp .ne 16) 3 107 := by decide +kernel
theorem dX11_go_107 : Dc cX11_go 107 (.aload_n 0) 1 108 := by decide +kernel
theorem dX11_go_108 : Dc cX11_go 108 (.getfield 13) 3 111 := by decide +kernel
theorem dX11_go_111 : Dc cX11_go 111 (.aload_n 0) 1 112 := by decide +kernel
theorem dX11_go_112 : Dc cX11_go 112 (.iload 4) 2 114 := by decide +kernel
theorem dX11_go_114 : Dc cX11_go 114 (.iconst 1) 1 115 := by decide +kernel
theorem dX11_go_115 : Dc cX11_go 115 (.invokevirtual 73) 3 118 := by decide +kernel
theorem dX11_go_118 : Dc cX11_go 118 (.iload_n 1) 1 119 := by decide +kernel
theorem dX11_go_119 : Dc cX11_go 119 (.iastore) 1 120 := by decide +kernel
theorem dX11_go_120 : Dc cX11_go 120 (.aload_n 0) 1 121 := by decide +kernel
theorem dX11_go_121 : Dc cX11_go 121 (.getfield 20) 3 124 := by decide +kernel
theorem dX11_go_124 : Dc cX11_go 124 (.iload 4) 2 126 := by decide +kernel
theorem dX11_go_126 : Dc cX11_go 126 (.baload) 1 127 := by decide +kernel
theorem dX11_go_127 : Dc cX11_go 127 (.ifCond .ne 9) 3 130 := by decide +kernel
theorem dX11_go_130 : Dc cX11_go 130 (.aload_n 0) 1 131 := by decide +kernel
theorem dX11_go_131 : Dc cX11_go 131 (.iload 4) 2 133 := by decide +kernel
theorem dX11_go_133 : Dc cX11_go 133 (.invokevirtual 127) 3 136 := by decide +kernel
theorem dX11_go_136 : Dc cX11_go 136 (.iinc 2 1) 3 139 := by decide +kernel
theorem dX11_go_139 : Dc cX11_go 139 (.goto (-106)) 3 142 := by decide +kernel
theorem dX11_go_142 : Dc cX11_go 142 (.goto (-142)) 3 145 := by decide +kernel
theorem dX11_go_145 : Dc cX11_go 145 (.return_) 1 146 := by decide +kernel
theorem dX11_connect_0 : Dc cX11_connect 0 (.aload_n 0) 1 1 := by decide +kernel
theorem dX11_connect_1 : Dc cX11_connect 1 (.iconst 0) 1 2 := by decide +kernel
theorem dX11_connect_2 : Dc cX11_connect 2 (.putfield 124) 3 5 := by decide +kernel
theorem dX11_connect_5 : Dc cX11_connect 5 (.aload_n 0) 1 6 := by decide +kernel
theorem dX11_connect_6 : Dc cX11_connect 6 (.iconst 0) 1 7 := by decide +kernel
theorem dX11_connect_7 : Dc cX11_connect 7 (.putfield 121) 3 10 := by decide +kernel
theorem dX11_connect_10 : Dc cX11_connect 10 (.iconst 0) 1 11 := by decide +kernel
theorem dX11_connect_11 : Dc cX11_connect 11 (.istore_n 1) 1 12 := by decide +kernel
theorem dX11_connect_12 : Dc cX11_connect 12 (.iload_n 1) 1 13 := by decide +kernel
theorem dX11_connect_13 : Dc cX11_connect 13 (.bipush 32) 2 15 := by decide +kernel
theorem dX11_connect_15 : Dc cX11_connect 15 (.if_icmp .ge 16) 3 18 := by decide +kernel
theorem dX11_connect_18 : Dc cX11_connect 18 (.aload_n 0) 1 19 := by decide +kernel
theorem dX11_connect_19 : Dc cX11_connect 19 (.getfield 20) 3 22 := by decide +kernel
theorem dX11_connect_22 : Dc cX11_connect 22 (.iload_n 1) 1 23 := by decide +kernel
theorem dX11_connect_23 : Dc cX11_connect 23 (.iconst 0) 1 24 := by decide +kernel
theorem dX11_connect_24 : Dc cX11_connect 24 (.bastore) 1 25 := by decide +kernel
theorem dX11_connect_25 : Dc cX11_connect 25 (.iinc 1 1) 3 28 := by decide +kernel
theorem dX11_connect_28 : Dc cX11_connect 28 (.goto (-16)) 3 31 := by decide +kernel
theorem dX11_connect_31 : Dc cX11_connect 31 (.aload_n 0) 1 32 := by decide +kernel
theorem dX11_connect_32 : Dc cX11_connect 32 (.iconst 1) 1 33 := by decide +kernel
theorem dX11_connect_33 : Dc cX11_connect 33 (.invokevirtual 62) 3 36 := by decide +kernel
theorem dX11_connect_36 : Dc cX11_connect 36 (.ifCond .le 8) 3 39 := by decide +kernel
theorem dX11_connect_39 : Dc cX11_connect 39 (.aload_n 0) 1 40 := by decide +kernel
theorem dX11_connect_40 : Dc cX11_connect 40 (.iconst 1) 1 41 := by decide +kernel
theorem dX11_connect_41 : Dc cX11_connect 41 (.invokevirtual 127) 3 44 := by decide +kernel
theorem dX11_connect_44 : Dc cX11_connect 44 (.aload_n 0) 1 45 := by decide +kernel
theorem dX11_connect_45 : Dc cX11_connect 45 (.invokevirtual 130) 3 48 := by decide +kernel
theorem dX11_connect_48 : Dc cX11_connect 48 (.iconst 1) 1 49 := by decide +kernel
theorem dX11_connect_49 : Dc cX11_connect 49 (.istore_n 1) 1 50 := by decide +kernel
theorem dX11_connect_50 : Dc cX11_connect 50 (.iload_n 1) 1 51 := by decide +kernel
theorem dX11_connect_51 : Dc cX11_connect 51 (.bipush 32) 2 53 := by decide +kernel
theorem dX11_connect_53 : Dc cX11_connect 53 (.if_icmp .ge 89) 3 56 := by decide +kernel
theorem dX11_connect_56 : Dc cX11_connect 56 (.aload_n 0) 1 57 := by decide +kernel
theorem dX11_connect_57 : Dc cX11_connect 57 (.iload_n 1) 1 58 := by decide +kernel
theorem dX11_connect_58 : Dc cX11_connect 58 (.invokevirtual 62) 3 61 := by decide +kernel
theorem dX11_connect_61 : Dc cX11_connect 61 (.ifCond .le 75) 3 64 := by decide +kernel
theorem dX11_connect_64 : Dc cX11_connect 64 (.aload_n 0) 1 65 := by decide +kernel
theorem dX11_connect_65 : Dc cX11_connect 65 (.getfield 20) 3 68 := by decide +kernel
theorem dX11_connect_68 : Dc cX11_connect 68 (.iload_n 1) 1 69 := by decide +kernel
theorem dX11_connect_69 : Dc cX11_connect 69 (.baload) 1 70 := by decide +kernel
theorem dX11_connect_70 : Dc cX11_connect 70 (.ifCond .ne 66) 3 73 := by decide +kernel
theorem dX11_connect_73 : Dc cX11_connect 73 (.aload_n 0) 1 74 := by decide +kernel
theorem dX11_connect_74 : Dc cX11_connect 74 (.iconst 2) 1 75 := by decide +kernel
theorem dX11_connect_75 : Dc cX11_connect 75 (.invokevirtual 62) 3 78 := by decide +kernel
theorem dX11_connect_78 : Dc cX11_connect 78 (.ifCond .le 53) 3 81 := by decide +kernel
theorem dX11_connect_81 : Dc cX11_connect 81 (.aload_n 0) 1 82 := by decide +kernel
theorem dX11_connect_82 : Dc cX11_connect 82 (.iload_n 1) 1 83 := by decide +kernel
theorem dX11_connect_83 : Dc cX11_connect 83 (.invokevirtual 133) 3 86 := by decide +kernel
theorem dX11_connect_86 : Dc cX11_connect 86 (.ifCond .eq 45) 3 89 := by decide +kernel
theorem dX11_connect_89 : Dc cX11_connect 89 (.aload_n 0) 1 90 := by decide +kernel
theorem dX11_connect_90 : Dc cX11_connect 90 (.iconst 2) 1 91 := by decide +kernel
theorem dX11_connect_91 : Dc cX11_connect 91 (.iload_n 1) 1 92 := by decide +kernel
theorem dX11_connect_92 : Dc cX11_connect 92 (.invokevirtual 136) 3 95 := by decide +kernel
theorem dX11_connect_95 : Dc cX11_connect 95 (.ifCond .eq 36) 3 98 := by decide +kernel
theorem dX11_connect_98 : Dc cX11_connect 98 (.aload_n 0) 1 99 := by decide +kernel
theorem dX11_connect_99 : Dc cX11_connect 99 (.iload_n 1) 1 100 := by decide +kernel
theorem dX11_connect_100 : Dc cX11_connect 100 (.invokevirtual 62) 3 103 := by decide +kernel
theorem dX11_connect_103 : Dc cX11_connect 103 (.iconst 2) 1 104 := by decide +kernel
theorem dX11_connect_104 : Dc cX11_connect 104 (.if_icmp .ne 15) 3 107 := by decide +kernel
theorem dX11_connect_107 : Dc cX11_connect 107 (.aload_n 0) 1 108 := by decide +kernel
theorem dX11_connect_108 : Dc cX11_connect 108 (.getfield 13) 3 111 := by decide +kernel
theorem dX11_connect_111 : Dc cX11_connect 111 (.aload_n 0) 1 112 := by decide +kernel
theorem dX11_connect_112 : Dc cX11_connect 112 (.iload_n 1) 1 113 := by decide +kernel
theorem dX11_connect_113 : Dc cX11_connect 113 (.iconst 1) 1 114 := by decide +kernel
theorem dX11_connect_114 : Dc cX11_connect 114 (.invokevirtual 73) 3 117 := by decide +kernel
theorem dX11_connect_117 : Dc cX11_connect 117 (.iconst 2) 1 118 := by decide +kernel
theorem dX11_connect_118 : Dc cX11_connect 118 (.iastore) 1 119 := by decide +kernel
theorem dX11_connect_119 : Dc cX11_connect 119 (.aload_n 0) 1 120 := by decide +kernel
theorem dX11_connect_120 : Dc cX11_connect 120 (.iload_n 1) 1 121 := by decide +kernel
theorem dX11_connect_121 : Dc cX11_connect 121 (.invokevirtual 127) 3 124 := by decide +kernel
theorem dX11_connect_124 : Dc cX11_connect 124 (.aload_n 0) 1 125 := by decide +kernel
theorem dX11_connect_125 : Dc cX11_connect 125 (.invokevirtual 130) 3 128 := by decide +kernel
theorem dX11_connect_128 : Dc cX11_connect 128 (.goto 8) 3 131 := by decide +kernel
theorem dX11_connect_131 : Dc cX11_connect 131 (.aload_n 0) 1 132 := by decide +kernel
theorem dX11_connect_132 : Dc cX11_connect 132 (.iload_n 1) 1 133 := by decide +kernel
theorem dX11_connect_133 : Dc cX11_connect 133 (.invokevirtual 139) 3 136 := by decide +kernel
theorem dX11_connect_136 : Dc cX11_connect 136 (.iinc 1 1) 3 139 := by decide +kernel
theorem dX11_connect_139 : Dc cX11_connect 139 (.goto (-89)) 3 142 := by decide +kernel
theorem dX11_connect_142 : Dc cX11_connect 142 (.return_) 1 143 := by decide +kernel
theorem dX11_lostNameOf_0 : Dc cX11_lostNameOf 0 (.iconst 1) 1 1 := by decide +kernel
theorem dX11_lostNameOf_1 : Dc cX11_lostNameOf 1 (.istore_n 2) 1 2 := by decide +kernel
theorem dX11_lostNameOf_2 : Dc cX11_lostNameOf 2 (.iload_n 2) 1 3 := by decide +kernel
theorem dX11_lostNameOf_3 : Dc cX11_lostNameOf 3 (.bipush 12) 2 5 := by decide +kernel
theorem dX11_lostNameOf_5 : Dc cX11_lostNameOf 5 (.if_icmp .gt 81) 3 8 := by decide +kernel
theorem dX11_lostNameOf_8 : Dc cX11_lostNameOf 8 (.aload_n 0) 1 9 := by decide +kernel
theorem dX11_lostNameOf_9 : Dc cX11_lostNameOf 9 (.iload_n 2) 1 10 := by decide +kernel
theorem dX11_lostNameOf_10 : Dc cX11_lostNameOf 10 (.iconst 2) 1 11 := by decide +kernel
theorem dX11_lostNameOf_11 : Dc cX11_lostNameOf 11 (.iadd) 1 12 := by decide +kernel
theorem dX11_lostNameOf_12 : Dc cX11_lostNameOf 12 (.putfield 69) 3 15 := by decide +kernel
theorem dX11_lostNameOf_15 : Dc cX11_lostNameOf 15 (.iconst 0) 1 16 := by decide +kernel
theorem dX11_lostNameOf_16 : Dc cX11_lostNameOf 16 (.istore_n 3) 1 17 := by decide +kernel
theorem dX11_lostNameOf_17 : Dc cX11_lostNameOf 17 (.iload_n 3) 1 18 := by decide +kernel
theorem dX11_lostNameOf_18 : Dc cX11_lostNameOf 18 (.iload_n 2) 1 19 := by decide +kernel
theorem dX11_lostNameOf_19 : Dc cX11_lostNameOf 19 (.if_icmp .ge 17) 3 22 := by decide +kernel
theorem dX11_lostNameOf_22 : Dc cX11_lostNameOf 22 (.aload_n 0) 1 23 := by decide +kernel
theorem dX11_lostNameOf_23 : Dc cX11_lostNameOf 23 (.getfield 26) 3 26 := by decide +kernel
theorem dX11_lostNameOf_26 : Dc cX11_lostNameOf 26 (.iload_n 3) 1 27 := by decide +kernel
theorem dX11_lostNameOf_27 : Dc cX11_lostNameOf 27 (.bipush 35) 2 29 := by decide +kernel
theorem dX11_lostNameOf_29 : Dc cX11_lostNameOf 29 (.iastore) 1 30 := by decide +kernel
theorem dX11_lostNameOf_30 : Dc cX11_lostNameOf 30 (.iinc 3 1) 3 33 := by decide +kernel
theorem dX11_lostNameOf_33 : Dc cX11_lostNameOf 33 (.goto (-16)) 3 36 := by decide +kernel
theorem dX11_lostNameOf_36 : Dc cX11_lostNameOf 36 (.aload_n 0) 1 37 := by decide +kernel
theorem dX11_lostNameOf_37 : Dc cX11_lostNameOf 37 (.getfield 26) 3 40 := by decide +kernel
theorem dX11_lostNameOf_40 : Dc cX11_lostNameOf 40 (.iload_n 2) 1 41 := by decide +kernel
theorem dX11_lostNameOf_41 : Dc cX11_lostNameOf 41 (.bipush 48) 2 43 := by decide +kernel
theorem dX11_lostNameOf_43 : Dc cX11_lostNameOf 43 (.iload_n 1) 1 44 := by decide +kernel
theorem dX11_lostNameOf_44 : Dc cX11_lostNameOf 44 (.bipush 10) 2 46 := by decide +kernel
theorem dX11_lostNameOf_46 : Dc cX11_lostNameOf 46 (.idiv) 1 47 := by decide +kernel
theorem dX11_lostNameOf_47 : Dc cX11_lostNameOf 47 (.iadd) 1 48 := by decide +kernel
theorem dX11_lostNameOf_48 : Dc cX11_lostNameOf 48 (.iastore) 1 49 := by decide +kernel
theorem dX11_lostNameOf_49 : Dc cX11_lostNameOf 49 (.aload_n 0) 1 50 := by decide +kernel
theorem dX11_lostNameOf_50 : Dc cX11_lostNameOf 50 (.getfield 26) 3 53 := by decide +kernel
theorem dX11_lostNameOf_53 : Dc cX11_lostNameOf 53 (.iload_n 2) 1 54 := by decide +kernel
theorem dX11_lostNameOf_54 : Dc cX11_lostNameOf 54 (.iconst 1) 1 55 := by decide +kernel
theorem dX11_lostNameOf_55 : Dc cX11_lostNameOf 55 (.iadd) 1 56 := by decide +kernel
theorem dX11_lostNameOf_56 : Dc cX11_lostNameOf 56 (.bipush 48) 2 58 := by decide +kernel
theorem dX11_lostNameOf_58 : Dc cX11_lostNameOf 58 (.iload_n 1) 1 59 := by decide +kernel
theorem dX11_lostNameOf_59 : Dc cX11_lostNameOf 59 (.bipush 10) 2 61 := by decide +kernel
theorem dX11_lostNameOf_61 : Dc cX11_lostNameOf 61 (.irem) 1 62 := by decide +kernel
theorem dX11_lostNameOf_62 : Dc cX11_lostNameOf 62 (.iadd) 1 63 := by decide +kernel
theorem dX11_lostNameOf_63 : Dc cX11_lostNameOf 63 (.iastore) 1 64 := by decide +kernel
theorem dX11_lostNameOf_64 : Dc cX11_lostNameOf 64 (.aload_n 0) 1 65 := by decide +kernel
theorem dX11_lostNameOf_65 : Dc cX11_lostNameOf 65 (.iconst 2) 1 66 := by decide +kernel
theorem dX11_lostNameOf_66 : Dc cX11_lostNameOf 66 (.aload_n 0) 1 67 := by decide +kernel
theorem dX11_lostNameOf_67 : Dc cX11_lostNameOf 67 (.iconst 2) 1 68 := by decide +kernel
theorem dX11_lostNameOf_68 : Dc cX11_lostNameOf 68 (.invokevirtual 106) 3 71 := by decide +kernel
theorem dX11_lostNameOf_71 : Dc cX11_lostNameOf 71 (.invokevirtual 79) 3 74 := by decide +kernel
theorem dX11_lostNameOf_74 : Dc cX11_lostNameOf 74 (.iconst (-1)) 1 75 := by decide +kernel
theorem dX11_lostNameOf_75 : Dc cX11_lostNameOf 75 (.if_icmp .ne 5) 3 78 := by decide +kernel
theorem dX11_lostNameOf_78 : Dc cX11_lostNameOf 78 (.iconst 1) 1 79 := by decide +kernel
theorem dX11_lostNameOf_79 : Dc cX11_lostNameOf 79 (.ireturn) 1 80 := by decide +kernel
theorem dX11_lostNameOf_80 : Dc cX11_lostNameOf 80 (.iinc 2 1) 3 83 := by decide +kernel
theorem dX11_lostNameOf_83 : Dc cX11_lostNameOf 83 (.goto (-81)) 3 86 := by decide +kernel
theorem dX11_lostNameOf_86 : Dc cX11_lostNameOf 86 (.iconst 0) 1 87 := by decide +kernel
theorem dX11_lostNameOf_87 : Dc cX11_lostNameOf 87 (.ireturn) 1 88 := by decide +kernel
theorem dX11_grow_0 : Dc cX11_grow 0 (.aload_n 0) 1 1 := by decide +kernel
theorem dX11_grow_1 : Dc cX11_grow 1 (.iload_n 1) 1 2 := by decide +kernel
theorem dX11_grow_2 : Dc cX11_grow 2 (.invokevirtual 52) 3 5 := by decide +kernel
theorem dX11_grow_5 : Dc cX11_grow 5 (.istore_n 3) 1 6 := by decide +kernel
theorem dX11_grow_6 : Dc cX11_grow 6 (.aload_n 0) 1 7 := by decide +kernel
theorem dX11_grow_7 : Dc cX11_grow 7 (.iconst 0) 1 8 := by decide +kernel
theorem dX11_grow_8 : Dc cX11_grow 8 (.invokevirtual 97) 3 11 := by decide +kernel
theorem dX11_grow_11 : Dc cX11_grow 11 (.istore 4) 2 13 := by decide +kernel
theorem dX11_grow_13 : Dc cX11_grow 13 (.iload_n 3) 1 14 := by decide +kernel
theorem dX11_grow_14 : Dc cX11_grow 14 (.iconst 5) 1 15 := by decide +kernel
theorem dX11_grow_15 : Dc cX11_grow 15 (.if_icmp .ne 18) 3 18 := by decide +kernel
theorem dX11_grow_18 : Dc cX11_grow 18 (.iload 4) 2 20 := by decide +kernel
theorem dX11_grow_20 : Dc cX11_grow 20 (.iconst (-1)) 1 21 := by decide +kernel
end
section
theorem dX11_grow_21 : Dc cX11_grow 21 (.if_icmp .eq 12) 3 24 := by decide +kernel
theorem dX11_grow_24 : Dc cX11_grow 24 (.aload_n 0) 1 25 := by decide +kernel
theorem dX11_grow_25 : Dc cX11_grow 25 (.iload 4) 2 27 := by decide +kernel
theorem dX11_grow_27 : Dc cX11_grow 27 (.invokevirtual 97) 3 30 := by decide +kernel
theorem dX11_grow_30 : Dc cX11_grow 30 (.goto 4) 3 33 := by decide +kernel
theorem dX11_grow_33 : Dc cX11_grow 33 (.iconst (-1)) 1 34 := by decide +kernel
theorem dX11_grow_34 : Dc cX11_grow 34 (.istore 5) 2 36 := by decide +kernel
theorem dX11_grow_36 : Dc cX11_grow 36 (.iload 4) 2 38 := by decide +kernel
theorem dX11_grow_38 : Dc cX11_grow 38 (.iconst (-1)) 1 39 := by decide +kernel
theorem dX11_grow_39 : Dc cX11_grow 39 (.if_icmp .eq 27) 3 42 := by decide +kernel
theorem dX11_grow_42 : Dc cX11_grow 42 (.iload_n 3) 1 43 := by decide +kernel
theorem dX11_grow_43 : Dc cX11_grow 43 (.iconst 5) 1 44 := by decide +kernel
theorem dX11_grow_44 : Dc cX11_grow 44 (.if_icmp .ne 9) 3 47 := by decide +kernel
theorem dX11_grow_47 : Dc cX11_grow 47 (.iload 5) 2 49 := by decide +kernel
theorem dX11_grow_49 : Dc cX11_grow 49 (.iconst (-1)) 1 50 := by decide +kernel
theorem dX11_grow_50 : Dc cX11_grow 50 (.if_icmp .eq 16) 3 53 := by decide +kernel
theorem dX11_grow_53 : Dc cX11_grow 53 (.aload_n 0) 1 54 := by decide +kernel
theorem dX11_grow_54 : Dc cX11_grow 54 (.iload_n 1) 1 55 := by decide +kernel
theorem dX11_grow_55 : Dc cX11_grow 55 (.invokevirtual 45) 3 58 := by decide +kernel
theorem dX11_grow_58 : Dc cX11_grow 58 (.iload_n 2) 1 59 := by decide +kernel
theorem dX11_grow_59 : Dc cX11_grow 59 (.iadd) 1 60 := by decide +kernel
theorem dX11_grow_60 : Dc cX11_grow 60 (.sipush 2944) 3 63 := by decide +kernel
theorem dX11_grow_63 : Dc cX11_grow 63 (.if_icmp .le 5) 3 66 := by decide +kernel
theorem dX11_grow_66 : Dc cX11_grow 66 (.iconst 0) 1 67 := by decide +kernel
theorem dX11_grow_67 : Dc cX11_grow 67 (.ireturn) 1 68 := by decide +kernel
theorem dX11_grow_68 : Dc cX11_grow 68 (.aload_n 0) 1 69 := by decide +kernel
theorem dX11_grow_69 : Dc cX11_grow 69 (.bipush 64) 2 71 := by decide +kernel
theorem dX11_grow_71 : Dc cX11_grow 71 (.iload 4) 2 73 := by decide +kernel
theorem dX11_grow_73 : Dc cX11_grow 73 (.imul) 1 74 := by decide +kernel
theorem dX11_grow_74 : Dc cX11_grow 74 (.bipush 64) 2 76 := by decide +kernel
theorem dX11_grow_76 : Dc cX11_grow 76 (.invokevirtual 65) 3 79 := by decide +kernel
theorem dX11_grow_79 : Dc cX11_grow 79 (.iload_n 3) 1 80 := by decide +kernel
theorem dX11_grow_80 : Dc cX11_grow 80 (.iconst 5) 1 81 := by decide +kernel
theorem dX11_grow_81 : Dc cX11_grow 81 (.if_icmp .ge 21) 3 84 := by decide +kernel
theorem dX11_grow_84 : Dc cX11_grow 84 (.aload_n 0) 1 85 := by decide +kernel
theorem dX11_grow_85 : Dc cX11_grow 85 (.getfield 13) 3 88 := by decide +kernel
theorem dX11_grow_88 : Dc cX11_grow 88 (.iload_n 1) 1 89 := by decide +kernel
theorem dX11_grow_89 : Dc cX11_grow 89 (.invokestatic 42) 3 92 := by decide +kernel
theorem dX11_grow_92 : Dc cX11_grow 92 (.iconst 4) 1 93 := by decide +kernel
theorem dX11_grow_93 : Dc cX11_grow 93 (.iadd) 1 94 := by decide +kernel
theorem dX11_grow_94 : Dc cX11_grow 94 (.iload_n 3) 1 95 := by decide +kernel
theorem dX11_grow_95 : Dc cX11_grow 95 (.iadd) 1 96 := by decide +kernel
theorem dX11_grow_96 : Dc cX11_grow 96 (.iload 4) 2 98 := by decide +kernel
theorem dX11_grow_98 : Dc cX11_grow 98 (.iastore) 1 99 := by decide +kernel
theorem dX11_grow_99 : Dc cX11_grow 99 (.goto 59) 3 102 := by decide +kernel
theorem dX11_grow_102 : Dc cX11_grow 102 (.iload_n 3) 1 103 := by decide +kernel
theorem dX11_grow_103 : Dc cX11_grow 103 (.iconst 5) 1 104 := by decide +kernel
theorem dX11_grow_104 : Dc cX11_grow 104 (.if_icmp .ne 28) 3 107 := by decide +kernel
theorem dX11_grow_107 : Dc cX11_grow 107 (.aload_n 0) 1 108 := by decide +kernel
theorem dX11_grow_108 : Dc cX11_grow 108 (.bipush 64) 2 110 := by decide +kernel
theorem dX11_grow_110 : Dc cX11_grow 110 (.iload 5) 2 112 := by decide +kernel
theorem dX11_grow_112 : Dc cX11_grow 112 (.imul) 1 113 := by decide +kernel
theorem dX11_grow_113 : Dc cX11_grow 113 (.bipush 64) 2 115 := by decide +kernel
theorem dX11_grow_115 : Dc cX11_grow 115 (.invokevirtual 65) 3 118 := by decide +kernel
theorem dX11_grow_118 : Dc cX11_grow 118 (.aload_n 0) 1 119 := by decide +kernel
theorem dX11_grow_119 : Dc cX11_grow 119 (.getfield 13) 3 122 := by decide +kernel
theorem dX11_grow_122 : Dc cX11_grow 122 (.iload_n 1) 1 123 := by decide +kernel
theorem dX11_grow_123 : Dc cX11_grow 123 (.invokestatic 42) 3 126 := by decide +kernel
theorem dX11_grow_126 : Dc cX11_grow 126 (.bipush 9) 2 128 := by decide +kernel
theorem dX11_grow_128 : Dc cX11_grow 128 (.iadd) 1 129 := by decide +kernel
theorem dX11_grow_129 : Dc cX11_grow 129 (.iload 5) 2 131 := by decide +kernel
theorem dX11_grow_131 : Dc cX11_grow 131 (.iastore) 1 132 := by decide +kernel
theorem dX11_grow_132 : Dc cX11_grow 132 (.aload_n 0) 1 133 := by decide +kernel
theorem dX11_grow_133 : Dc cX11_grow 133 (.getfield 13) 3 136 := by decide +kernel
theorem dX11_grow_136 : Dc cX11_grow 136 (.bipush 64) 2 138 := by decide +kernel
theorem dX11_grow_138 : Dc cX11_grow 138 (.aload_n 0) 1 139 := by decide +kernel
theorem dX11_grow_139 : Dc cX11_grow 139 (.getfield 13) 3 142 := by decide +kernel
theorem dX11_grow_142 : Dc cX11_grow 142 (.iload_n 1) 1 143 := by decide +kernel
theorem dX11_grow_143 : Dc cX11_grow 143 (.invokestatic 42) 3 146 := by decide +kernel
theorem dX11_grow_146 : Dc cX11_grow 146 (.bipush 9) 2 148 := by decide +kernel
theorem dX11_grow_148 : Dc cX11_grow 148 (.iadd) 1 149 := by decide +kernel
theorem dX11_grow_149 : Dc cX11_grow 149 (.iaload) 1 150 := by decide +kernel
theorem dX11_grow_150 : Dc cX11_grow 150 (.imul) 1 151 := by decide +kernel
theorem dX11_grow_151 : Dc cX11_grow 151 (.iload_n 3) 1 152 := by decide +kernel
theorem dX11_grow_152 : Dc cX11_grow 152 (.iadd) 1 153 := by decide +kernel
theorem dX11_grow_153 : Dc cX11_grow 153 (.iconst 5) 1 154 := by decide +kernel
theorem dX11_grow_154 : Dc cX11_grow 154 (.isub) 1 155 := by decide +kernel
theorem dX11_grow_155 : Dc cX11_grow 155 (.iload 4) 2 157 := by decide +kernel
theorem dX11_grow_157 : Dc cX11_grow 157 (.iastore) 1 158 := by decide +kernel
theorem dX11_grow_158 : Dc cX11_grow 158 (.aload_n 0) 1 159 := by decide +kernel
theorem dX11_grow_159 : Dc cX11_grow 159 (.iload_n 1) 1 160 := by decide +kernel
theorem dX11_grow_160 : Dc cX11_grow 160 (.invokestatic 42) 3 163 := by decide +kernel
theorem dX11_grow_163 : Dc cX11_grow 163 (.iconst 2) 1 164 := by decide +kernel
theorem dX11_grow_164 : Dc cX11_grow 164 (.iadd) 1 165 := by decide +kernel
theorem dX11_grow_165 : Dc cX11_grow 165 (.aload_n 0) 1 166 := by decide +kernel
theorem dX11_grow_166 : Dc cX11_grow 166 (.iload_n 1) 1 167 := by decide +kernel
theorem dX11_grow_167 : Dc cX11_grow 167 (.invokevirtual 45) 3 170 := by decide +kernel
theorem dX11_grow_170 : Dc cX11_grow 170 (.iload_n 2) 1 171 := by decide +kernel
theorem dX11_grow_171 : Dc cX11_grow 171 (.iadd) 1 172 := by decide +kernel
theorem dX11_grow_172 : Dc cX11_grow 172 (.invokevirtual 103) 3 175 := by decide +kernel
theorem dX11_grow_175 : Dc cX11_grow 175 (.iconst 1) 1 176 := by decide +kernel
theorem dX11_grow_176 : Dc cX11_grow 176 (.ireturn) 1 177 := by decide +kernel
theorem dX11_putEntry_0 : Dc cX11_putEntry 0 (.iconst 2) 1 1 := by decide +kernel
theorem dX11_putEntry_1 : Dc cX11_putEntry 1 (.istore_n 3) 1 2 := by decide +kernel
theorem dX11_putEntry_2 : Dc cX11_putEntry 2 (.iload_n 3) 1 3 := by decide +kernel
theorem dX11_putEntry_3 : Dc cX11_putEntry 3 (.aload_n 0) 1 4 := by decide +kernel
theorem dX11_putEntry_4 : Dc cX11_putEntry 4 (.iload_n 1) 1 5 := by decide +kernel
theorem dX11_putEntry_5 : Dc cX11_putEntry 5 (.invokevirtual 106) 3 8 := by decide +kernel
theorem dX11_putEntry_8 : Dc cX11_putEntry 8 (.if_icmp .ge 23) 3 11 := by decide +kernel
theorem dX11_putEntry_11 : Dc cX11_putEntry 11 (.aload_n 0) 1 12 := by decide +kernel
theorem dX11_putEntry_12 : Dc cX11_putEntry 12 (.getfield 13) 3 15 := by decide +kernel
theorem dX11_putEntry_15 : Dc cX11_putEntry 15 (.aload_n 0) 1 16 := by decide +kernel
theorem dX11_putEntry_16 : Dc cX11_putEntry 16 (.iload_n 1) 1 17 := by decide +kernel
theorem dX11_putEntry_17 : Dc cX11_putEntry 17 (.iload_n 3) 1 18 := by decide +kernel
theorem dX11_putEntry_18 : Dc cX11_putEntry 18 (.invokevirtual 73) 3 21 := by decide +kernel
theorem dX11_putEntry_21 : Dc cX11_putEntry 21 (.iaload) 1 22 := by decide +kernel
theorem dX11_putEntry_22 : Dc cX11_putEntry 22 (.ifCond .eq 9) 3 25 := by decide +kernel
theorem dX11_putEntry_25 : Dc cX11_putEntry 25 (.iinc 3 1) 3 28 := by decide +kernel
theorem dX11_putEntry_28 : Dc cX11_putEntry 28 (.goto (-26)) 3 31 := by decide +kernel
theorem dX11_putEntry_31 : Dc cX11_putEntry 31 (.iload_n 3) 1 32 := by decide +kernel
theorem dX11_putEntry_32 : Dc cX11_putEntry 32 (.aload_n 0) 1 33 := by decide +kernel
theorem dX11_putEntry_33 : Dc cX11_putEntry 33 (.iload_n 1) 1 34 := by decide +kernel
theorem dX11_putEntry_34 : Dc cX11_putEntry 34 (.invokevirtual 106) 3 37 := by decide +kernel
theorem dX11_putEntry_37 : Dc cX11_putEntry 37 (.if_icmp .ne 15) 3 40 := by decide +kernel
theorem dX11_putEntry_40 : Dc cX11_putEntry 40 (.aload_n 0) 1 41 := by decide +kernel
theorem dX11_putEntry_41 : Dc cX11_putEntry 41 (.iload_n 1) 1 42 := by decide +kernel
theorem dX11_putEntry_42 : Dc cX11_putEntry 42 (.bipush 64) 2 44 := by decide +kernel
theorem dX11_putEntry_44 : Dc cX11_putEntry 44 (.invokevirtual 142) 3 47 := by decide +kernel
theorem dX11_putEntry_47 : Dc cX11_putEntry 47 (.ifCond .ne 5) 3 50 := by decide +kernel
theorem dX11_putEntry_50 : Dc cX11_putEntry 50 (.iconst 0) 1 51 := by decide +kernel
theorem dX11_putEntry_51 : Dc cX11_putEntry 51 (.ireturn) 1 52 := by decide +kernel
theorem dX11_putEntry_52 : Dc cX11_putEntry 52 (.aload_n 0) 1 53 := by decide +kernel
theorem dX11_putEntry_53 : Dc cX11_putEntry 53 (.aload_n 0) 1 54 := by decide +kernel
theorem dX11_putEntry_54 : Dc cX11_putEntry 54 (.iload_n 1) 1 55 := by decide +kernel
theorem dX11_putEntry_55 : Dc cX11_putEntry 55 (.iload_n 3) 1 56 := by decide +kernel
theorem dX11_putEntry_56 : Dc cX11_putEntry 56 (.invokevirtual 73) 3 59 := by decide +kernel
theorem dX11_putEntry_59 : Dc cX11_putEntry 59 (.iload_n 2) 1 60 := by decide +kernel
theorem dX11_putEntry_60 : Dc cX11_putEntry 60 (.invokevirtual 112) 3 63 := by decide +kernel
theorem dX11_putEntry_63 : Dc cX11_putEntry 63 (.iconst 1) 1 64 := by decide +kernel
theorem dX11_putEntry_64 : Dc cX11_putEntry 64 (.ireturn) 1 65 := by decide +kernel
theorem dX11_drop_0 : Dc cX11_drop 0 (.aload_n 0) 1 1 := by decide +kernel
theorem dX11_drop_1 : Dc cX11_drop 1 (.iload_n 1) 1 2 := by decide +kernel
theorem dX11_drop_2 : Dc cX11_drop 2 (.invokestatic 42) 3 5 := by decide +kernel
theorem dX11_drop_5 : Dc cX11_drop 5 (.bipush 16) 2 7 := by decide +kernel
theorem dX11_drop_7 : Dc cX11_drop 7 (.invokevirtual 65) 3 10 := by decide +kernel
theorem dX11_drop_10 : Dc cX11_drop 10 (.iconst 1) 1 11 := by decide +kernel
theorem dX11_drop_11 : Dc cX11_drop 11 (.istore_n 2) 1 12 := by decide +kernel
theorem dX11_drop_12 : Dc cX11_drop 12 (.iload_n 2) 1 13 := by decide +kernel
theorem dX11_drop_13 : Dc cX11_drop 13 (.bipush 32) 2 15 := by decide +kernel
theorem dX11_drop_15 : Dc cX11_drop 15 (.if_icmp .ge 62) 3 18 := by decide +kernel
theorem dX11_drop_18 : Dc cX11_drop 18 (.iconst 2) 1 19 := by decide +kernel
theorem dX11_drop_19 : Dc cX11_drop 19 (.istore_n 3) 1 20 := by decide +kernel
theorem dX11_drop_20 : Dc cX11_drop 20 (.aload_n 0) 1 21 := by decide +kernel
theorem dX11_drop_21 : Dc cX11_drop 21 (.iload_n 2) 1 22 := by decide +kernel
theorem dX11_drop_22 : Dc cX11_drop 22 (.invokevirtual 62) 3 25 := by decide +kernel
theorem dX11_drop_25 : Dc cX11_drop 25 (.iconst 2) 1 26 := by decide +kernel
theorem dX11_drop_26 : Dc cX11_drop 26 (.if_icmp .ne 45) 3 29 := by decide +kernel
theorem dX11_drop_29 : Dc cX11_drop 29 (.iload_n 3) 1 30 := by decide +kernel
theorem dX11_drop_30 : Dc cX11_drop 30 (.aload_n 0) 1 31 := by decide +kernel
theorem dX11_drop_31 : Dc cX11_drop 31 (.iload_n 2) 1 32 := by decide +kernel
theorem dX11_drop_32 : Dc cX11_drop 32 (.invokevirtual 106) 3 35 := by decide +kernel
theorem dX11_drop_35 : Dc cX11_drop 35 (.if_icmp .ge 36) 3 38 := by decide +kernel
theorem dX11_drop_38 : Dc cX11_drop 38 (.aload_n 0) 1 39 := by decide +kernel
theorem dX11_drop_39 : Dc cX11_drop 39 (.getfield 13) 3 42 := by decide +kernel
theorem dX11_drop_42 : Dc cX11_drop 42 (.aload_n 0) 1 43 := by decide +kernel
theorem dX11_drop_43 : Dc cX11_drop 43 (.iload_n 2) 1 44 := by decide +kernel
theorem dX11_drop_44 : Dc cX11_drop 44 (.iload_n 3) 1 45 := by decide +kernel
theorem dX11_drop_45 : Dc cX11_drop 45 (.invokevirtual 73) 3 48 := by decide +kernel
theorem dX11_drop_48 : Dc cX11_drop 48 (.iaload) 1 49 := by decide +kernel
theorem dX11_drop_49 : Dc cX11_drop 49 (.iload_n 1) 1 50 := by decide +kernel
theorem dX11_drop_50 : Dc cX11_drop 50 (.if_icmp .ne 15) 3 53 := by decide +kernel
theorem dX11_drop_53 : Dc cX11_drop 53 (.aload_n 0) 1 54 := by decide +kernel
theorem dX11_drop_54 : Dc cX11_drop 54 (.aload_n 0) 1 55 := by decide +kernel
theorem dX11_drop_55 : Dc cX11_drop 55 (.iload_n 2) 1 56 := by decide +kernel
theorem dX11_drop_56 : Dc cX11_drop 56 (.iload_n 3) 1 57 := by decide +kernel
theorem dX11_drop_57 : Dc cX11_drop 57 (.invokevirtual 73) 3 60 := by decide +kernel
theorem dX11_drop_60 : Dc cX11_drop 60 (.bipush 16) 2 62 := by decide +kernel
theorem dX11_drop_62 : Dc cX11_drop 62 (.invokevirtual 65) 3 65 := by decide +kernel
theorem dX11_drop_65 : Dc cX11_drop 65 (.iinc 3 1) 3 68 := by decide +kernel
theorem dX11_drop_68 : Dc cX11_drop 68 (.goto (-48)) 3 71 := by decide +kernel
theorem dX11_drop_71 : Dc cX11_drop 71 (.iinc 2 1) 3 74 := by decide +kernel
theorem dX11_drop_74 : Dc cX11_drop 74 (.goto (-62)) 3 77 := by decide +kernel
theorem dX11_drop_77 : Dc cX11_drop 77 (.return_) 1 78 := by decide +kernel
theorem dX11_count_0 : Dc cX11_count 0 (.iconst 0) 1 1 := by decide +kernel
theorem dX11_count_1 : Dc cX11_count 1 (.istore_n 2) 1 2 := by decide +kernel
theorem dX11_count_2 : Dc cX11_count 2 (.iconst 1) 1 3 := by decide +kernel
theorem dX11_count_3 : Dc cX11_count 3 (.istore_n 3) 1 4 := by decide +kernel
theorem dX11_count_4 : Dc cX11_count 4 (.iload_n 3) 1 5 := by decide +kernel
theorem dX11_count_5 : Dc cX11_count 5 (.bipush 32) 2 7 := by decide +kernel
theorem dX11_count_7 : Dc cX11_count 7 (.if_icmp .ge 61) 3 10 := by decide +kernel
theorem dX11_count_10 : Dc cX11_count 10 (.iconst 2) 1 11 := by decide +kernel
theorem dX11_count_11 : Dc cX11_count 11 (.istore 4) 2 13 := by decide +kernel
theorem dX11_count_13 : Dc cX11_count 13 (.aload_n 0) 1 14 := by decide +kernel
theorem dX11_count_14 : Dc cX11_count 14 (.iload_n 3) 1 15 := by decide +kernel
theorem dX11_count_15 : Dc cX11_count 15 (.invokevirtual 62) 3 18 := by decide +kernel
theorem dX11_count_18 : Dc cX11_count 18 (.iconst 2) 1 19 := by decide +kernel
theorem dX11_count_19 : Dc cX11_count 19 (.if_icmp .ne 43) 3 22 := by decide +kernel
theorem dX11_count_22 : Dc cX11_count 22 (.iload 4) 2 24 := by decide +kernel
theorem dX11_count_24 : Dc cX11_count 24 (.aload_n 0) 1 25 := by decide +kernel
theorem dX11_count_25 : Dc cX11_count 25 (.iload_n 3) 1 26 := by decide +kernel
theorem dX11_count_26 : Dc cX11_count 26 (.invokevirtual 106) 3 29 := by decide +kernel
theorem dX11_count_29 : Dc cX11_count 29 (.if_icmp .ge 33) 3 32 := by decide +kernel
theorem dX11_count_32 : Dc cX11_count 32 (.iload_n 2) 1 33 := by decide +kernel
theorem dX11_count_33 : Dc cX11_count 33 (.aload_n 0) 1 34 := by decide +kernel
theorem dX11_count_34 : Dc cX11_count 34 (.getfield 13) 3 37 := by decide +kernel
theorem dX11_count_37 : Dc cX11_count 37 (.aload_n 0) 1 38 := by decide +kernel
theorem dX11_count_38 : Dc cX11_count 38 (.iload_n 3) 1 39 := by decide +kernel
theorem dX11_count_39 : Dc cX11_count 39 (.iload 4) 2 41 := by decide +kernel
theorem dX11_count_41 : Dc cX11_count 41 (.invokevirtual 73) 3 44 := by decide +kernel
theorem dX11_count_44 : Dc cX11_count 44 (.iaload) 1 45 := by decide +kernel
theorem dX11_count_45 : Dc cX11_count 45 (.iload_n 1) 1 46 := by decide +kernel
theorem dX11_count_46 : Dc cX11_count 46 (.if_icmp .ne 7) 3 49 := by decide +kernel
theorem dX11_count_49 : Dc cX11_count 49 (.iconst 1) 1 50 := by decide +kernel
theorem dX11_count_50 : Dc cX11_count 50 (.goto 4) 3 53 := by decide +kernel
theorem dX11_count_53 : Dc cX11_count 53 (.iconst 0) 1 54 := by decide +kernel
theorem dX11_count_54 : Dc cX11_count 54 (.iadd) 1 55 := by decide +kernel
theorem dX11_count_55 : Dc cX11_count 55 (.istore_n 2) 1 56 := by decide +kernel
theorem dX11_count_56 : Dc cX11_count 56 (.iinc 4 1) 3 59 := by decide +kernel
theorem dX11_count_59 : Dc cX11_count 59 (.goto (-46)) 3 62 := by decide +kernel
theorem dX11_count_62 : Dc cX11_count 62 (.iinc 3 1) 3 65 := by decide +kernel
theorem dX11_count_65 : Dc cX11_count 65 (.goto (-61)) 3 68 := by decide +kernel
theorem dX11_count_68 : Dc cX11_count 68 (.iload_n 2) 1 69 := by decide +kernel
theorem dX11_count_69 : Dc cX11_count 69 (.ireturn) 1 70 := by decide +kernel
theorem dX11_finish_0 : Dc cX11_finish 0 (.iconst 1) 1 1 := by decide +kernel
theorem dX11_finish_1 : Dc cX11_finish 1 (.istore_n 1) 1 2 := by decide +kernel
theorem dX11_finish_2 : Dc cX11_finish 2 (.iload_n 1) 1 3 := by decide +kernel
theorem dX11_finish_3 : Dc cX11_finish 3 (.bipush 32) 2 5 := by decide +kernel
theorem dX11_finish_5 : Dc cX11_finish 5 (.if_icmp .ge 142) 3 8 := by decide +kernel
theorem dX11_finish_8 : Dc cX11_finish 8 (.aload_n 0) 1 9 := by decide +kernel
theorem dX11_finish_9 : Dc cX11_finish 9 (.iload_n 1) 1 10 := by decide +kernel
theorem dX11_finish_10 : Dc cX11_finish 10 (.invokevirtual 62) 3 13 := by decide +kernel
theorem dX11_finish_13 : Dc cX11_finish 13 (.iconst 1) 1 14 := by decide +kernel
theorem dX11_finish_14 : Dc cX11_finish 14 (.if_icmp .ne 22) 3 17 := by decide +kernel
theorem dX11_finish_17 : Dc cX11_finish 17 (.aload_n 0) 1 18 := by decide +kernel
theorem dX11_finish_18 : Dc cX11_finish 18 (.getfield 13) 3 21 := by decide +kernel
theorem dX11_finish_21 : Dc cX11_finish 21 (.iload_n 1) 1 22 := by decide +kernel
theorem dX11_finish_22 : Dc cX11_finish 22 (.invokestatic 42) 3 25 := by decide +kernel
theorem dX11_finish_25 : Dc cX11_finish 25 (.iconst 1) 1 26 := by decide +kernel
theorem dX11_finish_26 : Dc cX11_finish 26 (.iadd) 1 27 := by decide +kernel
theorem dX11_finish_27 : Dc cX11_finish 27 (.aload_n 0) 1 28 := by decide +kernel
theorem dX11_finish_28 : Dc cX11_finish 28 (.iload_n 1) 1 29 := by decide +kernel
theorem dX11_finish_29 : Dc cX11_finish 29 (.invokevirtual 145) 3 32 := by decide +kernel
theorem dX11_finish_32 : Dc cX11_finish 32 (.iastore) 1 33 := by decide +kernel
theorem dX11_finish_33 : Dc cX11_finish 33 (.goto 79) 3 36 := by decide +kernel
theorem dX11_finish_36 : Dc cX11_finish 36 (.aload_n 0) 1 37 := by decide +kernel
theorem dX11_finish_37 : Dc cX11_finish 37 (.iload_n 1) 1 38 := by decide +kernel
theorem dX11_finish_38 : Dc cX11_finish 38 (.invokevirtual 62) 3 41 := by decide +kernel
theorem dX11_finish_41 : Dc cX11_finish 41 (.iconst 2) 1 42 := by decide +kernel
theorem dX11_finish_42 : Dc cX11_finish 42 (.if_icmp .ne 70) 3 45 := by decide +kernel
theorem dX11_finish_45 : Dc cX11_finish 45 (.iconst 2) 1 46 := by decide +kernel
theorem dX11_finish_46 : Dc cX11_finish 46 (.istore_n 2) 1 47 := by decide +kernel
theorem dX11_finish_47 : Dc cX11_finish 47 (.iconst 2) 1 48 := by decide +kernel
theorem dX11_finish_48 : Dc cX11_finish 48 (.istore_n 3) 1 49 := by decide +kernel
theorem dX11_finish_49 : Dc cX11_finish 49 (.iload_n 3) 1 50 := by decide +kernel
theorem dX11_finish_50 : Dc cX11_finish 50 (.aload_n 0) 1 51 := by decide +kernel
theorem dX11_finish_51 : Dc cX11_finish 51 (.iload_n 1) 1 52 := by decide +kernel
theorem dX11_finish_52 : Dc cX11_finish 52 (.invokevirtual 106) 3 55 := by decide +kernel
theorem dX11_finish_55 : Dc cX11_finish 55 (.if_icmp .ge 45) 3 58 := by decide +kernel
theorem dX11_finish_58 : Dc cX11_finish 58 (.aload_n 0) 1 59 := by decide +kernel
theorem dX11_finish_59 : Dc cX11_finish 59 (.getfield 13) 3 62 := by decide +kernel
theorem dX11_finish_62 : Dc cX11_finish 62 (.aload_n 0) 1 63 := by decide +kernel
theorem dX11_finish_63 : Dc cX11_finish 63 (.iload_n 1) 1 64 := by decide +kernel
theorem dX11_finish_64 : Dc cX11_finish 64 (.iload_n 3) 1 65 := by decide +kernel
theorem dX11_finish_65 : Dc cX11_finish 65 (.invokevirtual 73) 3 68 := by decide +kernel
theorem dX11_finish_68 : Dc cX11_finish 68 (.iaload) 1 69 := by decide +kernel
theorem dX11_finish_69 : Dc cX11_finish 69 (.istore 4) 2 71 := by decide +kernel
theorem dX11_finish_71 : Dc cX11_finish 71 (.iload_n 2) 1 72 := by decide +kernel
theorem dX11_finish_72 : Dc cX11_finish 72 (.iload 4) 2 74 := by decide +kernel
theorem dX11_finish_74 : Dc cX11_finish 74 (.ifCond .eq 17) 3 77 := by decide +kernel
theorem dX11_finish_77 : Dc cX11_finish 77 (.aload_n 0) 1 78 := by decide +kernel
theorem dX11_finish_78 : Dc cX11_finish 78 (.iload 4) 2 80 := by decide +kernel
theorem dX11_finish_80 : Dc cX11_finish 80 (.invokevirtual 62) 3 83 := by decide +kernel
theorem dX11_finish_83 : Dc cX11_finish 83 (.iconst 2) 1 84 := by decide +kernel
theorem dX11_finish_84 : Dc cX11_finish 84 (.if_icmp .ne 7) 3 87 := by decide +kernel
theorem dX11_finish_87 : Dc cX11_finish 87 (.iconst 1) 1 88 := by decide +kernel
theorem dX11_finish_88 : Dc cX11_finish 88 (.goto 4) 3 91 := by decide +kernel
theorem dX11_finish_91 : Dc cX11_finish 91 (.iconst 0) 1 92 := by decide +kernel
theorem dX11_finish_92 : Dc cX11_finish 92 (.iadd) 1 93 := by decide +kernel
theorem dX11_finish_93 : Dc cX11_finish 93 (.istore_n 2) 1 94 := by decide +kernel
theorem dX11_finish_94 : Dc cX11_finish 94 (.iinc 3 1) 3 97 := by decide +kernel
theorem dX11_finish_97 : Dc cX11_finish 97 (.goto (-48)) 3 100 := by decide +kernel
theorem dX11_finish_100 : Dc cX11_finish 100 (.aload_n 0) 1 101 := by decide +kernel
theorem dX11_finish_101 : Dc cX11_finish 101 (.getfield 13) 3 104 := by decide +kernel
theorem dX11_finish_104 : Dc cX11_finish 104 (.iload_n 1) 1 105 := by decide +kernel
theorem dX11_finish_105 : Dc cX11_finish 105 (.invokestatic 42) 3 108 := by decide +kernel
theorem dX11_finish_108 : Dc cX11_finish 108 (.iconst 1) 1 109 := by decide +kernel
theorem dX11_finish_109 : Dc cX11_finish 109 (.iadd) 1 110 := by decide +kernel
theorem dX11_finish_110 : Dc cX11_finish 110 (.iload_n 2) 1 111 := by decide +kernel
theorem dX11_finish_111 : Dc cX11_finish 111 (.iastore) 1 112 := by decide +kernel
theorem dX11_finish_112 : Dc cX11_finish 112 (.aload_n 0) 1 113 := by decide +kernel
theorem dX11_finish_113 : Dc cX11_finish 113 (.iload_n 1) 1 114 := by decide +kernel
theorem dX11_finish_114 : Dc cX11_finish 114 (.invokevirtual 62) 3 117 := by decide +kernel
theorem dX11_finish_117 : Dc cX11_finish 117 (.ifCond .le 24) 3 120 := by decide +kernel
theorem dX11_finish_120 : Dc cX11_finish 120 (.aload_n 0) 1 121 := by decide +kernel
theorem dX11_finish_121 : Dc cX11_finish 121 (.iload_n 1) 1 122 := by decide +kernel
theorem dX11_finish_122 : Dc cX11_finish 122 (.invokestatic 42) 3 125 := by decide +kernel
theorem dX11_finish_125 : Dc cX11_finish 125 (.bipush 14) 2 127 := by decide +kernel
theorem dX11_finish_127 : Dc cX11_finish 127 (.iadd) 1 128 := by decide +kernel
theorem dX11_finish_128 : Dc cX11_finish 128 (.aload_n 0) 1 129 := by decide +kernel
theorem dX11_finish_129 : Dc cX11_finish 129 (.iload_n 1) 1 130 := by decide +kernel
theorem dX11_finish_130 : Dc cX11_finish 130 (.invokestatic 42) 3 133 := by decide +kernel
theorem dX11_finish_133 : Dc cX11_finish 133 (.bipush 14) 2 135 := by decide +kernel
theorem dX11_finish_135 : Dc cX11_finish 135 (.invokevirtual 38) 3 138 := by decide +kernel
theorem dX11_finish_138 : Dc cX11_finish 138 (.invokevirtual 103) 3 141 := by decide +kernel
theorem dX11_finish_141 : Dc cX11_finish 141 (.iinc 1 1) 3 144 := by decide +kernel
theorem dX11_finish_144 : Dc cX11_finish 144 (.goto (-142)) 3 147 := by decide +kernel
theorem dX11_finish_147 : Dc cX11_finish 147 (.aload_n 0) 1 148 := by decide +kernel
theorem dX11_finish_148 : Dc cX11_finish 148 (.iconst 0) 1 149 := by decide +kernel
theorem dX11_finish_149 : Dc cX11_finish 149 (.invokevirtual 97) 3 152 := by decide +kernel
theorem dX11_finish_152 : Dc cX11_finish 152 (.istore_n 1) 1 153 := by decide +kernel
theorem dX11_finish_153 : Dc cX11_finish 153 (.iconst 0) 1 154 := by decide +kernel
theorem dX11_finish_154 : Dc cX11_finish 154 (.istore_n 2) 1 155 := by decide +kernel
theorem dX11_finish_155 : Dc cX11_finish 155 (.iconst 0) 1 156 := by decide +kernel
theorem dX11_finish_156 : Dc cX11_finish 156 (.istore_n 3) 1 157 := by decide +kernel
theorem dX11_finish_157 : Dc cX11_finish 157 (.aload_n 0) 1 158 := by decide +kernel
theorem dX11_finish_158 : Dc cX11_finish 158 (.sipush 448) 3 161 := by decide +kernel
theorem dX11_finish_161 : Dc cX11_finish 161 (.bipush 64) 2 163 := by decide +kernel
theorem dX11_finish_163 : Dc cX11_finish 163 (.invokevirtual 65) 3 166 := by decide +kernel
theorem dX11_finish_166 : Dc cX11_finish 166 (.iconst 0) 1 167 := by decide +kernel
theorem dX11_finish_167 : Dc cX11_finish 167 (.istore 4) 2 169 := by decide +kernel
theorem dX11_finish_169 : Dc cX11_finish 169 (.iload 4) 2 171 := by decide +kernel
theorem dX11_finish_171 : Dc cX11_finish 171 (.bipush 64) 2 173 := by decide +kernel
theorem dX11_finish_173 : Dc cX11_finish 173 (.if_icmp .ge 88) 3 176 := by decide +kernel
theorem dX11_finish_176 : Dc cX11_finish 176 (.iload 4) 2 178 := by decide +kernel
theorem dX11_finish_178 : Dc cX11_finish 178 (.bipush 16) 2 180 := by decide +kernel
theorem dX11_finish_180 : Dc cX11_finish 180 (.if_icmp .lt 20) 3 183 := by decide +kernel
theorem dX11_finish_183 : Dc cX11_finish 183 (.iload 4) 2 185 := by decide +kernel
theorem dX11_finish_185 : Dc cX11_finish 185 (.bipush 63) 2 187 := by decide +kernel
theorem dX11_finish_187 : Dc cX11_finish 187 (.if_icmp .eq 13) 3 190 := by decide +kernel
theorem dX11_finish_190 : Dc cX11_finish 190 (.aload_n 0) 1 191 := by decide +kernel
theorem dX11_finish_191 : Dc cX11_finish 191 (.getfield 16) 3 194 := by decide +kernel
theorem dX11_finish_194 : Dc cX11_finish 194 (.iload 4) 2 196 := by decide +kernel
theorem dX11_finish_196 : Dc cX11_finish 196 (.baload) 1 197 := by decide +kernel
theorem dX11_finish_197 : Dc cX11_finish 197 (.ifCond .eq 7) 3 200 := by decide +kernel
theorem dX11_finish_200 : Dc cX11_finish 200 (.iconst 1) 1 201 := by decide +kernel
theorem dX11_finish_201 : Dc cX11_finish 201 (.goto 4) 3 204 := by decide +kernel
theorem dX11_finish_204 : Dc cX11_finish 204 (.iconst 0) 1 205 := by decide +kernel
theorem dX11_finish_205 : Dc cX11_finish 205 (.istore 5) 2 207 := by decide +kernel
theorem dX11_finish_207 : Dc cX11_finish 207 (.iload_n 2) 1 208 := by decide +kernel
theorem dX11_finish_208 : Dc cX11_finish 208 (.iload 5) 2 210 := by decide +kernel
theorem dX11_finish_210 : Dc cX11_finish 210 (.ifCond .eq 7) 3 213 := by decide +kernel
theorem dX11_finish_213 : Dc cX11_finish 213 (.iconst 0) 1 214 := by decide +kernel
theorem dX11_finish_214 : Dc cX11_finish 214 (.goto 4) 3 217 := by decide +kernel
theorem dX11_finish_217 : Dc cX11_finish 217 (.iconst 1) 1 218 := by decide +kernel
theorem dX11_finish_218 : Dc cX11_finish 218 (.iadd) 1 219 := by decide +kernel
theorem dX11_finish_219 : Dc cX11_finish 219 (.istore_n 2) 1 220 := by decide +kernel
theorem dX11_finish_220 : Dc cX11_finish 220 (.aload_n 0) 1 221 := by decide +kernel
theorem dX11_finish_221 : Dc cX11_finish 221 (.getfield 13) 3 224 := by decide +kernel
theorem dX11_finish_224 : Dc cX11_finish 224 (.sipush 448) 3 227 := by decide +kernel
theorem dX11_finish_227 : Dc cX11_finish 227 (.iload 4) 2 229 := by decide +kernel
theorem dX11_finish_229 : Dc cX11_finish 229 (.bipush 8) 2 231 := by decide +kernel
theorem dX11_finish_231 : Dc cX11_finish 231 (.idiv) 1 232 := by decide +kernel
theorem dX11_finish_232 : Dc cX11_finish 232 (.iadd) 1 233 := by decide +kernel
theorem dX11_finish_233 : Dc cX11_finish 233 (.dup2) 1 234 := by decide +kernel
theorem dX11_finish_234 : Dc cX11_finish 234 (.iaload) 1 235 := by decide +kernel
theorem dX11_finish_235 : Dc cX11_finish 235 (.iload 5) 2 237 := by decide +kernel
theorem dX11_finish_237 : Dc cX11_finish 237 (.ifCond .eq 15) 3 240 := by decide +kernel
theorem dX11_finish_240 : Dc cX11_finish 240 (.sipush 128) 3 243 := by decide +kernel
theorem dX11_finish_243 : Dc cX11_finish 243 (.iload 4) 2 245 := by decide +kernel
theorem dX11_finish_245 : Dc cX11_finish 245 (.bipush 8) 2 247 := by decide +kernel
theorem dX11_finish_247 : Dc cX11_finish 247 (.irem) 1 248 := by decide +kernel
theorem dX11_finish_248 : Dc cX11_finish 248 (.ishr) 1 249 := by decide +kernel
theorem dX11_finish_249 : Dc cX11_finish 249 (.goto 4) 3 252 := by decide +kernel
theorem dX11_finish_252 : Dc cX11_finish 252 (.iconst 0) 1 253 := by decide +kernel
theorem dX11_finish_253 : Dc cX11_finish 253 (.iadd) 1 254 := by decide +kernel
theorem dX11_finish_254 : Dc cX11_finish 254 (.iastore) 1 255 := by decide +kernel
theorem dX11_finish_255 : Dc cX11_finish 255 (.iinc 4 1) 3 258 := by decide +kernel
theorem dX11_finish_258 : Dc cX11_finish 258 (.goto (-89)) 3 261 := by decide +kernel
theorem dX11_finish_261 : Dc cX11_finish 261 (.iconst 0) 1 262 := by decide +kernel
theorem dX11_finish_262 : Dc cX11_finish 262 (.istore 4) 2 264 := by decide +kernel
theorem dX11_finish_264 : Dc cX11_finish 264 (.iload 4) 2 266 := by decide +kernel
theorem dX11_finish_266 : Dc cX11_finish 266 (.bipush 32) 2 268 := by decide +kernel
theorem dX11_finish_268 : Dc cX11_finish 268 (.if_icmp .ge 78) 3 271 := by decide +kernel
theorem dX11_finish_271 : Dc cX11_finish 271 (.iload 4) 2 273 := by decide +kernel
theorem dX11_finish_273 : Dc cX11_finish 273 (.ifCond .eq 12) 3 276 := by decide +kernel
theorem dX11_finish_276 : Dc cX11_finish 276 (.aload_n 0) 1 277 := by decide +kernel
theorem dX11_finish_277 : Dc cX11_finish 277 (.iload 4) 2 279 := by decide +kernel
theorem dX11_finish_279 : Dc cX11_finish 279 (.invokevirtual 62) 3 282 := by decide +kernel
theorem dX11_finish_282 : Dc cX11_finish 282 (.ifCond .le 7) 3 285 := by decide +kernel
theorem dX11_finish_285 : Dc cX11_finish 285 (.iconst 1) 1 286 := by decide +kernel
theorem dX11_finish_286 : Dc cX11_finish 286 (.goto 4) 3 289 := by decide +kernel
theorem dX11_finish_289 : Dc cX11_finish 289 (.iconst 0) 1 290 := by decide +kernel
theorem dX11_finish_290 : Dc cX11_finish 290 (.istore 5) 2 292 := by decide +kernel
theorem dX11_finish_292 : Dc cX11_finish 292 (.iload_n 3) 1 293 := by decide +kernel
theorem dX11_finish_293 : Dc cX11_finish 293 (.iload 5) 2 295 := by decide +kernel
theorem dX11_finish_295 : Dc cX11_finish 295 (.ifCond .eq 7) 3 298 := by decide +kernel
theorem dX11_finish_298 : Dc cX11_finish 298 (.iconst 0) 1 299 := by decide +kernel
theorem dX11_finish_299 : Dc cX11_finish 299 (.goto 4) 3 302 := by decide +kernel
theorem dX11_finish_302 : Dc cX11_finish 302 (.iconst 1) 1 303 := by decide +kernel
theorem dX11_finish_303 : Dc cX11_finish 303 (.iadd) 1 304 := by decide +kernel
theorem dX11_finish_304 : Dc cX11_finish 304 (.istore_n 3) 1 305 := by decide +kernel
theorem dX11_finish_305 : Dc cX11_finish 305 (.aload_n 0) 1 306 := by decide +kernel
theorem dX11_finish_306 : Dc cX11_finish 306 (.getfield 13) 3 309 := by decide +kernel
theorem dX11_finish_309 : Dc cX11_finish 309 (.sipush 456) 3 312 := by decide +kernel
theorem dX11_finish_312 : Dc cX11_finish 312 (.iload 4) 2 314 := by decide +kernel
theorem dX11_finish_314 : Dc cX11_finish 314 (.bipush 8) 2 316 := by decide +kernel
theorem dX11_finish_316 : Dc cX11_finish 316 (.idiv) 1 317 := by decide +kernel
theorem dX11_finish_317 : Dc cX11_finish 317 (.iadd) 1 318 := by decide +kernel
theorem dX11_finish_318 : Dc cX11_finish 318 (.dup2) 1 319 := by decide +kernel
theorem dX11_finish_319 : Dc cX11_finish 319 (.iaload) 1 320 := by decide +kernel
theorem dX11_finish_320 : Dc cX11_finish 320 (.iload 5) 2 322 := by decide +kernel
theorem dX11_finish_322 : Dc cX11_finish 322 (.ifCond .eq 15) 3 325 := by decide +kernel
theorem dX11_finish_325 : Dc cX11_finish 325 (.sipush 128) 3 328 := by decide +kernel
theorem dX11_finish_328 : Dc cX11_finish 328 (.iload 4) 2 330 := by decide +kernel
theorem dX11_finish_330 : Dc cX11_finish 330 (.bipush 8) 2 332 := by decide +kernel
theorem dX11_finish_332 : Dc cX11_finish 332 (.irem) 1 333 := by decide +kernel
theorem dX11_finish_333 : Dc cX11_finish 333 (.ishr) 1 334 := by decide +kernel
theorem dX11_finish_334 : Dc cX11_finish 334 (.goto 4) 3 337 := by decide +kernel
theorem dX11_finish_337 : Dc cX11_finish 337 (.iconst 0) 1 338 := by decide +kernel
theorem dX11_finish_338 : Dc cX11_finish 338 (.iadd) 1 339 := by decide +kernel
theorem dX11_finish_339 : Dc cX11_finish 339 (.iastore) 1 340 := by decide +kernel
theorem dX11_finish_340 : Dc cX11_finish 340 (.iinc 4 1) 3 343 := by decide +kernel
theorem dX11_finish_343 : Dc cX11_finish 343 (.goto (-79)) 3 346 := by decide +kernel
theorem dX11_finish_346 : Dc cX11_finish 346 (.aload_n 0) 1 347 := by decide +kernel
theorem dX11_finish_347 : Dc cX11_finish 347 (.iconst 0) 1 348 := by decide +kernel
theorem dX11_finish_348 : Dc cX11_finish 348 (.iload_n 2) 1 349 := by decide +kernel
theorem dX11_finish_349 : Dc cX11_finish 349 (.iload_n 3) 1 350 := by decide +kernel
theorem dX11_finish_350 : Dc cX11_finish 350 (.invokevirtual 148) 3 353 := by decide +kernel
theorem dX11_finish_353 : Dc cX11_finish 353 (.aload_n 0) 1 354 := by decide +kernel
theorem dX11_finish_354 : Dc cX11_finish 354 (.sipush 4032) 3 357 := by decide +kernel
theorem dX11_finish_357 : Dc cX11_finish 357 (.iload_n 2) 1 358 := by decide +kernel
theorem dX11_finish_358 : Dc cX11_finish 358 (.iload_n 3) 1 359 := by decide +kernel
theorem dX11_finish_359 : Dc cX11_finish 359 (.invokevirtual 148) 3 362 := by decide +kernel
theorem dX11_finish_362 : Dc cX11_finish 362 (.return_) 1 363 := by decide +kernel
theorem dX11_superAt_0 : Dc cX11_superAt 0 (.aload_n 0) 1 1 := by decide +kernel
theorem dX11_superAt_1 : Dc cX11_superAt 1 (.iload_n 1) 1 2 := by decide +kernel
theorem dX11_superAt_2 : Dc cX11_superAt 2 (.bipush 64) 2 4 := by decide +kernel
theorem dX11_superAt_4 : Dc cX11_superAt 4 (.invokevirtual 65) 3 7 := by decide +kernel
theorem dX11_superAt_7 : Dc cX11_superAt 7 (.aload_n 0) 1 8 := by decide +kernel
theorem dX11_superAt_8 : Dc cX11_superAt 8 (.getfield 13) 3 11 := by decide +kernel
theorem dX11_superAt_11 : Dc cX11_superAt 11 (.iload_n 1) 1 12 := by decide +kernel
theorem dX11_superAt_12 : Dc cX11_superAt 12 (.bipush 83) 2 14 := by decide +kernel
theorem dX11_superAt_14 : Dc cX11_superAt 14 (.iastore) 1 15 := by decide +kernel
theorem dX11_superAt_15 : Dc cX11_superAt 15 (.aload_n 0) 1 16 := by decide +kernel
theorem dX11_superAt_16 : Dc cX11_superAt 16 (.getfield 13) 3 19 := by decide +kernel
theorem dX11_superAt_19 : Dc cX11_superAt 19 (.iload_n 1) 1 20 := by decide +kernel
theorem dX11_superAt_20 : Dc cX11_superAt 20 (.iconst 1) 1 21 := by decide +kernel
theorem dX11_superAt_21 : Dc cX11_superAt 21 (.iadd) 1 22 := by decide +kernel
theorem dX11_superAt_22 : Dc cX11_superAt 22 (.bipush 70) 2 24 := by decide +kernel
theorem dX11_superAt_24 : Dc cX11_superAt 24 (.iastore) 1 25 := by decide +kernel
theorem dX11_superAt_25 : Dc cX11_superAt 25 (.aload_n 0) 1 26 := by decide +kernel
theorem dX11_superAt_26 : Dc cX11_superAt 26 (.getfield 13) 3 29 := by decide +kernel
theorem dX11_superAt_29 : Dc cX11_superAt 29 (.iload_n 1) 1 30 := by decide +kernel
theorem dX11_superAt_30 : Dc cX11_superAt 30 (.iconst 2) 1 31 := by decide +kernel
theorem dX11_superAt_31 : Dc cX11_superAt 31 (.iadd) 1 32 := by decide +kernel
theorem dX11_superAt_32 : Dc cX11_superAt 32 (.bipush 83) 2 34 := by decide +kernel
theorem dX11_superAt_34 : Dc cX11_superAt 34 (.iastore) 1 35 := by decide +kernel
theorem dX11_superAt_35 : Dc cX11_superAt 35 (.aload_n 0) 1 36 := by decide +kernel
theorem dX11_superAt_36 : Dc cX11_superAt 36 (.getfield 13) 3 39 := by decide +kernel
theorem dX11_superAt_39 : Dc cX11_superAt 39 (.iload_n 1) 1 40 := by decide +kernel
theorem dX11_superAt_40 : Dc cX11_superAt 40 (.iconst 3) 1 41 := by decide +kernel
theorem dX11_superAt_41 : Dc cX11_superAt 41 (.iadd) 1 42 := by decide +kernel
theorem dX11_superAt_42 : Dc cX11_superAt 42 (.bipush 75) 2 44 := by decide +kernel
theorem dX11_superAt_44 : Dc cX11_superAt 44 (.iastore) 1 45 := by decide +kernel
theorem dX11_superAt_45 : Dc cX11_superAt 45 (.aload_n 0) 1 46 := by decide +kernel
theorem dX11_superAt_46 : Dc cX11_superAt 46 (.iload_n 1) 1 47 := by decide +kernel
theorem dX11_superAt_47 : Dc cX11_superAt 47 (.iconst 4) 1 48 := by decide +kernel
theorem dX11_superAt_48 : Dc cX11_superAt 48 (.iadd) 1 49 := by decide +kernel
theorem dX11_superAt_49 : Dc cX11_superAt 49 (.iload_n 2) 1 50 := by decide +kernel
theorem dX11_superAt_50 : Dc cX11_superAt 50 (.invokevirtual 103) 3 53 := by decide +kernel
theorem dX11_superAt_53 : Dc cX11_superAt 53 (.aload_n 0) 1 54 := by decide +kernel
theorem dX11_superAt_54 : Dc cX11_superAt 54 (.iload_n 1) 1 55 := by decide +kernel
theorem dX11_superAt_55 : Dc cX11_superAt 55 (.bipush 6) 2 57 := by decide +kernel
theorem dX11_superAt_57 : Dc cX11_superAt 57 (.iadd) 1 58 := by decide +kernel
theorem dX11_superAt_58 : Dc cX11_superAt 58 (.iload_n 3) 1 59 := by decide +kernel
theorem dX11_superAt_59 : Dc cX11_superAt 59 (.invokevirtual 103) 3 62 := by decide +kernel
theorem dX11_superAt_62 : Dc cX11_superAt 62 (.aload_n 0) 1 63 := by decide +kernel
theorem dX11_superAt_63 : Dc cX11_superAt 63 (.iload_n 1) 1 64 := by decide +kernel
theorem dX11_superAt_64 : Dc cX11_superAt 64 (.bipush 62) 2 66 := by decide +kernel
theorem dX11_superAt_66 : Dc cX11_superAt 66 (.iadd) 1 67 := by decide +kernel
theorem dX11_superAt_67 : Dc cX11_superAt 67 (.aload_n 0) 1 68 := by decide +kernel
theorem dX11_superAt_68 : Dc cX11_superAt 68 (.iload_n 1) 1 69 := by decide +kernel
theorem dX11_superAt_69 : Dc cX11_superAt 69 (.bipush 62) 2 71 := by decide +kernel
theorem dX11_superAt_71 : Dc cX11_superAt 71 (.invokevirtual 38) 3 74 := by decide +kernel
theorem dX11_superAt_74 : Dc cX11_superAt 74 (.invokevirtual 103) 3 77 := by decide +kernel
theorem dX11_superAt_77 : Dc cX11_superAt 77 (.return_) 1 78 := by decide +kernel
theorem dX11_passes_0 : Dc cX11_passes 0 (.aload_n 0) 1 1 := by decide +kernel
theorem dX11_passes_1 : Dc cX11_passes 1 (.invokevirtual 152) 3 4 := by decide +kernel
theorem dX11_passes_4 : Dc cX11_passes 4 (.aload_n 0) 1 5 := by decide +kernel
theorem dX11_passes_5 : Dc cX11_passes 5 (.iconst 0) 1 6 := by decide +kernel
theorem dX11_passes_6 : Dc cX11_passes 6 (.invokevirtual 155) 3 9 := by decide +kernel
theorem dX11_passes_9 : Dc cX11_passes 9 (.ifCond .ne 15) 3 12 := by decide +kernel
theorem dX11_passes_12 : Dc cX11_passes 12 (.aload_n 0) 1 13 := by decide +kernel
theorem dX11_passes_13 : Dc cX11_passes 13 (.sipush 4032) 3 16 := by decide +kernel
theorem dX11_passes_16 : Dc cX11_passes 16 (.invokevirtual 155) 3 19 := by decide +kernel
theorem dX11_passes_19 : Dc cX11_passes 19 (.ifCond .ne 5) 3 22 := by decide +kernel
theorem dX11_passes_22 : Dc cX11_passes 22 (.iconst 0) 1 23 := by decide +kernel
theorem dX11_passes_23 : Dc cX11_passes 23 (.ireturn) 1 24 := by decide +kernel
theorem dX11_passes_24 : Dc cX11_passes 24 (.aload_n 0) 1 25 := by decide +kernel
theorem dX11_passes_25 : Dc cX11_passes 25 (.invokevirtual 158) 3 28 := by decide +kernel
theorem dX11_passes_28 : Dc cX11_passes 28 (.aload_n 0) 1 29 := by decide +kernel
theorem dX11_passes_29 : Dc cX11_passes 29 (.invokevirtual 161) 3 32 := by decide +kernel
theorem dX11_passes_32 : Dc cX11_passes 32 (.aload_n 0) 1 33 := by decide +kernel
theorem dX11_passes_33 : Dc cX11_passes 33 (.invokevirtual 164) 3 36 := by decide +kernel
theorem dX11_passes_36 : Dc cX11_passes 36 (.aload_n 0) 1 37 := by decide +kernel
theorem dX11_passes_37 : Dc cX11_passes 37 (.invokevirtual 167) 3 40 := by decide +kernel
theorem dX11_passes_40 : Dc cX11_passes 40 (.aload_n 0) 1 41 := by decide +kernel
theorem dX11_passes_41 : Dc cX11_passes 41 (.invokevirtual 170) 3 44 := by decide +kernel
theorem dX11_passes_44 : Dc cX11_passes 44 (.iconst 1) 1 45 := by decide +kernel
theorem dX11_passes_45 : Dc cX11_passes 45 (.ireturn) 1 46 := by decide +kernel
theorem dX11_differs_0 : Dc cX11_differs 0 (.iconst 0) 1 1 := by decide +kernel
theorem dX11_differs_1 : Dc cX11_differs 1 (.istore_n 2) 1 2 := by decide +kernel
theorem dX11_differs_2 : Dc cX11_differs 2 (.bipush 64) 2 4 := by decide +kernel
theorem dX11_differs_4 : Dc cX11_differs 4 (.iload_n 1) 1 5 := by decide +kernel
theorem dX11_differs_5 : Dc cX11_differs 5 (.imul) 1 6 := by decide +kernel
theorem dX11_differs_6 : Dc cX11_differs 6 (.istore_n 3) 1 7 := by decide +kernel
theorem dX11_differs_7 : Dc cX11_differs 7 (.iload_n 3) 1 8 := by decide +kernel
theorem dX11_differs_8 : Dc cX11_differs 8 (.bipush 64) 2 10 := by decide +kernel
theorem dX11_differs_10 : Dc cX11_differs 10 (.iload_n 1) 1 11 := by decide +kernel
theorem dX11_differs_11 : Dc cX11_differs 11 (.imul) 1 12 := by decide +kernel
theorem dX11_differs_12 : Dc cX11_differs 12 (.bipush 64) 2 14 := by decide +kernel
theorem dX11_differs_14 : Dc cX11_differs 14 (.iadd) 1 15 := by decide +kernel
theorem dX11_differs_15 : Dc cX11_differs 15 (.if_icmp .ge 34) 3 18 := by decide +kernel
theorem dX11_differs_18 : Dc cX11_differs 18 (.iload_n 2) 1 19 := by decide +kernel
theorem dX11_differs_19 : Dc cX11_differs 19 (.ifCond .ne 18) 3 22 := by decide +kernel
theorem dX11_differs_22 : Dc cX11_differs 22 (.aload_n 0) 1 23 := by decide +kernel
theorem dX11_differs_23 : Dc cX11_differs 23 (.getfield 13) 3 26 := by decide +kernel
theorem dX11_differs_26 : Dc cX11_differs 26 (.iload_n 3) 1 27 := by decide +kernel
theorem dX11_differs_27 : Dc cX11_differs 27 (.iaload) 1 28 := by decide +kernel
theorem dX11_differs_28 : Dc cX11_differs 28 (.aload_n 0) 1 29 := by decide +kernel
theorem dX11_differs_29 : Dc cX11_differs 29 (.getfield 7) 3 32 := by decide +kernel
theorem dX11_differs_32 : Dc cX11_differs 32 (.iload_n 3) 1 33 := by decide +kernel
theorem dX11_differs_33 : Dc cX11_differs 33 (.iaload) 1 34 := by decide +kernel
theorem dX11_differs_34 : Dc cX11_differs 34 (.if_icmp .eq 7) 3 37 := by decide +kernel
theorem dX11_differs_37 : Dc cX11_differs 37 (.iconst 1) 1 38 := by decide +kernel
theorem dX11_differs_38 : Dc cX11_differs 38 (.goto 4) 3 41 := by decide +kernel
theorem dX11_differs_41 : Dc cX11_differs 41 (.iconst 0) 1 42 := by decide +kernel
theorem dX11_differs_42 : Dc cX11_differs 42 (.istore_n 2) 1 43 := by decide +kernel
theorem dX11_differs_43 : Dc cX11_differs 43 (.iinc 3 1) 3 46 := by decide +kernel
theorem dX11_differs_46 : Dc cX11_differs 46 (.goto (-39)) 3 49 := by decide +kernel
theorem dX11_differs_49 : Dc cX11_differs 49 (.iload_n 2) 1 50 := by decide +kernel
theorem dX11_differs_50 : Dc cX11_differs 50 (.ireturn) 1 51 := by decide +kernel
theorem dX11_written_0 : Dc cX11_written 0 (.iconst 0) 1 1 := by decide +kernel
theorem dX11_written_1 : Dc cX11_written 1 (.istore_n 3) 1 2 := by decide +kernel
theorem dX11_written_2 : Dc cX11_written 2 (.iconst 0) 1 3 := by decide +kernel
theorem dX11_written_3 : Dc cX11_written 3 (.istore 4) 2 5 := by decide +kernel
theorem dX11_written_5 : Dc cX11_written 5 (.iload 4) 2 7 := by decide +kernel
theorem dX11_written_7 : Dc cX11_written 7 (.bipush 64) 2 9 := by decide +kernel
theorem dX11_written_9 : Dc cX11_written 9 (.if_icmp .ge 70) 3 12 := by decide +kernel
theorem dX11_written_12 : Dc cX11_written 12 (.iload_n 3) 1 13 := by decide +kernel
theorem dX11_written_13 : Dc cX11_written 13 (.iload_n 1) 1 14 := by decide +kernel
theorem dX11_written_14 : Dc cX11_written 14 (.if_icmp .ge 65) 3 17 := by decide +kernel
theorem dX11_written_17 : Dc cX11_written 17 (.aload_n 0) 1 18 := by decide +kernel
theorem dX11_written_18 : Dc cX11_written 18 (.iload 4) 2 20 := by decide +kernel
theorem dX11_written_20 : Dc cX11_written 20 (.invokevirtual 173) 3 23 := by decide +kernel
theorem dX11_written_23 : Dc cX11_written 23 (.ifCond .eq 50) 3 26 := by decide +kernel
theorem dX11_written_26 : Dc cX11_written 26 (.iinc 3 1) 3 29 := by decide +kernel
theorem dX11_written_29 : Dc cX11_written 29 (.bipush 64) 2 31 := by decide +kernel
theorem dX11_written_31 : Dc cX11_written 31 (.iload 4) 2 33 := by decide +kernel
theorem dX11_written_33 : Dc cX11_written 33 (.imul) 1 34 := by decide +kernel
theorem dX11_written_34 : Dc cX11_written 34 (.istore 5) 2 36 := by decide +kernel
theorem dX11_written_36 : Dc cX11_written 36 (.iload 5) 2 38 := by decide +kernel
theorem dX11_written_38 : Dc cX11_written 38 (.bipush 64) 2 40 := by decide +kernel
theorem dX11_written_40 : Dc cX11_written 40 (.iload 4) 2 42 := by decide +kernel
theorem dX11_written_42 : Dc cX11_written 42 (.imul) 1 43 := by decide +kernel
theorem dX11_written_43 : Dc cX11_written 43 (.bipush 64) 2 45 := by decide +kernel
theorem dX11_written_45 : Dc cX11_written 45 (.iadd) 1 46 := by decide +kernel
theorem dX11_written_46 : Dc cX11_written 46 (.if_icmp .ge 27) 3 49 := by decide +kernel
theorem dX11_written_49 : Dc cX11_written 49 (.iload_n 2) 1 50 := by decide +kernel
theorem dX11_written_50 : Dc cX11_written 50 (.ifCond .eq 23) 3 53 := by decide +kernel
theorem dX11_written_53 : Dc cX11_written 53 (.aload_n 0) 1 54 := by decide +kernel
theorem dX11_written_54 : Dc cX11_written 54 (.getfield 7) 3 57 := by decide +kernel
theorem dX11_written_57 : Dc cX11_written 57 (.iload 5) 2 59 := by decide +kernel
theorem dX11_written_59 : Dc cX11_written 59 (.aload_n 0) 1 60 := by decide +kernel
theorem dX11_written_60 : Dc cX11_written 60 (.getfield 13) 3 63 := by decide +kernel
theorem dX11_written_63 : Dc cX11_written 63 (.iload 5) 2 65 := by decide +kernel
theorem dX11_written_65 : Dc cX11_written 65 (.iaload) 1 66 := by decide +kernel
theorem dX11_written_66 : Dc cX11_written 66 (.iastore) 1 67 := by decide +kernel
theorem dX11_written_67 : Dc cX11_written 67 (.iinc 5 1) 3 70 := by decide +kernel
theorem dX11_written_70 : Dc cX11_written 70 (.goto (-34)) 3 73 := by decide +kernel
theorem dX11_written_73 : Dc cX11_written 73 (.iinc 4 1) 3 76 := by decide +kernel
theorem dX11_written_76 : Dc cX11_written 76 (.goto (-71)) 3 79 := by decide +kernel
theorem dX11_written_79 : Dc cX11_written 79 (.iload_n 3) 1 80 := by decide +kernel
theorem dX11_written_80 : Dc cX11_written 80 (.ireturn) 1 81 := by decide +kernel
theorem dX11_format_0 : Dc cX11_format 0 (.iconst 0) 1 1 := by decide +kernel
theorem dX11_format_1 : Dc cX11_format 1 (.istore_n 1) 1 2 := by decide +kernel
theorem dX11_format_2 : Dc cX11_format 2 (.iload_n 1) 1 3 := by decide +kernel
theorem dX11_format_3 : Dc cX11_format 3 (.sipush 4096) 3 6 := by decide +kernel
theorem dX11_format_6 : Dc cX11_format 6 (.if_icmp .ge 16) 3 9 := by decide +kernel
theorem dX11_format_9 : Dc cX11_format 9 (.aload_n 0) 1 10 := by decide +kernel
theorem dX11_format_10 : Dc cX11_format 10 (.getfield 13) 3 13 := by decide +kernel
theorem dX11_format_13 : Dc cX11_format 13 (.iload_n 1) 1 14 := by decide +kernel
theorem dX11_format_14 : Dc cX11_format 14 (.iconst 0) 1 15 := by decide +kernel
theorem dX11_format_15 : Dc cX11_format 15 (.iastore) 1 16 := by decide +kernel
theorem dX11_format_16 : Dc cX11_format 16 (.iinc 1 1) 3 19 := by decide +kernel
theorem dX11_format_19 : Dc cX11_format 19 (.goto (-17)) 3 22 := by decide +kernel
theorem dX11_format_22 : Dc cX11_format 22 (.aload_n 0) 1 23 := by decide +kernel
theorem dX11_format_23 : Dc cX11_format 23 (.iconst 0) 1 24 := by decide +kernel
theorem dX11_format_24 : Dc cX11_format 24 (.iconst 0) 1 25 := by decide +kernel
theorem dX11_format_25 : Dc cX11_format 25 (.iconst 0) 1 26 := by decide +kernel
theorem dX11_format_26 : Dc cX11_format 26 (.invokevirtual 148) 3 29 := by decide +kernel
theorem dX11_format_29 : Dc cX11_format 29 (.aload_n 0) 1 30 := by decide +kernel
theorem dX11_format_30 : Dc cX11_format 30 (.invokevirtual 176) 3 33 := by decide +kernel
theorem dX11_format_33 : Dc cX11_format 33 (.aload_n 0) 1 34 := by decide +kernel
theorem dX11_format_34 : Dc cX11_format 34 (.iconst (-1)) 1 35 := by decide +kernel
theorem dX11_format_35 : Dc cX11_format 35 (.invokevirtual 179) 3 38 := by decide +kernel
theorem dX11_format_38 : Dc cX11_format 38 (.ireturn) 1 39 := by decide +kernel
theorem dX11_poke_0 : Dc cX11_poke 0 (.iload_n 1) 1 1 := by decide +kernel
theorem dX11_poke_1 : Dc cX11_poke 1 (.ifCond .lt 21) 3 4 := by decide +kernel
theorem dX11_poke_4 : Dc cX11_poke 4 (.iload_n 1) 1 5 := by decide +kernel
theorem dX11_poke_5 : Dc cX11_poke 5 (.sipush 4096) 3 8 := by decide +kernel
theorem dX11_poke_8 : Dc cX11_poke 8 (.if_icmp .ge 14) 3 11 := by decide +kernel
theorem dX11_poke_11 : Dc cX11_poke 11 (.iload_n 2) 1 12 := by decide +kernel
theorem dX11_poke_12 : Dc cX11_poke 12 (.ifCond .lt 10) 3 15 := by decide +kernel
theorem dX11_poke_15 : Dc cX11_poke 15 (.iload_n 2) 1 16 := by decide +kernel
theorem dX11_poke_16 : Dc cX11_poke 16 (.sipush 255) 3 19 := by decide +kernel
theorem dX11_poke_19 : Dc cX11_poke 19 (.if_icmp .le 5) 3 22 := by decide +kernel
theorem dX11_poke_22 : Dc cX11_poke 22 (.iconst 0) 1 23 := by decide +kernel
theorem dX11_poke_23 : Dc cX11_poke 23 (.ireturn) 1 24 := by decide +kernel
theorem dX11_poke_24 : Dc cX11_poke 24 (.aload_n 0) 1 25 := by decide +kernel
theorem dX11_poke_25 : Dc cX11_poke 25 (.getfield 7) 3 28 := by decide +kernel
theorem dX11_poke_28 : Dc cX11_poke 28 (.iload_n 1) 1 29 := by decide +kernel
theorem dX11_poke_29 : Dc cX11_poke 29 (.iload_n 2) 1 30 := by decide +kernel
theorem dX11_poke_30 : Dc cX11_poke 30 (.iastore) 1 31 := by decide +kernel
theorem dX11_poke_31 : Dc cX11_poke 31 (.iconst 1) 1 32 := by decide +kernel
theorem dX11_poke_32 : Dc cX11_poke 32 (.ireturn) 1 33 := by decide +kernel
theorem dX11_peek_0 : Dc cX11_peek 0 (.iload_n 1) 1 1 := by decide +kernel
theorem dX11_peek_1 : Dc cX11_peek 1 (.ifCond .lt 10) 3 4 := by decide +kernel
theorem dX11_peek_4 : Dc cX11_peek 4 (.iload_n 1) 1 5 := by decide +kernel
theorem dX11_peek_5 : Dc cX11_peek 5 (.sipush 4096) 3 8 := by decide +kernel
theorem dX11_peek_8 : Dc cX11_peek 8 (.if_icmp .lt 7) 3 11 := by decide +kernel
theorem dX11_peek_11 : Dc cX11_peek 11 (.iconst (-1)) 1 12 := by decide +kernel
theorem dX11_peek_12 : Dc cX11_peek 12 (.goto 9) 3 15 := by decide +kernel
theorem dX11_peek_15 : Dc cX11_peek 15 (.aload_n 0) 1 16 := by decide +kernel
theorem dX11_peek_16 : Dc cX11_peek 16 (.getfield 7) 3 19 := by decide +kernel
theorem dX11_peek_19 : Dc cX11_peek 19 (.iload_n 1) 1 20 := by decide +kernel
theorem dX11_peek_20 : Dc cX11_peek 20 (.iaload) 1 21 := by decide +kernel
theorem dX11_peek_21 : Dc cX11_peek 21 (.ireturn) 1 22 := by decide +kernel
theorem dX11_seal_0 : Dc cX11_seal 0 (.iload_n 1) 1 1 := by decide +kernel
theorem dX11_seal_1 : Dc cX11_seal 1 (.ifCond .lt 9) 3 4 := by decide +kernel
theorem dX11_seal_4 : Dc cX11_seal 4 (.iload_n 1) 1 5 := by decide +kernel
theorem dX11_seal_5 : Dc cX11_seal 5 (.bipush 35) 2 7 := by decide +kernel
theorem dX11_seal_7 : Dc cX11_seal 7 (.if_icmp .lt 5) 3 10 := by decide +kernel
theorem dX11_seal_10 : Dc cX11_seal 10 (.iconst 0) 1 11 := by decide +kernel
theorem dX11_seal_11 : Dc cX11_seal 11 (.ireturn) 1 12 := by decide +kernel
theorem dX11_seal_12 : Dc cX11_seal 12 (.aload_n 0) 1 13 := by decide +kernel
theorem dX11_seal_13 : Dc cX11_seal 13 (.invokevirtual 152) 3 16 := by decide +kernel
theorem dX11_seal_16 : Dc cX11_seal 16 (.iload_n 1) 1 17 := by decide +kernel
theorem dX11_seal_17 : Dc cX11_seal 17 (.iconst 2) 1 18 := by decide +kernel
theorem dX11_seal_18 : Dc cX11_seal 18 (.if_icmp .ge 29) 3 21 := by decide +kernel
theorem dX11_seal_21 : Dc cX11_seal 21 (.aload_n 0) 1 22 := by decide +kernel
theorem dX11_seal_22 : Dc cX11_seal 22 (.sipush 4032) 3 25 := by decide +kernel
theorem dX11_seal_25 : Dc cX11_seal 25 (.iload_n 1) 1 26 := by decide +kernel
theorem dX11_seal_26 : Dc cX11_seal 26 (.imul) 1 27 := by decide +kernel
theorem dX11_seal_27 : Dc cX11_seal 27 (.bipush 62) 2 29 := by decide +kernel
theorem dX11_seal_29 : Dc cX11_seal 29 (.iadd) 1 30 := by decide +kernel
theorem dX11_seal_30 : Dc cX11_seal 30 (.aload_n 0) 1 31 := by decide +kernel
theorem dX11_seal_31 : Dc cX11_seal 31 (.sipush 4032) 3 34 := by decide +kernel
theorem dX11_seal_34 : Dc cX11_seal 34 (.iload_n 1) 1 35 := by decide +kernel
theorem dX11_seal_35 : Dc cX11_seal 35 (.imul) 1 36 := by decide +kernel
theorem dX11_seal_36 : Dc cX11_seal 36 (.bipush 62) 2 38 := by decide +kernel
theorem dX11_seal_38 : Dc cX11_seal 38 (.invokevirtual 38) 3 41 := by decide +kernel
theorem dX11_seal_41 : Dc cX11_seal 41 (.invokevirtual 103) 3 44 := by decide +kernel
theorem dX11_seal_44 : Dc cX11_seal 44 (.goto 88) 3 47 := by decide +kernel
theorem dX11_seal_47 : Dc cX11_seal 47 (.iload_n 1) 1 48 := by decide +kernel
theorem dX11_seal_48 : Dc cX11_seal 48 (.iconst 2) 1 49 := by decide +kernel
theorem dX11_seal_49 : Dc cX11_seal 49 (.if_icmp .ne 58) 3 52 := by decide +kernel
theorem dX11_seal_52 : Dc cX11_seal 52 (.aload_n 0) 1 53 := by decide +kernel
theorem dX11_seal_53 : Dc cX11_seal 53 (.getfield 13) 3 56 := by decide +kernel
theorem dX11_seal_56 : Dc cX11_seal 56 (.bipush 68) 2 58 := by decide +kernel
theorem dX11_seal_58 : Dc cX11_seal 58 (.iaload) 1 59 := by decide +kernel
theorem dX11_seal_59 : Dc cX11_seal 59 (.iconst 5) 1 60 := by decide +kernel
theorem dX11_seal_60 : Dc cX11_seal 60 (.if_icmp .le 7) 3 63 := by decide +kernel
theorem dX11_seal_63 : Dc cX11_seal 63 (.iconst 5) 1 64 := by decide +kernel
theorem dX11_seal_64 : Dc cX11_seal 64 (.goto 10) 3 67 := by decide +kernel
theorem dX11_seal_67 : Dc cX11_seal 67 (.aload_n 0) 1 68 := by decide +kernel
theorem dX11_seal_68 : Dc cX11_seal 68 (.getfield 13) 3 71 := by decide +kernel
theorem dX11_seal_71 : Dc cX11_seal 71 (.bipush 68) 2 73 := by decide +kernel
theorem dX11_seal_73 : Dc cX11_seal 73 (.iaload) 1 74 := by decide +kernel
theorem dX11_seal_74 : Dc cX11_seal 74 (.istore_n 2) 1 75 := by decide +kernel
theorem dX11_seal_75 : Dc cX11_seal 75 (.aload_n 0) 1 76 := by decide +kernel
theorem dX11_seal_76 : Dc cX11_seal 76 (.bipush 126) 2 78 := by decide +kernel
theorem dX11_seal_78 : Dc cX11_seal 78 (.aload_n 0) 1 79 := by decide +kernel
theorem dX11_seal_79 : Dc cX11_seal 79 (.bipush 64) 2 81 := by decide +kernel
theorem dX11_seal_81 : Dc cX11_seal 81 (.bipush 62) 2 83 := by decide +kernel
theorem dX11_seal_83 : Dc cX11_seal 83 (.invokevirtual 38) 3 86 := by decide +kernel
theorem dX11_seal_86 : Dc cX11_seal 86 (.aload_n 0) 1 87 := by decide +kernel
theorem dX11_seal_87 : Dc cX11_seal 87 (.sipush 128) 3 90 := by decide +kernel
theorem dX11_seal_90 : Dc cX11_seal 90 (.iload_n 2) 1 91 := by decide +kernel
theorem dX11_seal_91 : Dc cX11_seal 91 (.bipush 64) 2 93 := by decide +kernel
theorem dX11_seal_93 : Dc cX11_seal 93 (.imul) 1 94 := by decide +kernel
theorem dX11_seal_94 : Dc cX11_seal 94 (.invokevirtual 38) 3 97 := by decide +kernel
theorem dX11_seal_97 : Dc cX11_seal 97 (.iadd) 1 98 := by decide +kernel
theorem dX11_seal_98 : Dc cX11_seal 98 (.ldc 29) 2 100 := by decide +kernel
theorem dX11_seal_100 : Dc cX11_seal 100 (.irem) 1 101 := by decide +kernel
theorem dX11_seal_101 : Dc cX11_seal 101 (.invokevirtual 103) 3 104 := by decide +kernel
theorem dX11_seal_104 : Dc cX11_seal 104 (.goto 28) 3 107 := by decide +kernel
theorem dX11_seal_107 : Dc cX11_seal 107 (.aload_n 0) 1 108 := by decide +kernel
theorem dX11_seal_108 : Dc cX11_seal 108 (.iload_n 1) 1 109 := by decide +kernel
theorem dX11_seal_109 : Dc cX11_seal 109 (.iconst 3) 1 110 := by decide +kernel
theorem dX11_seal_110 : Dc cX11_seal 110 (.isub) 1 111 := by decide +kernel
theorem dX11_seal_111 : Dc cX11_seal 111 (.invokestatic 42) 3 114 := by decide +kernel
theorem dX11_seal_114 : Dc cX11_seal 114 (.bipush 14) 2 116 := by decide +kernel
theorem dX11_seal_116 : Dc cX11_seal 116 (.iadd) 1 117 := by decide +kernel
theorem dX11_seal_117 : Dc cX11_seal 117 (.aload_n 0) 1 118 := by decide +kernel
theorem dX11_seal_118 : Dc cX11_seal 118 (.iload_n 1) 1 119 := by decide +kernel
theorem dX11_seal_119 : Dc cX11_seal 119 (.iconst 3) 1 120 := by decide +kernel
theorem dX11_seal_120 : Dc cX11_seal 120 (.isub) 1 121 := by decide +kernel
theorem dX11_seal_121 : Dc cX11_seal 121 (.invokestatic 42) 3 124 := by decide +kernel
theorem dX11_seal_124 : Dc cX11_seal 124 (.bipush 14) 2 126 := by decide +kernel
theorem dX11_seal_126 : Dc cX11_seal 126 (.invokevirtual 38) 3 129 := by decide +kernel
theorem dX11_seal_129 : Dc cX11_seal 129 (.invokevirtual 103) 3 132 := by decide +kernel
theorem dX11_seal_132 : Dc cX11_seal 132 (.aload_n 0) 1 133 := by decide +kernel
theorem dX11_seal_133 : Dc cX11_seal 133 (.invokevirtual 176) 3 136 := by decide +kernel
theorem dX11_seal_136 : Dc cX11_seal 136 (.iconst 1) 1 137 := by decide +kernel
theorem dX11_seal_137 : Dc cX11_seal 137 (.ireturn) 1 138 := by decide +kernel
theorem dX11_commit_0 : Dc cX11_commit 0 (.iload_n 3) 1 1 := by decide +kernel
theorem dX11_commit_1 : Dc cX11_commit 1 (.iconst 1) 1 2 := by decide +kernel
theorem dX11_commit_2 : Dc cX11_commit 2 (.if_icmp .lt 8) 3 5 := by decide +kernel
theorem dX11_commit_5 : Dc cX11_commit 5 (.iload_n 3) 1 6 := by decide +kernel
theorem dX11_commit_6 : Dc cX11_commit 6 (.iconst 5) 1 7 := by decide +kernel
theorem dX11_commit_7 : Dc cX11_commit 7 (.if_icmp .le 5) 3 10 := by decide +kernel
theorem dX11_commit_10 : Dc cX11_commit 10 (.iconst 0) 1 11 := by decide +kernel
theorem dX11_commit_11 : Dc cX11_commit 11 (.ireturn) 1 12 := by decide +kernel
theorem dX11_commit_12 : Dc cX11_commit 12 (.aload_n 0) 1 13 := by decide +kernel
theorem dX11_commit_13 : Dc cX11_commit 13 (.invokevirtual 152) 3 16 := by decide +kernel
theorem dX11_commit_16 : Dc cX11_commit 16 (.aload_n 0) 1 17 := by decide +kernel
theorem dX11_commit_17 : Dc cX11_commit 17 (.bipush 64) 2 19 := by decide +kernel
theorem dX11_commit_19 : Dc cX11_commit 19 (.bipush 64) 2 21 := by decide +kernel
theorem dX11_commit_21 : Dc cX11_commit 21 (.invokevirtual 65) 3 24 := by decide +kernel
theorem dX11_commit_24 : Dc cX11_commit 24 (.aload_n 0) 1 25 := by decide +kernel
theorem dX11_commit_25 : Dc cX11_commit 25 (.getfield 13) 3 28 := by decide +kernel
theorem dX11_commit_28 : Dc cX11_commit 28 (.bipush 64) 2 30 := by decide +kernel
theorem dX11_commit_30 : Dc cX11_commit 30 (.bipush 74) 2 32 := by decide +kernel
theorem dX11_commit_32 : Dc cX11_commit 32 (.iastore) 1 33 := by decide +kernel
theorem dX11_commit_33 : Dc cX11_commit 33 (.aload_n 0) 1 34 := by decide +kernel
theorem dX11_commit_34 : Dc cX11_commit 34 (.getfield 13) 3 37 := by decide +kernel
theorem dX11_commit_37 : Dc cX11_commit 37 (.bipush 65) 2 39 := by decide +kernel
theorem dX11_commit_39 : Dc cX11_commit 39 (.bipush 82) 2 41 := by decide +kernel
theorem dX11_commit_41 : Dc cX11_commit 41 (.iastore) 1 42 := by decide +kernel
theorem dX11_commit_42 : Dc cX11_commit 42 (.aload_n 0) 1 43 := by decide +kernel
theorem dX11_commit_43 : Dc cX11_commit 43 (.getfield 13) 3 46 := by decide +kernel
theorem dX11_commit_46 : Dc cX11_commit 46 (.bipush 66) 2 48 := by decide +kernel
theorem dX11_commit_48 : Dc cX11_commit 48 (.bipush 78) 2 50 := by decide +kernel
theorem dX11_commit_50 : Dc cX11_commit 50 (.iastore) 1 51 := by decide +kernel
theorem dX11_commit_51 : Dc cX11_commit 51 (.aload_n 0) 1 52 := by decide +kernel
theorem dX11_commit_52 : Dc cX11_commit 52 (.getfield 13) 3 55 := by decide +kernel
theorem dX11_commit_55 : Dc cX11_commit 55 (.bipush 67) 2 57 := by decide +kernel
theorem dX11_commit_57 : Dc cX11_commit 57 (.bipush 76) 2 59 := by decide +kernel
theorem dX11_commit_59 : Dc cX11_commit 59 (.iastore) 1 60 := by decide +kernel
theorem dX11_commit_60 : Dc cX11_commit 60 (.aload_n 0) 1 61 := by decide +kernel
theorem dX11_commit_61 : Dc cX11_commit 61 (.getfield 13) 3 64 := by decide +kernel
theorem dX11_commit_64 : Dc cX11_commit 64 (.bipush 68) 2 66 := by decide +kernel
theorem dX11_commit_66 : Dc cX11_commit 66 (.iload_n 3) 1 67 := by decide +kernel
theorem dX11_commit_67 : Dc cX11_commit 67 (.iastore) 1 68 := by decide +kernel
theorem dX11_commit_68 : Dc cX11_commit 68 (.iconst 0) 1 69 := by decide +kernel
theorem dX11_commit_69 : Dc cX11_commit 69 (.istore 4) 2 71 := by decide +kernel
theorem dX11_commit_71 : Dc cX11_commit 71 (.iload 4) 2 73 := by decide +kernel
theorem dX11_commit_73 : Dc cX11_commit 73 (.iload_n 3) 1 74 := by decide +kernel
theorem dX11_commit_74 : Dc cX11_commit 74 (.if_icmp .ge 34) 3 77 := by decide +kernel
theorem dX11_commit_77 : Dc cX11_commit 77 (.aload_n 0) 1 78 := by decide +kernel
theorem dX11_commit_78 : Dc cX11_commit 78 (.getfield 13) 3 81 := by decide +kernel
theorem dX11_commit_81 : Dc cX11_commit 81 (.bipush 69) 2 83 := by decide +kernel
theorem dX11_commit_83 : Dc cX11_commit 83 (.iload 4) 2 85 := by decide +kernel
theorem dX11_commit_85 : Dc cX11_commit 85 (.iadd) 1 86 := by decide +kernel
theorem dX11_commit_86 : Dc cX11_commit 86 (.lload_n 1) 1 87 := by decide +kernel
theorem dX11_commit_87 : Dc cX11_commit 87 (.bipush 56) 2 89 := by decide +kernel
theorem dX11_commit_89 : Dc cX11_commit 89 (.bipush 8) 2 91 := by decide +kernel
theorem dX11_commit_91 : Dc cX11_commit 91 (.iload 4) 2 93 := by decide +kernel
theorem dX11_commit_93 : Dc cX11_commit 93 (.imul) 1 94 := by decide +kernel
theorem dX11_commit_94 : Dc cX11_commit 94 (.isub) 1 95 := by decide +kernel
theorem dX11_commit_95 : Dc cX11_commit 95 (.lushr) 1 96 := by decide +kernel
theorem dX11_commit_96 : Dc cX11_commit 96 (.ldc2_w 182) 3 99 := by decide +kernel
theorem dX11_commit_99 : Dc cX11_commit 99 (.land) 1 100 := by decide +kernel
theorem dX11_commit_100 : Dc cX11_commit 100 (.l2i) 1 101 := by decide +kernel
theorem dX11_commit_101 : Dc cX11_commit 101 (.iastore) 1 102 := by decide +kernel
theorem dX11_commit_102 : Dc cX11_commit 102 (.iinc 4 1) 3 105 := by decide +kernel
theorem dX11_commit_105 : Dc cX11_commit 105 (.goto (-34)) 3 108 := by decide +kernel
theorem dX11_commit_108 : Dc cX11_commit 108 (.aload_n 0) 1 109 := by decide +kernel
theorem dX11_commit_109 : Dc cX11_commit 109 (.invokevirtual 176) 3 112 := by decide +kernel
theorem dX11_commit_112 : Dc cX11_commit 112 (.aload_n 0) 1 113 := by decide +kernel
theorem dX11_commit_113 : Dc cX11_commit 113 (.iconst 2) 1 114 := by decide +kernel
theorem dX11_commit_114 : Dc cX11_commit 114 (.invokevirtual 184) 3 117 := by decide +kernel
theorem dX11_commit_117 : Dc cX11_commit 117 (.ireturn) 1 118 := by decide +kernel
theorem dX11_check_0 : Dc cX11_check 0 (.aload_n 0) 1 1 := by decide +kernel
theorem dX11_check_1 : Dc cX11_check 1 (.invokevirtual 187) 3 4 := by decide +kernel
theorem dX11_check_4 : Dc cX11_check 4 (.ifCond .eq 13) 3 7 := by decide +kernel
theorem dX11_check_7 : Dc cX11_check 7 (.aload_n 0) 1 8 := by decide +kernel
theorem dX11_check_8 : Dc cX11_check 8 (.bipush 64) 2 10 := by decide +kernel
theorem dX11_check_10 : Dc cX11_check 10 (.iconst 0) 1 11 := by decide +kernel
theorem dX11_check_11 : Dc cX11_check 11 (.invokevirtual 191) 3 14 := by decide +kernel
theorem dX11_check_14 : Dc cX11_check 14 (.goto 4) 3 17 := by decide +kernel
theorem dX11_check_17 : Dc cX11_check 17 (.iconst (-1)) 1 18 := by decide +kernel
theorem dX11_check_18 : Dc cX11_check 18 (.ireturn) 1 19 := by decide +kernel
theorem dX11_repair_0 : Dc cX11_repair 0 (.iload_n 1) 1 1 := by decide +kernel
theorem dX11_repair_1 : Dc cX11_repair 1 (.iconst (-1)) 1 2 := by decide +kernel
theorem dX11_repair_2 : Dc cX11_repair 2 (.if_icmp .lt 16) 3 5 := by decide +kernel
theorem dX11_repair_5 : Dc cX11_repair 5 (.iload_n 1) 1 6 := by decide +kernel
theorem dX11_repair_6 : Dc cX11_repair 6 (.bipush 64) 2 8 := by decide +kernel
theorem dX11_repair_8 : Dc cX11_repair 8 (.if_icmp .gt 10) 3 11 := by decide +kernel
theorem dX11_repair_11 : Dc cX11_repair 11 (.aload_n 0) 1 12 := by decide +kernel
theorem dX11_repair_12 : Dc cX11_repair 12 (.invokevirtual 187) 3 15 := by decide +kernel
theorem dX11_repair_15 : Dc cX11_repair 15 (.ifCond .ne 5) 3 18 := by decide +kernel
theorem dX11_repair_18 : Dc cX11_repair 18 (.iconst (-1)) 1 19 := by decide +kernel
theorem dX11_repair_19 : Dc cX11_repair 19 (.ireturn) 1 20 := by decide +kernel
theorem dX11_repair_20 : Dc cX11_repair 20 (.aload_n 0) 1 21 := by decide +kernel
theorem dX11_repair_21 : Dc cX11_repair 21 (.iload_n 1) 1 22 := by decide +kernel
theorem dX11_repair_22 : Dc cX11_repair 22 (.iconst (-1)) 1 23 := by decide +kernel
theorem dX11_repair_23 : Dc cX11_repair 23 (.if_icmp .ne 8) 3 26 := by decide +kernel
theorem dX11_repair_26 : Dc cX11_repair 26 (.bipush 64) 2 28 := by decide +kernel
theorem dX11_repair_28 : Dc cX11_repair 28 (.goto 4) 3 31 := by decide +kernel
theorem dX11_repair_31 : Dc cX11_repair 31 (.iload_n 1) 1 32 := by decide +kernel
theorem dX11_repair_32 : Dc cX11_repair 32 (.iconst 1) 1 33 := by decide +kernel
theorem dX11_repair_33 : Dc cX11_repair 33 (.invokevirtual 191) 3 36 := by decide +kernel
theorem dX11_repair_36 : Dc cX11_repair 36 (.ireturn) 1 37 := by decide +kernel
theorem dX11_inode_0 : Dc cX11_inode 0 (.iload_n 1) 1 1 := by decide +kernel
theorem dX11_inode_1 : Dc cX11_inode 1 (.ifCond .lt 18) 3 4 := by decide +kernel
theorem dX11_inode_4 : Dc cX11_inode 4 (.iload_n 1) 1 5 := by decide +kernel
theorem dX11_inode_5 : Dc cX11_inode 5 (.bipush 32) 2 7 := by decide +kernel
theorem dX11_inode_7 : Dc cX11_inode 7 (.if_icmp .ge 12) 3 10 := by decide +kernel
theorem dX11_inode_10 : Dc cX11_inode 10 (.iload_n 2) 1 11 := by decide +kernel
theorem dX11_inode_11 : Dc cX11_inode 11 (.ifCond .lt 8) 3 14 := by decide +kernel
theorem dX11_inode_14 : Dc cX11_inode 14 (.iload_n 2) 1 15 := by decide +kernel
theorem dX11_inode_15 : Dc cX11_inode 15 (.iconst 2) 1 16 := by decide +kernel
theorem dX11_inode_16 : Dc cX11_inode 16 (.if_icmp .le 5) 3 19 := by decide +kernel
theorem dX11_inode_19 : Dc cX11_inode 19 (.iconst (-1)) 1 20 := by decide +kernel
theorem dX11_inode_20 : Dc cX11_inode 20 (.ireturn) 1 21 := by decide +kernel
theorem dX11_inode_21 : Dc cX11_inode 21 (.iload_n 1) 1 22 := by decide +kernel
theorem dX11_inode_22 : Dc cX11_inode 22 (.invokestatic 42) 3 25 := by decide +kernel
theorem dX11_inode_25 : Dc cX11_inode 25 (.istore_n 3) 1 26 := by decide +kernel
theorem dX11_inode_26 : Dc cX11_inode 26 (.iload_n 2) 1 27 := by decide +kernel
theorem dX11_inode_27 : Dc cX11_inode 27 (.iconst 2) 1 28 := by decide +kernel
theorem dX11_inode_28 : Dc cX11_inode 28 (.if_icmp .ge 14) 3 31 := by decide +kernel
theorem dX11_inode_31 : Dc cX11_inode 31 (.aload_n 0) 1 32 := by decide +kernel
theorem dX11_inode_32 : Dc cX11_inode 32 (.getfield 7) 3 35 := by decide +kernel
theorem dX11_inode_35 : Dc cX11_inode 35 (.iload_n 3) 1 36 := by decide +kernel
theorem dX11_inode_36 : Dc cX11_inode 36 (.iload_n 2) 1 37 := by decide +kernel
theorem dX11_inode_37 : Dc cX11_inode 37 (.iadd) 1 38 := by decide +kernel
theorem dX11_inode_38 : Dc cX11_inode 38 (.iaload) 1 39 := by decide +kernel
theorem dX11_inode_39 : Dc cX11_inode 39 (.goto 24) 3 42 := by decide +kernel
theorem dX11_inode_42 : Dc cX11_inode 42 (.aload_n 0) 1 43 := by decide +kernel
theorem dX11_inode_43 : Dc cX11_inode 43 (.getfield 7) 3 46 := by decide +kernel
theorem dX11_inode_46 : Dc cX11_inode 46 (.iload_n 3) 1 47 := by decide +kernel
theorem dX11_inode_47 : Dc cX11_inode 47 (.iconst 2) 1 48 := by decide +kernel
theorem dX11_inode_48 : Dc cX11_inode 48 (.iadd) 1 49 := by decide +kernel
theorem dX11_inode_49 : Dc cX11_inode 49 (.iaload) 1 50 := by decide +kernel
theorem dX11_inode_50 : Dc cX11_inode 50 (.sipush 256) 3 53 := by decide +kernel
theorem dX11_inode_53 : Dc cX11_inode 53 (.imul) 1 54 := by decide +kernel
theorem dX11_inode_54 : Dc cX11_inode 54 (.aload_n 0) 1 55 := by decide +kernel
theorem dX11_inode_55 : Dc cX11_inode 55 (.getfield 7) 3 58 := by decide +kernel
theorem dX11_inode_58 : Dc cX11_inode 58 (.iload_n 3) 1 59 := by decide +kernel
theorem dX11_inode_59 : Dc cX11_inode 59 (.iconst 3) 1 60 := by decide +kernel
theorem dX11_inode_60 : Dc cX11_inode 60 (.iadd) 1 61 := by decide +kernel
theorem dX11_inode_61 : Dc cX11_inode 61 (.iaload) 1 62 := by decide +kernel
theorem dX11_inode_62 : Dc cX11_inode 62 (.iadd) 1 63 := by decide +kernel
theorem dX11_inode_63 : Dc cX11_inode 63 (.ireturn) 1 64 := by decide +kernel
theorem dX11_read_0 : Dc cX11_read 0 (.iload_n 1) 1 1 := by decide +kernel
theorem dX11_read_1 : Dc cX11_read 1 (.ifCond .lt 32) 3 4 := by decide +kernel
theorem dX11_read_4 : Dc cX11_read 4 (.iload_n 1) 1 5 := by decide +kernel
theorem dX11_read_5 : Dc cX11_read 5 (.bipush 32) 2 7 := by decide +kernel
theorem dX11_read_7 : Dc cX11_read 7 (.if_icmp .ge 26) 3 10 := by decide +kernel
theorem dX11_read_10 : Dc cX11_read 10 (.iload_n 2) 1 11 := by decide +kernel
theorem dX11_read_11 : Dc cX11_read 11 (.ifCond .lt 22) 3 14 := by decide +kernel
theorem dX11_read_14 : Dc cX11_read 14 (.iload_n 2) 1 15 := by decide +kernel
theorem dX11_read_15 : Dc cX11_read 15 (.aload_n 0) 1 16 := by decide +kernel
theorem dX11_read_16 : Dc cX11_read 16 (.iload_n 1) 1 17 := by decide +kernel
theorem dX11_read_17 : Dc cX11_read 17 (.iconst 2) 1 18 := by decide +kernel
theorem dX11_read_18 : Dc cX11_read 18 (.invokevirtual 195) 3 21 := by decide +kernel
theorem dX11_read_21 : Dc cX11_read 21 (.if_icmp .ge 12) 3 24 := by decide +kernel
theorem dX11_read_24 : Dc cX11_read 24 (.iload_n 2) 1 25 := by decide +kernel
theorem dX11_read_25 : Dc cX11_read 25 (.bipush 64) 2 27 := by decide +kernel
theorem dX11_read_27 : Dc cX11_read 27 (.idiv) 1 28 := by decide +kernel
theorem dX11_read_28 : Dc cX11_read 28 (.bipush 45) 2 30 := by decide +kernel
theorem dX11_read_30 : Dc cX11_read 30 (.if_icmp .le 5) 3 33 := by decide +kernel
theorem dX11_read_33 : Dc cX11_read 33 (.iconst (-1)) 1 34 := by decide +kernel
theorem dX11_read_34 : Dc cX11_read 34 (.ireturn) 1 35 := by decide +kernel
theorem dX11_read_35 : Dc cX11_read 35 (.iload_n 2) 1 36 := by decide +kernel
theorem dX11_read_36 : Dc cX11_read 36 (.bipush 64) 2 38 := by decide +kernel
theorem dX11_read_38 : Dc cX11_read 38 (.idiv) 1 39 := by decide +kernel
theorem dX11_read_39 : Dc cX11_read 39 (.istore_n 3) 1 40 := by decide +kernel
theorem dX11_read_40 : Dc cX11_read 40 (.aload_n 0) 1 41 := by decide +kernel
theorem dX11_read_41 : Dc cX11_read 41 (.getfield 7) 3 44 := by decide +kernel
theorem dX11_read_44 : Dc cX11_read 44 (.iload_n 1) 1 45 := by decide +kernel
theorem dX11_read_45 : Dc cX11_read 45 (.invokestatic 42) 3 48 := by decide +kernel
theorem dX11_read_48 : Dc cX11_read 48 (.iload_n 3) 1 49 := by decide +kernel
theorem dX11_read_49 : Dc cX11_read 49 (.iconst 5) 1 50 := by decide +kernel
theorem dX11_read_50 : Dc cX11_read 50 (.if_icmp .ge 9) 3 53 := by decide +kernel
theorem dX11_read_53 : Dc cX11_read 53 (.iconst 4) 1 54 := by decide +kernel
theorem dX11_read_54 : Dc cX11_read 54 (.iload_n 3) 1 55 := by decide +kernel
theorem dX11_read_55 : Dc cX11_read 55 (.iadd) 1 56 := by decide +kernel
theorem dX11_read_56 : Dc cX11_read 56 (.goto 5) 3 59 := by decide +kernel
theorem dX11_read_59 : Dc cX11_read 59 (.bipush 9) 2 61 := by decide +kernel
theorem dX11_read_61 : Dc cX11_read 61 (.iadd) 1 62 := by decide +kernel
theorem dX11_read_62 : Dc cX11_read 62 (.iaload) 1 63 := by decide +kernel
theorem dX11_read_63 : Dc cX11_read 63 (.istore 4) 2 65 := by decide +kernel
theorem dX11_read_65 : Dc cX11_read 65 (.iload 4) 2 67 := by decide +kernel
theorem dX11_read_67 : Dc cX11_read 67 (.bipush 16) 2 69 := by decide +kernel
theorem dX11_read_69 : Dc cX11_read 69 (.if_icmp .lt 10) 3 72 := by decide +kernel
theorem dX11_read_72 : Dc cX11_read 72 (.iload 4) 2 74 := by decide +kernel
theorem dX11_read_74 : Dc cX11_read 74 (.bipush 63) 2 76 := by decide +kernel
theorem dX11_read_76 : Dc cX11_read 76 (.if_icmp .lt 5) 3 79 := by decide +kernel
theorem dX11_read_79 : Dc cX11_read 79 (.iconst (-1)) 1 80 := by decide +kernel
theorem dX11_read_80 : Dc cX11_read 80 (.ireturn) 1 81 := by decide +kernel
theorem dX11_read_81 : Dc cX11_read 81 (.iload_n 3) 1 82 := by decide +kernel
theorem dX11_read_82 : Dc cX11_read 82 (.iconst 5) 1 83 := by decide +kernel
theorem dX11_read_83 : Dc cX11_read 83 (.if_icmp .lt 35) 3 86 := by decide +kernel
theorem dX11_read_86 : Dc cX11_read 86 (.aload_n 0) 1 87 := by decide +kernel
theorem dX11_read_87 : Dc cX11_read 87 (.getfield 7) 3 90 := by decide +kernel
theorem dX11_read_90 : Dc cX11_read 90 (.bipush 64) 2 92 := by decide +kernel
theorem dX11_read_92 : Dc cX11_read 92 (.iload 4) 2 94 := by decide +kernel
theorem dX11_read_94 : Dc cX11_read 94 (.imul) 1 95 := by decide +kernel
theorem dX11_read_95 : Dc cX11_read 95 (.iload_n 3) 1 96 := by decide +kernel
theorem dX11_read_96 : Dc cX11_read 96 (.iadd) 1 97 := by decide +kernel
theorem dX11_read_97 : Dc cX11_read 97 (.iconst 5) 1 98 := by decide +kernel
theorem dX11_read_98 : Dc cX11_read 98 (.isub) 1 99 := by decide +kernel
theorem dX11_read_99 : Dc cX11_read 99 (.iaload) 1 100 := by decide +kernel
theorem dX11_read_100 : Dc cX11_read 100 (.istore 4) 2 102 := by decide +kernel
theorem dX11_read_102 : Dc cX11_read 102 (.iload 4) 2 104 := by decide +kernel
theorem dX11_read_104 : Dc cX11_read 104 (.bipush 16) 2 106 := by decide +kernel
theorem dX11_read_106 : Dc cX11_read 106 (.if_icmp .lt 10) 3 109 := by decide +kernel
theorem dX11_read_109 : Dc cX11_read 109 (.iload 4) 2 111 := by decide +kernel
theorem dX11_read_111 : Dc cX11_read 111 (.bipush 63) 2 113 := by decide +kernel
theorem dX11_read_113 : Dc cX11_read 113 (.if_icmp .lt 5) 3 116 := by decide +kernel
theorem dX11_read_116 : Dc cX11_read 116 (.iconst (-1)) 1 117 := by decide +kernel
theorem dX11_read_117 : Dc cX11_read 117 (.ireturn) 1 118 := by decide +kernel
theorem dX11_read_118 : Dc cX11_read 118 (.aload_n 0) 1 119 := by decide +kernel
theorem dX11_read_119 : Dc cX11_read 119 (.getfield 7) 3 122 := by decide +kernel
theorem dX11_read_122 : Dc cX11_read 122 (.bipush 64) 2 124 := by decide +kernel
theorem dX11_read_124 : Dc cX11_read 124 (.iload 4) 2 126 := by decide +kernel
theorem dX11_read_126 : Dc cX11_read 126 (.imul) 1 127 := by decide +kernel
theorem dX11_read_127 : Dc cX11_read 127 (.iload_n 2) 1 128 := by decide +kernel
theorem dX11_read_128 : Dc cX11_read 128 (.bipush 64) 2 130 := by decide +kernel
theorem dX11_read_130 : Dc cX11_read 130 (.irem) 1 131 := by decide +kernel
theorem dX11_read_131 : Dc cX11_read 131 (.iadd) 1 132 := by decide +kernel
theorem dX11_read_132 : Dc cX11_read 132 (.iaload) 1 133 := by decide +kernel
theorem dX11_read_133 : Dc cX11_read 133 (.ireturn) 1 134 := by decide +kernel
theorem dX11_nameOf_0 : Dc cX11_nameOf 0 (.aload_n 0) 1 1 := by decide +kernel
theorem dX11_nameOf_1 : Dc cX11_nameOf 1 (.iconst 0) 1 2 := by decide +kernel
theorem dX11_nameOf_2 : Dc cX11_nameOf 2 (.putfield 69) 3 5 := by decide +kernel
theorem dX11_nameOf_5 : Dc cX11_nameOf 5 (.bipush 56) 2 7 := by decide +kernel
theorem dX11_nameOf_7 : Dc cX11_nameOf 7 (.istore_n 3) 1 8 := by decide +kernel
theorem dX11_nameOf_8 : Dc cX11_nameOf 8 (.iload_n 3) 1 9 := by decide +kernel
theorem dX11_nameOf_9 : Dc cX11_nameOf 9 (.ifCond .lt 52) 3 12 := by decide +kernel
theorem dX11_nameOf_12 : Dc cX11_nameOf 12 (.lload_n 1) 1 13 := by decide +kernel
theorem dX11_nameOf_13 : Dc cX11_nameOf 13 (.iload_n 3) 1 14 := by decide +kernel
theorem dX11_nameOf_14 : Dc cX11_nameOf 14 (.lushr) 1 15 := by decide +kernel
theorem dX11_nameOf_15 : Dc cX11_nameOf 15 (.ldc2_w 182) 3 18 := by decide +kernel
theorem dX11_nameOf_18 : Dc cX11_nameOf 18 (.land) 1 19 := by decide +kernel
theorem dX11_nameOf_19 : Dc cX11_nameOf 19 (.l2i) 1 20 := by decide +kernel
theorem dX11_nameOf_20 : Dc cX11_nameOf 20 (.istore 4) 2 22 := by decide +kernel
theorem dX11_nameOf_22 : Dc cX11_nameOf 22 (.iload 4) 2 24 := by decide +kernel
theorem dX11_nameOf_24 : Dc cX11_nameOf 24 (.ifCond .ne 10) 3 27 := by decide +kernel
theorem dX11_nameOf_27 : Dc cX11_nameOf 27 (.aload_n 0) 1 28 := by decide +kernel
theorem dX11_nameOf_28 : Dc cX11_nameOf 28 (.getfield 69) 3 31 := by decide +kernel
theorem dX11_nameOf_31 : Dc cX11_nameOf 31 (.ifCond .le 24) 3 34 := by decide +kernel
theorem dX11_nameOf_34 : Dc cX11_nameOf 34 (.aload_n 0) 1 35 := by decide +kernel
theorem dX11_nameOf_35 : Dc cX11_nameOf 35 (.getfield 26) 3 38 := by decide +kernel
theorem dX11_nameOf_38 : Dc cX11_nameOf 38 (.aload_n 0) 1 39 := by decide +kernel
theorem dX11_nameOf_39 : Dc cX11_nameOf 39 (.getfield 69) 3 42 := by decide +kernel
theorem dX11_nameOf_42 : Dc cX11_nameOf 42 (.iload 4) 2 44 := by decide +kernel
theorem dX11_nameOf_44 : Dc cX11_nameOf 44 (.iastore) 1 45 := by decide +kernel
theorem dX11_nameOf_45 : Dc cX11_nameOf 45 (.aload_n 0) 1 46 := by decide +kernel
theorem dX11_nameOf_46 : Dc cX11_nameOf 46 (.dup) 1 47 := by decide +kernel
theorem dX11_nameOf_47 : Dc cX11_nameOf 47 (.getfield 69) 3 50 := by decide +kernel
theorem dX11_nameOf_50 : Dc cX11_nameOf 50 (.iconst 1) 1 51 := by decide +kernel
theorem dX11_nameOf_51 : Dc cX11_nameOf 51 (.iadd) 1 52 := by decide +kernel
theorem dX11_nameOf_52 : Dc cX11_nameOf 52 (.putfield 69) 3 55 := by decide +kernel
theorem dX11_nameOf_55 : Dc cX11_nameOf 55 (.iinc 3 (-8)) 3 58 := by decide +kernel
theorem dX11_nameOf_58 : Dc cX11_nameOf 58 (.goto (-50)) 3 61 := by decide +kernel
theorem dX11_nameOf_61 : Dc cX11_nameOf 61 (.return_) 1 62 := by decide +kernel
theorem dX11_find__0 : Dc cX11_find_ 0 (.iload_n 1) 1 1 := by decide +kernel
theorem dX11_find__1 : Dc cX11_find_ 1 (.ifCond .lt 15) 3 4 := by decide +kernel
theorem dX11_find__4 : Dc cX11_find_ 4 (.iload_n 1) 1 5 := by decide +kernel
theorem dX11_find__5 : Dc cX11_find_ 5 (.bipush 32) 2 7 := by decide +kernel
theorem dX11_find__7 : Dc cX11_find_ 7 (.if_icmp .ge 9) 3 10 := by decide +kernel
theorem dX11_find__10 : Dc cX11_find_ 10 (.lload_n 2) 1 11 := by decide +kernel
theorem dX11_find__11 : Dc cX11_find_ 11 (.lconst 0) 1 12 := by decide +kernel
theorem dX11_find__12 : Dc cX11_find_ 12 (.lcmp) 1 13 := by decide +kernel
theorem dX11_find__13 : Dc cX11_find_ 13 (.ifCond .ne 5) 3 16 := by decide +kernel
theorem dX11_find__16 : Dc cX11_find_ 16 (.iconst (-1)) 1 17 := by decide +kernel
theorem dX11_find__17 : Dc cX11_find_ 17 (.ireturn) 1 18 := by decide +kernel
theorem dX11_find__18 : Dc cX11_find_ 18 (.aload_n 0) 1 19 := by decide +kernel
theorem dX11_find__19 : Dc cX11_find_ 19 (.lload_n 2) 1 20 := by decide +kernel
theorem dX11_find__20 : Dc cX11_find_ 20 (.invokevirtual 198) 3 23 := by decide +kernel
theorem dX11_find__23 : Dc cX11_find_ 23 (.iconst 2) 1 24 := by decide +kernel
theorem dX11_find__24 : Dc cX11_find_ 24 (.istore 4) 2 26 := by decide +kernel
theorem dX11_find__26 : Dc cX11_find_ 26 (.bipush 16) 2 28 := by decide +kernel
theorem dX11_find__28 : Dc cX11_find_ 28 (.iload 4) 2 30 := by decide +kernel
theorem dX11_find__30 : Dc cX11_find_ 30 (.imul) 1 31 := by decide +kernel
theorem dX11_find__31 : Dc cX11_find_ 31 (.bipush 15) 2 33 := by decide +kernel
theorem dX11_find__33 : Dc cX11_find_ 33 (.iadd) 1 34 := by decide +kernel
theorem dX11_find__34 : Dc cX11_find_ 34 (.aload_n 0) 1 35 := by decide +kernel
theorem dX11_find__35 : Dc cX11_find_ 35 (.iload_n 1) 1 36 := by decide +kernel
theorem dX11_find__36 : Dc cX11_find_ 36 (.iconst 2) 1 37 := by decide +kernel
theorem dX11_find__37 : Dc cX11_find_ 37 (.invokevirtual 195) 3 40 := by decide +kernel
theorem dX11_find__40 : Dc cX11_find_ 40 (.if_icmp .ge 106) 3 43 := by decide +kernel
theorem dX11_find__43 : Dc cX11_find_ 43 (.aload_n 0) 1 44 := by decide +kernel
theorem dX11_find__44 : Dc cX11_find_ 44 (.iload_n 1) 1 45 := by decide +kernel
theorem dX11_find__45 : Dc cX11_find_ 45 (.bipush 16) 2 47 := by decide +kernel
theorem dX11_find__47 : Dc cX11_find_ 47 (.iload 4) 2 49 := by decide +kernel
theorem dX11_find__49 : Dc cX11_find_ 49 (.imul) 1 50 := by decide +kernel
theorem dX11_find__50 : Dc cX11_find_ 50 (.iconst 1) 1 51 := by decide +kernel
theorem dX11_find__51 : Dc cX11_find_ 51 (.iadd) 1 52 := by decide +kernel
theorem dX11_find__52 : Dc cX11_find_ 52 (.invokevirtual 202) 3 55 := by decide +kernel
theorem dX11_find__55 : Dc cX11_find_ 55 (.aload_n 0) 1 56 := by decide +kernel
theorem dX11_find__56 : Dc cX11_find_ 56 (.getfield 69) 3 59 := by decide +kernel
theorem dX11_find__59 : Dc cX11_find_ 59 (.if_icmp .ne 7) 3 62 := by decide +kernel
theorem dX11_find__62 : Dc cX11_find_ 62 (.iconst 1) 1 63 := by decide +kernel
theorem dX11_find__63 : Dc cX11_find_ 63 (.goto 4) 3 66 := by decide +kernel
theorem dX11_find__66 : Dc cX11_find_ 66 (.iconst 0) 1 67 := by decide +kernel
theorem dX11_find__67 : Dc cX11_find_ 67 (.istore 5) 2 69 := by decide +kernel
theorem dX11_find__69 : Dc cX11_find_ 69 (.iconst 0) 1 70 := by decide +kernel
theorem dX11_find__70 : Dc cX11_find_ 70 (.istore 6) 2 72 := by decide +kernel
theorem dX11_find__72 : Dc cX11_find_ 72 (.iload 6) 2 74 := by decide +kernel
theorem dX11_find__74 : Dc cX11_find_ 74 (.aload_n 0) 1 75 := by decide +kernel
theorem dX11_find__75 : Dc cX11_find_ 75 (.getfield 69) 3 78 := by decide +kernel
theorem dX11_find__78 : Dc cX11_find_ 78 (.if_icmp .ge 46) 3 81 := by decide +kernel
theorem dX11_find__81 : Dc cX11_find_ 81 (.iload 5) 2 83 := by decide +kernel
theorem dX11_find__83 : Dc cX11_find_ 83 (.ifCond .eq 32) 3 86 := by decide +kernel
theorem dX11_find__86 : Dc cX11_find_ 86 (.aload_n 0) 1 87 := by decide +kernel
theorem dX11_find__87 : Dc cX11_find_ 87 (.iload_n 1) 1 88 := by decide +kernel
theorem dX11_find__88 : Dc cX11_find_ 88 (.bipush 16) 2 90 := by decide +kernel
theorem dX11_find__90 : Dc cX11_find_ 90 (.iload 4) 2 92 := by decide +kernel
theorem dX11_find__92 : Dc cX11_find_ 92 (.imul) 1 93 := by decide +kernel
theorem dX11_find__93 : Dc cX11_find_ 93 (.iconst 2) 1 94 := by decide +kernel
theorem dX11_find__94 : Dc cX11_find_ 94 (.iadd) 1 95 := by decide +kernel
theorem dX11_find__95 : Dc cX11_find_ 95 (.iload 6) 2 97 := by decide +kernel
theorem dX11_find__97 : Dc cX11_find_ 97 (.iadd) 1 98 := by decide +kernel
theorem dX11_find__98 : Dc cX11_find_ 98 (.invokevirtual 202) 3 101 := by decide +kernel
theorem dX11_find__101 : Dc cX11_find_ 101 (.aload_n 0) 1 102 := by decide +kernel
theorem dX11_find__102 : Dc cX11_find_ 102 (.getfield 26) 3 105 := by decide +kernel
theorem dX11_find__105 : Dc cX11_find_ 105 (.iload 6) 2 107 := by decide +kernel
theorem dX11_find__107 : Dc cX11_find_ 107 (.iaload) 1 108 := by decide +kernel
theorem dX11_find__108 : Dc cX11_find_ 108 (.if_icmp .ne 7) 3 111 := by decide +kernel
theorem dX11_find__111 : Dc cX11_find_ 111 (.iconst 1) 1 112 := by decide +kernel
theorem dX11_find__112 : Dc cX11_find_ 112 (.goto 4) 3 115 := by decide +kernel
theorem dX11_find__115 : Dc cX11_find_ 115 (.iconst 0) 1 116 := by decide +kernel
theorem dX11_find__116 : Dc cX11_find_ 116 (.istore 5) 2 118 := by decide +kernel
theorem dX11_find__118 : Dc cX11_find_ 118 (.iinc 6 1) 3 121 := by decide +kernel
theorem dX11_find__121 : Dc cX11_find_ 121 (.goto (-49)) 3 124 := by decide +kernel
theorem dX11_find__124 : Dc cX11_find_ 124 (.iload 5) 2 126 := by decide +kernel
theorem dX11_find__126 : Dc cX11_find_ 126 (.ifCond .eq 14) 3 129 := by decide +kernel
theorem dX11_find__129 : Dc cX11_find_ 129 (.aload_n 0) 1 130 := by decide +kernel
theorem dX11_find__130 : Dc cX11_find_ 130 (.iload_n 1) 1 131 := by decide +kernel
theorem dX11_find__131 : Dc cX11_find_ 131 (.bipush 16) 2 133 := by decide +kernel
theorem dX11_find__133 : Dc cX11_find_ 133 (.iload 4) 2 135 := by decide +kernel
theorem dX11_find__135 : Dc cX11_find_ 135 (.imul) 1 136 := by decide +kernel
theorem dX11_find__136 : Dc cX11_find_ 136 (.invokevirtual 202) 3 139 := by decide +kernel
theorem dX11_find__139 : Dc cX11_find_ 139 (.ireturn) 1 140 := by decide +kernel
theorem dX11_find__140 : Dc cX11_find_ 140 (.iinc 4 1) 3 143 := by decide +kernel
theorem dX11_find__143 : Dc cX11_find_ 143 (.goto (-117)) 3 146 := by decide +kernel
theorem dX11_find__146 : Dc cX11_find_ 146 (.iconst (-1)) 1 147 := by decide +kernel
theorem dX11_find__147 : Dc cX11_find_ 147 (.ireturn) 1 148 := by decide +kernel
theorem dX11_mayPut_0 : Dc cX11_mayPut 0 (.aload_n 0) 1 1 := by decide +kernel
theorem dX11_mayPut_1 : Dc cX11_mayPut 1 (.invokevirtual 205) 3 4 := by decide +kernel
theorem dX11_mayPut_4 : Dc cX11_mayPut 4 (.ifCond .ne 29) 3 7 := by decide +kernel
theorem dX11_mayPut_7 : Dc cX11_mayPut 7 (.iload_n 1) 1 8 := by decide +kernel
theorem dX11_mayPut_8 : Dc cX11_mayPut 8 (.iconst 1) 1 9 := by decide +kernel
theorem dX11_mayPut_9 : Dc cX11_mayPut 9 (.if_icmp .lt 24) 3 12 := by decide +kernel
theorem dX11_mayPut_12 : Dc cX11_mayPut 12 (.iload_n 1) 1 13 := by decide +kernel
theorem dX11_mayPut_13 : Dc cX11_mayPut 13 (.bipush 32) 2 15 := by decide +kernel
theorem dX11_mayPut_15 : Dc cX11_mayPut 15 (.if_icmp .ge 18) 3 18 := by decide +kernel
theorem dX11_mayPut_18 : Dc cX11_mayPut 18 (.aload_n 0) 1 19 := by decide +kernel
theorem dX11_mayPut_19 : Dc cX11_mayPut 19 (.iload_n 1) 1 20 := by decide +kernel
theorem dX11_mayPut_20 : Dc cX11_mayPut 20 (.invokevirtual 62) 3 23 := by decide +kernel
theorem dX11_mayPut_23 : Dc cX11_mayPut 23 (.iconst 2) 1 24 := by decide +kernel
theorem dX11_mayPut_24 : Dc cX11_mayPut 24 (.if_icmp .ne 9) 3 27 := by decide +kernel
theorem dX11_mayPut_27 : Dc cX11_mayPut 27 (.lload_n 2) 1 28 := by decide +kernel
theorem dX11_mayPut_28 : Dc cX11_mayPut 28 (.lconst 0) 1 29 := by decide +kernel
theorem dX11_mayPut_29 : Dc cX11_mayPut 29 (.lcmp) 1 30 := by decide +kernel
theorem dX11_mayPut_30 : Dc cX11_mayPut 30 (.ifCond .ne 5) 3 33 := by decide +kernel
theorem dX11_mayPut_33 : Dc cX11_mayPut 33 (.iconst 0) 1 34 := by decide +kernel
theorem dX11_mayPut_34 : Dc cX11_mayPut 34 (.ireturn) 1 35 := by decide +kernel
theorem dX11_mayPut_35 : Dc cX11_mayPut 35 (.aload_n 0) 1 36 := by decide +kernel
theorem dX11_mayPut_36 : Dc cX11_mayPut 36 (.lload_n 2) 1 37 := by decide +kernel
theorem dX11_mayPut_37 : Dc cX11_mayPut 37 (.invokevirtual 198) 3 40 := by decide +kernel
theorem dX11_mayPut_40 : Dc cX11_mayPut 40 (.iconst 1) 1 41 := by decide +kernel
theorem dX11_mayPut_41 : Dc cX11_mayPut 41 (.istore 4) 2 43 := by decide +kernel
theorem dX11_mayPut_43 : Dc cX11_mayPut 43 (.aload_n 0) 1 44 := by decide +kernel
theorem dX11_mayPut_44 : Dc cX11_mayPut 44 (.getfield 69) 3 47 := by decide +kernel
theorem dX11_mayPut_47 : Dc cX11_mayPut 47 (.iconst 3) 1 48 := by decide +kernel
theorem dX11_mayPut_48 : Dc cX11_mayPut 48 (.if_icmp .ge 7) 3 51 := by decide +kernel
theorem dX11_mayPut_51 : Dc cX11_mayPut 51 (.iconst 1) 1 52 := by decide +kernel
theorem dX11_mayPut_52 : Dc cX11_mayPut 52 (.goto 4) 3 55 := by decide +kernel
theorem dX11_mayPut_55 : Dc cX11_mayPut 55 (.iconst 0) 1 56 := by decide +kernel
theorem dX11_mayPut_56 : Dc cX11_mayPut 56 (.istore 5) 2 58 := by decide +kernel
theorem dX11_mayPut_58 : Dc cX11_mayPut 58 (.iconst 0) 1 59 := by decide +kernel
theorem dX11_mayPut_59 : Dc cX11_mayPut 59 (.istore 6) 2 61 := by decide +kernel
theorem dX11_mayPut_61 : Dc cX11_mayPut 61 (.iload 6) 2 63 := by decide +kernel
theorem dX11_mayPut_63 : Dc cX11_mayPut 63 (.aload_n 0) 1 64 := by decide +kernel
theorem dX11_mayPut_64 : Dc cX11_mayPut 64 (.getfield 69) 3 67 := by decide +kernel
theorem dX11_mayPut_67 : Dc cX11_mayPut 67 (.if_icmp .ge 67) 3 70 := by decide +kernel
theorem dX11_mayPut_70 : Dc cX11_mayPut 70 (.iload 4) 2 72 := by decide +kernel
theorem dX11_mayPut_72 : Dc cX11_mayPut 72 (.ifCond .eq 29) 3 75 := by decide +kernel
theorem dX11_mayPut_75 : Dc cX11_mayPut 75 (.aload_n 0) 1 76 := by decide +kernel
theorem dX11_mayPut_76 : Dc cX11_mayPut 76 (.getfield 26) 3 79 := by decide +kernel
theorem dX11_mayPut_79 : Dc cX11_mayPut 79 (.iload 6) 2 81 := by decide +kernel
theorem dX11_mayPut_81 : Dc cX11_mayPut 81 (.iaload) 1 82 := by decide +kernel
theorem dX11_mayPut_82 : Dc cX11_mayPut 82 (.ifCond .eq 19) 3 85 := by decide +kernel
theorem dX11_mayPut_85 : Dc cX11_mayPut 85 (.aload_n 0) 1 86 := by decide +kernel
theorem dX11_mayPut_86 : Dc cX11_mayPut 86 (.getfield 26) 3 89 := by decide +kernel
theorem dX11_mayPut_89 : Dc cX11_mayPut 89 (.iload 6) 2 91 := by decide +kernel
theorem dX11_mayPut_91 : Dc cX11_mayPut 91 (.iaload) 1 92 := by decide +kernel
theorem dX11_mayPut_92 : Dc cX11_mayPut 92 (.bipush 47) 2 94 := by decide +kernel
theorem dX11_mayPut_94 : Dc cX11_mayPut 94 (.if_icmp .eq 7) 3 97 := by decide +kernel
theorem dX11_mayPut_97 : Dc cX11_mayPut 97 (.iconst 1) 1 98 := by decide +kernel
theorem dX11_mayPut_98 : Dc cX11_mayPut 98 (.goto 4) 3 101 := by decide +kernel
theorem dX11_mayPut_101 : Dc cX11_mayPut 101 (.iconst 0) 1 102 := by decide +kernel
theorem dX11_mayPut_102 : Dc cX11_mayPut 102 (.istore 4) 2 104 := by decide +kernel
theorem dX11_mayPut_104 : Dc cX11_mayPut 104 (.iload 5) 2 106 := by decide +kernel
theorem dX11_mayPut_106 : Dc cX11_mayPut 106 (.ifCond .eq 19) 3 109 := by decide +kernel
theorem dX11_mayPut_109 : Dc cX11_mayPut 109 (.aload_n 0) 1 110 := by decide +kernel
theorem dX11_mayPut_110 : Dc cX11_mayPut 110 (.getfield 26) 3 113 := by decide +kernel
theorem dX11_mayPut_113 : Dc cX11_mayPut 113 (.iload 6) 2 115 := by decide +kernel
theorem dX11_mayPut_115 : Dc cX11_mayPut 115 (.iaload) 1 116 := by decide +kernel
theorem dX11_mayPut_116 : Dc cX11_mayPut 116 (.bipush 46) 2 118 := by decide +kernel
theorem dX11_mayPut_118 : Dc cX11_mayPut 118 (.if_icmp .ne 7) 3 121 := by decide +kernel
theorem dX11_mayPut_121 : Dc cX11_mayPut 121 (.iconst 1) 1 122 := by decide +kernel
theorem dX11_mayPut_122 : Dc cX11_mayPut 122 (.goto 4) 3 125 := by decide +kernel
theorem dX11_mayPut_125 : Dc cX11_mayPut 125 (.iconst 0) 1 126 := by decide +kernel
end
section
theorem dX11_mayPut_126 : Dc cX11_mayPut 126 (.istore 5) 2 128 := by decide +kernel
theorem dX11_mayPut_128 : Dc cX11_mayPut 128 (.iinc 6 1) 3 131 := by decide +kernel
theorem dX11_mayPut_131 : Dc cX11_mayPut 131 (.goto (-70)) 3 134 := by decide +kernel
theorem dX11_mayPut_134 : Dc cX11_mayPut 134 (.iload 4) 2 136 := by decide +kernel
theorem dX11_mayPut_136 : Dc cX11_mayPut 136 (.ifCond .eq 26) 3 139 := by decide +kernel
theorem dX11_mayPut_139 : Dc cX11_mayPut 139 (.iload 5) 2 141 := by decide +kernel
theorem dX11_mayPut_141 : Dc cX11_mayPut 141 (.ifCond .ne 21) 3 144 := by decide +kernel
theorem dX11_mayPut_144 : Dc cX11_mayPut 144 (.aload_n 0) 1 145 := by decide +kernel
theorem dX11_mayPut_145 : Dc cX11_mayPut 145 (.iload_n 1) 1 146 := by decide +kernel
theorem dX11_mayPut_146 : Dc cX11_mayPut 146 (.aload_n 0) 1 147 := by decide +kernel
theorem dX11_mayPut_147 : Dc cX11_mayPut 147 (.iload_n 1) 1 148 := by decide +kernel
theorem dX11_mayPut_148 : Dc cX11_mayPut 148 (.invokevirtual 106) 3 151 := by decide +kernel
theorem dX11_mayPut_151 : Dc cX11_mayPut 151 (.invokevirtual 79) 3 154 := by decide +kernel
theorem dX11_mayPut_154 : Dc cX11_mayPut 154 (.iconst (-1)) 1 155 := by decide +kernel
theorem dX11_mayPut_155 : Dc cX11_mayPut 155 (.if_icmp .ne 7) 3 158 := by decide +kernel
theorem dX11_mayPut_158 : Dc cX11_mayPut 158 (.iconst 1) 1 159 := by decide +kernel
theorem dX11_mayPut_159 : Dc cX11_mayPut 159 (.goto 4) 3 162 := by decide +kernel
theorem dX11_mayPut_162 : Dc cX11_mayPut 162 (.iconst 0) 1 163 := by decide +kernel
theorem dX11_mayPut_163 : Dc cX11_mayPut 163 (.ireturn) 1 164 := by decide +kernel
theorem dX11_make__0 : Dc cX11_make_ 0 (.iload 4) 2 2 := by decide +kernel
theorem dX11_make__2 : Dc cX11_make_ 2 (.iconst 1) 1 3 := by decide +kernel
theorem dX11_make__3 : Dc cX11_make_ 3 (.if_icmp .lt 18) 3 6 := by decide +kernel
theorem dX11_make__6 : Dc cX11_make_ 6 (.iload 4) 2 8 := by decide +kernel
theorem dX11_make__8 : Dc cX11_make_ 8 (.iconst 2) 1 9 := by decide +kernel
theorem dX11_make__9 : Dc cX11_make_ 9 (.if_icmp .gt 12) 3 12 := by decide +kernel
theorem dX11_make__12 : Dc cX11_make_ 12 (.aload_n 0) 1 13 := by decide +kernel
theorem dX11_make__13 : Dc cX11_make_ 13 (.iload_n 1) 1 14 := by decide +kernel
theorem dX11_make__14 : Dc cX11_make_ 14 (.lload_n 2) 1 15 := by decide +kernel
theorem dX11_make__15 : Dc cX11_make_ 15 (.invokevirtual 209) 3 18 := by decide +kernel
theorem dX11_make__18 : Dc cX11_make_ 18 (.ifCond .ne 5) 3 21 := by decide +kernel
theorem dX11_make__21 : Dc cX11_make_ 21 (.iconst (-1)) 1 22 := by decide +kernel
theorem dX11_make__22 : Dc cX11_make_ 22 (.ireturn) 1 23 := by decide +kernel
theorem dX11_make__23 : Dc cX11_make_ 23 (.iconst 3) 1 24 := by decide +kernel
theorem dX11_make__24 : Dc cX11_make_ 24 (.istore 5) 2 26 := by decide +kernel
theorem dX11_make__26 : Dc cX11_make_ 26 (.iload 5) 2 28 := by decide +kernel
theorem dX11_make__28 : Dc cX11_make_ 28 (.bipush 32) 2 30 := by decide +kernel
theorem dX11_make__30 : Dc cX11_make_ 30 (.if_icmp .ge 18) 3 33 := by decide +kernel
theorem dX11_make__33 : Dc cX11_make_ 33 (.aload_n 0) 1 34 := by decide +kernel
theorem dX11_make__34 : Dc cX11_make_ 34 (.iload 5) 2 36 := by decide +kernel
theorem dX11_make__36 : Dc cX11_make_ 36 (.invokevirtual 62) 3 39 := by decide +kernel
theorem dX11_make__39 : Dc cX11_make_ 39 (.ifCond .le 9) 3 42 := by decide +kernel
theorem dX11_make__42 : Dc cX11_make_ 42 (.iinc 5 1) 3 45 := by decide +kernel
theorem dX11_make__45 : Dc cX11_make_ 45 (.goto (-19)) 3 48 := by decide +kernel
theorem dX11_make__48 : Dc cX11_make_ 48 (.iload 5) 2 50 := by decide +kernel
theorem dX11_make__50 : Dc cX11_make_ 50 (.bipush 32) 2 52 := by decide +kernel
theorem dX11_make__52 : Dc cX11_make_ 52 (.if_icmp .ne 5) 3 55 := by decide +kernel
theorem dX11_make__55 : Dc cX11_make_ 55 (.iconst (-1)) 1 56 := by decide +kernel
theorem dX11_make__56 : Dc cX11_make_ 56 (.ireturn) 1 57 := by decide +kernel
theorem dX11_make__57 : Dc cX11_make_ 57 (.aload_n 0) 1 58 := by decide +kernel
theorem dX11_make__58 : Dc cX11_make_ 58 (.getfield 13) 3 61 := by decide +kernel
theorem dX11_make__61 : Dc cX11_make_ 61 (.iload 5) 2 63 := by decide +kernel
theorem dX11_make__63 : Dc cX11_make_ 63 (.invokestatic 42) 3 66 := by decide +kernel
theorem dX11_make__66 : Dc cX11_make_ 66 (.iload 4) 2 68 := by decide +kernel
theorem dX11_make__68 : Dc cX11_make_ 68 (.iastore) 1 69 := by decide +kernel
theorem dX11_make__69 : Dc cX11_make_ 69 (.iload 4) 2 71 := by decide +kernel
theorem dX11_make__71 : Dc cX11_make_ 71 (.iconst 2) 1 72 := by decide +kernel
theorem dX11_make__72 : Dc cX11_make_ 72 (.if_icmp .ne 76) 3 75 := by decide +kernel
theorem dX11_make__75 : Dc cX11_make_ 75 (.aload_n 0) 1 76 := by decide +kernel
theorem dX11_make__76 : Dc cX11_make_ 76 (.getfield 13) 3 79 := by decide +kernel
theorem dX11_make__79 : Dc cX11_make_ 79 (.iload 5) 2 81 := by decide +kernel
theorem dX11_make__81 : Dc cX11_make_ 81 (.invokestatic 42) 3 84 := by decide +kernel
theorem dX11_make__84 : Dc cX11_make_ 84 (.iconst 0) 1 85 := by decide +kernel
theorem dX11_make__85 : Dc cX11_make_ 85 (.iastore) 1 86 := by decide +kernel
theorem dX11_make__86 : Dc cX11_make_ 86 (.aload_n 0) 1 87 := by decide +kernel
theorem dX11_make__87 : Dc cX11_make_ 87 (.iconst 0) 1 88 := by decide +kernel
theorem dX11_make__88 : Dc cX11_make_ 88 (.invokevirtual 97) 3 91 := by decide +kernel
theorem dX11_make__91 : Dc cX11_make_ 91 (.istore 6) 2 93 := by decide +kernel
theorem dX11_make__93 : Dc cX11_make_ 93 (.iload 6) 2 95 := by decide +kernel
theorem dX11_make__95 : Dc cX11_make_ 95 (.iconst (-1)) 1 96 := by decide +kernel
theorem dX11_make__96 : Dc cX11_make_ 96 (.if_icmp .ne 5) 3 99 := by decide +kernel
theorem dX11_make__99 : Dc cX11_make_ 99 (.iconst (-1)) 1 100 := by decide +kernel
theorem dX11_make__100 : Dc cX11_make_ 100 (.ireturn) 1 101 := by decide +kernel
theorem dX11_make__101 : Dc cX11_make_ 101 (.aload_n 0) 1 102 := by decide +kernel
theorem dX11_make__102 : Dc cX11_make_ 102 (.iload 5) 2 104 := by decide +kernel
theorem dX11_make__104 : Dc cX11_make_ 104 (.iload 6) 2 106 := by decide +kernel
theorem dX11_make__106 : Dc cX11_make_ 106 (.invokevirtual 100) 3 109 := by decide +kernel
theorem dX11_make__109 : Dc cX11_make_ 109 (.aload_n 0) 1 110 := by decide +kernel
theorem dX11_make__110 : Dc cX11_make_ 110 (.iconst 1) 1 111 := by decide +kernel
theorem dX11_make__111 : Dc cX11_make_ 111 (.invokevirtual 109) 3 114 := by decide +kernel
theorem dX11_make__114 : Dc cX11_make_ 114 (.aload_n 0) 1 115 := by decide +kernel
theorem dX11_make__115 : Dc cX11_make_ 115 (.bipush 64) 2 117 := by decide +kernel
theorem dX11_make__117 : Dc cX11_make_ 117 (.iload 6) 2 119 := by decide +kernel
theorem dX11_make__119 : Dc cX11_make_ 119 (.imul) 1 120 := by decide +kernel
theorem dX11_make__120 : Dc cX11_make_ 120 (.iload 5) 2 122 := by decide +kernel
theorem dX11_make__122 : Dc cX11_make_ 122 (.invokevirtual 112) 3 125 := by decide +kernel
theorem dX11_make__125 : Dc cX11_make_ 125 (.aload_n 0) 1 126 := by decide +kernel
theorem dX11_make__126 : Dc cX11_make_ 126 (.iconst 2) 1 127 := by decide +kernel
theorem dX11_make__127 : Dc cX11_make_ 127 (.invokevirtual 109) 3 130 := by decide +kernel
theorem dX11_make__130 : Dc cX11_make_ 130 (.aload_n 0) 1 131 := by decide +kernel
theorem dX11_make__131 : Dc cX11_make_ 131 (.bipush 64) 2 133 := by decide +kernel
theorem dX11_make__133 : Dc cX11_make_ 133 (.iload 6) 2 135 := by decide +kernel
theorem dX11_make__135 : Dc cX11_make_ 135 (.imul) 1 136 := by decide +kernel
theorem dX11_make__136 : Dc cX11_make_ 136 (.bipush 16) 2 138 := by decide +kernel
theorem dX11_make__138 : Dc cX11_make_ 138 (.iadd) 1 139 := by decide +kernel
theorem dX11_make__139 : Dc cX11_make_ 139 (.iload_n 1) 1 140 := by decide +kernel
theorem dX11_make__140 : Dc cX11_make_ 140 (.invokevirtual 112) 3 143 := by decide +kernel
theorem dX11_make__143 : Dc cX11_make_ 143 (.aload_n 0) 1 144 := by decide +kernel
theorem dX11_make__144 : Dc cX11_make_ 144 (.lload_n 2) 1 145 := by decide +kernel
theorem dX11_make__145 : Dc cX11_make_ 145 (.invokevirtual 198) 3 148 := by decide +kernel
theorem dX11_make__148 : Dc cX11_make_ 148 (.aload_n 0) 1 149 := by decide +kernel
theorem dX11_make__149 : Dc cX11_make_ 149 (.iload_n 1) 1 150 := by decide +kernel
theorem dX11_make__150 : Dc cX11_make_ 150 (.iload 5) 2 152 := by decide +kernel
theorem dX11_make__152 : Dc cX11_make_ 152 (.invokevirtual 136) 3 155 := by decide +kernel
theorem dX11_make__155 : Dc cX11_make_ 155 (.ifCond .ne 5) 3 158 := by decide +kernel
theorem dX11_make__158 : Dc cX11_make_ 158 (.iconst (-1)) 1 159 := by decide +kernel
theorem dX11_make__159 : Dc cX11_make_ 159 (.ireturn) 1 160 := by decide +kernel
theorem dX11_make__160 : Dc cX11_make_ 160 (.aload_n 0) 1 161 := by decide +kernel
theorem dX11_make__161 : Dc cX11_make_ 161 (.invokevirtual 170) 3 164 := by decide +kernel
theorem dX11_make__164 : Dc cX11_make_ 164 (.aload_n 0) 1 165 := by decide +kernel
theorem dX11_make__165 : Dc cX11_make_ 165 (.invokevirtual 176) 3 168 := by decide +kernel
theorem dX11_make__168 : Dc cX11_make_ 168 (.iload 5) 2 170 := by decide +kernel
theorem dX11_make__170 : Dc cX11_make_ 170 (.ireturn) 1 171 := by decide +kernel
theorem dX11_append_0 : Dc cX11_append 0 (.iload_n 2) 1 1 := by decide +kernel
theorem dX11_append_1 : Dc cX11_append 1 (.ifCond .lt 50) 3 4 := by decide +kernel
theorem dX11_append_4 : Dc cX11_append 4 (.iload_n 2) 1 5 := by decide +kernel
theorem dX11_append_5 : Dc cX11_append 5 (.sipush 255) 3 8 := by decide +kernel
theorem dX11_append_8 : Dc cX11_append 8 (.if_icmp .gt 43) 3 11 := by decide +kernel
theorem dX11_append_11 : Dc cX11_append 11 (.aload_n 0) 1 12 := by decide +kernel
theorem dX11_append_12 : Dc cX11_append 12 (.invokevirtual 205) 3 15 := by decide +kernel
theorem dX11_append_15 : Dc cX11_append 15 (.ifCond .ne 36) 3 18 := by decide +kernel
theorem dX11_append_18 : Dc cX11_append 18 (.iload_n 1) 1 19 := by decide +kernel
theorem dX11_append_19 : Dc cX11_append 19 (.iconst 1) 1 20 := by decide +kernel
theorem dX11_append_20 : Dc cX11_append 20 (.if_icmp .lt 31) 3 23 := by decide +kernel
theorem dX11_append_23 : Dc cX11_append 23 (.iload_n 1) 1 24 := by decide +kernel
theorem dX11_append_24 : Dc cX11_append 24 (.bipush 32) 2 26 := by decide +kernel
theorem dX11_append_26 : Dc cX11_append 26 (.if_icmp .ge 25) 3 29 := by decide +kernel
theorem dX11_append_29 : Dc cX11_append 29 (.aload_n 0) 1 30 := by decide +kernel
theorem dX11_append_30 : Dc cX11_append 30 (.iload_n 1) 1 31 := by decide +kernel
theorem dX11_append_31 : Dc cX11_append 31 (.invokevirtual 62) 3 34 := by decide +kernel
theorem dX11_append_34 : Dc cX11_append 34 (.iconst 1) 1 35 := by decide +kernel
theorem dX11_append_35 : Dc cX11_append 35 (.if_icmp .ne 16) 3 38 := by decide +kernel
theorem dX11_append_38 : Dc cX11_append 38 (.aload_n 0) 1 39 := by decide +kernel
theorem dX11_append_39 : Dc cX11_append 39 (.iload_n 1) 1 40 := by decide +kernel
theorem dX11_append_40 : Dc cX11_append 40 (.invokevirtual 45) 3 43 := by decide +kernel
theorem dX11_append_43 : Dc cX11_append 43 (.iconst 1) 1 44 := by decide +kernel
theorem dX11_append_44 : Dc cX11_append 44 (.iadd) 1 45 := by decide +kernel
theorem dX11_append_45 : Dc cX11_append 45 (.sipush 2944) 3 48 := by decide +kernel
theorem dX11_append_48 : Dc cX11_append 48 (.if_icmp .le 5) 3 51 := by decide +kernel
theorem dX11_append_51 : Dc cX11_append 51 (.iconst 0) 1 52 := by decide +kernel
theorem dX11_append_52 : Dc cX11_append 52 (.ireturn) 1 53 := by decide +kernel
theorem dX11_append_53 : Dc cX11_append 53 (.aload_n 0) 1 54 := by decide +kernel
theorem dX11_append_54 : Dc cX11_append 54 (.iload_n 1) 1 55 := by decide +kernel
theorem dX11_append_55 : Dc cX11_append 55 (.invokevirtual 45) 3 58 := by decide +kernel
theorem dX11_append_58 : Dc cX11_append 58 (.istore_n 3) 1 59 := by decide +kernel
theorem dX11_append_59 : Dc cX11_append 59 (.iload_n 3) 1 60 := by decide +kernel
theorem dX11_append_60 : Dc cX11_append 60 (.bipush 64) 2 62 := by decide +kernel
theorem dX11_append_62 : Dc cX11_append 62 (.irem) 1 63 := by decide +kernel
theorem dX11_append_63 : Dc cX11_append 63 (.ifCond .ne 14) 3 66 := by decide +kernel
theorem dX11_append_66 : Dc cX11_append 66 (.aload_n 0) 1 67 := by decide +kernel
theorem dX11_append_67 : Dc cX11_append 67 (.iload_n 1) 1 68 := by decide +kernel
theorem dX11_append_68 : Dc cX11_append 68 (.iconst 1) 1 69 := by decide +kernel
theorem dX11_append_69 : Dc cX11_append 69 (.invokevirtual 142) 3 72 := by decide +kernel
theorem dX11_append_72 : Dc cX11_append 72 (.ifCond .ne 18) 3 75 := by decide +kernel
theorem dX11_append_75 : Dc cX11_append 75 (.iconst 0) 1 76 := by decide +kernel
theorem dX11_append_76 : Dc cX11_append 76 (.ireturn) 1 77 := by decide +kernel
theorem dX11_append_77 : Dc cX11_append 77 (.aload_n 0) 1 78 := by decide +kernel
theorem dX11_append_78 : Dc cX11_append 78 (.iload_n 1) 1 79 := by decide +kernel
theorem dX11_append_79 : Dc cX11_append 79 (.invokestatic 42) 3 82 := by decide +kernel
theorem dX11_append_82 : Dc cX11_append 82 (.iconst 2) 1 83 := by decide +kernel
theorem dX11_append_83 : Dc cX11_append 83 (.iadd) 1 84 := by decide +kernel
theorem dX11_append_84 : Dc cX11_append 84 (.iload_n 3) 1 85 := by decide +kernel
theorem dX11_append_85 : Dc cX11_append 85 (.iconst 1) 1 86 := by decide +kernel
theorem dX11_append_86 : Dc cX11_append 86 (.iadd) 1 87 := by decide +kernel
theorem dX11_append_87 : Dc cX11_append 87 (.invokevirtual 103) 3 90 := by decide +kernel
theorem dX11_append_90 : Dc cX11_append 90 (.aload_n 0) 1 91 := by decide +kernel
theorem dX11_append_91 : Dc cX11_append 91 (.getfield 13) 3 94 := by decide +kernel
theorem dX11_append_94 : Dc cX11_append 94 (.bipush 64) 2 96 := by decide +kernel
theorem dX11_append_96 : Dc cX11_append 96 (.aload_n 0) 1 97 := by decide +kernel
theorem dX11_append_97 : Dc cX11_append 97 (.iload_n 1) 1 98 := by decide +kernel
theorem dX11_append_98 : Dc cX11_append 98 (.iload_n 3) 1 99 := by decide +kernel
theorem dX11_append_99 : Dc cX11_append 99 (.bipush 64) 2 101 := by decide +kernel
theorem dX11_append_101 : Dc cX11_append 101 (.idiv) 1 102 := by decide +kernel
theorem dX11_append_102 : Dc cX11_append 102 (.invokevirtual 59) 3 105 := by decide +kernel
theorem dX11_append_105 : Dc cX11_append 105 (.imul) 1 106 := by decide +kernel
theorem dX11_append_106 : Dc cX11_append 106 (.iload_n 3) 1 107 := by decide +kernel
theorem dX11_append_107 : Dc cX11_append 107 (.bipush 64) 2 109 := by decide +kernel
theorem dX11_append_109 : Dc cX11_append 109 (.irem) 1 110 := by decide +kernel
theorem dX11_append_110 : Dc cX11_append 110 (.iadd) 1 111 := by decide +kernel
theorem dX11_append_111 : Dc cX11_append 111 (.iload_n 2) 1 112 := by decide +kernel
theorem dX11_append_112 : Dc cX11_append 112 (.iastore) 1 113 := by decide +kernel
theorem dX11_append_113 : Dc cX11_append 113 (.aload_n 0) 1 114 := by decide +kernel
theorem dX11_append_114 : Dc cX11_append 114 (.invokevirtual 170) 3 117 := by decide +kernel
theorem dX11_append_117 : Dc cX11_append 117 (.aload_n 0) 1 118 := by decide +kernel
theorem dX11_append_118 : Dc cX11_append 118 (.invokevirtual 176) 3 121 := by decide +kernel
theorem dX11_append_121 : Dc cX11_append 121 (.iconst 1) 1 122 := by decide +kernel
theorem dX11_append_122 : Dc cX11_append 122 (.ireturn) 1 123 := by decide +kernel
theorem dX11_link_0 : Dc cX11_link 0 (.aload_n 0) 1 1 := by decide +kernel
theorem dX11_link_1 : Dc cX11_link 1 (.iload_n 1) 1 2 := by decide +kernel
theorem dX11_link_2 : Dc cX11_link 2 (.lload_n 2) 1 3 := by decide +kernel
theorem dX11_link_3 : Dc cX11_link 3 (.invokevirtual 209) 3 6 := by decide +kernel
theorem dX11_link_6 : Dc cX11_link 6 (.ifCond .eq 36) 3 9 := by decide +kernel
theorem dX11_link_9 : Dc cX11_link 9 (.iload 4) 2 11 := by decide +kernel
theorem dX11_link_11 : Dc cX11_link 11 (.iconst 1) 1 12 := by decide +kernel
theorem dX11_link_12 : Dc cX11_link 12 (.if_icmp .lt 30) 3 15 := by decide +kernel
theorem dX11_link_15 : Dc cX11_link 15 (.iload 4) 2 17 := by decide +kernel
theorem dX11_link_17 : Dc cX11_link 17 (.bipush 32) 2 19 := by decide +kernel
theorem dX11_link_19 : Dc cX11_link 19 (.if_icmp .ge 23) 3 22 := by decide +kernel
theorem dX11_link_22 : Dc cX11_link 22 (.aload_n 0) 1 23 := by decide +kernel
theorem dX11_link_23 : Dc cX11_link 23 (.iload 4) 2 25 := by decide +kernel
theorem dX11_link_25 : Dc cX11_link 25 (.invokevirtual 62) 3 28 := by decide +kernel
theorem dX11_link_28 : Dc cX11_link 28 (.iconst 1) 1 29 := by decide +kernel
theorem dX11_link_29 : Dc cX11_link 29 (.if_icmp .ne 13) 3 32 := by decide +kernel
theorem dX11_link_32 : Dc cX11_link 32 (.aload_n 0) 1 33 := by decide +kernel
theorem dX11_link_33 : Dc cX11_link 33 (.iload_n 1) 1 34 := by decide +kernel
theorem dX11_link_34 : Dc cX11_link 34 (.iload 4) 2 36 := by decide +kernel
theorem dX11_link_36 : Dc cX11_link 36 (.invokevirtual 136) 3 39 := by decide +kernel
theorem dX11_link_39 : Dc cX11_link 39 (.ifCond .ne 5) 3 42 := by decide +kernel
theorem dX11_link_42 : Dc cX11_link 42 (.iconst 0) 1 43 := by decide +kernel
theorem dX11_link_43 : Dc cX11_link 43 (.ireturn) 1 44 := by decide +kernel
theorem dX11_link_44 : Dc cX11_link 44 (.aload_n 0) 1 45 := by decide +kernel
theorem dX11_link_45 : Dc cX11_link 45 (.invokevirtual 170) 3 48 := by decide +kernel
theorem dX11_link_48 : Dc cX11_link 48 (.aload_n 0) 1 49 := by decide +kernel
theorem dX11_link_49 : Dc cX11_link 49 (.invokevirtual 176) 3 52 := by decide +kernel
theorem dX11_link_52 : Dc cX11_link 52 (.iconst 1) 1 53 := by decide +kernel
theorem dX11_link_53 : Dc cX11_link 53 (.ireturn) 1 54 := by decide +kernel
theorem dX11_unlink_0 : Dc cX11_unlink 0 (.aload_n 0) 1 1 := by decide +kernel
theorem dX11_unlink_1 : Dc cX11_unlink 1 (.invokevirtual 205) 3 4 := by decide +kernel
theorem dX11_unlink_4 : Dc cX11_unlink 4 (.ifCond .ne 29) 3 7 := by decide +kernel
theorem dX11_unlink_7 : Dc cX11_unlink 7 (.iload_n 1) 1 8 := by decide +kernel
theorem dX11_unlink_8 : Dc cX11_unlink 8 (.iconst 1) 1 9 := by decide +kernel
theorem dX11_unlink_9 : Dc cX11_unlink 9 (.if_icmp .lt 24) 3 12 := by decide +kernel
theorem dX11_unlink_12 : Dc cX11_unlink 12 (.iload_n 1) 1 13 := by decide +kernel
theorem dX11_unlink_13 : Dc cX11_unlink 13 (.bipush 32) 2 15 := by decide +kernel
theorem dX11_unlink_15 : Dc cX11_unlink 15 (.if_icmp .ge 18) 3 18 := by decide +kernel
theorem dX11_unlink_18 : Dc cX11_unlink 18 (.aload_n 0) 1 19 := by decide +kernel
theorem dX11_unlink_19 : Dc cX11_unlink 19 (.iload_n 1) 1 20 := by decide +kernel
theorem dX11_unlink_20 : Dc cX11_unlink 20 (.invokevirtual 62) 3 23 := by decide +kernel
theorem dX11_unlink_23 : Dc cX11_unlink 23 (.iconst 2) 1 24 := by decide +kernel
theorem dX11_unlink_24 : Dc cX11_unlink 24 (.if_icmp .ne 9) 3 27 := by decide +kernel
theorem dX11_unlink_27 : Dc cX11_unlink 27 (.lload_n 2) 1 28 := by decide +kernel
theorem dX11_unlink_28 : Dc cX11_unlink 28 (.lconst 0) 1 29 := by decide +kernel
theorem dX11_unlink_29 : Dc cX11_unlink 29 (.lcmp) 1 30 := by decide +kernel
theorem dX11_unlink_30 : Dc cX11_unlink 30 (.ifCond .ne 5) 3 33 := by decide +kernel
theorem dX11_unlink_33 : Dc cX11_unlink 33 (.iconst 0) 1 34 := by decide +kernel
theorem dX11_unlink_34 : Dc cX11_unlink 34 (.ireturn) 1 35 := by decide +kernel
theorem dX11_unlink_35 : Dc cX11_unlink 35 (.aload_n 0) 1 36 := by decide +kernel
theorem dX11_unlink_36 : Dc cX11_unlink 36 (.lload_n 2) 1 37 := by decide +kernel
theorem dX11_unlink_37 : Dc cX11_unlink 37 (.invokevirtual 198) 3 40 := by decide +kernel
theorem dX11_unlink_40 : Dc cX11_unlink 40 (.aload_n 0) 1 41 := by decide +kernel
theorem dX11_unlink_41 : Dc cX11_unlink 41 (.iload_n 1) 1 42 := by decide +kernel
theorem dX11_unlink_42 : Dc cX11_unlink 42 (.aload_n 0) 1 43 := by decide +kernel
theorem dX11_unlink_43 : Dc cX11_unlink 43 (.iload_n 1) 1 44 := by decide +kernel
theorem dX11_unlink_44 : Dc cX11_unlink 44 (.invokevirtual 106) 3 47 := by decide +kernel
theorem dX11_unlink_47 : Dc cX11_unlink 47 (.invokevirtual 79) 3 50 := by decide +kernel
theorem dX11_unlink_50 : Dc cX11_unlink 50 (.istore 4) 2 52 := by decide +kernel
theorem dX11_unlink_52 : Dc cX11_unlink 52 (.iload 4) 2 54 := by decide +kernel
theorem dX11_unlink_54 : Dc cX11_unlink 54 (.iconst (-1)) 1 55 := by decide +kernel
theorem dX11_unlink_55 : Dc cX11_unlink 55 (.if_icmp .ne 5) 3 58 := by decide +kernel
theorem dX11_unlink_58 : Dc cX11_unlink 58 (.iconst 0) 1 59 := by decide +kernel
theorem dX11_unlink_59 : Dc cX11_unlink 59 (.ireturn) 1 60 := by decide +kernel
theorem dX11_unlink_60 : Dc cX11_unlink 60 (.aload_n 0) 1 61 := by decide +kernel
theorem dX11_unlink_61 : Dc cX11_unlink 61 (.getfield 13) 3 64 := by decide +kernel
theorem dX11_unlink_64 : Dc cX11_unlink 64 (.aload_n 0) 1 65 := by decide +kernel
theorem dX11_unlink_65 : Dc cX11_unlink 65 (.iload_n 1) 1 66 := by decide +kernel
theorem dX11_unlink_66 : Dc cX11_unlink 66 (.iload 4) 2 68 := by decide +kernel
theorem dX11_unlink_68 : Dc cX11_unlink 68 (.invokevirtual 73) 3 71 := by decide +kernel
theorem dX11_unlink_71 : Dc cX11_unlink 71 (.iaload) 1 72 := by decide +kernel
theorem dX11_unlink_72 : Dc cX11_unlink 72 (.istore 5) 2 74 := by decide +kernel
theorem dX11_unlink_74 : Dc cX11_unlink 74 (.iconst 2) 1 75 := by decide +kernel
theorem dX11_unlink_75 : Dc cX11_unlink 75 (.istore 6) 2 77 := by decide +kernel
theorem dX11_unlink_77 : Dc cX11_unlink 77 (.aload_n 0) 1 78 := by decide +kernel
theorem dX11_unlink_78 : Dc cX11_unlink 78 (.iload 5) 2 80 := by decide +kernel
theorem dX11_unlink_80 : Dc cX11_unlink 80 (.invokevirtual 62) 3 83 := by decide +kernel
theorem dX11_unlink_83 : Dc cX11_unlink 83 (.iconst 2) 1 84 := by decide +kernel
theorem dX11_unlink_84 : Dc cX11_unlink 84 (.if_icmp .ne 38) 3 87 := by decide +kernel
theorem dX11_unlink_87 : Dc cX11_unlink 87 (.iload 6) 2 89 := by decide +kernel
theorem dX11_unlink_89 : Dc cX11_unlink 89 (.aload_n 0) 1 90 := by decide +kernel
theorem dX11_unlink_90 : Dc cX11_unlink 90 (.iload 5) 2 92 := by decide +kernel
theorem dX11_unlink_92 : Dc cX11_unlink 92 (.invokevirtual 106) 3 95 := by decide +kernel
theorem dX11_unlink_95 : Dc cX11_unlink 95 (.if_icmp .ge 27) 3 98 := by decide +kernel
theorem dX11_unlink_98 : Dc cX11_unlink 98 (.aload_n 0) 1 99 := by decide +kernel
theorem dX11_unlink_99 : Dc cX11_unlink 99 (.getfield 13) 3 102 := by decide +kernel
theorem dX11_unlink_102 : Dc cX11_unlink 102 (.aload_n 0) 1 103 := by decide +kernel
theorem dX11_unlink_103 : Dc cX11_unlink 103 (.iload 5) 2 105 := by decide +kernel
theorem dX11_unlink_105 : Dc cX11_unlink 105 (.iload 6) 2 107 := by decide +kernel
theorem dX11_unlink_107 : Dc cX11_unlink 107 (.invokevirtual 73) 3 110 := by decide +kernel
theorem dX11_unlink_110 : Dc cX11_unlink 110 (.iaload) 1 111 := by decide +kernel
theorem dX11_unlink_111 : Dc cX11_unlink 111 (.ifCond .eq 5) 3 114 := by decide +kernel
theorem dX11_unlink_114 : Dc cX11_unlink 114 (.iconst 0) 1 115 := by decide +kernel
theorem dX11_unlink_115 : Dc cX11_unlink 115 (.ireturn) 1 116 := by decide +kernel
theorem dX11_unlink_116 : Dc cX11_unlink 116 (.iinc 6 1) 3 119 := by decide +kernel
theorem dX11_unlink_119 : Dc cX11_unlink 119 (.goto (-42)) 3 122 := by decide +kernel
theorem dX11_unlink_122 : Dc cX11_unlink 122 (.aload_n 0) 1 123 := by decide +kernel
theorem dX11_unlink_123 : Dc cX11_unlink 123 (.aload_n 0) 1 124 := by decide +kernel
theorem dX11_unlink_124 : Dc cX11_unlink 124 (.iload_n 1) 1 125 := by decide +kernel
theorem dX11_unlink_125 : Dc cX11_unlink 125 (.iload 4) 2 127 := by decide +kernel
theorem dX11_unlink_127 : Dc cX11_unlink 127 (.invokevirtual 73) 3 130 := by decide +kernel
theorem dX11_unlink_130 : Dc cX11_unlink 130 (.bipush 16) 2 132 := by decide +kernel
theorem dX11_unlink_132 : Dc cX11_unlink 132 (.invokevirtual 65) 3 135 := by decide +kernel
theorem dX11_unlink_135 : Dc cX11_unlink 135 (.aload_n 0) 1 136 := by decide +kernel
theorem dX11_unlink_136 : Dc cX11_unlink 136 (.iload 5) 2 138 := by decide +kernel
theorem dX11_unlink_138 : Dc cX11_unlink 138 (.invokevirtual 62) 3 141 := by decide +kernel
theorem dX11_unlink_141 : Dc cX11_unlink 141 (.iconst 2) 1 142 := by decide +kernel
theorem dX11_unlink_142 : Dc cX11_unlink 142 (.if_icmp .eq 12) 3 145 := by decide +kernel
theorem dX11_unlink_145 : Dc cX11_unlink 145 (.aload_n 0) 1 146 := by decide +kernel
theorem dX11_unlink_146 : Dc cX11_unlink 146 (.iload 5) 2 148 := by decide +kernel
theorem dX11_unlink_148 : Dc cX11_unlink 148 (.invokevirtual 145) 3 151 := by decide +kernel
theorem dX11_unlink_151 : Dc cX11_unlink 151 (.ifCond .ne 14) 3 154 := by decide +kernel
theorem dX11_unlink_154 : Dc cX11_unlink 154 (.aload_n 0) 1 155 := by decide +kernel
theorem dX11_unlink_155 : Dc cX11_unlink 155 (.iload 5) 2 157 := by decide +kernel
theorem dX11_unlink_157 : Dc cX11_unlink 157 (.invokestatic 42) 3 160 := by decide +kernel
theorem dX11_unlink_160 : Dc cX11_unlink 160 (.bipush 16) 2 162 := by decide +kernel
theorem dX11_unlink_162 : Dc cX11_unlink 162 (.invokevirtual 65) 3 165 := by decide +kernel
theorem dX11_unlink_165 : Dc cX11_unlink 165 (.aload_n 0) 1 166 := by decide +kernel
theorem dX11_unlink_166 : Dc cX11_unlink 166 (.invokevirtual 170) 3 169 := by decide +kernel
theorem dX11_unlink_169 : Dc cX11_unlink 169 (.aload_n 0) 1 170 := by decide +kernel
theorem dX11_unlink_170 : Dc cX11_unlink 170 (.invokevirtual 176) 3 173 := by decide +kernel
theorem dX11_unlink_173 : Dc cX11_unlink 173 (.iconst 1) 1 174 := by decide +kernel
theorem dX11_unlink_174 : Dc cX11_unlink 174 (.ireturn) 1 175 := by decide +kernel
theorem dJ13_bitCount_95d88_0 : Dc cJ13_bitCount_95d88 0 (.lload_n 0) 1 1 := by decide +kernel
theorem dJ13_bitCount_95d88_1 : Dc cJ13_bitCount_95d88 1 (.lload_n 0) 1 2 := by decide +kernel
theorem dJ13_bitCount_95d88_2 : Dc cJ13_bitCount_95d88 2 (.iconst 1) 1 3 := by decide +kernel
theorem dJ13_bitCount_95d88_3 : Dc cJ13_bitCount_95d88 3 (.lushr) 1 4 := by decide +kernel
theorem dJ13_bitCount_95d88_4 : Dc cJ13_bitCount_95d88 4 (.ldc2_w 314) 3 7 := by decide +kernel
theorem dJ13_bitCount_95d88_7 : Dc cJ13_bitCount_95d88 7 (.land) 1 8 := by decide +kernel
theorem dJ13_bitCount_95d88_8 : Dc cJ13_bitCount_95d88 8 (.lsub) 1 9 := by decide +kernel
theorem dJ13_bitCount_95d88_9 : Dc cJ13_bitCount_95d88 9 (.lstore_n 0) 1 10 := by decide +kernel
theorem dJ13_bitCount_95d88_10 : Dc cJ13_bitCount_95d88 10 (.lload_n 0) 1 11 := by decide +kernel
theorem dJ13_bitCount_95d88_11 : Dc cJ13_bitCount_95d88 11 (.ldc2_w 316) 3 14 := by decide +kernel
theorem dJ13_bitCount_95d88_14 : Dc cJ13_bitCount_95d88 14 (.land) 1 15 := by decide +kernel
theorem dJ13_bitCount_95d88_15 : Dc cJ13_bitCount_95d88 15 (.lload_n 0) 1 16 := by decide +kernel
theorem dJ13_bitCount_95d88_16 : Dc cJ13_bitCount_95d88 16 (.iconst 2) 1 17 := by decide +kernel
theorem dJ13_bitCount_95d88_17 : Dc cJ13_bitCount_95d88 17 (.lushr) 1 18 := by decide +kernel
theorem dJ13_bitCount_95d88_18 : Dc cJ13_bitCount_95d88 18 (.ldc2_w 316) 3 21 := by decide +kernel
theorem dJ13_bitCount_95d88_21 : Dc cJ13_bitCount_95d88 21 (.land) 1 22 := by decide +kernel
theorem dJ13_bitCount_95d88_22 : Dc cJ13_bitCount_95d88 22 (.ladd) 1 23 := by decide +kernel
theorem dJ13_bitCount_95d88_23 : Dc cJ13_bitCount_95d88 23 (.lstore_n 0) 1 24 := by decide +kernel
theorem dJ13_bitCount_95d88_24 : Dc cJ13_bitCount_95d88 24 (.lload_n 0) 1 25 := by decide +kernel
theorem dJ13_bitCount_95d88_25 : Dc cJ13_bitCount_95d88 25 (.lload_n 0) 1 26 := by decide +kernel
theorem dJ13_bitCount_95d88_26 : Dc cJ13_bitCount_95d88 26 (.iconst 4) 1 27 := by decide +kernel
theorem dJ13_bitCount_95d88_27 : Dc cJ13_bitCount_95d88 27 (.lushr) 1 28 := by decide +kernel
theorem dJ13_bitCount_95d88_28 : Dc cJ13_bitCount_95d88 28 (.ladd) 1 29 := by decide +kernel
theorem dJ13_bitCount_95d88_29 : Dc cJ13_bitCount_95d88 29 (.ldc2_w 318) 3 32 := by decide +kernel
theorem dJ13_bitCount_95d88_32 : Dc cJ13_bitCount_95d88 32 (.land) 1 33 := by decide +kernel
theorem dJ13_bitCount_95d88_33 : Dc cJ13_bitCount_95d88 33 (.lstore_n 0) 1 34 := by decide +kernel
theorem dJ13_bitCount_95d88_34 : Dc cJ13_bitCount_95d88 34 (.lload_n 0) 1 35 := by decide +kernel
theorem dJ13_bitCount_95d88_35 : Dc cJ13_bitCount_95d88 35 (.lload_n 0) 1 36 := by decide +kernel
theorem dJ13_bitCount_95d88_36 : Dc cJ13_bitCount_95d88 36 (.bipush 8) 2 38 := by decide +kernel
theorem dJ13_bitCount_95d88_38 : Dc cJ13_bitCount_95d88 38 (.lushr) 1 39 := by decide +kernel
theorem dJ13_bitCount_95d88_39 : Dc cJ13_bitCount_95d88 39 (.ladd) 1 40 := by decide +kernel
theorem dJ13_bitCount_95d88_40 : Dc cJ13_bitCount_95d88 40 (.lstore_n 0) 1 41 := by decide +kernel
theorem dJ13_bitCount_95d88_41 : Dc cJ13_bitCount_95d88 41 (.lload_n 0) 1 42 := by decide +kernel
theorem dJ13_bitCount_95d88_42 : Dc cJ13_bitCount_95d88 42 (.lload_n 0) 1 43 := by decide +kernel
theorem dJ13_bitCount_95d88_43 : Dc cJ13_bitCount_95d88 43 (.bipush 16) 2 45 := by decide +kernel
theorem dJ13_bitCount_95d88_45 : Dc cJ13_bitCount_95d88 45 (.lushr) 1 46 := by decide +kernel
theorem dJ13_bitCount_95d88_46 : Dc cJ13_bitCount_95d88 46 (.ladd) 1 47 := by decide +kernel
theorem dJ13_bitCount_95d88_47 : Dc cJ13_bitCount_95d88 47 (.lstore_n 0) 1 48 := by decide +kernel
theorem dJ13_bitCount_95d88_48 : Dc cJ13_bitCount_95d88 48 (.lload_n 0) 1 49 := by decide +kernel
theorem dJ13_bitCount_95d88_49 : Dc cJ13_bitCount_95d88 49 (.lload_n 0) 1 50 := by decide +kernel
theorem dJ13_bitCount_95d88_50 : Dc cJ13_bitCount_95d88 50 (.bipush 32) 2 52 := by decide +kernel
theorem dJ13_bitCount_95d88_52 : Dc cJ13_bitCount_95d88 52 (.lushr) 1 53 := by decide +kernel
theorem dJ13_bitCount_95d88_53 : Dc cJ13_bitCount_95d88 53 (.ladd) 1 54 := by decide +kernel
theorem dJ13_bitCount_95d88_54 : Dc cJ13_bitCount_95d88 54 (.lstore_n 0) 1 55 := by decide +kernel
theorem dJ13_bitCount_95d88_55 : Dc cJ13_bitCount_95d88 55 (.lload_n 0) 1 56 := by decide +kernel
theorem dJ13_bitCount_95d88_56 : Dc cJ13_bitCount_95d88 56 (.l2i) 1 57 := by decide +kernel
theorem dJ13_bitCount_95d88_57 : Dc cJ13_bitCount_95d88 57 (.bipush 127) 2 59 := by decide +kernel
theorem dJ13_bitCount_95d88_59 : Dc cJ13_bitCount_95d88 59 (.iand) 1 60 := by decide +kernel
theorem dJ13_bitCount_95d88_60 : Dc cJ13_bitCount_95d88 60 (.ireturn) 1 61 := by decide +kernel
theorem dJ9_min_7cf53_0 : Dc cJ9_min_7cf53 0 (.iload_n 0) 1 1 := by decide +kernel
theorem dJ9_min_7cf53_1 : Dc cJ9_min_7cf53 1 (.iload_n 1) 1 2 := by decide +kernel
theorem dJ9_min_7cf53_2 : Dc cJ9_min_7cf53 2 (.if_icmp .gt 7) 3 5 := by decide +kernel
theorem dJ9_min_7cf53_5 : Dc cJ9_min_7cf53 5 (.iload_n 0) 1 6 := by decide +kernel
theorem dJ9_min_7cf53_6 : Dc cJ9_min_7cf53 6 (.goto 4) 3 9 := by decide +kernel
theorem dJ9_min_7cf53_9 : Dc cJ9_min_7cf53 9 (.iload_n 1) 1 10 := by decide +kernel
theorem dJ9_min_7cf53_10 : Dc cJ9_min_7cf53 10 (.ireturn) 1 11 := by decide +kernel
theorem dJ0_length_8abf5_0 : Dc cJ0_length_8abf5 0 (.aload_n 0) 1 1 := by decide +kernel
theorem dJ0_length_8abf5_1 : Dc cJ0_length_8abf5 1 (.getfield 9) 3 4 := by decide +kernel
theorem dJ0_length_8abf5_4 : Dc cJ0_length_8abf5 4 (.arraylength) 1 5 := by decide +kernel
theorem dJ0_length_8abf5_5 : Dc cJ0_length_8abf5 5 (.aload_n 0) 1 6 := by decide +kernel
theorem dJ0_length_8abf5_6 : Dc cJ0_length_8abf5 6 (.invokevirtual 335) 3 9 := by decide +kernel
theorem dJ0_length_8abf5_9 : Dc cJ0_length_8abf5 9 (.ishr) 1 10 := by decide +kernel
theorem dJ0_length_8abf5_10 : Dc cJ0_length_8abf5 10 (.ireturn) 1 11 := by decide +kernel
theorem dJ0_charAt_5068e_0 : Dc cJ0_charAt_5068e 0 (.aload_n 0) 1 1 := by decide +kernel
theorem dJ0_charAt_5068e_1 : Dc cJ0_charAt_5068e 1 (.invokevirtual 492) 3 4 := by decide +kernel
theorem dJ0_charAt_5068e_4 : Dc cJ0_charAt_5068e 4 (.ifCond .eq 12) 3 7 := by decide +kernel
theorem dJ0_charAt_5068e_7 : Dc cJ0_charAt_5068e 7 (.aload_n 0) 1 8 := by decide +kernel
theorem dJ0_charAt_5068e_8 : Dc cJ0_charAt_5068e 8 (.getfield 9) 3 11 := by decide +kernel
theorem dJ0_charAt_5068e_11 : Dc cJ0_charAt_5068e 11 (.iload_n 1) 1 12 := by decide +kernel
theorem dJ0_charAt_5068e_12 : Dc cJ0_charAt_5068e 12 (.invokestatic 495) 3 15 := by decide +kernel
theorem dJ0_charAt_5068e_15 : Dc cJ0_charAt_5068e 15 (.ireturn) 1 16 := by decide +kernel
theorem dJ0_charAt_5068e_16 : Dc cJ0_charAt_5068e 16 (.aload_n 0) 1 17 := by decide +kernel
theorem dJ0_charAt_5068e_17 : Dc cJ0_charAt_5068e 17 (.getfield 9) 3 20 := by decide +kernel
theorem dJ0_charAt_5068e_20 : Dc cJ0_charAt_5068e 20 (.iload_n 1) 1 21 := by decide +kernel
theorem dJ0_charAt_5068e_21 : Dc cJ0_charAt_5068e 21 (.invokestatic 498) 3 24 := by decide +kernel
theorem dJ0_charAt_5068e_24 : Dc cJ0_charAt_5068e 24 (.ireturn) 1 25 := by decide +kernel
theorem dJ0_coder_7d493_0 : Dc cJ0_coder_7d493 0 (.getstatic 38) 3 3 := by decide +kernel
theorem dJ0_coder_7d493_3 : Dc cJ0_coder_7d493 3 (.ifCond .eq 10) 3 6 := by decide +kernel
theorem dJ0_coder_7d493_6 : Dc cJ0_coder_7d493 6 (.aload_n 0) 1 7 := by decide +kernel
theorem dJ0_coder_7d493_7 : Dc cJ0_coder_7d493 7 (.getfield 15) 3 10 := by decide +kernel
theorem dJ0_coder_7d493_10 : Dc cJ0_coder_7d493 10 (.goto 4) 3 13 := by decide +kernel
theorem dJ0_coder_7d493_13 : Dc cJ0_coder_7d493 13 (.iconst 1) 1 14 := by decide +kernel
theorem dJ0_coder_7d493_14 : Dc cJ0_coder_7d493 14 (.ireturn) 1 15 := by decide +kernel
theorem dJ0_isLatin1_aae02_0 : Dc cJ0_isLatin1_aae02 0 (.getstatic 38) 3 3 := by decide +kernel
theorem dJ0_isLatin1_aae02_3 : Dc cJ0_isLatin1_aae02 3 (.ifCond .eq 14) 3 6 := by decide +kernel
theorem dJ0_isLatin1_aae02_6 : Dc cJ0_isLatin1_aae02 6 (.aload_n 0) 1 7 := by decide +kernel
theorem dJ0_isLatin1_aae02_7 : Dc cJ0_isLatin1_aae02 7 (.getfield 15) 3 10 := by decide +kernel
theorem dJ0_isLatin1_aae02_10 : Dc cJ0_isLatin1_aae02 10 (.ifCond .ne 7) 3 13 := by decide +kernel
theorem dJ0_isLatin1_aae02_13 : Dc cJ0_isLatin1_aae02 13 (.iconst 1) 1 14 := by decide +kernel
theorem dJ0_isLatin1_aae02_14 : Dc cJ0_isLatin1_aae02 14 (.goto 4) 3 17 := by decide +kernel
theorem dJ0_isLatin1_aae02_17 : Dc cJ0_isLatin1_aae02 17 (.iconst 0) 1 18 := by decide +kernel
theorem dJ0_isLatin1_aae02_18 : Dc cJ0_isLatin1_aae02 18 (.ireturn) 1 19 := by decide +kernel
theorem dJ0_checkIndex_df160_0 : Dc cJ0_checkIndex_df160 0 (.iload_n 0) 1 1 := by decide +kernel
theorem dJ0_checkIndex_df160_1 : Dc cJ0_checkIndex_df160 1 (.iload_n 1) 1 2 := by decide +kernel
theorem dJ0_checkIndex_df160_2 : Dc cJ0_checkIndex_df160 2 (.getstatic 1053) 3 5 := by decide +kernel
theorem dJ0_checkIndex_df160_5 : Dc cJ0_checkIndex_df160 5 (.invokestatic 1059) 3 8 := by decide +kernel
theorem dJ0_checkIndex_df160_8 : Dc cJ0_checkIndex_df160 8 (.pop) 1 9 := by decide +kernel
theorem dJ0_checkIndex_df160_9 : Dc cJ0_checkIndex_df160 9 (.return_) 1 10 := by decide +kernel
theorem dJ1_charAt_3b067_0 : Dc cJ1_charAt_3b067 0 (.iload_n 1) 1 1 := by decide +kernel
theorem dJ1_charAt_3b067_1 : Dc cJ1_charAt_3b067 1 (.aload_n 0) 1 2 := by decide +kernel
theorem dJ1_charAt_3b067_2 : Dc cJ1_charAt_3b067 2 (.arraylength) 1 3 := by decide +kernel
theorem dJ1_charAt_3b067_3 : Dc cJ1_charAt_3b067 3 (.invokestatic 9) 3 6 := by decide +kernel
theorem dJ1_charAt_3b067_6 : Dc cJ1_charAt_3b067 6 (.aload_n 0) 1 7 := by decide +kernel
theorem dJ1_charAt_3b067_7 : Dc cJ1_charAt_3b067 7 (.iload_n 1) 1 8 := by decide +kernel
theorem dJ1_charAt_3b067_8 : Dc cJ1_charAt_3b067 8 (.baload) 1 9 := by decide +kernel
theorem dJ1_charAt_3b067_9 : Dc cJ1_charAt_3b067 9 (.sipush 255) 3 12 := by decide +kernel
theorem dJ1_charAt_3b067_12 : Dc cJ1_charAt_3b067 12 (.iand) 1 13 := by decide +kernel
theorem dJ1_charAt_3b067_13 : Dc cJ1_charAt_3b067 13 (.i2c) 1 14 := by decide +kernel
theorem dJ1_charAt_3b067_14 : Dc cJ1_charAt_3b067 14 (.ireturn) 1 15 := by decide +kernel
theorem dJ2_getChar_3b067_0 : Dc cJ2_getChar_3b067 0 (.getstatic 44) 3 3 := by decide +kernel
theorem dJ2_getChar_3b067_3 : Dc cJ2_getChar_3b067 3 (.ifCond .ne 25) 3 6 := by decide +kernel
theorem dJ2_getChar_3b067_6 : Dc cJ2_getChar_3b067 6 (.iload_n 1) 1 7 := by decide +kernel
theorem dJ2_getChar_3b067_7 : Dc cJ2_getChar_3b067 7 (.ifCond .lt 11) 3 10 := by decide +kernel
theorem dJ2_getChar_3b067_10 : Dc cJ2_getChar_3b067 10 (.iload_n 1) 1 11 := by decide +kernel
theorem dJ2_getChar_3b067_11 : Dc cJ2_getChar_3b067 11 (.aload_n 0) 1 12 := by decide +kernel
theorem dJ2_getChar_3b067_12 : Dc cJ2_getChar_3b067 12 (.invokestatic 48) 3 15 := by decide +kernel
theorem dJ2_getChar_3b067_15 : Dc cJ2_getChar_3b067 15 (.if_icmp .lt 13) 3 18 := by decide +kernel
theorem dJ2_getChar_3b067_18 : Dc cJ2_getChar_3b067 18 (.new 52) 3 21 := by decide +kernel
theorem dJ2_getChar_3b067_21 : Dc cJ2_getChar_3b067 21 (.dup) 1 22 := by decide +kernel
theorem dJ2_getChar_3b067_22 : Dc cJ2_getChar_3b067 22 (.ldc 54) 2 24 := by decide +kernel
theorem dJ2_getChar_3b067_24 : Dc cJ2_getChar_3b067 24 (.invokespecial 56) 3 27 := by decide +kernel
theorem dJ2_getChar_3b067_27 : Dc cJ2_getChar_3b067 27 (.athrow) 1 28 := by decide +kernel
theorem dJ2_getChar_3b067_28 : Dc cJ2_getChar_3b067 28 (.iload_n 1) 1 29 := by decide +kernel
theorem dJ2_getChar_3b067_29 : Dc cJ2_getChar_3b067 29 (.iconst 1) 1 30 := by decide +kernel
theorem dJ2_getChar_3b067_30 : Dc cJ2_getChar_3b067 30 (.ishl) 1 31 := by decide +kernel
theorem dJ2_getChar_3b067_31 : Dc cJ2_getChar_3b067 31 (.istore_n 1) 1 32 := by decide +kernel
theorem dJ2_getChar_3b067_32 : Dc cJ2_getChar_3b067 32 (.aload_n 0) 1 33 := by decide +kernel
theorem dJ2_getChar_3b067_33 : Dc cJ2_getChar_3b067 33 (.iload_n 1) 1 34 := by decide +kernel
theorem dJ2_getChar_3b067_34 : Dc cJ2_getChar_3b067 34 (.iinc 1 1) 3 37 := by decide +kernel
theorem dJ2_getChar_3b067_37 : Dc cJ2_getChar_3b067 37 (.baload) 1 38 := by decide +kernel
theorem dJ2_getChar_3b067_38 : Dc cJ2_getChar_3b067 38 (.sipush 255) 3 41 := by decide +kernel
theorem dJ2_getChar_3b067_41 : Dc cJ2_getChar_3b067 41 (.iand) 1 42 := by decide +kernel
theorem dJ2_getChar_3b067_42 : Dc cJ2_getChar_3b067 42 (.getstatic 59) 3 45 := by decide +kernel
theorem dJ2_getChar_3b067_45 : Dc cJ2_getChar_3b067 45 (.ishl) 1 46 := by decide +kernel
theorem dJ2_getChar_3b067_46 : Dc cJ2_getChar_3b067 46 (.aload_n 0) 1 47 := by decide +kernel
theorem dJ2_getChar_3b067_47 : Dc cJ2_getChar_3b067 47 (.iload_n 1) 1 48 := by decide +kernel
theorem dJ2_getChar_3b067_48 : Dc cJ2_getChar_3b067 48 (.baload) 1 49 := by decide +kernel
theorem dJ2_getChar_3b067_49 : Dc cJ2_getChar_3b067 49 (.sipush 255) 3 52 := by decide +kernel
theorem dJ2_getChar_3b067_52 : Dc cJ2_getChar_3b067 52 (.iand) 1 53 := by decide +kernel
theorem dJ2_getChar_3b067_53 : Dc cJ2_getChar_3b067 53 (.getstatic 63) 3 56 := by decide +kernel
theorem dJ2_getChar_3b067_56 : Dc cJ2_getChar_3b067 56 (.ishl) 1 57 := by decide +kernel
theorem dJ2_getChar_3b067_57 : Dc cJ2_getChar_3b067 57 (.ior) 1 58 := by decide +kernel
theorem dJ2_getChar_3b067_58 : Dc cJ2_getChar_3b067 58 (.i2c) 1 59 := by decide +kernel
theorem dJ2_getChar_3b067_59 : Dc cJ2_getChar_3b067 59 (.ireturn) 1 60 := by decide +kernel
theorem dJ2_length_9d52b_0 : Dc cJ2_length_9d52b 0 (.aload_n 0) 1 1 := by decide +kernel
theorem dJ2_length_9d52b_1 : Dc cJ2_length_9d52b 1 (.arraylength) 1 2 := by decide +kernel
theorem dJ2_length_9d52b_2 : Dc cJ2_length_9d52b 2 (.iconst 1) 1 3 := by decide +kernel
theorem dJ2_length_9d52b_3 : Dc cJ2_length_9d52b 3 (.ishr) 1 4 := by decide +kernel
theorem dJ2_length_9d52b_4 : Dc cJ2_length_9d52b 4 (.ireturn) 1 5 := by decide +kernel
theorem dJ2_charAt_3b067_0 : Dc cJ2_charAt_3b067 0 (.iload_n 1) 1 1 := by decide +kernel
theorem dJ2_charAt_3b067_1 : Dc cJ2_charAt_3b067 1 (.aload_n 0) 1 2 := by decide +kernel
theorem dJ2_charAt_3b067_2 : Dc cJ2_charAt_3b067 2 (.invokestatic 67) 3 5 := by decide +kernel
theorem dJ2_charAt_3b067_5 : Dc cJ2_charAt_3b067 5 (.aload_n 0) 1 6 := by decide +kernel
theorem dJ2_charAt_3b067_6 : Dc cJ2_charAt_3b067 6 (.iload_n 1) 1 7 := by decide +kernel
theorem dJ2_charAt_3b067_7 : Dc cJ2_charAt_3b067 7 (.invokestatic 71) 3 10 := by decide +kernel
theorem dJ2_charAt_3b067_10 : Dc cJ2_charAt_3b067 10 (.ireturn) 1 11 := by decide +kernel
theorem dJ2_checkIndex_2214a_0 : Dc cJ2_checkIndex_2214a 0 (.iload_n 0) 1 1 := by decide +kernel
theorem dJ2_checkIndex_2214a_1 : Dc cJ2_checkIndex_2214a 1 (.aload_n 1) 1 2 := by decide +kernel
theorem dJ2_checkIndex_2214a_2 : Dc cJ2_checkIndex_2214a 2 (.invokestatic 48) 3 5 := by decide +kernel
theorem dJ2_checkIndex_2214a_5 : Dc cJ2_checkIndex_2214a 5 (.invokestatic 414) 3 8 := by decide +kernel
theorem dJ2_checkIndex_2214a_8 : Dc cJ2_checkIndex_2214a 8 (.return_) 1 9 := by decide +kernel
theorem dJ7_rangeCheck_23922_0 : Dc cJ7_rangeCheck_23922 0 (.iload_n 1) 1 1 := by decide +kernel
theorem dJ7_rangeCheck_23922_1 : Dc cJ7_rangeCheck_23922 1 (.iload_n 2) 1 2 := by decide +kernel
theorem dJ7_rangeCheck_23922_2 : Dc cJ7_rangeCheck_23922 2 (.if_icmp .le 44) 3 5 := by decide +kernel
theorem dJ7_rangeCheck_23922_5 : Dc cJ7_rangeCheck_23922 5 (.new 43) 3 8 := by decide +kernel
theorem dJ7_rangeCheck_23922_8 : Dc cJ7_rangeCheck_23922 8 (.dup) 1 9 := by decide +kernel
theorem dJ7_rangeCheck_23922_9 : Dc cJ7_rangeCheck_23922 9 (.new 45) 3 12 := by decide +kernel
theorem dJ7_rangeCheck_23922_12 : Dc cJ7_rangeCheck_23922 12 (.dup) 1 13 := by decide +kernel
theorem dJ7_rangeCheck_23922_13 : Dc cJ7_rangeCheck_23922 13 (.invokespecial 47) 3 16 := by decide +kernel
theorem dJ7_rangeCheck_23922_16 : Dc cJ7_rangeCheck_23922 16 (.ldc 48) 2 18 := by decide +kernel
theorem dJ7_rangeCheck_23922_18 : Dc cJ7_rangeCheck_23922 18 (.invokevirtual 50) 3 21 := by decide +kernel
theorem dJ7_rangeCheck_23922_21 : Dc cJ7_rangeCheck_23922 21 (.iload_n 1) 1 22 := by decide +kernel
theorem dJ7_rangeCheck_23922_22 : Dc cJ7_rangeCheck_23922 22 (.invokevirtual 54) 3 25 := by decide +kernel
theorem dJ7_rangeCheck_23922_25 : Dc cJ7_rangeCheck_23922 25 (.ldc 57) 2 27 := by decide +kernel
theorem dJ7_rangeCheck_23922_27 : Dc cJ7_rangeCheck_23922 27 (.invokevirtual 50) 3 30 := by decide +kernel
theorem dJ7_rangeCheck_23922_30 : Dc cJ7_rangeCheck_23922 30 (.iload_n 2) 1 31 := by decide +kernel
theorem dJ7_rangeCheck_23922_31 : Dc cJ7_rangeCheck_23922 31 (.invokevirtual 54) 3 34 := by decide +kernel
theorem dJ7_rangeCheck_23922_34 : Dc cJ7_rangeCheck_23922 34 (.ldc 59) 2 36 := by decide +kernel
theorem dJ7_rangeCheck_23922_36 : Dc cJ7_rangeCheck_23922 36 (.invokevirtual 50) 3 39 := by decide +kernel
theorem dJ7_rangeCheck_23922_39 : Dc cJ7_rangeCheck_23922 39 (.invokevirtual 61) 3 42 := by decide +kernel
theorem dJ7_rangeCheck_23922_42 : Dc cJ7_rangeCheck_23922 42 (.invokespecial 65) 3 45 := by decide +kernel
theorem dJ7_rangeCheck_23922_45 : Dc cJ7_rangeCheck_23922 45 (.athrow) 1 46 := by decide +kernel
theorem dJ7_rangeCheck_23922_46 : Dc cJ7_rangeCheck_23922 46 (.iload_n 1) 1 47 := by decide +kernel
theorem dJ7_rangeCheck_23922_47 : Dc cJ7_rangeCheck_23922 47 (.ifCond .ge 12) 3 50 := by decide +kernel
theorem dJ7_rangeCheck_23922_50 : Dc cJ7_rangeCheck_23922 50 (.new 68) 3 53 := by decide +kernel
theorem dJ7_rangeCheck_23922_53 : Dc cJ7_rangeCheck_23922 53 (.dup) 1 54 := by decide +kernel
theorem dJ7_rangeCheck_23922_54 : Dc cJ7_rangeCheck_23922 54 (.iload_n 1) 1 55 := by decide +kernel
theorem dJ7_rangeCheck_23922_55 : Dc cJ7_rangeCheck_23922 55 (.invokespecial 70) 3 58 := by decide +kernel
theorem dJ7_rangeCheck_23922_58 : Dc cJ7_rangeCheck_23922 58 (.athrow) 1 59 := by decide +kernel
theorem dJ7_rangeCheck_23922_59 : Dc cJ7_rangeCheck_23922 59 (.iload_n 2) 1 60 := by decide +kernel
theorem dJ7_rangeCheck_23922_60 : Dc cJ7_rangeCheck_23922 60 (.iload_n 0) 1 61 := by decide +kernel
theorem dJ7_rangeCheck_23922_61 : Dc cJ7_rangeCheck_23922 61 (.if_icmp .le 12) 3 64 := by decide +kernel
theorem dJ7_rangeCheck_23922_64 : Dc cJ7_rangeCheck_23922 64 (.new 68) 3 67 := by decide +kernel
theorem dJ7_rangeCheck_23922_67 : Dc cJ7_rangeCheck_23922 67 (.dup) 1 68 := by decide +kernel
theorem dJ7_rangeCheck_23922_68 : Dc cJ7_rangeCheck_23922 68 (.iload_n 2) 1 69 := by decide +kernel
theorem dJ7_rangeCheck_23922_69 : Dc cJ7_rangeCheck_23922 69 (.invokespecial 70) 3 72 := by decide +kernel
theorem dJ7_rangeCheck_23922_72 : Dc cJ7_rangeCheck_23922 72 (.athrow) 1 73 := by decide +kernel
theorem dJ7_rangeCheck_23922_73 : Dc cJ7_rangeCheck_23922 73 (.return_) 1 74 := by decide +kernel
theorem dJ7_fill_fda19_0 : Dc cJ7_fill_fda19 0 (.aload_n 0) 1 1 := by decide +kernel
theorem dJ7_fill_fda19_1 : Dc cJ7_fill_fda19 1 (.arraylength) 1 2 := by decide +kernel
theorem dJ7_fill_fda19_2 : Dc cJ7_fill_fda19 2 (.iload_n 1) 1 3 := by decide +kernel
theorem dJ7_fill_fda19_3 : Dc cJ7_fill_fda19 3 (.iload_n 2) 1 4 := by decide +kernel
theorem dJ7_fill_fda19_4 : Dc cJ7_fill_fda19 4 (.invokestatic 13) 3 7 := by decide +kernel
theorem dJ7_fill_fda19_7 : Dc cJ7_fill_fda19 7 (.iload_n 1) 1 8 := by decide +kernel
theorem dJ7_fill_fda19_8 : Dc cJ7_fill_fda19 8 (.istore 4) 2 10 := by decide +kernel
theorem dJ7_fill_fda19_10 : Dc cJ7_fill_fda19 10 (.iload 4) 2 12 := by decide +kernel
theorem dJ7_fill_fda19_12 : Dc cJ7_fill_fda19 12 (.iload_n 2) 1 13 := by decide +kernel
theorem dJ7_fill_fda19_13 : Dc cJ7_fill_fda19 13 (.if_icmp .ge 14) 3 16 := by decide +kernel
theorem dJ7_fill_fda19_16 : Dc cJ7_fill_fda19 16 (.aload_n 0) 1 17 := by decide +kernel
theorem dJ7_fill_fda19_17 : Dc cJ7_fill_fda19 17 (.iload 4) 2 19 := by decide +kernel
theorem dJ7_fill_fda19_19 : Dc cJ7_fill_fda19 19 (.iload_n 3) 1 20 := by decide +kernel
theorem dJ7_fill_fda19_20 : Dc cJ7_fill_fda19 20 (.iastore) 1 21 := by decide +kernel
theorem dJ7_fill_fda19_21 : Dc cJ7_fill_fda19 21 (.iinc 4 1) 3 24 := by decide +kernel
theorem dJ7_fill_fda19_24 : Dc cJ7_fill_fda19 24 (.goto (-14)) 3 27 := by decide +kernel
theorem dJ7_fill_fda19_27 : Dc cJ7_fill_fda19 27 (.return_) 1 28 := by decide +kernel
theorem dJ3_checkIndex_8e157_0 : Dc cJ3_checkIndex_8e157 0 (.iload_n 0) 1 1 := by decide +kernel
theorem dJ3_checkIndex_8e157_1 : Dc cJ3_checkIndex_8e157 1 (.ifCond .lt 8) 3 4 := by decide +kernel
theorem dJ3_checkIndex_8e157_4 : Dc cJ3_checkIndex_8e157 4 (.iload_n 0) 1 5 := by decide +kernel
theorem dJ3_checkIndex_8e157_5 : Dc cJ3_checkIndex_8e157 5 (.iload_n 1) 1 6 := by decide +kernel
theorem dJ3_checkIndex_8e157_6 : Dc cJ3_checkIndex_8e157 6 (.if_icmp .lt 10) 3 9 := by decide +kernel
theorem dJ3_checkIndex_8e157_9 : Dc cJ3_checkIndex_8e157 9 (.aload_n 2) 1 10 := by decide +kernel
theorem dJ3_checkIndex_8e157_10 : Dc cJ3_checkIndex_8e157 10 (.iload_n 0) 1 11 := by decide +kernel
theorem dJ3_checkIndex_8e157_11 : Dc cJ3_checkIndex_8e157 11 (.iload_n 1) 1 12 := by decide +kernel
theorem dJ3_checkIndex_8e157_12 : Dc cJ3_checkIndex_8e157 12 (.invokestatic 95) 3 15 := by decide +kernel
theorem dJ3_checkIndex_8e157_15 : Dc cJ3_checkIndex_8e157 15 (.athrow) 1 16 := by decide +kernel
theorem dJ3_checkIndex_8e157_16 : Dc cJ3_checkIndex_8e157 16 (.iload_n 0) 1 17 := by decide +kernel
theorem dJ3_checkIndex_8e157_17 : Dc cJ3_checkIndex_8e157 17 (.ireturn) 1 18 := by decide +kernel
theorem dL_law_0 : Dc cL_law 0 (.new 7) 3 3 := by decide +kernel
theorem dL_law_3 : Dc cL_law 3 (.dup) 1 4 := by decide +kernel
theorem dL_law_4 : Dc cL_law 4 (.invokespecial 9) 3 7 := by decide +kernel
theorem dL_law_7 : Dc cL_law 7 (.astore_n 1) 1 8 := by decide +kernel
theorem dL_law_8 : Dc cL_law 8 (.new 10) 3 11 := by decide +kernel
theorem dL_law_11 : Dc cL_law 11 (.dup) 1 12 := by decide +kernel
theorem dL_law_12 : Dc cL_law 12 (.invokespecial 12) 3 15 := by decide +kernel
theorem dL_law_15 : Dc cL_law 15 (.astore_n 2) 1 16 := by decide +kernel
theorem dL_law_16 : Dc cL_law 16 (.iconst 0) 1 17 := by decide +kernel
theorem dL_law_17 : Dc cL_law 17 (.istore_n 3) 1 18 := by decide +kernel
theorem dL_law_18 : Dc cL_law 18 (.iload_n 3) 1 19 := by decide +kernel
theorem dL_law_19 : Dc cL_law 19 (.aload_n 0) 1 20 := by decide +kernel
theorem dL_law_20 : Dc cL_law 20 (.arraylength) 1 21 := by decide +kernel
theorem dL_law_21 : Dc cL_law 21 (.iconst 5) 1 22 := by decide +kernel
theorem dL_law_22 : Dc cL_law 22 (.isub) 1 23 := by decide +kernel
theorem dL_law_23 : Dc cL_law 23 (.if_icmp .gt 649) 3 26 := by decide +kernel
theorem dL_law_26 : Dc cL_law 26 (.aload_n 0) 1 27 := by decide +kernel
theorem dL_law_27 : Dc cL_law 27 (.iload_n 3) 1 28 := by decide +kernel
theorem dL_law_28 : Dc cL_law 28 (.iaload) 1 29 := by decide +kernel
theorem dL_law_29 : Dc cL_law 29 (.bipush 15) 2 31 := by decide +kernel
theorem dL_law_31 : Dc cL_law 31 (.iand) 1 32 := by decide +kernel
theorem dL_law_32 : Dc cL_law 32 (.tableswitch 634 0 13 #[72, 85, 118, 141, 164, 227, 240, 263, 296, 329, 392, 465, 498, 571]) 72 104 := by decide +kernel
theorem dL_law_104 : Dc cL_law 104 (.aload_n 1) 1 105 := by decide +kernel
theorem dL_law_105 : Dc cL_law 105 (.invokevirtual 13) 3 108 := by decide +kernel
theorem dL_law_108 : Dc cL_law 108 (.aload_n 2) 1 109 := by decide +kernel
theorem dL_law_109 : Dc cL_law 109 (.invokevirtual 17) 3 112 := by decide +kernel
theorem dL_law_112 : Dc cL_law 112 (.if_icmp .eq 554) 3 115 := by decide +kernel
theorem dL_law_115 : Dc cL_law 115 (.iconst 0) 1 116 := by decide +kernel
theorem dL_law_116 : Dc cL_law 116 (.ireturn) 1 117 := by decide +kernel
theorem dL_law_117 : Dc cL_law 117 (.aload_n 1) 1 118 := by decide +kernel
theorem dL_law_118 : Dc cL_law 118 (.aload_n 0) 1 119 := by decide +kernel
theorem dL_law_119 : Dc cL_law 119 (.iload_n 3) 1 120 := by decide +kernel
theorem dL_law_120 : Dc cL_law 120 (.iconst 1) 1 121 := by decide +kernel
theorem dL_law_121 : Dc cL_law 121 (.iadd) 1 122 := by decide +kernel
theorem dL_law_122 : Dc cL_law 122 (.iaload) 1 123 := by decide +kernel
theorem dL_law_123 : Dc cL_law 123 (.aload_n 0) 1 124 := by decide +kernel
theorem dL_law_124 : Dc cL_law 124 (.iload_n 3) 1 125 := by decide +kernel
theorem dL_law_125 : Dc cL_law 125 (.iconst 2) 1 126 := by decide +kernel
theorem dL_law_126 : Dc cL_law 126 (.iadd) 1 127 := by decide +kernel
theorem dL_law_127 : Dc cL_law 127 (.iaload) 1 128 := by decide +kernel
theorem dL_law_128 : Dc cL_law 128 (.invokevirtual 18) 3 131 := by decide +kernel
theorem dL_law_131 : Dc cL_law 131 (.aload_n 2) 1 132 := by decide +kernel
theorem dL_law_132 : Dc cL_law 132 (.aload_n 0) 1 133 := by decide +kernel
theorem dL_law_133 : Dc cL_law 133 (.iload_n 3) 1 134 := by decide +kernel
theorem dL_law_134 : Dc cL_law 134 (.iconst 1) 1 135 := by decide +kernel
theorem dL_law_135 : Dc cL_law 135 (.iadd) 1 136 := by decide +kernel
theorem dL_law_136 : Dc cL_law 136 (.iaload) 1 137 := by decide +kernel
theorem dL_law_137 : Dc cL_law 137 (.aload_n 0) 1 138 := by decide +kernel
theorem dL_law_138 : Dc cL_law 138 (.iload_n 3) 1 139 := by decide +kernel
theorem dL_law_139 : Dc cL_law 139 (.iconst 2) 1 140 := by decide +kernel
theorem dL_law_140 : Dc cL_law 140 (.iadd) 1 141 := by decide +kernel
theorem dL_law_141 : Dc cL_law 141 (.iaload) 1 142 := by decide +kernel
theorem dL_law_142 : Dc cL_law 142 (.invokevirtual 22) 3 145 := by decide +kernel
theorem dL_law_145 : Dc cL_law 145 (.if_icmp .eq 521) 3 148 := by decide +kernel
theorem dL_law_148 : Dc cL_law 148 (.iconst 0) 1 149 := by decide +kernel
theorem dL_law_149 : Dc cL_law 149 (.ireturn) 1 150 := by decide +kernel
theorem dL_law_150 : Dc cL_law 150 (.aload_n 1) 1 151 := by decide +kernel
theorem dL_law_151 : Dc cL_law 151 (.aload_n 0) 1 152 := by decide +kernel
theorem dL_law_152 : Dc cL_law 152 (.iload_n 3) 1 153 := by decide +kernel
theorem dL_law_153 : Dc cL_law 153 (.iconst 1) 1 154 := by decide +kernel
theorem dL_law_154 : Dc cL_law 154 (.iadd) 1 155 := by decide +kernel
theorem dL_law_155 : Dc cL_law 155 (.iaload) 1 156 := by decide +kernel
theorem dL_law_156 : Dc cL_law 156 (.invokevirtual 23) 3 159 := by decide +kernel
theorem dL_law_159 : Dc cL_law 159 (.aload_n 2) 1 160 := by decide +kernel
theorem dL_law_160 : Dc cL_law 160 (.aload_n 0) 1 161 := by decide +kernel
theorem dL_law_161 : Dc cL_law 161 (.iload_n 3) 1 162 := by decide +kernel
theorem dL_law_162 : Dc cL_law 162 (.iconst 1) 1 163 := by decide +kernel
theorem dL_law_163 : Dc cL_law 163 (.iadd) 1 164 := by decide +kernel
theorem dL_law_164 : Dc cL_law 164 (.iaload) 1 165 := by decide +kernel
theorem dL_law_165 : Dc cL_law 165 (.invokevirtual 27) 3 168 := by decide +kernel
theorem dL_law_168 : Dc cL_law 168 (.if_icmp .eq 498) 3 171 := by decide +kernel
theorem dL_law_171 : Dc cL_law 171 (.iconst 0) 1 172 := by decide +kernel
theorem dL_law_172 : Dc cL_law 172 (.ireturn) 1 173 := by decide +kernel
theorem dL_law_173 : Dc cL_law 173 (.aload_n 1) 1 174 := by decide +kernel
theorem dL_law_174 : Dc cL_law 174 (.aload_n 0) 1 175 := by decide +kernel
theorem dL_law_175 : Dc cL_law 175 (.iload_n 3) 1 176 := by decide +kernel
theorem dL_law_176 : Dc cL_law 176 (.iconst 1) 1 177 := by decide +kernel
theorem dL_law_177 : Dc cL_law 177 (.iadd) 1 178 := by decide +kernel
theorem dL_law_178 : Dc cL_law 178 (.iaload) 1 179 := by decide +kernel
theorem dL_law_179 : Dc cL_law 179 (.invokevirtual 28) 3 182 := by decide +kernel
theorem dL_law_182 : Dc cL_law 182 (.aload_n 2) 1 183 := by decide +kernel
theorem dL_law_183 : Dc cL_law 183 (.aload_n 0) 1 184 := by decide +kernel
theorem dL_law_184 : Dc cL_law 184 (.iload_n 3) 1 185 := by decide +kernel
theorem dL_law_185 : Dc cL_law 185 (.iconst 1) 1 186 := by decide +kernel
theorem dL_law_186 : Dc cL_law 186 (.iadd) 1 187 := by decide +kernel
theorem dL_law_187 : Dc cL_law 187 (.iaload) 1 188 := by decide +kernel
theorem dL_law_188 : Dc cL_law 188 (.invokevirtual 32) 3 191 := by decide +kernel
theorem dL_law_191 : Dc cL_law 191 (.if_icmp .eq 475) 3 194 := by decide +kernel
theorem dL_law_194 : Dc cL_law 194 (.iconst 0) 1 195 := by decide +kernel
theorem dL_law_195 : Dc cL_law 195 (.ireturn) 1 196 := by decide +kernel
theorem dL_law_196 : Dc cL_law 196 (.aload_n 1) 1 197 := by decide +kernel
theorem dL_law_197 : Dc cL_law 197 (.aload_n 0) 1 198 := by decide +kernel
theorem dL_law_198 : Dc cL_law 198 (.iload_n 3) 1 199 := by decide +kernel
theorem dL_law_199 : Dc cL_law 199 (.iconst 1) 1 200 := by decide +kernel
theorem dL_law_200 : Dc cL_law 200 (.iadd) 1 201 := by decide +kernel
theorem dL_law_201 : Dc cL_law 201 (.iaload) 1 202 := by decide +kernel
theorem dL_law_202 : Dc cL_law 202 (.i2l) 1 203 := by decide +kernel
theorem dL_law_203 : Dc cL_law 203 (.bipush 32) 2 205 := by decide +kernel
theorem dL_law_205 : Dc cL_law 205 (.lshl) 1 206 := by decide +kernel
theorem dL_law_206 : Dc cL_law 206 (.aload_n 0) 1 207 := by decide +kernel
theorem dL_law_207 : Dc cL_law 207 (.iload_n 3) 1 208 := by decide +kernel
theorem dL_law_208 : Dc cL_law 208 (.iconst 2) 1 209 := by decide +kernel
theorem dL_law_209 : Dc cL_law 209 (.iadd) 1 210 := by decide +kernel
theorem dL_law_210 : Dc cL_law 210 (.iaload) 1 211 := by decide +kernel
theorem dL_law_211 : Dc cL_law 211 (.i2l) 1 212 := by decide +kernel
theorem dL_law_212 : Dc cL_law 212 (.ldc2_w 33) 3 215 := by decide +kernel
theorem dL_law_215 : Dc cL_law 215 (.land) 1 216 := by decide +kernel
theorem dL_law_216 : Dc cL_law 216 (.lor) 1 217 := by decide +kernel
theorem dL_law_217 : Dc cL_law 217 (.aload_n 0) 1 218 := by decide +kernel
theorem dL_law_218 : Dc cL_law 218 (.iload_n 3) 1 219 := by decide +kernel
theorem dL_law_219 : Dc cL_law 219 (.iconst 3) 1 220 := by decide +kernel
theorem dL_law_220 : Dc cL_law 220 (.iadd) 1 221 := by decide +kernel
theorem dL_law_221 : Dc cL_law 221 (.iaload) 1 222 := by decide +kernel
theorem dL_law_222 : Dc cL_law 222 (.invokevirtual 35) 3 225 := by decide +kernel
theorem dL_law_225 : Dc cL_law 225 (.aload_n 2) 1 226 := by decide +kernel
theorem dL_law_226 : Dc cL_law 226 (.aload_n 0) 1 227 := by decide +kernel
theorem dL_law_227 : Dc cL_law 227 (.iload_n 3) 1 228 := by decide +kernel
theorem dL_law_228 : Dc cL_law 228 (.iconst 1) 1 229 := by decide +kernel
theorem dL_law_229 : Dc cL_law 229 (.iadd) 1 230 := by decide +kernel
theorem dL_law_230 : Dc cL_law 230 (.iaload) 1 231 := by decide +kernel
theorem dL_law_231 : Dc cL_law 231 (.i2l) 1 232 := by decide +kernel
theorem dL_law_232 : Dc cL_law 232 (.bipush 32) 2 234 := by decide +kernel
theorem dL_law_234 : Dc cL_law 234 (.lshl) 1 235 := by decide +kernel
theorem dL_law_235 : Dc cL_law 235 (.aload_n 0) 1 236 := by decide +kernel
theorem dL_law_236 : Dc cL_law 236 (.iload_n 3) 1 237 := by decide +kernel
theorem dL_law_237 : Dc cL_law 237 (.iconst 2) 1 238 := by decide +kernel
theorem dL_law_238 : Dc cL_law 238 (.iadd) 1 239 := by decide +kernel
theorem dL_law_239 : Dc cL_law 239 (.iaload) 1 240 := by decide +kernel
theorem dL_law_240 : Dc cL_law 240 (.i2l) 1 241 := by decide +kernel
theorem dL_law_241 : Dc cL_law 241 (.ldc2_w 33) 3 244 := by decide +kernel
theorem dL_law_244 : Dc cL_law 244 (.land) 1 245 := by decide +kernel
theorem dL_law_245 : Dc cL_law 245 (.lor) 1 246 := by decide +kernel
theorem dL_law_246 : Dc cL_law 246 (.aload_n 0) 1 247 := by decide +kernel
theorem dL_law_247 : Dc cL_law 247 (.iload_n 3) 1 248 := by decide +kernel
theorem dL_law_248 : Dc cL_law 248 (.iconst 3) 1 249 := by decide +kernel
theorem dL_law_249 : Dc cL_law 249 (.iadd) 1 250 := by decide +kernel
theorem dL_law_250 : Dc cL_law 250 (.iaload) 1 251 := by decide +kernel
theorem dL_law_251 : Dc cL_law 251 (.invokevirtual 39) 3 254 := by decide +kernel
theorem dL_law_254 : Dc cL_law 254 (.if_icmp .eq 412) 3 257 := by decide +kernel
theorem dL_law_257 : Dc cL_law 257 (.iconst 0) 1 258 := by decide +kernel
theorem dL_law_258 : Dc cL_law 258 (.ireturn) 1 259 := by decide +kernel
theorem dL_law_259 : Dc cL_law 259 (.aload_n 1) 1 260 := by decide +kernel
theorem dL_law_260 : Dc cL_law 260 (.invokevirtual 40) 3 263 := by decide +kernel
theorem dL_law_263 : Dc cL_law 263 (.aload_n 2) 1 264 := by decide +kernel
theorem dL_law_264 : Dc cL_law 264 (.invokevirtual 43) 3 267 := by decide +kernel
theorem dL_law_267 : Dc cL_law 267 (.if_icmp .eq 399) 3 270 := by decide +kernel
theorem dL_law_270 : Dc cL_law 270 (.iconst 0) 1 271 := by decide +kernel
theorem dL_law_271 : Dc cL_law 271 (.ireturn) 1 272 := by decide +kernel
theorem dL_law_272 : Dc cL_law 272 (.aload_n 1) 1 273 := by decide +kernel
theorem dL_law_273 : Dc cL_law 273 (.aload_n 0) 1 274 := by decide +kernel
theorem dL_law_274 : Dc cL_law 274 (.iload_n 3) 1 275 := by decide +kernel
theorem dL_law_275 : Dc cL_law 275 (.iconst 1) 1 276 := by decide +kernel
theorem dL_law_276 : Dc cL_law 276 (.iadd) 1 277 := by decide +kernel
theorem dL_law_277 : Dc cL_law 277 (.iaload) 1 278 := by decide +kernel
theorem dL_law_278 : Dc cL_law 278 (.invokevirtual 44) 3 281 := by decide +kernel
theorem dL_law_281 : Dc cL_law 281 (.aload_n 2) 1 282 := by decide +kernel
theorem dL_law_282 : Dc cL_law 282 (.aload_n 0) 1 283 := by decide +kernel
theorem dL_law_283 : Dc cL_law 283 (.iload_n 3) 1 284 := by decide +kernel
theorem dL_law_284 : Dc cL_law 284 (.iconst 1) 1 285 := by decide +kernel
theorem dL_law_285 : Dc cL_law 285 (.iadd) 1 286 := by decide +kernel
theorem dL_law_286 : Dc cL_law 286 (.iaload) 1 287 := by decide +kernel
theorem dL_law_287 : Dc cL_law 287 (.invokevirtual 47) 3 290 := by decide +kernel
theorem dL_law_290 : Dc cL_law 290 (.if_icmp .eq 376) 3 293 := by decide +kernel
theorem dL_law_293 : Dc cL_law 293 (.iconst 0) 1 294 := by decide +kernel
theorem dL_law_294 : Dc cL_law 294 (.ireturn) 1 295 := by decide +kernel
theorem dL_law_295 : Dc cL_law 295 (.aload_n 1) 1 296 := by decide +kernel
theorem dL_law_296 : Dc cL_law 296 (.aload_n 0) 1 297 := by decide +kernel
theorem dL_law_297 : Dc cL_law 297 (.iload_n 3) 1 298 := by decide +kernel
theorem dL_law_298 : Dc cL_law 298 (.iconst 1) 1 299 := by decide +kernel
theorem dL_law_299 : Dc cL_law 299 (.iadd) 1 300 := by decide +kernel
theorem dL_law_300 : Dc cL_law 300 (.iaload) 1 301 := by decide +kernel
theorem dL_law_301 : Dc cL_law 301 (.aload_n 0) 1 302 := by decide +kernel
theorem dL_law_302 : Dc cL_law 302 (.iload_n 3) 1 303 := by decide +kernel
theorem dL_law_303 : Dc cL_law 303 (.iconst 2) 1 304 := by decide +kernel
theorem dL_law_304 : Dc cL_law 304 (.iadd) 1 305 := by decide +kernel
theorem dL_law_305 : Dc cL_law 305 (.iaload) 1 306 := by decide +kernel
theorem dL_law_306 : Dc cL_law 306 (.invokevirtual 48) 3 309 := by decide +kernel
theorem dL_law_309 : Dc cL_law 309 (.aload_n 2) 1 310 := by decide +kernel
theorem dL_law_310 : Dc cL_law 310 (.aload_n 0) 1 311 := by decide +kernel
theorem dL_law_311 : Dc cL_law 311 (.iload_n 3) 1 312 := by decide +kernel
theorem dL_law_312 : Dc cL_law 312 (.iconst 1) 1 313 := by decide +kernel
theorem dL_law_313 : Dc cL_law 313 (.iadd) 1 314 := by decide +kernel
theorem dL_law_314 : Dc cL_law 314 (.iaload) 1 315 := by decide +kernel
theorem dL_law_315 : Dc cL_law 315 (.aload_n 0) 1 316 := by decide +kernel
theorem dL_law_316 : Dc cL_law 316 (.iload_n 3) 1 317 := by decide +kernel
theorem dL_law_317 : Dc cL_law 317 (.iconst 2) 1 318 := by decide +kernel
theorem dL_law_318 : Dc cL_law 318 (.iadd) 1 319 := by decide +kernel
theorem dL_law_319 : Dc cL_law 319 (.iaload) 1 320 := by decide +kernel
theorem dL_law_320 : Dc cL_law 320 (.invokevirtual 52) 3 323 := by decide +kernel
theorem dL_law_323 : Dc cL_law 323 (.if_icmp .eq 343) 3 326 := by decide +kernel
theorem dL_law_326 : Dc cL_law 326 (.iconst 0) 1 327 := by decide +kernel
theorem dL_law_327 : Dc cL_law 327 (.ireturn) 1 328 := by decide +kernel
theorem dL_law_328 : Dc cL_law 328 (.aload_n 1) 1 329 := by decide +kernel
theorem dL_law_329 : Dc cL_law 329 (.aload_n 0) 1 330 := by decide +kernel
theorem dL_law_330 : Dc cL_law 330 (.iload_n 3) 1 331 := by decide +kernel
theorem dL_law_331 : Dc cL_law 331 (.iconst 1) 1 332 := by decide +kernel
theorem dL_law_332 : Dc cL_law 332 (.iadd) 1 333 := by decide +kernel
theorem dL_law_333 : Dc cL_law 333 (.iaload) 1 334 := by decide +kernel
theorem dL_law_334 : Dc cL_law 334 (.aload_n 0) 1 335 := by decide +kernel
theorem dL_law_335 : Dc cL_law 335 (.iload_n 3) 1 336 := by decide +kernel
theorem dL_law_336 : Dc cL_law 336 (.iconst 2) 1 337 := by decide +kernel
theorem dL_law_337 : Dc cL_law 337 (.iadd) 1 338 := by decide +kernel
theorem dL_law_338 : Dc cL_law 338 (.iaload) 1 339 := by decide +kernel
theorem dL_law_339 : Dc cL_law 339 (.invokevirtual 53) 3 342 := by decide +kernel
theorem dL_law_342 : Dc cL_law 342 (.aload_n 2) 1 343 := by decide +kernel
theorem dL_law_343 : Dc cL_law 343 (.aload_n 0) 1 344 := by decide +kernel
theorem dL_law_344 : Dc cL_law 344 (.iload_n 3) 1 345 := by decide +kernel
theorem dL_law_345 : Dc cL_law 345 (.iconst 1) 1 346 := by decide +kernel
theorem dL_law_346 : Dc cL_law 346 (.iadd) 1 347 := by decide +kernel
theorem dL_law_347 : Dc cL_law 347 (.iaload) 1 348 := by decide +kernel
theorem dL_law_348 : Dc cL_law 348 (.aload_n 0) 1 349 := by decide +kernel
theorem dL_law_349 : Dc cL_law 349 (.iload_n 3) 1 350 := by decide +kernel
theorem dL_law_350 : Dc cL_law 350 (.iconst 2) 1 351 := by decide +kernel
theorem dL_law_351 : Dc cL_law 351 (.iadd) 1 352 := by decide +kernel
theorem dL_law_352 : Dc cL_law 352 (.iaload) 1 353 := by decide +kernel
theorem dL_law_353 : Dc cL_law 353 (.invokevirtual 56) 3 356 := by decide +kernel
theorem dL_law_356 : Dc cL_law 356 (.if_icmp .eq 310) 3 359 := by decide +kernel
theorem dL_law_359 : Dc cL_law 359 (.iconst 0) 1 360 := by decide +kernel
theorem dL_law_360 : Dc cL_law 360 (.ireturn) 1 361 := by decide +kernel
theorem dL_law_361 : Dc cL_law 361 (.aload_n 1) 1 362 := by decide +kernel
theorem dL_law_362 : Dc cL_law 362 (.aload_n 0) 1 363 := by decide +kernel
theorem dL_law_363 : Dc cL_law 363 (.iload_n 3) 1 364 := by decide +kernel
theorem dL_law_364 : Dc cL_law 364 (.iconst 1) 1 365 := by decide +kernel
theorem dL_law_365 : Dc cL_law 365 (.iadd) 1 366 := by decide +kernel
theorem dL_law_366 : Dc cL_law 366 (.iaload) 1 367 := by decide +kernel
theorem dL_law_367 : Dc cL_law 367 (.aload_n 0) 1 368 := by decide +kernel
theorem dL_law_368 : Dc cL_law 368 (.iload_n 3) 1 369 := by decide +kernel
theorem dL_law_369 : Dc cL_law 369 (.iconst 2) 1 370 := by decide +kernel
theorem dL_law_370 : Dc cL_law 370 (.iadd) 1 371 := by decide +kernel
theorem dL_law_371 : Dc cL_law 371 (.iaload) 1 372 := by decide +kernel
theorem dL_law_372 : Dc cL_law 372 (.i2l) 1 373 := by decide +kernel
theorem dL_law_373 : Dc cL_law 373 (.bipush 32) 2 375 := by decide +kernel
theorem dL_law_375 : Dc cL_law 375 (.lshl) 1 376 := by decide +kernel
theorem dL_law_376 : Dc cL_law 376 (.aload_n 0) 1 377 := by decide +kernel
theorem dL_law_377 : Dc cL_law 377 (.iload_n 3) 1 378 := by decide +kernel
theorem dL_law_378 : Dc cL_law 378 (.iconst 3) 1 379 := by decide +kernel
theorem dL_law_379 : Dc cL_law 379 (.iadd) 1 380 := by decide +kernel
theorem dL_law_380 : Dc cL_law 380 (.iaload) 1 381 := by decide +kernel
theorem dL_law_381 : Dc cL_law 381 (.i2l) 1 382 := by decide +kernel
theorem dL_law_382 : Dc cL_law 382 (.ldc2_w 33) 3 385 := by decide +kernel
theorem dL_law_385 : Dc cL_law 385 (.land) 1 386 := by decide +kernel
theorem dL_law_386 : Dc cL_law 386 (.lor) 1 387 := by decide +kernel
theorem dL_law_387 : Dc cL_law 387 (.invokevirtual 57) 3 390 := by decide +kernel
theorem dL_law_390 : Dc cL_law 390 (.aload_n 2) 1 391 := by decide +kernel
theorem dL_law_391 : Dc cL_law 391 (.aload_n 0) 1 392 := by decide +kernel
theorem dL_law_392 : Dc cL_law 392 (.iload_n 3) 1 393 := by decide +kernel
theorem dL_law_393 : Dc cL_law 393 (.iconst 1) 1 394 := by decide +kernel
theorem dL_law_394 : Dc cL_law 394 (.iadd) 1 395 := by decide +kernel
theorem dL_law_395 : Dc cL_law 395 (.iaload) 1 396 := by decide +kernel
theorem dL_law_396 : Dc cL_law 396 (.aload_n 0) 1 397 := by decide +kernel
theorem dL_law_397 : Dc cL_law 397 (.iload_n 3) 1 398 := by decide +kernel
theorem dL_law_398 : Dc cL_law 398 (.iconst 2) 1 399 := by decide +kernel
theorem dL_law_399 : Dc cL_law 399 (.iadd) 1 400 := by decide +kernel
theorem dL_law_400 : Dc cL_law 400 (.iaload) 1 401 := by decide +kernel
theorem dL_law_401 : Dc cL_law 401 (.i2l) 1 402 := by decide +kernel
theorem dL_law_402 : Dc cL_law 402 (.bipush 32) 2 404 := by decide +kernel
theorem dL_law_404 : Dc cL_law 404 (.lshl) 1 405 := by decide +kernel
theorem dL_law_405 : Dc cL_law 405 (.aload_n 0) 1 406 := by decide +kernel
theorem dL_law_406 : Dc cL_law 406 (.iload_n 3) 1 407 := by decide +kernel
theorem dL_law_407 : Dc cL_law 407 (.iconst 3) 1 408 := by decide +kernel
theorem dL_law_408 : Dc cL_law 408 (.iadd) 1 409 := by decide +kernel
theorem dL_law_409 : Dc cL_law 409 (.iaload) 1 410 := by decide +kernel
theorem dL_law_410 : Dc cL_law 410 (.i2l) 1 411 := by decide +kernel
theorem dL_law_411 : Dc cL_law 411 (.ldc2_w 33) 3 414 := by decide +kernel
theorem dL_law_414 : Dc cL_law 414 (.land) 1 415 := by decide +kernel
theorem dL_law_415 : Dc cL_law 415 (.lor) 1 416 := by decide +kernel
theorem dL_law_416 : Dc cL_law 416 (.invokevirtual 61) 3 419 := by decide +kernel
theorem dL_law_419 : Dc cL_law 419 (.if_icmp .eq 247) 3 422 := by decide +kernel
theorem dL_law_422 : Dc cL_law 422 (.iconst 0) 1 423 := by decide +kernel
theorem dL_law_423 : Dc cL_law 423 (.ireturn) 1 424 := by decide +kernel
theorem dL_law_424 : Dc cL_law 424 (.aload_n 1) 1 425 := by decide +kernel
theorem dL_law_425 : Dc cL_law 425 (.aload_n 0) 1 426 := by decide +kernel
theorem dL_law_426 : Dc cL_law 426 (.iload_n 3) 1 427 := by decide +kernel
theorem dL_law_427 : Dc cL_law 427 (.iconst 1) 1 428 := by decide +kernel
theorem dL_law_428 : Dc cL_law 428 (.iadd) 1 429 := by decide +kernel
theorem dL_law_429 : Dc cL_law 429 (.iaload) 1 430 := by decide +kernel
theorem dL_law_430 : Dc cL_law 430 (.aload_n 0) 1 431 := by decide +kernel
theorem dL_law_431 : Dc cL_law 431 (.iload_n 3) 1 432 := by decide +kernel
theorem dL_law_432 : Dc cL_law 432 (.iconst 2) 1 433 := by decide +kernel
theorem dL_law_433 : Dc cL_law 433 (.iadd) 1 434 := by decide +kernel
theorem dL_law_434 : Dc cL_law 434 (.iaload) 1 435 := by decide +kernel
theorem dL_law_435 : Dc cL_law 435 (.i2l) 1 436 := by decide +kernel
theorem dL_law_436 : Dc cL_law 436 (.bipush 32) 2 438 := by decide +kernel
theorem dL_law_438 : Dc cL_law 438 (.lshl) 1 439 := by decide +kernel
theorem dL_law_439 : Dc cL_law 439 (.aload_n 0) 1 440 := by decide +kernel
theorem dL_law_440 : Dc cL_law 440 (.iload_n 3) 1 441 := by decide +kernel
theorem dL_law_441 : Dc cL_law 441 (.iconst 3) 1 442 := by decide +kernel
theorem dL_law_442 : Dc cL_law 442 (.iadd) 1 443 := by decide +kernel
theorem dL_law_443 : Dc cL_law 443 (.iaload) 1 444 := by decide +kernel
theorem dL_law_444 : Dc cL_law 444 (.i2l) 1 445 := by decide +kernel
theorem dL_law_445 : Dc cL_law 445 (.ldc2_w 33) 3 448 := by decide +kernel
theorem dL_law_448 : Dc cL_law 448 (.land) 1 449 := by decide +kernel
theorem dL_law_449 : Dc cL_law 449 (.lor) 1 450 := by decide +kernel
theorem dL_law_450 : Dc cL_law 450 (.aload_n 0) 1 451 := by decide +kernel
theorem dL_law_451 : Dc cL_law 451 (.iload_n 3) 1 452 := by decide +kernel
theorem dL_law_452 : Dc cL_law 452 (.iconst 4) 1 453 := by decide +kernel
theorem dL_law_453 : Dc cL_law 453 (.iadd) 1 454 := by decide +kernel
theorem dL_law_454 : Dc cL_law 454 (.iaload) 1 455 := by decide +kernel
theorem dL_law_455 : Dc cL_law 455 (.invokevirtual 62) 3 458 := by decide +kernel
theorem dL_law_458 : Dc cL_law 458 (.aload_n 2) 1 459 := by decide +kernel
theorem dL_law_459 : Dc cL_law 459 (.aload_n 0) 1 460 := by decide +kernel
theorem dL_law_460 : Dc cL_law 460 (.iload_n 3) 1 461 := by decide +kernel
theorem dL_law_461 : Dc cL_law 461 (.iconst 1) 1 462 := by decide +kernel
theorem dL_law_462 : Dc cL_law 462 (.iadd) 1 463 := by decide +kernel
theorem dL_law_463 : Dc cL_law 463 (.iaload) 1 464 := by decide +kernel
theorem dL_law_464 : Dc cL_law 464 (.aload_n 0) 1 465 := by decide +kernel
theorem dL_law_465 : Dc cL_law 465 (.iload_n 3) 1 466 := by decide +kernel
theorem dL_law_466 : Dc cL_law 466 (.iconst 2) 1 467 := by decide +kernel
theorem dL_law_467 : Dc cL_law 467 (.iadd) 1 468 := by decide +kernel
theorem dL_law_468 : Dc cL_law 468 (.iaload) 1 469 := by decide +kernel
theorem dL_law_469 : Dc cL_law 469 (.i2l) 1 470 := by decide +kernel
theorem dL_law_470 : Dc cL_law 470 (.bipush 32) 2 472 := by decide +kernel
theorem dL_law_472 : Dc cL_law 472 (.lshl) 1 473 := by decide +kernel
theorem dL_law_473 : Dc cL_law 473 (.aload_n 0) 1 474 := by decide +kernel
theorem dL_law_474 : Dc cL_law 474 (.iload_n 3) 1 475 := by decide +kernel
theorem dL_law_475 : Dc cL_law 475 (.iconst 3) 1 476 := by decide +kernel
theorem dL_law_476 : Dc cL_law 476 (.iadd) 1 477 := by decide +kernel
theorem dL_law_477 : Dc cL_law 477 (.iaload) 1 478 := by decide +kernel
theorem dL_law_478 : Dc cL_law 478 (.i2l) 1 479 := by decide +kernel
theorem dL_law_479 : Dc cL_law 479 (.ldc2_w 33) 3 482 := by decide +kernel
theorem dL_law_482 : Dc cL_law 482 (.land) 1 483 := by decide +kernel
theorem dL_law_483 : Dc cL_law 483 (.lor) 1 484 := by decide +kernel
theorem dL_law_484 : Dc cL_law 484 (.aload_n 0) 1 485 := by decide +kernel
theorem dL_law_485 : Dc cL_law 485 (.iload_n 3) 1 486 := by decide +kernel
theorem dL_law_486 : Dc cL_law 486 (.iconst 4) 1 487 := by decide +kernel
theorem dL_law_487 : Dc cL_law 487 (.iadd) 1 488 := by decide +kernel
theorem dL_law_488 : Dc cL_law 488 (.iaload) 1 489 := by decide +kernel
theorem dL_law_489 : Dc cL_law 489 (.invokevirtual 66) 3 492 := by decide +kernel
theorem dL_law_492 : Dc cL_law 492 (.if_icmp .eq 174) 3 495 := by decide +kernel
theorem dL_law_495 : Dc cL_law 495 (.iconst 0) 1 496 := by decide +kernel
theorem dL_law_496 : Dc cL_law 496 (.ireturn) 1 497 := by decide +kernel
theorem dL_law_497 : Dc cL_law 497 (.aload_n 1) 1 498 := by decide +kernel
theorem dL_law_498 : Dc cL_law 498 (.aload_n 0) 1 499 := by decide +kernel
theorem dL_law_499 : Dc cL_law 499 (.iload_n 3) 1 500 := by decide +kernel
theorem dL_law_500 : Dc cL_law 500 (.iconst 1) 1 501 := by decide +kernel
theorem dL_law_501 : Dc cL_law 501 (.iadd) 1 502 := by decide +kernel
theorem dL_law_502 : Dc cL_law 502 (.iaload) 1 503 := by decide +kernel
theorem dL_law_503 : Dc cL_law 503 (.aload_n 0) 1 504 := by decide +kernel
theorem dL_law_504 : Dc cL_law 504 (.iload_n 3) 1 505 := by decide +kernel
theorem dL_law_505 : Dc cL_law 505 (.iconst 2) 1 506 := by decide +kernel
theorem dL_law_506 : Dc cL_law 506 (.iadd) 1 507 := by decide +kernel
theorem dL_law_507 : Dc cL_law 507 (.iaload) 1 508 := by decide +kernel
theorem dL_law_508 : Dc cL_law 508 (.invokevirtual 67) 3 511 := by decide +kernel
theorem dL_law_511 : Dc cL_law 511 (.aload_n 2) 1 512 := by decide +kernel
theorem dL_law_512 : Dc cL_law 512 (.aload_n 0) 1 513 := by decide +kernel
theorem dL_law_513 : Dc cL_law 513 (.iload_n 3) 1 514 := by decide +kernel
theorem dL_law_514 : Dc cL_law 514 (.iconst 1) 1 515 := by decide +kernel
theorem dL_law_515 : Dc cL_law 515 (.iadd) 1 516 := by decide +kernel
theorem dL_law_516 : Dc cL_law 516 (.iaload) 1 517 := by decide +kernel
theorem dL_law_517 : Dc cL_law 517 (.aload_n 0) 1 518 := by decide +kernel
theorem dL_law_518 : Dc cL_law 518 (.iload_n 3) 1 519 := by decide +kernel
theorem dL_law_519 : Dc cL_law 519 (.iconst 2) 1 520 := by decide +kernel
theorem dL_law_520 : Dc cL_law 520 (.iadd) 1 521 := by decide +kernel
theorem dL_law_521 : Dc cL_law 521 (.iaload) 1 522 := by decide +kernel
theorem dL_law_522 : Dc cL_law 522 (.invokevirtual 70) 3 525 := by decide +kernel
theorem dL_law_525 : Dc cL_law 525 (.if_icmp .eq 141) 3 528 := by decide +kernel
theorem dL_law_528 : Dc cL_law 528 (.iconst 0) 1 529 := by decide +kernel
theorem dL_law_529 : Dc cL_law 529 (.ireturn) 1 530 := by decide +kernel
theorem dL_law_530 : Dc cL_law 530 (.aload_n 1) 1 531 := by decide +kernel
theorem dL_law_531 : Dc cL_law 531 (.aload_n 0) 1 532 := by decide +kernel
theorem dL_law_532 : Dc cL_law 532 (.iload_n 3) 1 533 := by decide +kernel
theorem dL_law_533 : Dc cL_law 533 (.iconst 1) 1 534 := by decide +kernel
theorem dL_law_534 : Dc cL_law 534 (.iadd) 1 535 := by decide +kernel
theorem dL_law_535 : Dc cL_law 535 (.iaload) 1 536 := by decide +kernel
theorem dL_law_536 : Dc cL_law 536 (.aload_n 0) 1 537 := by decide +kernel
theorem dL_law_537 : Dc cL_law 537 (.iload_n 3) 1 538 := by decide +kernel
theorem dL_law_538 : Dc cL_law 538 (.iconst 2) 1 539 := by decide +kernel
theorem dL_law_539 : Dc cL_law 539 (.iadd) 1 540 := by decide +kernel
theorem dL_law_540 : Dc cL_law 540 (.iaload) 1 541 := by decide +kernel
theorem dL_law_541 : Dc cL_law 541 (.i2l) 1 542 := by decide +kernel
theorem dL_law_542 : Dc cL_law 542 (.bipush 32) 2 544 := by decide +kernel
theorem dL_law_544 : Dc cL_law 544 (.lshl) 1 545 := by decide +kernel
theorem dL_law_545 : Dc cL_law 545 (.aload_n 0) 1 546 := by decide +kernel
theorem dL_law_546 : Dc cL_law 546 (.iload_n 3) 1 547 := by decide +kernel
theorem dL_law_547 : Dc cL_law 547 (.iconst 3) 1 548 := by decide +kernel
theorem dL_law_548 : Dc cL_law 548 (.iadd) 1 549 := by decide +kernel
theorem dL_law_549 : Dc cL_law 549 (.iaload) 1 550 := by decide +kernel
theorem dL_law_550 : Dc cL_law 550 (.i2l) 1 551 := by decide +kernel
theorem dL_law_551 : Dc cL_law 551 (.ldc2_w 33) 3 554 := by decide +kernel
theorem dL_law_554 : Dc cL_law 554 (.land) 1 555 := by decide +kernel
theorem dL_law_555 : Dc cL_law 555 (.lor) 1 556 := by decide +kernel
theorem dL_law_556 : Dc cL_law 556 (.aload_n 0) 1 557 := by decide +kernel
theorem dL_law_557 : Dc cL_law 557 (.iload_n 3) 1 558 := by decide +kernel
theorem dL_law_558 : Dc cL_law 558 (.iconst 4) 1 559 := by decide +kernel
theorem dL_law_559 : Dc cL_law 559 (.iadd) 1 560 := by decide +kernel
theorem dL_law_560 : Dc cL_law 560 (.iaload) 1 561 := by decide +kernel
theorem dL_law_561 : Dc cL_law 561 (.invokevirtual 71) 3 564 := by decide +kernel
theorem dL_law_564 : Dc cL_law 564 (.aload_n 2) 1 565 := by decide +kernel
theorem dL_law_565 : Dc cL_law 565 (.aload_n 0) 1 566 := by decide +kernel
theorem dL_law_566 : Dc cL_law 566 (.iload_n 3) 1 567 := by decide +kernel
theorem dL_law_567 : Dc cL_law 567 (.iconst 1) 1 568 := by decide +kernel
theorem dL_law_568 : Dc cL_law 568 (.iadd) 1 569 := by decide +kernel
theorem dL_law_569 : Dc cL_law 569 (.iaload) 1 570 := by decide +kernel
theorem dL_law_570 : Dc cL_law 570 (.aload_n 0) 1 571 := by decide +kernel
theorem dL_law_571 : Dc cL_law 571 (.iload_n 3) 1 572 := by decide +kernel
theorem dL_law_572 : Dc cL_law 572 (.iconst 2) 1 573 := by decide +kernel
theorem dL_law_573 : Dc cL_law 573 (.iadd) 1 574 := by decide +kernel
theorem dL_law_574 : Dc cL_law 574 (.iaload) 1 575 := by decide +kernel
theorem dL_law_575 : Dc cL_law 575 (.i2l) 1 576 := by decide +kernel
theorem dL_law_576 : Dc cL_law 576 (.bipush 32) 2 578 := by decide +kernel
theorem dL_law_578 : Dc cL_law 578 (.lshl) 1 579 := by decide +kernel
theorem dL_law_579 : Dc cL_law 579 (.aload_n 0) 1 580 := by decide +kernel
theorem dL_law_580 : Dc cL_law 580 (.iload_n 3) 1 581 := by decide +kernel
theorem dL_law_581 : Dc cL_law 581 (.iconst 3) 1 582 := by decide +kernel
theorem dL_law_582 : Dc cL_law 582 (.iadd) 1 583 := by decide +kernel
theorem dL_law_583 : Dc cL_law 583 (.iaload) 1 584 := by decide +kernel
theorem dL_law_584 : Dc cL_law 584 (.i2l) 1 585 := by decide +kernel
theorem dL_law_585 : Dc cL_law 585 (.ldc2_w 33) 3 588 := by decide +kernel
theorem dL_law_588 : Dc cL_law 588 (.land) 1 589 := by decide +kernel
theorem dL_law_589 : Dc cL_law 589 (.lor) 1 590 := by decide +kernel
theorem dL_law_590 : Dc cL_law 590 (.aload_n 0) 1 591 := by decide +kernel
theorem dL_law_591 : Dc cL_law 591 (.iload_n 3) 1 592 := by decide +kernel
theorem dL_law_592 : Dc cL_law 592 (.iconst 4) 1 593 := by decide +kernel
theorem dL_law_593 : Dc cL_law 593 (.iadd) 1 594 := by decide +kernel
theorem dL_law_594 : Dc cL_law 594 (.iaload) 1 595 := by decide +kernel
theorem dL_law_595 : Dc cL_law 595 (.invokevirtual 75) 3 598 := by decide +kernel
theorem dL_law_598 : Dc cL_law 598 (.if_icmp .eq 68) 3 601 := by decide +kernel
theorem dL_law_601 : Dc cL_law 601 (.iconst 0) 1 602 := by decide +kernel
theorem dL_law_602 : Dc cL_law 602 (.ireturn) 1 603 := by decide +kernel
theorem dL_law_603 : Dc cL_law 603 (.aload_n 1) 1 604 := by decide +kernel
theorem dL_law_604 : Dc cL_law 604 (.aload_n 0) 1 605 := by decide +kernel
theorem dL_law_605 : Dc cL_law 605 (.iload_n 3) 1 606 := by decide +kernel
theorem dL_law_606 : Dc cL_law 606 (.iconst 1) 1 607 := by decide +kernel
theorem dL_law_607 : Dc cL_law 607 (.iadd) 1 608 := by decide +kernel
theorem dL_law_608 : Dc cL_law 608 (.iaload) 1 609 := by decide +kernel
theorem dL_law_609 : Dc cL_law 609 (.aload_n 0) 1 610 := by decide +kernel
theorem dL_law_610 : Dc cL_law 610 (.iload_n 3) 1 611 := by decide +kernel
theorem dL_law_611 : Dc cL_law 611 (.iconst 2) 1 612 := by decide +kernel
theorem dL_law_612 : Dc cL_law 612 (.iadd) 1 613 := by decide +kernel
theorem dL_law_613 : Dc cL_law 613 (.iaload) 1 614 := by decide +kernel
theorem dL_law_614 : Dc cL_law 614 (.i2l) 1 615 := by decide +kernel
theorem dL_law_615 : Dc cL_law 615 (.bipush 32) 2 617 := by decide +kernel
theorem dL_law_617 : Dc cL_law 617 (.lshl) 1 618 := by decide +kernel
theorem dL_law_618 : Dc cL_law 618 (.aload_n 0) 1 619 := by decide +kernel
theorem dL_law_619 : Dc cL_law 619 (.iload_n 3) 1 620 := by decide +kernel
theorem dL_law_620 : Dc cL_law 620 (.iconst 3) 1 621 := by decide +kernel
theorem dL_law_621 : Dc cL_law 621 (.iadd) 1 622 := by decide +kernel
theorem dL_law_622 : Dc cL_law 622 (.iaload) 1 623 := by decide +kernel
theorem dL_law_623 : Dc cL_law 623 (.i2l) 1 624 := by decide +kernel
theorem dL_law_624 : Dc cL_law 624 (.ldc2_w 33) 3 627 := by decide +kernel
theorem dL_law_627 : Dc cL_law 627 (.land) 1 628 := by decide +kernel
theorem dL_law_628 : Dc cL_law 628 (.lor) 1 629 := by decide +kernel
theorem dL_law_629 : Dc cL_law 629 (.invokevirtual 76) 3 632 := by decide +kernel
theorem dL_law_632 : Dc cL_law 632 (.aload_n 2) 1 633 := by decide +kernel
theorem dL_law_633 : Dc cL_law 633 (.aload_n 0) 1 634 := by decide +kernel
theorem dL_law_634 : Dc cL_law 634 (.iload_n 3) 1 635 := by decide +kernel
theorem dL_law_635 : Dc cL_law 635 (.iconst 1) 1 636 := by decide +kernel
theorem dL_law_636 : Dc cL_law 636 (.iadd) 1 637 := by decide +kernel
theorem dL_law_637 : Dc cL_law 637 (.iaload) 1 638 := by decide +kernel
theorem dL_law_638 : Dc cL_law 638 (.aload_n 0) 1 639 := by decide +kernel
theorem dL_law_639 : Dc cL_law 639 (.iload_n 3) 1 640 := by decide +kernel
theorem dL_law_640 : Dc cL_law 640 (.iconst 2) 1 641 := by decide +kernel
theorem dL_law_641 : Dc cL_law 641 (.iadd) 1 642 := by decide +kernel
theorem dL_law_642 : Dc cL_law 642 (.iaload) 1 643 := by decide +kernel
theorem dL_law_643 : Dc cL_law 643 (.i2l) 1 644 := by decide +kernel
theorem dL_law_644 : Dc cL_law 644 (.bipush 32) 2 646 := by decide +kernel
theorem dL_law_646 : Dc cL_law 646 (.lshl) 1 647 := by decide +kernel
theorem dL_law_647 : Dc cL_law 647 (.aload_n 0) 1 648 := by decide +kernel
theorem dL_law_648 : Dc cL_law 648 (.iload_n 3) 1 649 := by decide +kernel
theorem dL_law_649 : Dc cL_law 649 (.iconst 3) 1 650 := by decide +kernel
theorem dL_law_650 : Dc cL_law 650 (.iadd) 1 651 := by decide +kernel
theorem dL_law_651 : Dc cL_law 651 (.iaload) 1 652 := by decide +kernel
theorem dL_law_652 : Dc cL_law 652 (.i2l) 1 653 := by decide +kernel
theorem dL_law_653 : Dc cL_law 653 (.ldc2_w 33) 3 656 := by decide +kernel
theorem dL_law_656 : Dc cL_law 656 (.land) 1 657 := by decide +kernel
theorem dL_law_657 : Dc cL_law 657 (.lor) 1 658 := by decide +kernel
theorem dL_law_658 : Dc cL_law 658 (.invokevirtual 80) 3 661 := by decide +kernel
theorem dL_law_661 : Dc cL_law 661 (.if_icmp .eq 5) 3 664 := by decide +kernel
theorem dL_law_664 : Dc cL_law 664 (.iconst 0) 1 665 := by decide +kernel
theorem dL_law_665 : Dc cL_law 665 (.ireturn) 1 666 := by decide +kernel
theorem dL_law_666 : Dc cL_law 666 (.iinc 3 5) 3 669 := by decide +kernel
theorem dL_law_669 : Dc cL_law 669 (.goto (-651)) 3 672 := by decide +kernel
theorem dL_law_672 : Dc cL_law 672 (.iconst 1) 1 673 := by decide +kernel
theorem dL_law_673 : Dc cL_law 673 (.ireturn) 1 674 := by decide +kernel
end
section
/-! THE BASE: ints as numbers (iI), the judgement Wd (world, locals and frame in one), contracts Ct -/
def iI (z : Int) : Int32 := Int32.ofInt z
def R32 (z : Int) : Prop := -2147483648 ≤ z ∧ z < 2147483648
theorem iI_add (a b : Int) : iI a + iI b = iI (a + b) := (Int32.ofInt_add a b).symm
theorem iI_sub (a b : Int) : iI a - iI b = iI (a - b) := (Int32.ofInt_sub a b).symm
theorem iI_mul (a b : Int) : iI a * iI b = iI (a * b) := (Int32.ofInt_mul a b).symm
theorem iI_neg (a : Int) : -iI a = iI (-a) := (Int32.ofInt_neg a).symm
theorem iI_toInt {z : Int} (h : R32 z) : (iI z).toInt = z := Int32.toInt_ofInt_of_le (by have := h.1; omega) (by have := h.2; omega)
theorem iI_of (x : Int32) : iI x.toInt = x := Int32.ofInt_toInt x
theorem iI_rg (x : Int32) : R32 x.toInt := ⟨by have := x.le_toInt; omega, by have := x.toInt_lt; omega⟩
theorem iI_lt {a b : Int} (ha : R32 a) (hb : R32 b) : iI a < iI b ↔ a < b := by
  rw [Int32.lt_iff_toInt_lt, iI_toInt ha, iI_toInt hb]
theorem iI_le {a b : Int} (ha : R32 a) (hb : R32 b) : iI a ≤ iI b ↔ a ≤ b := by
  rw [Int32.le_iff_toInt_le, iI_toInt ha, iI_toInt hb]
theorem iI_eq {a b : Int} (ha : R32 a) (hb : R32 b) : iI a = iI b ↔ a = b := by
  rw [← Int32.toInt_inj, iI_toInt ha, iI_toInt hb]
theorem iI_z : (0 : Int32) = iI 0 := rfl
theorem R32_0 : R32 0 := ⟨by decide, by decide⟩
theorem iI_clamp {z : Int} (h0 : 0 ≤ z) (h : R32 z) : (iI z).toNatClampNeg = z.toNat := by
  unfold Int32.toNatClampNeg; rw [iI_toInt h]
theorem iI_nat (n : Nat) : Int32.ofNat n = iI (n : Int) := by
  unfold iI; rfl
theorem iI_in {z : Int} {n : Nat} (h0 : 0 ≤ z) (h1 : z < n) (h : R32 z) : vp_in (iI z) n := by
  intro q
  rcases q with q | q
  · rw [iI_z, iI_lt h R32_0] at q; omega
  · rw [iI_clamp h0 h] at q; omega
/-- a truth as a number -/
def bI (b : Bool) : Int := if b then 1 else 0
/-- an image: a byte for each place; an array of ints that holds it -/
abbrev Im : Type := { f : Int → Int // ∀ j, 0 ≤ f j ∧ f j < 256 }
def arI (d : Im) : Nat → Int32 := fun j => iI (d.1 j)
def up (d : Im) (a v : Int) : Im := ⟨fun j => if j = a then v % 256 else d.1 j, fun j => by
  by_cases h : j = a
  · simp only [h, if_true]; omega
  · simp only [h, if_false]; exact d.2 j⟩
theorem up_at (d : Im) (a v j : Int) : (up d a v).1 j = if j = a then v % 256 else d.1 j := rfl
theorem arI_at (d : Im) {z : Int} (h0 : 0 ≤ z) (h : R32 z) : arI d (iI z).toNatClampNeg = iI (d.1 z) := by
  rw [iI_clamp h0 h]; simp only [arI]; rw [Int.toNat_of_nonneg h0]
theorem arI_set (d : Im) {z v : Int} (hv : 0 ≤ v ∧ v < 256) (h0 : 0 ≤ z) (h : R32 z) : upd (arI d) (iI z).toNatClampNeg (iI v) = arI (up d z v) := by
  rw [iI_clamp h0 h]
  funext j
  simp only [upd, arI, up]
  by_cases hj : j = z.toNat
  · rw [if_pos hj, if_pos (by omega), Int.emod_eq_of_lt hv.1 hv.2]
  · rw [if_neg hj, if_neg (by omega)]
/-- what is fixed: the tables' numbers, the classes of int[] and boolean[], the places of the literals and of their bytes -/
abbrev GX : Type := va_G × (ClassId × ClassId) × (Nat → Nat) × (Nat → Nat)
abbrev gD (G : GX) : va_G := G.1
abbrev gI (G : GX) : ClassId := G.2.1.1
abbrev gZ (G : GX) : ClassId := G.2.1.2
abbrev gK (G : GX) : Nat → Nat := G.2.2.1
abbrev gV (G : GX) : Nat → Nat := G.2.2.2
abbrev gT (G : GX) : List (ClassId × FieldType) := [(gI G, .int), (gZ G, .boolean)]
def stL : List Nat := [4, 4, 1, 2, 10]
def stB : List (List Int32) := [[83, 70, 83, 75], [74, 82, 78, 76], [46], [46, 46], [108, 111, 115, 116, 43, 102, 111, 117, 110, 100]]
/-- private members of nest mates -/
def nsL : List (String × Nat × MethodName) := [("FsckDesk", 54, yX6_init), ("FsckDesk", 9, yX2_init), ("FsckDesk$Connector", 25, yX6_init), ("FsckDesk$Directories", 21, yX6_init), ("FsckDesk$Inodes", 48, yX10_isDataBlock), ("FsckDesk$Repairer", 114, yX10_isDataBlock)]
/-- the constants of texts, where they lie; two statics of the JDK -/
def SG (G : GX) (A : Nat → Prop) (U : State) (H : Heap) : Prop :=
  vk_S 5 stL stB (gK G) (gV G) A U H ∧ va_Z "java/lang/String" "COMPACT_STRINGS" "Z" (.int 1) A U H ∧ va_Zq "jdk/internal/util/Preconditions" "SIOOBE_FORMATTER" "Ljava/util/function/BiFunction;" A U H ∧ vk_R "FsckDesk$Super" 11 "SFSK" (gK G 0) U ∧ vk_R "FsckDesk$Journal" 17 "JRNL" (gK G 1) U ∧ vk_R "FsckDesk$Directories" 68 "." (gK G 2) U ∧ vk_R "FsckDesk$Directories" 78 ".." (gK G 3) U ∧ vk_R "FsckDesk$Directories" 98 "lost+found" (gK G 4) U ∧ vk_R "FsckDeskModel" 82 "lost+found" (gK G 4) U ∧ ∀ q ∈ nsL, va_Nw (.methodLinkNest q.1 q.2.1 q.2.2 "FsckDesk") U
theorem SG.same {G : GX} {A : Nat → Prop} {u U : State} {H : Heap} (hv : U.vm = u.vm) (h : SG G A u H) : SG G A U H := by
  have ha : u.vm.Alike U.vm := by rw [hv]; exact Vm.Alike.refl _
  obtain ⟨h1, h2, h3, r1, r2, r3, r4, r5, r6, r7⟩ := h
  exact ⟨h1.moved ha, h2.moved ha, h3.moved ha, r1.same hv, r2.same hv, r3.same hv, r4.same hv, r5.same hv, r6.same hv, fun q hq => (r7 q hq).same rfl hv.symm⟩
theorem SG.warm {G : GX} {A : Nat → Prop} {u U : State} {H : Heap} (hW : u.WarmedH U.vm) (h : SG G A u H) : SG G A U H := by
  obtain ⟨h1, h2, h3, r1, r2, r3, r4, r5, r6, r7⟩ := h
  exact ⟨h1.moved hW.alike, h2.moved hW.alike, h3.moved hW.alike, r1.warm hW, r2.warm hW, r3.warm hW, r4.warm hW, r5.warm hW, r6.warm hW, fun q hq => (r7 q hq).warmM hW⟩
theorem SG.kept {G : GX} {A : Nat → Prop} {U : State} {H H1 : Heap} (h : SG G A U H) (hq : ∀ a : Nat, a < H.size → ¬ A a → H1[a]? = H[a]?) : SG G A U H1 := by
  obtain ⟨h1, h2, h3, r⟩ := h
  exact ⟨h1.kept hq, h2.kept hq, h3.kept hq, r⟩
theorem SG.narrow {G : GX} {A B : Nat → Prop} {U : State} {H : Heap} (h : SG G A U H) (hAB : ∀ q, B q → A q) : SG G B U H := by
  obtain ⟨h1, h2, h3, r⟩ := h
  exact ⟨h1.narrow hAB, h2.narrow hAB, h3.narrow hAB, r⟩
/-- the words that stay true in every callee -/
def tb : List Cond := lw_tbl.filter goodWord
theorem tb_good : GoodIn tb tb := fun w h => ⟨h, good_of_word (List.mem_filter.mp h).2⟩
theorem tb_in {w : Cond} (i : Nat) (h : lw_tbl[i]? = some w) (hg : goodWord w = true) : w ∈ tb := List.mem_filter.mpr ⟨List.mem_of_getElem? h, hg⟩
/-- one run of a method: program, launch, environment, room, start; method, arguments, what is below, its record, its code; the cells that it may change, what it must come to -/
abbrev KX : Type := (Program × Launch × Env × Room × State) × (MethodId × Array Value × List Frame × Method × Code) × (Nat → Prop) × (State → Prop)
abbrev kl (k : KX) : Launch := k.1.2.1
abbrev kR (k : KX) : Room := k.1.2.2.2.1
abbrev ks (k : KX) : State := k.1.2.2.2.2
abbrev km (k : KX) : MethodId := k.2.1.1
abbrev ka (k : KX) : Array Value := k.2.1.2.1
abbrev kc (k : KX) : Code := k.2.1.2.2.2.2
abbrev kA (k : KX) : Nat → Prop := k.2.2.1
abbrev kW (k : KX) (H : Heap) (locs : List Loc) (ce sl : Nat) (g : JFrame) : Prop := W k.1.1 k.1.2.1 k.1.2.2.1 k.1.2.2.2.1 k.1.2.2.2.2 k.2.1.1 k.2.1.2.1 k.2.1.2.2.1 k.2.1.2.2.2.1 k.2.1.2.2.2.2 H locs ce sl k.2.2.2 g
/-- the machine comes to its end from here, whatever heap and locals hold the listed world and locals -/
def Wd (G : GX) (k : KX) (nL ce sl : Nat) (ws : va_W) (pc : Nat) (lv : List (Nat × Value)) (st : List Value) : Prop :=
  ∀ (H : Heap) (locs : List Loc) (ls : Array Slot), va_P (gD G) vwCl ws H → va_D (kA k) ws → va_S (kA k) (ks k).heap H locs → lv_has ls nL lv → kW k H locs ce sl (F0 (km k) pc ls st)
/-- what is known of a run throughout -/
def Cx (G : GX) (k : KX) (cc : ByteArray) (own : String) (nL : Nat) (R : Room) : Prop :=
  k.1.1.tables.exec = Jvm.exec ∧ (kc k).code = cc ∧ (kc k).maxLocals = nL ∧ (ks k).vm.findClass own = some (km k).cls ∧ (∀ w ∈ tb, w.before (ka k) (ks k) = true) ∧ va_K (gD G) vwCl (gT G) (ks k) ∧ (∀ q : Nat, (ks k).heap.size ≤ q → kA k q) ∧ SG G (kA k) (ks k) (ks k).heap ∧ kR k = R
/-- a method's contract: from a world ws, with these arguments, it returns v and leaves the world ws', as post says; nothing else changes -/
def CtQ (G : GX) (ws : va_W) (sz : Nat) (post : Option Value → va_W → Prop) : Array Value → State → Outcome → State → Prop := fun _ st oc t => (∃ (v : Option Value) (ws' : va_W), oc = .returned v ∧ post v ws' ∧ va_P (gD G) vwCl ws' t.heap ∧ va_D (va_A ws sz) ws') ∧ va_F (va_A ws sz) st t
def CtP (G : GX) (ws : va_W) (sz : Nat) (args : List Value) : Array Value → State → Prop := va_Pc args (fun U => U.heap.size = sz ∧ va_P (gD G) vwCl ws U.heap ∧ va_K (gD G) vwCl (gT G) U ∧ va_D (fun _ => True) ws ∧ SG G (va_A ws sz) U U.heap)
def CtG (G : GX) (l : Launch) (y : MethodName) (cc : ByteArray) (mL : Nat) (ret : Option FieldType) (rm : Room) (args : List Value) (ws : va_W) (post : Option Value → va_W → Prop) : Prop :=
  ∀ sz : Nat, Met l y (.code y cc mL ret :: tb) rm (CtP G ws sz args) (CtQ G ws sz post) rm.cells rm.slots (va_A ws sz)
/-- a contract whose answer and world are told -/
abbrev Ct (G : GX) (l : Launch) (y : MethodName) (cc : ByteArray) (mL : Nat) (ret : Option FieldType) (rm : Room) (args : List Value) (ws : va_W) (v0 : Option Value) (w0 : va_W) : Prop := CtG G l y cc mL ret rm args ws (fun v w => v = v0 ∧ w = w0)
/-- a return instruction, and what lies on the stack at it -/
def RetI (cc : ByteArray) (ret : Option FieldType) (pc : Nat) (v : Option Value) (st : List Value) : Prop :=
  (∃ (x : Int32) (ty : FieldType), ret = some ty ∧ narrow ty (.int x) = .int x ∧ v = some (.int x) ∧ st = [.int x] ∧ decode cc pc = .ok (.ireturn, 1)) ∨ (ret = none ∧ v = none ∧ st = [] ∧ decode cc pc = .ok (.return_, 1)) ∨ (∃ x : Int64, ret = some .long ∧ v = some (.long x) ∧ st = [.long x] ∧ decode cc pc = .ok (.lreturn, 1))
def RetP (G : GX) (k : KX) (nL : Nat) (cc : ByteArray) (ret : Option FieldType) (rm : Room) (post : Option Value → va_W → Prop) : Prop :=
  ∀ (v : Option Value) (ws' : va_W) (pc : Nat) (lv : List (Nat × Value)) (st : List Value), post v ws' → RetI cc ret pc v st → Wd G k nL rm.cells rm.slots ws' pc lv st
theorem Ct.of {G : GX} {l : Launch} {y : MethodName} {cc : ByteArray} {mL : Nat} {ret : Option FieldType} {rm : Room} {args : List Value} {ws : va_W} {post : Option Value → va_W → Prop} (hy : plainName y.cls = true) (hlen : (lg_sl args).length ≤ mL)
    (body : ∀ k : KX, Cx G k cc y.cls mL rm → kl k = l → RetP G k mL cc ret rm post → Wd G k mL 0 0 ws 0 (lv_args 0 args) []) : CtG G l y cc mL ret rm args ws post := by
  intro sz
  refine Met.ofW (cc := cc) (maxL := mL) (ret := ret) hy rfl ?_
  intro p e s m args' below meth c s₁ B hml hv
  obtain ⟨rfl, hsz, hP, hK, hD0, hSG⟩ := hv
  subst hsz
  have hlocks := B.notSynchronized
  have hts := atoms_spec (ws := Cond.code y cc mL ret :: tb) B.pre
  rw [lg_entry_eq]
  refine body ((p, l, e, rm, s), (m, args.toArray, below, meth, c), va_A ws s.heap.size, MQ below (CtQ G ws s.heap.size post) args.toArray s rm.cells rm.slots (va_A ws s.heap.size)) ⟨B.exec, B.bytes, hml, findClass_of_methodNamed B.named, fun w hw => hts w (List.mem_cons_of_mem _ hw), hK, fun q h => Or.inr h, hSG, rfl⟩ rfl ?_ s.heap [] _ hP (hD0.self (sz := s.heap.size)) va_S.rf (lv_entry args hlen)
  intro v ws' pc lv st hpost hret H locs ls hP hD hS hl
  rcases hret with ⟨x, ty, hr, hn, rfl, rfl, hdg⟩ | ⟨hr, rfl, rfl, hdg⟩ | ⟨x, hr, rfl, rfl, hdg⟩
  · exact W.zret (Qc := CtQ G ws s.heap.size post) (free := va_A ws s.heap.size) (ty := ty) B.exec B.bytes (B.returns.trans hr) hn (fun t ht hW => ⟨⟨_, ws', rfl, hpost, by rw [ht]; exact hP, hD⟩, hS.F ht⟩) hS.2.2 hdg
  · exact W.vret (Qc := CtQ G ws s.heap.size post) (free := va_A ws s.heap.size) B.exec B.bytes (B.returns.trans hr) (fun t ht hW => ⟨⟨_, ws', rfl, hpost, by rw [ht]; exact hP, hD⟩, hS.F ht⟩) hS.2.2 hdg
  · exact W.lret (Qc := CtQ G ws s.heap.size post) (free := va_A ws s.heap.size) B.exec B.bytes (B.returns.trans hr) (fun t ht hW => ⟨⟨_, ws', rfl, hpost, by rw [ht]; exact hP, hD⟩, hS.F ht⟩) hS.2.2 hdg
/-- cells put at places of a world -/
def pA : va_W → List Nat → va_W → va_W
  | wc, i :: is, c :: w0 => pA (wc.set i c) is w0
  | wc, _, _ => wc
theorem pA_get : ∀ (is : List Nat) (wc w0 : va_W) (j : Nat) (q : Nat × va_E), is.length = w0.length → (pA wc is w0)[j]? = some q → q ∈ w0 ∨ (j ∉ is ∧ wc[j]? = some q)
  | [], wc, w0, j, q, hl, h => by
    cases w0 with
    | nil => exact Or.inr ⟨List.not_mem_nil, h⟩
    | cons c w0 => cases hl
  | i :: is, wc, w0, j, q, hl, h => by
    cases w0 with
    | nil => cases hl
    | cons c w0 =>
      rcases pA_get is (wc.set i c) w0 j q (Nat.succ.inj hl) h with h1 | ⟨h1, h2⟩
      · exact Or.inl (List.mem_cons_of_mem _ h1)
      · by_cases hij : i = j
        · subst hij
          by_cases hlt : i < wc.length
          · rw [List.getElem?_set_self hlt] at h2
            cases h2
            exact Or.inl List.mem_cons_self
          · rw [List.getElem?_eq_none (by rw [List.length_set]; omega)] at h2
            cases h2
        · rw [List.getElem?_set_ne hij] at h2
          exact Or.inr ⟨fun z => (List.mem_cons.mp z).elim (fun e => hij e.symm) h1, h2⟩
theorem va_D.addr {A : Nat → Prop} {w w' : va_W} (h : va_D A w) (he : w'.map (fun q => q.1) = w.map (fun q => q.1)) : va_D A w' := by
  have key : ∀ (i : Nat) (q : Nat × va_E), w'[i]? = some q → ∃ q0, w[i]? = some q0 ∧ q0.1 = q.1 := by
    intro i q hq
    have h1 : (w'.map (fun q => q.1))[i]? = some q.1 := by rw [List.getElem?_map, hq]; rfl
    rw [he, List.getElem?_map] at h1
    cases hw : w[i]? with
    | none => rw [hw] at h1; cases h1
    | some q0 => rw [hw] at h1; exact ⟨q0, rfl, Option.some.inj h1⟩
  refine ⟨fun i j p q hi hj hpq => ?_, fun i q hq => ?_⟩
  · obtain ⟨p0, h1, h2⟩ := key i p hi
    obtain ⟨q0, h3, h4⟩ := key j q hj
    exact h.1 i j p0 q0 h1 h3 (h2.trans (hpq.trans h4.symm))
  · obtain ⟨q0, h1, h2⟩ := key i q hq
    rw [← h2]
    exact h.2 i q0 h1
end
section
/-! CALLS over contracts -/
theorem pA_addr : ∀ (is : List Nat) (wc w0 : va_W), is.map (fun i => (wc.map (fun q => q.1))[i]?) = (w0.map (fun q => q.1)).map some → (pA wc is w0).map (fun q => q.1) = wc.map (fun q => q.1)
  | [], wc, w0, _ => by cases w0 <;> rfl
  | i :: is, wc, w0, h => by
    cases w0 with
    | nil => cases h
    | cons c w0 =>
      have h1 : (wc.map (fun q => q.1))[i]? = some c.1 := (List.cons.inj h).1
      have h2 := (List.cons.inj h).2
      have e : (wc.set i c).map (fun q => q.1) = wc.map (fun q => q.1) := by
        rw [List.map_set]
        apply List.ext_getElem?
        intro j
        by_cases hij : i = j
        · subst hij
          rw [List.getElem?_set_self (List.getElem?_eq_some_iff.mp h1).1, h1]
        · rw [List.getElem?_set_ne hij]
      show (pA (wc.set i c) is w0).map (fun q => q.1) = _
      rw [pA_addr is (wc.set i c) w0 (by rw [e]; exact h2), e]
theorem CtP_blind {G : GX} {ws : va_W} {sz : Nat} {As : List Value} : FrameBlind (CtP G ws sz As) := by
  intro a U g mk q
  obtain ⟨q0, q1, qP, qK, qD, qS⟩ := q
  exact ⟨q0, q1, qP, va_K.moved (u := U) (U := U.calling g mk a) (Vm.Alike.refl U.vm) qK, qD, qS.same (U := U.calling g mk a) rfl⟩
section CALLS
variable {G : GX} {k : KX} {cc : ByteArray} {own : String} {R : Room} {nL ce sl pc pc2 : Nat} {wc ws : va_W} {lv : List (Nat × Value)} {st rest As : List Value} {y : MethodName} {bytes : ByteArray} {maxL idx n : Nat} {ret : Option FieldType} {rm : Room} {post : Option Value → va_W → Prop}
theorem ct_at (C : Cx G k cc own nL R) {H : Heap} {locs : List Loc} (hP : va_P (gD G) vwCl wc H) (hD : va_D (kA k) wc) (hS : va_S (kA k) (ks k).heap H locs) (is : List Nat) (hC : is.map (fun i => wc[i]?) = ws.map some) (hn : va_nd is = true) {U : State} (hU : U.heap = H) (hW : (ks k).WarmedH U.vm) : CtP G ws H.size As As.toArray U := by
  have hF := va_free hD hS C.2.2.2.2.2.2.1 is hC
  refine ⟨rfl, by rw [hU], ?_, va_K.moved hW.alike C.2.2.2.2.2.1, (hD.sub is hn hC).weaken (fun _ _ _ _ => trivial), ?_⟩
  · rw [hU]
    intro j q hj
    have h1 : (is.map (fun i => wc[i]?))[j]? = some (some q) := by rw [hC, List.getElem?_map, hj]; rfl
    rw [List.getElem?_map] at h1
    cases hi : is[j]? with
    | none => rw [hi] at h1; cases h1
    | some i => rw [hi] at h1; exact hP i q (Option.some.inj h1)
  · rw [hU]
    exact ((C.2.2.2.2.2.2.2.1.kept hS.2.1).narrow hF).warm hW
theorem w_run (C : Cx G k cc own nL R) {H : Heap} {locs : List Loc} {ls : Array Slot} {mc ms : Nat} {a : Array Value} (hP : va_P (gD G) vwCl wc H) (hD : va_D (kA k) wc) (hS : va_S (kA k) (ks k).heap H locs) (hl : lv_has ls nL lv) (is : List Nat) (hC : is.map (fun i => wc[i]?) = ws.map some)
    (hr : va_Run k.1.1 k.1.2.1 k.1.2.2.1 k.1.2.2.2.1 k.1.2.2.2.2 k.2.1.1 k.2.1.2.1 k.2.1.2.2.1 k.2.1.2.2.2.1 k.2.1.2.2.2.2 H locs ce sl mc ms (F0 (km k) pc ls st) rest (CtQ G ws H.size post a) (va_A ws H.size))
    (hpa : ∀ v ws', post v ws' → ws'.map (fun q => q.1) = ws.map (fun q => q.1)) (kk : ∀ v ws', post v ws' → Wd G k nL (ce + mc) (sl + ms) (pA wc is ws') (pc + 3) lv (v.toList ++ rest)) : kW k H locs ce sl (F0 (km k) pc ls st) := by
  have hF := va_free hD hS C.2.2.2.2.2.2.1 is hC
  have hat : ∀ (j : Nat) (q : Nat × va_E), ws[j]? = some q → ∃ i, i ∈ is ∧ wc[i]? = some q := by
    intro j q hj
    have h1 : (is.map (fun i => wc[i]?))[j]? = some (some q) := by rw [hC, List.getElem?_map, hj]; rfl
    rw [List.getElem?_map] at h1
    cases hi : is[j]? with
    | none => rw [hi] at h1; cases h1
    | some i => rw [hi] at h1; exact ⟨i, List.mem_of_getElem? hi, Option.some.inj h1⟩
  intro T hT X
  obtain ⟨v, st₀, t, T', L, h0, X', hL, e1, e2, ⟨⟨v', ws', hv, hpost, hP1, hD1⟩, hz, hk⟩, hgo⟩ := hr T hT X
  cases hv
  rw [h0] at hz hk
  have hlen : is.length = ws'.length := by
    have q1 := congrArg List.length hC
    have q2 := congrArg List.length (hpa v ws' hpost)
    simp only [List.length_map] at q1 q2
    omega
  have hPn : va_P (gD G) vwCl (pA wc is ws') T'.heap := by
    intro j q hj
    rw [e1]
    rcases pA_get is wc ws' j q hlen hj with h1 | ⟨h1, h2⟩
    · obtain ⟨i, hi⟩ := List.getElem?_of_mem h1
      exact hP1 i q hi
    · refine (hP j q h2).kept (hk q.1 (hP j q h2).lt ?_)
      rintro (⟨k2, e, h⟩ | h)
      · obtain ⟨i, hi, hq⟩ := hat k2 (q.1, e) h
        have := hD.1 j i q (q.1, e) h2 hq rfl
        subst this
        exact h1 hi
      · have := (hP j q h2).lt
        omega
  have hDn : va_D (kA k) (pA wc is ws') := by
    refine hD.addr (pA_addr is wc ws' ?_)
    rw [hpa v ws' hpost, List.map_map]
    have q := congrArg (List.map (Option.map (fun q : Nat × va_E => q.1))) hC
    rw [List.map_map, List.map_map] at q
    refine Eq.trans (List.map_congr_left fun i _ => ?_) q
    exact List.getElem?_map
  obtain ⟨t2, a1, b1⟩ := kk v ws' hpost T'.heap (locs ++ L) ls hPn hDn ⟨Nat.le_trans hS.1 (by rw [e1]; exact hz), fun q h1 h2 => by rw [e1, hk q (Nat.lt_of_lt_of_le h1 hS.1) (fun z => h2 (hF q z))]; exact hS.2.1 q h1 h2, fun q hq => by
      rcases List.mem_append.mp hq with h | h
      · exact hS.2.2 q h
      · exact hF _ (hL q h)⟩ hl T' rfl X'
  exact ⟨t2, hgo t2 a1, b1⟩
/-- the words that a virtual call rests on, by their places -/
abbrev cwv (own : String) (idx : Nat) (y : MethodName) (bytes : ByteArray) (maxL : Nat) (ret : Option FieldType) (n i1 i2 i3 i4 i5 : Nat) : Prop := (lw_tbl[i1]? = some (.methodLink own idx y) ∧ lw_tbl[i2]? = some (.instanceMethod y) ∧ lw_tbl[i3]? = some (.selects y.cls y y) ∧ lw_tbl[i4]? = some (.initialized y.cls) ∧ lw_tbl[i5]? = some (.code y bytes maxL ret)) ∧ (y.cls ≠ "java/lang/invoke/MethodHandle" ∧ y.cls ≠ "java/lang/invoke/VarHandle" ∧ (parseMethodDescriptor y.desc).map (fun d => d.parameters.length) = some n)
abbrev cws (own : String) (idx : Nat) (y : MethodName) (bytes : ByteArray) (maxL : Nat) (ret : Option FieldType) (n i1 i2 i4 i5 : Nat) : Prop := (lw_tbl[i1]? = some (.methodLink own idx y) ∧ lw_tbl[i2]? = some (.static y) ∧ lw_tbl[i4]? = some (.initialized y.cls) ∧ lw_tbl[i5]? = some (.code y bytes maxL ret)) ∧ (y.cls ≠ "java/lang/invoke/MethodHandle" ∧ y.cls ≠ "java/lang/invoke/VarHandle" ∧ (parseMethodDescriptor y.desc).map (fun d => d.parameters.length) = some n)
abbrev cwn (own : String) (idx : Nat) (y : MethodName) (bytes : ByteArray) (maxL : Nat) (ret : Option FieldType) (n j i2 i4 i5 : Nat) : Prop := (nsL[j]? = some (own, idx, y) ∧ lw_tbl[i2]? = some (.static y) ∧ lw_tbl[i4]? = some (.initialized y.cls) ∧ lw_tbl[i5]? = some (.code y bytes maxL ret)) ∧ (y.cls ≠ "java/lang/invoke/MethodHandle" ∧ y.cls ≠ "java/lang/invoke/VarHandle" ∧ (parseMethodDescriptor y.desc).map (fun d => d.parameters.length) = some n)
theorem tb_code {i : Nat} (h : lw_tbl[i]? = some (.code y bytes maxL ret)) : GoodIn tb (.code y bytes maxL ret :: tb) := fun w hw => by
  rcases List.mem_cons.mp hw with rfl | hw
  · exact tb_good _ (tb_in i h rfl)
  · exact tb_good w hw
variable {ci q0 b i1 i2 i3 i4 i5 : Nat} {fs : List Value} {T : u_T} {N : Nat} {own' : String}
theorem w_callVG (C : Cx G k cc own nL R) (hM : CtG G (kl k) y bytes maxL ret rm (.ref b :: As) ws post) (hw : cwv own idx y bytes maxL ret n i1 i2 i3 i4 i5) (hd : Dc cc pc (.invokevirtual idx) 3 pc2) (q0 : Nat) (he : wc[q0]? = some (b, .inr (ci, fs))) (hc : vwCl[ci]? = some (own', T, N)) (ho : own' = y.cls) (hst : st = As.reverse ++ .ref b :: rest) (hn : As.length = n) (hcat : (rest.map fun v => v.category).sum ≤ 8)
    (hR : rm.frames + 1 ≤ R.frames ∧ 8 + (maxL + 11) + rm.locals ≤ R.locals ∧ ce + rm.cells ≤ R.cells ∧ sl + rm.slots ≤ R.slots) (is : List Nat) (hC : is.map (fun i => wc[i]?) = ws.map some) (hnd : va_nd is = true)
    (hpa : ∀ v ws', post v ws' → ws'.map (fun q => q.1) = ws.map (fun q => q.1)) (kk : ∀ v ws', post v ws' → Wd G k nL (ce + rm.cells) (sl + rm.slots) (pA wc is ws') pc2 lv (v.toList ++ rest)) : Wd G k nL ce sl wc pc lv st := by
  intro H locs ls hP hD hS hl
  obtain ⟨⟨w1, w2, w3, w4, w5⟩, hd1, hd2, hd3⟩ := hw
  obtain ⟨hdg, rfl⟩ := hd
  subst hst
  have hRk := C.2.2.2.2.2.2.2.2
  have ht := C.2.2.2.2.1
  refine w_run C hP hD hS hl is hC (va_runV (Ts := tb) (C := y.cls) ⟨C.1, C.2.1, C.2.2.1, C.2.2.2.1, ht⟩ (hM H.size) ⟨callB_of n ht (tb_code w5) rfl rfl rfl (ht _ (tb_in _ w4 rfl)) (ht _ (tb_in _ w1 rfl)) ⟨hd1, hd2, hd3⟩ ⟨by rw [show k.1.2.2.2.1 = R from hRk]; exact hR.1, by rw [show k.1.2.2.2.1 = R from hRk]; exact hR.2.1⟩, ht _ (tb_in _ w2 rfl), ht _ (tb_in _ w3 rfl)⟩ ⟨CtP_blind, ?_, fun U hU hW => ct_at C hP hD hS is hC hnd hU hW⟩ rfl hn hl.1 rfl (lv_room hcat) hdg ⟨by rw [show k.1.2.2.2.1 = R from hRk]; exact hR.2.2.1, by rw [show k.1.2.2.2.1 = R from hRk]; exact hR.2.2.2⟩) hpa kk
  have h := va_recv C.2.2.2.2.2.1 hP hc he
  rw [ho] at h
  exact h
theorem w_callSG (C : Cx G k cc own nL R) (hM : CtG G (kl k) y bytes maxL ret rm As ws post) (hw : cws own idx y bytes maxL ret n i1 i2 i4 i5) (hd : Dc cc pc (.invokestatic idx) 3 pc2) (hst : st = As.reverse ++ rest) (hn : As.length = n) (hcat : (rest.map fun v => v.category).sum ≤ 8)
    (hR : rm.frames + 1 ≤ R.frames ∧ 8 + (maxL + 11) + rm.locals ≤ R.locals ∧ ce + rm.cells ≤ R.cells ∧ sl + rm.slots ≤ R.slots) (is : List Nat) (hC : is.map (fun i => wc[i]?) = ws.map some) (hnd : va_nd is = true)
    (hpa : ∀ v ws', post v ws' → ws'.map (fun q => q.1) = ws.map (fun q => q.1)) (kk : ∀ v ws', post v ws' → Wd G k nL (ce + rm.cells) (sl + rm.slots) (pA wc is ws') pc2 lv (v.toList ++ rest)) : Wd G k nL ce sl wc pc lv st := by
  intro H locs ls hP hD hS hl
  obtain ⟨⟨w1, w2, w4, w5⟩, hd1, hd2, hd3⟩ := hw
  obtain ⟨hdg, rfl⟩ := hd
  subst hst
  have hRk := C.2.2.2.2.2.2.2.2
  have ht := C.2.2.2.2.1
  exact w_run C hP hD hS hl is hC (va_runS (Ts := tb) ⟨C.1, C.2.1, C.2.2.1, C.2.2.2.1, ht⟩ (hM H.size) ⟨callB_of n ht (tb_code w5) rfl rfl rfl (ht _ (tb_in _ w4 rfl)) (ht _ (tb_in _ w1 rfl)) ⟨hd1, hd2, hd3⟩ ⟨by rw [show k.1.2.2.2.1 = R from hRk]; exact hR.1, by rw [show k.1.2.2.2.1 = R from hRk]; exact hR.2.1⟩, ht _ (tb_in _ w2 rfl)⟩ ⟨CtP_blind, fun U hU hW => ct_at C hP hD hS is hC hnd hU hW⟩ rfl hn hl.1 rfl (lv_room hcat) hdg ⟨by rw [show k.1.2.2.2.1 = R from hRk]; exact hR.2.2.1, by rw [show k.1.2.2.2.1 = R from hRk]; exact hR.2.2.2⟩) hpa kk
theorem w_callNG (C : Cx G k cc own nL R) (hM : CtG G (kl k) y bytes maxL ret rm As ws post) (hw : cwn own idx y bytes maxL ret n i1 i2 i4 i5) (hd : Dc cc pc (.invokestatic idx) 3 pc2) (hst : st = As.reverse ++ rest) (hn : As.length = n) (hcat : (rest.map fun v => v.category).sum ≤ 8)
    (hR : rm.frames + 1 ≤ R.frames ∧ 8 + (maxL + 11) + rm.locals ≤ R.locals ∧ ce + rm.cells ≤ R.cells ∧ sl + rm.slots ≤ R.slots) (is : List Nat) (hC : is.map (fun i => wc[i]?) = ws.map some) (hnd : va_nd is = true)
    (hpa : ∀ v ws', post v ws' → ws'.map (fun q => q.1) = ws.map (fun q => q.1)) (kk : ∀ v ws', post v ws' → Wd G k nL (ce + rm.cells) (sl + rm.slots) (pA wc is ws') pc2 lv (v.toList ++ rest)) : Wd G k nL ce sl wc pc lv st := by
  intro H locs ls hP hD hS hl
  obtain ⟨⟨w1, w2, w4, w5⟩, hd1, hd2, hd3⟩ := hw
  obtain ⟨hdg, rfl⟩ := hd
  subst hst
  have hRk := C.2.2.2.2.2.2.2.2
  have ht := C.2.2.2.2.1
  have hN := C.2.2.2.2.2.2.2.1.2.2.2.2.2.2.2.2.2 _ (List.mem_of_getElem? w1)
  exact w_run C hP hD hS hl is hC (va_runSN (Ts := tb) ⟨C.1, C.2.1, C.2.2.1, C.2.2.2.1, ht⟩ (hM H.size) ⟨va_cnB n ht (tb_code w5) rfl rfl rfl hN (ht _ (tb_in _ w4 rfl)) ⟨hd1, hd2, hd3⟩ ⟨by rw [show k.1.2.2.2.1 = R from hRk]; exact hR.1, by rw [show k.1.2.2.2.1 = R from hRk]; exact hR.2.1⟩, ht _ (tb_in _ w2 rfl), trivial⟩ ⟨CtP_blind, fun U hU hW => ct_at C hP hD hS is hC hnd hU hW⟩ rfl hn hl.1 rfl (lv_room hcat) hdg ⟨by rw [show k.1.2.2.2.1 = R from hRk]; exact hR.2.2.1, by rw [show k.1.2.2.2.1 = R from hRk]; exact hR.2.2.2⟩) hpa kk
/-- told answers and worlds -/
theorem w_callV (C : Cx G k cc own nL R) {v0 : Option Value} {w0 w2 : va_W} (hM : Ct G (kl k) y bytes maxL ret rm (.ref b :: As) ws v0 w0) (hw : cwv own idx y bytes maxL ret n i1 i2 i3 i4 i5) (hd : Dc cc pc (.invokevirtual idx) 3 pc2) (q0 : Nat) (he : wc[q0]? = some (b, .inr (ci, fs))) (hc : vwCl[ci]? = some (own', T, N)) (ho : own' = y.cls) (hst : st = As.reverse ++ .ref b :: rest) (hn : As.length = n) (hcat : (rest.map fun v => v.category).sum ≤ 8)
    (hR : rm.frames + 1 ≤ R.frames ∧ 8 + (maxL + 11) + rm.locals ≤ R.locals ∧ ce + rm.cells ≤ R.cells ∧ sl + rm.slots ≤ R.slots) (is : List Nat) (hC : is.map (fun i => wc[i]?) = ws.map some) (hnd : va_nd is = true)
    (ads : List Nat) (ha : w0.map (fun q => q.1) = ads) (hb : ws.map (fun q => q.1) = ads) (h2 : pA wc is w0 = w2) {st2 : List Value} (hs2 : v0.toList ++ rest = st2) (kk : Wd G k nL (ce + rm.cells) (sl + rm.slots) w2 pc2 lv st2) : Wd G k nL ce sl wc pc lv st :=
  w_callVG C hM hw hd q0 he hc ho hst hn hcat hR is hC hnd (fun v ws' h => by rw [h.2]; exact ha.trans hb.symm) (fun v ws' h => by rw [h.1, h.2, h2, hs2]; exact kk)
theorem w_callS (C : Cx G k cc own nL R) {v0 : Option Value} {w0 w2 : va_W} (hM : Ct G (kl k) y bytes maxL ret rm As ws v0 w0) (hw : cws own idx y bytes maxL ret n i1 i2 i4 i5) (hd : Dc cc pc (.invokestatic idx) 3 pc2) (hst : st = As.reverse ++ rest) (hn : As.length = n) (hcat : (rest.map fun v => v.category).sum ≤ 8)
    (hR : rm.frames + 1 ≤ R.frames ∧ 8 + (maxL + 11) + rm.locals ≤ R.locals ∧ ce + rm.cells ≤ R.cells ∧ sl + rm.slots ≤ R.slots) (is : List Nat) (hC : is.map (fun i => wc[i]?) = ws.map some) (hnd : va_nd is = true)
    (ads : List Nat) (ha : w0.map (fun q => q.1) = ads) (hb : ws.map (fun q => q.1) = ads) (h2 : pA wc is w0 = w2) {st2 : List Value} (hs2 : v0.toList ++ rest = st2) (kk : Wd G k nL (ce + rm.cells) (sl + rm.slots) w2 pc2 lv st2) : Wd G k nL ce sl wc pc lv st :=
  w_callSG C hM hw hd hst hn hcat hR is hC hnd (fun v ws' h => by rw [h.2]; exact ha.trans hb.symm) (fun v ws' h => by rw [h.1, h.2, h2, hs2]; exact kk)
theorem w_callN (C : Cx G k cc own nL R) {v0 : Option Value} {w0 w2 : va_W} (hM : Ct G (kl k) y bytes maxL ret rm As ws v0 w0) (hw : cwn own idx y bytes maxL ret n i1 i2 i4 i5) (hd : Dc cc pc (.invokestatic idx) 3 pc2) (hst : st = As.reverse ++ rest) (hn : As.length = n) (hcat : (rest.map fun v => v.category).sum ≤ 8)
    (hR : rm.frames + 1 ≤ R.frames ∧ 8 + (maxL + 11) + rm.locals ≤ R.locals ∧ ce + rm.cells ≤ R.cells ∧ sl + rm.slots ≤ R.slots) (is : List Nat) (hC : is.map (fun i => wc[i]?) = ws.map some) (hnd : va_nd is = true)
    (ads : List Nat) (ha : w0.map (fun q => q.1) = ads) (hb : ws.map (fun q => q.1) = ads) (h2 : pA wc is w0 = w2) {st2 : List Value} (hs2 : v0.toList ++ rest = st2) (kk : Wd G k nL (ce + rm.cells) (sl + rm.slots) w2 pc2 lv st2) : Wd G k nL ce sl wc pc lv st :=
  w_callNG C hM hw hd hst hn hcat hR is hC hnd (fun v ws' h => by rw [h.2]; exact ha.trans hb.symm) (fun v ws' h => by rw [h.1, h.2, h2, hs2]; exact kk)
end CALLS
end
section
/-! ROWS: an instruction each, over Wd -/
/-- a local written: the list stays in order -/
def lvS (i : Nat) (v : Value) (l : List (Nat × Value)) : List (Nat × Value) := (l.filter (fun q => !(q.1 == i) && !(q.1 + 1 == i && q.2.category == 2))).takeWhile (fun q => decide (q.1 < i)) ++ (i, v) :: (l.filter (fun q => !(q.1 == i) && !(q.1 + 1 == i && q.2.category == 2))).dropWhile (fun q => decide (q.1 < i))
def lvL (i : Nat) (v : Value) (l : List (Nat × Value)) : List (Nat × Value) := (l.filter (fun q => !(q.1 == i) && (!(q.1 == i + 1) && !(q.1 + 1 == i && q.2.category == 2)))).takeWhile (fun q => decide (q.1 < i)) ++ (i, v) :: (l.filter (fun q => !(q.1 == i) && (!(q.1 == i + 1) && !(q.1 + 1 == i && q.2.category == 2)))).dropWhile (fun q => decide (q.1 < i))
theorem lv_ord {f : List (Nat × Value)} {p : Nat × Value → Bool} {x q : Nat × Value} (h : q ∈ f.takeWhile p ++ x :: f.dropWhile p) : q ∈ x :: f := by
  have e := List.takeWhile_append_dropWhile (p := p) (l := f)
  rcases List.mem_append.mp h with h | h
  · exact List.mem_cons_of_mem _ (by rw [← e]; exact List.mem_append_left _ h)
  · rcases List.mem_cons.mp h with rfl | h
    · exact List.mem_cons_self
    · exact List.mem_cons_of_mem _ (by rw [← e]; exact List.mem_append_right _ h)
theorem lvS_has {ls : Array Slot} {n i : Nat} {v : Value} {l : List (Nat × Value)} (h : lv_has ls n ((i, v) :: l.filter (fun q => !(q.1 == i) && !(q.1 + 1 == i && q.2.category == 2)))) : lv_has ls n (lvS i v l) := ⟨h.1, h.2.1, fun q hq => h.2.2 q (lv_ord hq)⟩
theorem lvL_has {ls : Array Slot} {n i : Nat} {v : Value} {l : List (Nat × Value)} (h : lv_has ls n ((i, v) :: l.filter (fun q => !(q.1 == i) && (!(q.1 == i + 1) && !(q.1 + 1 == i && q.2.category == 2))))) : lv_has ls n (lvL i v l) := ⟨h.1, h.2.1, fun q hq => h.2.2 q (lv_ord hq)⟩
theorem iI_emod (z : Int) : iI z = iI (z % 4294967296) := by
  unfold iI
  rw [← Int32.toBitVec_inj]
  show BitVec.ofInt 32 z = BitVec.ofInt 32 (z % 4294967296)
  apply BitVec.eq_of_toNat_eq
  simp [BitVec.toNat_ofInt]
theorem iI_bv (z : Int) : ((iI z).toBitVec.toNat : Int) = z % 4294967296 := by
  show ((BitVec.ofInt 32 z).toNat : Int) = _
  rw [BitVec.toNat_ofInt]
  omega
theorem iI_mask (a : Int) (k : Nat) {m : Int} (hk : k ≤ 31) (hm : (iI m).toBitVec.toNat = 2 ^ k - 1) : iI a &&& iI m = iI (a % 2 ^ k) := by
  rw [pk_and (iI a) k hm]
  show Int32.ofNat _ = _
  rw [iI_nat]
  congr 1
  have h := iI_bv a
  rw [Int.natCast_emod, h]
  have e : (4294967296 : Int) = 2 ^ k * 2 ^ (32 - k) := by
    rw [← Int.pow_add, show k + (32 - k) = 32 by omega]; rfl
  rw [e]
  have : ((2 ^ k : Nat) : Int) = (2 : Int) ^ k := by simp
  rw [this]
  exact Int.emod_emod_of_dvd a ⟨_, rfl⟩
theorem iI_div {a b : Int} (ha : 0 ≤ a ∧ a < 2147483648) (hb : 0 < b ∧ b < 2147483648) : iI a / iI b = iI (a / b) := by
  have ra : R32 a := ⟨by omega, by omega⟩
  have rb : R32 b := ⟨by omega, by omega⟩
  have h1 : (iI a / iI b).toInt = a / b := by
    rw [lg_idiv_nonneg (by rw [iI_toInt ra]; omega) (by rw [iI_toInt rb]; omega), iI_toInt ra, iI_toInt rb]
  rw [← iI_of (iI a / iI b), h1]
theorem iI_rem {a b : Int} (ha : 0 ≤ a ∧ a < 2147483648) (hb : 0 < b ∧ b < 2147483648) : iI a - iI a / iI b * iI b = iI (a % b) := by
  rw [iI_div ha hb, iI_mul, iI_sub]
  congr 1
  have := Int.mul_ediv_add_emod a b
  rw [Int.mul_comm] at this
  omega
theorem iI_ne0 {b : Int} (hb : 0 < b ∧ b < 2147483648) : ¬ iI b = 0 := by
  intro h
  rw [iI_z, iI_eq ⟨by omega, by omega⟩ R32_0] at h
  omega
theorem bI_0 {b : Bool} : bI b = 0 ↔ b = false := by cases b <;> decide
theorem bI_rg (b : Bool) : 0 ≤ bI b ∧ bI b ≤ 1 := by cases b <;> decide
theorem nar_b (b : Bool) : narrow .boolean (.int (iI (bI b))) = .int (iI (bI b)) := by cases b <;> rfl
theorem bI_t {p : Prop} [Decidable p] (h : p) : bI (decide p) = 1 := by simp [bI, h]
theorem bI_f {p : Prop} [Decidable p] (h : ¬ p) : bI (decide p) = 0 := by simp [bI, h]
def arB (t : Int → Bool) : Nat → Int32 := fun j => iI (bI (t j))
def upB (t : Int → Bool) (a : Int) (v : Bool) : Int → Bool := fun j => if j = a then v else t j
theorem arB_at (t : Int → Bool) {z : Int} (h0 : 0 ≤ z) (h : R32 z) : arB t (iI z).toNatClampNeg = iI (bI (t z)) := by
  rw [iI_clamp h0 h]; simp only [arB]; rw [Int.toNat_of_nonneg h0]
theorem arB_set (t : Int → Bool) {z : Int} (v : Bool) (h0 : 0 ≤ z) (h : R32 z) : upd (arB t) (iI z).toNatClampNeg (iI (bI v)) = arB (upB t z v) := by
  rw [iI_clamp h0 h]
  funext j
  simp only [upd, arB, upB]
  by_cases hj : j = z.toNat
  · rw [if_pos hj, if_pos (by omega)]
  · rw [if_neg hj, if_neg (by omega)]
theorem nar_c {z : Int} (h : 0 ≤ z ∧ z < 65536) : narrow .char (.int (iI z)) = .int (iI z) := by
  have e : iI z = nI z.toNat := by show _ = Int32.ofNat _; rw [iI_nat, Int.toNat_of_nonneg h.1]
  rw [e]; exact (pk_charN (by omega)).1
theorem i2c_ok {z : Int} (h : 0 ≤ z ∧ z < 65536) : (iI z).toUInt32.toUInt16.toUInt32.toInt32 = iI z := lg_i2c_small (by rw [iI_toInt ⟨by omega, by omega⟩]; omega) (by rw [iI_toInt ⟨by omega, by omega⟩]; omega)
theorem nar_bI (b : Bool) : vp_nar .boolean (iI (bI b)) = iI (bI b) := by cases b <;> rfl
section WR
variable {G : GX} {k : KX} {cc : ByteArray} {own : String} {R : Room} {nL ce sl pc pc2 : Nat} {ws : va_W} {lv : List (Nat × Value)} {st : List Value}
/-- a world in another order -/
theorem w_ord {ws2 : va_W} (ps : List Nat) (h : ps.map (fun i => ws[i]?) = ws2.map some) (hn : va_nd ps = true) (kk : Wd G k nL ce sl ws2 pc lv st) : Wd G k nL ce sl ws pc lv st := fun H locs ls hP hD hS hl => kk H locs ls (fun j q hj => by
    have h1 : (ps.map (fun i => ws[i]?))[j]? = some (some q) := by rw [h, List.getElem?_map, hj]; rfl
    rw [List.getElem?_map] at h1
    cases hi : ps[j]? with
    | none => rw [hi] at h1; cases h1
    | some i => rw [hi] at h1; exact hP i q (Option.some.inj h1)) (hD.sub ps hn h) hS hl
theorem w_lv {lv2 : List (Nat × Value)} (ks : List Nat) (h : lv_pick lv ks = lv2) (kk : Wd G k nL ce sl ws pc lv2 st) : Wd G k nL ce sl ws pc lv st := fun H locs ls hP hD hS hl => kk H locs ls hP hD hS (lv_sub hl ks h)
theorem w_st {st2 : List Value} (h : st = st2) (kk : Wd G k nL ce sl ws pc lv st2) : Wd G k nL ce sl ws pc lv st := h ▸ kk
theorem w_ws {ws2 : va_W} (h : ws = ws2) (kk : Wd G k nL ce sl ws2 pc lv st) : Wd G k nL ce sl ws pc lv st := h ▸ kk
theorem w_iconst (C : Cx G k cc own nL R) {n : Int} (hd : Dc cc pc (.iconst n) 1 pc2) (kk : Wd G k nL ce sl ws pc2 lv (.int (iI n) :: st)) : Wd G k nL ce sl ws pc lv (st) := by
  obtain ⟨hd, rfl⟩ := hd
  exact fun H locs ls hP hD hS hl => lv_iconst C.1 C.2.1 hd rfl (kk H locs ls hP hD hS hl)
theorem w_bipush (C : Cx G k cc own nL R) {n : Int} (hd : Dc cc pc (.bipush n) 2 pc2) (hv : (Int8.ofInt n).toInt32 = iI n) (kk : Wd G k nL ce sl ws pc2 lv (.int (iI n) :: st)) : Wd G k nL ce sl ws pc lv (st) := by
  obtain ⟨hd, rfl⟩ := hd
  exact fun H locs ls hP hD hS hl => lv_bipush C.1 C.2.1 hd hv (kk H locs ls hP hD hS hl)
theorem w_sipush (C : Cx G k cc own nL R) {n : Int} (hd : Dc cc pc (.sipush n) 3 pc2) (hv : (Int16.ofInt n).toInt32 = iI n) (kk : Wd G k nL ce sl ws pc2 lv (.int (iI n) :: st)) : Wd G k nL ce sl ws pc lv (st) := by
  obtain ⟨hd, rfl⟩ := hd
  exact fun H locs ls hP hD hS hl => lv_sipush C.1 C.2.1 hd hv (kk H locs ls hP hD hS hl)
theorem w_lconst (C : Cx G k cc own nL R) {n : Fin 2} {v : Int64} (hd : Dc cc pc (.lconst n) 1 pc2) (hv : Int64.ofNat n = v) (kk : Wd G k nL ce sl ws pc2 lv (.long v :: st)) : Wd G k nL ce sl ws pc lv (st) := by
  obtain ⟨hd, rfl⟩ := hd
  exact fun H locs ls hP hD hS hl => lv_lconst C.1 C.2.1 hd hv (kk H locs ls hP hD hS hl)
theorem w_iload_n (C : Cx G k cc own nL R) {i : Fin 4} {x : Int32} (j : Nat) (hd : Dc cc pc (.iload_n i) 1 pc2) (hj : lv[j]? = some ((i : Nat), .int x)) (kk : Wd G k nL ce sl ws pc2 lv (.int x :: st)) : Wd G k nL ce sl ws pc lv (st) := by
  obtain ⟨hd, rfl⟩ := hd
  exact fun H locs ls hP hD hS hl => lv_iload_n C.1 C.2.1 hd rfl (lv_at hl j hj) (kk H locs ls hP hD hS hl)
theorem w_iload (C : Cx G k cc own nL R) {i : Nat} {x : Int32} (j : Nat) (hd : Dc cc pc (.iload i) 2 pc2) (hj : lv[j]? = some (i, .int x)) (kk : Wd G k nL ce sl ws pc2 lv (.int x :: st)) : Wd G k nL ce sl ws pc lv (st) := by
  obtain ⟨hd, rfl⟩ := hd
  exact fun H locs ls hP hD hS hl => lv_iload C.1 C.2.1 hd (lv_at hl j hj) (kk H locs ls hP hD hS hl)
theorem w_istore_n (C : Cx G k cc own nL R) {i : Fin 4} {x : Int32} {lv2 : List (Nat × Value)} (hd : Dc cc pc (.istore_n i) 1 pc2) (hn : i < nL) (h2 : lvS i (.int x) lv = lv2) (kk : Wd G k nL ce sl ws pc2 lv2 st) : Wd G k nL ce sl ws pc lv (.int x :: st) := by
  obtain ⟨hd, rfl⟩ := hd
  subst h2
  exact fun H locs ls hP hD hS hl => lv_istore_n C.1 C.2.1 hd rfl hl hn rfl (fun ls2 hl2 => kk H locs ls2 hP hD hS (lvS_has hl2))
theorem w_istore (C : Cx G k cc own nL R) {i : Nat} {x : Int32} {lv2 : List (Nat × Value)} (hd : Dc cc pc (.istore i) 2 pc2) (hn : i < nL) (h2 : lvS i (.int x) lv = lv2) (kk : Wd G k nL ce sl ws pc2 lv2 st) : Wd G k nL ce sl ws pc lv (.int x :: st) := by
  obtain ⟨hd, rfl⟩ := hd
  subst h2
  exact fun H locs ls hP hD hS hl => lv_istore C.1 C.2.1 hd hl hn rfl (fun ls2 hl2 => kk H locs ls2 hP hD hS (lvS_has hl2))
theorem w_lload_n (C : Cx G k cc own nL R) {i : Fin 4} {x : Int64} (j : Nat) (hd : Dc cc pc (.lload_n i) 1 pc2) (hj : lv[j]? = some ((i : Nat), .long x)) (kk : Wd G k nL ce sl ws pc2 lv (.long x :: st)) : Wd G k nL ce sl ws pc lv (st) := by
  obtain ⟨hd, rfl⟩ := hd
  exact fun H locs ls hP hD hS hl => lv_lload_n C.1 C.2.1 hd rfl (lv_at hl j hj) (kk H locs ls hP hD hS hl)
theorem w_lload (C : Cx G k cc own nL R) {i : Nat} {x : Int64} (j : Nat) (hd : Dc cc pc (.lload i) 2 pc2) (hj : lv[j]? = some (i, .long x)) (kk : Wd G k nL ce sl ws pc2 lv (.long x :: st)) : Wd G k nL ce sl ws pc lv (st) := by
  obtain ⟨hd, rfl⟩ := hd
  exact fun H locs ls hP hD hS hl => lv_lload C.1 C.2.1 hd (lv_at hl j hj) (kk H locs ls hP hD hS hl)
theorem w_lstore_n (C : Cx G k cc own nL R) {i : Fin 4} {x : Int64} {lv2 : List (Nat × Value)} (hd : Dc cc pc (.lstore_n i) 1 pc2) (hn : i + 1 < nL) (h2 : lvL i (.long x) lv = lv2) (kk : Wd G k nL ce sl ws pc2 lv2 st) : Wd G k nL ce sl ws pc lv (.long x :: st) := by
  obtain ⟨hd, rfl⟩ := hd
  subst h2
  exact fun H locs ls hP hD hS hl => lv_lstore_n C.1 C.2.1 hd rfl hl hn rfl (fun ls2 hl2 => kk H locs ls2 hP hD hS (lvL_has hl2))
theorem w_lstore (C : Cx G k cc own nL R) {i : Nat} {x : Int64} {lv2 : List (Nat × Value)} (hd : Dc cc pc (.lstore i) 2 pc2) (hn : i + 1 < nL) (h2 : lvL i (.long x) lv = lv2) (kk : Wd G k nL ce sl ws pc2 lv2 st) : Wd G k nL ce sl ws pc lv (.long x :: st) := by
  obtain ⟨hd, rfl⟩ := hd
  subst h2
  exact fun H locs ls hP hD hS hl => lv_lstore C.1 C.2.1 hd hl hn rfl (fun ls2 hl2 => kk H locs ls2 hP hD hS (lvL_has hl2))
theorem w_aload_n (C : Cx G k cc own nL R) {i : Fin 4} {x : Nat} (j : Nat) (hd : Dc cc pc (.aload_n i) 1 pc2) (hj : lv[j]? = some ((i : Nat), .ref x)) (kk : Wd G k nL ce sl ws pc2 lv (.ref x :: st)) : Wd G k nL ce sl ws pc lv (st) := by
  obtain ⟨hd, rfl⟩ := hd
  exact fun H locs ls hP hD hS hl => lv_aload_n C.1 C.2.1 hd rfl (lv_at hl j hj) (kk H locs ls hP hD hS hl)
theorem w_aload (C : Cx G k cc own nL R) {i : Nat} {x : Nat} (j : Nat) (hd : Dc cc pc (.aload i) 2 pc2) (hj : lv[j]? = some (i, .ref x)) (kk : Wd G k nL ce sl ws pc2 lv (.ref x :: st)) : Wd G k nL ce sl ws pc lv (st) := by
  obtain ⟨hd, rfl⟩ := hd
  exact fun H locs ls hP hD hS hl => lv_aload C.1 C.2.1 hd (lv_at hl j hj) (kk H locs ls hP hD hS hl)
theorem w_astore_n (C : Cx G k cc own nL R) {i : Fin 4} {x : Nat} {lv2 : List (Nat × Value)} (hd : Dc cc pc (.astore_n i) 1 pc2) (hn : i < nL) (h2 : lvS i (.ref x) lv = lv2) (kk : Wd G k nL ce sl ws pc2 lv2 st) : Wd G k nL ce sl ws pc lv (.ref x :: st) := by
  obtain ⟨hd, rfl⟩ := hd
  subst h2
  exact fun H locs ls hP hD hS hl => lv_astore_n C.1 C.2.1 hd rfl hl hn rfl (fun ls2 hl2 => kk H locs ls2 hP hD hS (lvS_has hl2))
theorem w_astore (C : Cx G k cc own nL R) {i : Nat} {x : Nat} {lv2 : List (Nat × Value)} (hd : Dc cc pc (.astore i) 2 pc2) (hn : i < nL) (h2 : lvS i (.ref x) lv = lv2) (kk : Wd G k nL ce sl ws pc2 lv2 st) : Wd G k nL ce sl ws pc lv (.ref x :: st) := by
  obtain ⟨hd, rfl⟩ := hd
  subst h2
  exact fun H locs ls hP hD hS hl => lv_astore C.1 C.2.1 hd hl hn rfl (fun ls2 hl2 => kk H locs ls2 hP hD hS (lvS_has hl2))
theorem w_iinc (C : Cx G k cc own nL R) {i : Nat} {n a : Int} {lv2 : List (Nat × Value)} (j : Nat) (hd : Dc cc pc (.iinc i n) 3 pc2) (hj : lv[j]? = some (i, .int (iI a))) (hn : i < nL) (h2 : lvS i (.int (iI (a + n))) lv = lv2) (kk : Wd G k nL ce sl ws pc2 lv2 st) : Wd G k nL ce sl ws pc lv st := by
  obtain ⟨hd, rfl⟩ := hd
  subst h2
  exact fun H locs ls hP hD hS hl => lv_iinc C.1 C.2.1 hd hl hj (iI_add a n) hn rfl (fun ls2 hl2 => kk H locs ls2 hP hD hS (lvS_has hl2))
theorem w_iadd (C : Cx G k cc own nL R) {a b : Int} (hd : Dc cc pc (.iadd) 1 pc2) (kk : Wd G k nL ce sl ws pc2 lv (.int (iI (a + b)) :: st)) : Wd G k nL ce sl ws pc lv (.int (iI b) :: .int (iI a) :: st) := by
  obtain ⟨hd, rfl⟩ := hd
  exact fun H locs ls hP hD hS hl => lv_iadd C.1 C.2.1 hd (by rw [iI_add]; exact kk H locs ls hP hD hS hl)
theorem w_isub (C : Cx G k cc own nL R) {a b : Int} (hd : Dc cc pc (.isub) 1 pc2) (kk : Wd G k nL ce sl ws pc2 lv (.int (iI (a - b)) :: st)) : Wd G k nL ce sl ws pc lv (.int (iI b) :: .int (iI a) :: st) := by
  obtain ⟨hd, rfl⟩ := hd
  exact fun H locs ls hP hD hS hl => lv_isub C.1 C.2.1 hd (by rw [iI_sub]; exact kk H locs ls hP hD hS hl)
theorem w_imul (C : Cx G k cc own nL R) {a b : Int} (hd : Dc cc pc (.imul) 1 pc2) (kk : Wd G k nL ce sl ws pc2 lv (.int (iI (a * b)) :: st)) : Wd G k nL ce sl ws pc lv (.int (iI b) :: .int (iI a) :: st) := by
  obtain ⟨hd, rfl⟩ := hd
  exact fun H locs ls hP hD hS hl => lv_imul C.1 C.2.1 hd (by rw [iI_mul]; exact kk H locs ls hP hD hS hl)
theorem w_idiv (C : Cx G k cc own nL R) {a b : Int} (hd : Dc cc pc (.idiv) 1 pc2) (hr : 0 ≤ a ∧ a < 2147483648 ∧ 0 < b ∧ b < 2147483648) (kk : Wd G k nL ce sl ws pc2 lv (.int (iI (a / b)) :: st)) : Wd G k nL ce sl ws pc lv (.int (iI b) :: .int (iI a) :: st) := by
  obtain ⟨hd, rfl⟩ := hd
  exact fun H locs ls hP hD hS hl => lv_idiv C.1 C.2.1 hd (iI_ne0 ⟨hr.2.2.1, hr.2.2.2⟩) (by rw [iI_div ⟨hr.1, hr.2.1⟩ ⟨hr.2.2.1, hr.2.2.2⟩]; exact kk H locs ls hP hD hS hl)
theorem w_irem (C : Cx G k cc own nL R) {a b : Int} (hd : Dc cc pc (.irem) 1 pc2) (hr : 0 ≤ a ∧ a < 2147483648 ∧ 0 < b ∧ b < 2147483648) (kk : Wd G k nL ce sl ws pc2 lv (.int (iI (a % b)) :: st)) : Wd G k nL ce sl ws pc lv (.int (iI b) :: .int (iI a) :: st) := by
  obtain ⟨hd, rfl⟩ := hd
  exact fun H locs ls hP hD hS hl => lv_irem C.1 C.2.1 hd (iI_ne0 ⟨hr.2.2.1, hr.2.2.2⟩) (by rw [iI_rem ⟨hr.1, hr.2.1⟩ ⟨hr.2.2.1, hr.2.2.2⟩]; exact kk H locs ls hP hD hS hl)
theorem w_iandm (C : Cx G k cc own nL R) {a m q : Int} (j : Nat) (hd : Dc cc pc (.iand) 1 pc2) (hj : j ≤ 31) (hm : (iI m).toBitVec.toNat = 2 ^ j - 1) (hq : (2 : Int) ^ j = q) (kk : Wd G k nL ce sl ws pc2 lv (.int (iI (a % q)) :: st)) : Wd G k nL ce sl ws pc lv (.int (iI m) :: .int (iI a) :: st) := by
  obtain ⟨hd, rfl⟩ := hd
  exact fun H locs ls hP hD hS hl => lv_iand C.1 C.2.1 hd (by rw [iI_mask a j hj hm, hq]; exact kk H locs ls hP hD hS hl)
theorem w_iand (C : Cx G k cc own nL R) {x y v : Int32} (hd : Dc cc pc (.iand) 1 pc2) (hv : x &&& y = v) (kk : Wd G k nL ce sl ws pc2 lv (.int v :: st)) : Wd G k nL ce sl ws pc lv (.int y :: .int x :: st) := by
  obtain ⟨hd, rfl⟩ := hd
  exact fun H locs ls hP hD hS hl => lv_iand C.1 C.2.1 hd (by rw [hv]; exact kk H locs ls hP hD hS hl)
theorem w_ior (C : Cx G k cc own nL R) {x y v : Int32} (hd : Dc cc pc (.ior) 1 pc2) (hv : x ||| y = v) (kk : Wd G k nL ce sl ws pc2 lv (.int v :: st)) : Wd G k nL ce sl ws pc lv (.int y :: .int x :: st) := by
  obtain ⟨hd, rfl⟩ := hd
  exact fun H locs ls hP hD hS hl => lv_ior C.1 C.2.1 hd (by rw [hv]; exact kk H locs ls hP hD hS hl)
theorem w_ixor (C : Cx G k cc own nL R) {x y v : Int32} (hd : Dc cc pc (.ixor) 1 pc2) (hv : x ^^^ y = v) (kk : Wd G k nL ce sl ws pc2 lv (.int v :: st)) : Wd G k nL ce sl ws pc lv (.int y :: .int x :: st) := by
  obtain ⟨hd, rfl⟩ := hd
  exact fun H locs ls hP hD hS hl => lv_ixor C.1 C.2.1 hd (by rw [hv]; exact kk H locs ls hP hD hS hl)
theorem w_ishl (C : Cx G k cc own nL R) {x y v : Int32} (hd : Dc cc pc (.ishl) 1 pc2) (hv : x <<< (y &&& 31) = v) (kk : Wd G k nL ce sl ws pc2 lv (.int v :: st)) : Wd G k nL ce sl ws pc lv (.int y :: .int x :: st) := by
  obtain ⟨hd, rfl⟩ := hd
  exact fun H locs ls hP hD hS hl => lv_ishl C.1 C.2.1 hd (by rw [hv]; exact kk H locs ls hP hD hS hl)
theorem w_ishr (C : Cx G k cc own nL R) {x y v : Int32} (hd : Dc cc pc (.ishr) 1 pc2) (hv : x >>> (y &&& 31) = v) (kk : Wd G k nL ce sl ws pc2 lv (.int v :: st)) : Wd G k nL ce sl ws pc lv (.int y :: .int x :: st) := by
  obtain ⟨hd, rfl⟩ := hd
  exact fun H locs ls hP hD hS hl => lv_ishr C.1 C.2.1 hd (by rw [hv]; exact kk H locs ls hP hD hS hl)
theorem w_ladd (C : Cx G k cc own nL R) {x y v : Int64} (hd : Dc cc pc (.ladd) 1 pc2) (hv : x + y = v) (kk : Wd G k nL ce sl ws pc2 lv (.long v :: st)) : Wd G k nL ce sl ws pc lv (.long y :: .long x :: st) := by
  obtain ⟨hd, rfl⟩ := hd
  exact fun H locs ls hP hD hS hl => lv_ladd C.1 C.2.1 hd (by rw [hv]; exact kk H locs ls hP hD hS hl)
theorem w_lsub (C : Cx G k cc own nL R) {x y v : Int64} (hd : Dc cc pc (.lsub) 1 pc2) (hv : x - y = v) (kk : Wd G k nL ce sl ws pc2 lv (.long v :: st)) : Wd G k nL ce sl ws pc lv (.long y :: .long x :: st) := by
  obtain ⟨hd, rfl⟩ := hd
  exact fun H locs ls hP hD hS hl => lv_lsub C.1 C.2.1 hd (by rw [hv]; exact kk H locs ls hP hD hS hl)
theorem w_land (C : Cx G k cc own nL R) {x y v : Int64} (hd : Dc cc pc (.land) 1 pc2) (hv : x &&& y = v) (kk : Wd G k nL ce sl ws pc2 lv (.long v :: st)) : Wd G k nL ce sl ws pc lv (.long y :: .long x :: st) := by
  obtain ⟨hd, rfl⟩ := hd
  exact fun H locs ls hP hD hS hl => lv_land C.1 C.2.1 hd (by rw [hv]; exact kk H locs ls hP hD hS hl)
theorem w_lor (C : Cx G k cc own nL R) {x y v : Int64} (hd : Dc cc pc (.lor) 1 pc2) (hv : x ||| y = v) (kk : Wd G k nL ce sl ws pc2 lv (.long v :: st)) : Wd G k nL ce sl ws pc lv (.long y :: .long x :: st) := by
  obtain ⟨hd, rfl⟩ := hd
  exact fun H locs ls hP hD hS hl => lv_lor C.1 C.2.1 hd (by rw [hv]; exact kk H locs ls hP hD hS hl)
theorem w_lxor (C : Cx G k cc own nL R) {x y v : Int64} (hd : Dc cc pc (.lxor) 1 pc2) (hv : x ^^^ y = v) (kk : Wd G k nL ce sl ws pc2 lv (.long v :: st)) : Wd G k nL ce sl ws pc lv (.long y :: .long x :: st) := by
  obtain ⟨hd, rfl⟩ := hd
  exact fun H locs ls hP hD hS hl => lv_lxor C.1 C.2.1 hd (by rw [hv]; exact kk H locs ls hP hD hS hl)
theorem w_lushr (C : Cx G k cc own nL R) {x v : Int64} {y : Int32} (hd : Dc cc pc (.lushr) 1 pc2) (hv : (x.toUInt64 >>> (y.toInt64.toUInt64 &&& Int64.toUInt64 63)).toInt64 = v) (kk : Wd G k nL ce sl ws pc2 lv (.long v :: st)) : Wd G k nL ce sl ws pc lv (.int y :: .long x :: st) := by
  obtain ⟨hd, rfl⟩ := hd
  exact fun H locs ls hP hD hS hl => lv_lushr C.1 C.2.1 hd hv (kk H locs ls hP hD hS hl)
theorem w_lshl (C : Cx G k cc own nL R) {x v : Int64} {y : Int32} (hd : Dc cc pc (.lshl) 1 pc2) (hv : x <<< (y.toInt64 &&& 63) = v) (kk : Wd G k nL ce sl ws pc2 lv (.long v :: st)) : Wd G k nL ce sl ws pc lv (.int y :: .long x :: st) := by
  obtain ⟨hd, rfl⟩ := hd
  exact fun H locs ls hP hD hS hl => lv_lshl C.1 C.2.1 hd hv (kk H locs ls hP hD hS hl)
theorem w_lshr (C : Cx G k cc own nL R) {x v : Int64} {y : Int32} (hd : Dc cc pc (.lshr) 1 pc2) (hv : x >>> (y.toInt64 &&& 63) = v) (kk : Wd G k nL ce sl ws pc2 lv (.long v :: st)) : Wd G k nL ce sl ws pc lv (.int y :: .long x :: st) := by
  obtain ⟨hd, rfl⟩ := hd
  exact fun H locs ls hP hD hS hl => lv_lshr C.1 C.2.1 hd hv (kk H locs ls hP hD hS hl)
theorem w_l2i (C : Cx G k cc own nL R) {x : Int64} {v : Int32} (hd : Dc cc pc (.l2i) 1 pc2) (hv : x.toInt32 = v) (kk : Wd G k nL ce sl ws pc2 lv (.int v :: st)) : Wd G k nL ce sl ws pc lv (.long x :: st) := by
  obtain ⟨hd, rfl⟩ := hd
  exact fun H locs ls hP hD hS hl => lv_l2i C.1 C.2.1 hd hv (kk H locs ls hP hD hS hl)
theorem w_i2l (C : Cx G k cc own nL R) {x : Int32} {v : Int64} (hd : Dc cc pc (.i2l) 1 pc2) (hv : x.toInt64 = v) (kk : Wd G k nL ce sl ws pc2 lv (.long v :: st)) : Wd G k nL ce sl ws pc lv (.int x :: st) := by
  obtain ⟨hd, rfl⟩ := hd
  exact fun H locs ls hP hD hS hl => lv_i2l C.1 C.2.1 hd hv (kk H locs ls hP hD hS hl)
theorem w_i2c (C : Cx G k cc own nL R) {x v : Int32} (hd : Dc cc pc (.i2c) 1 pc2) (hv : x.toUInt32.toUInt16.toUInt32.toInt32 = v) (kk : Wd G k nL ce sl ws pc2 lv (.int v :: st)) : Wd G k nL ce sl ws pc lv (.int x :: st) := by
  obtain ⟨hd, rfl⟩ := hd
  exact fun H locs ls hP hD hS hl => lv_i2c C.1 C.2.1 hd hv (kk H locs ls hP hD hS hl)
theorem w_lcmp (C : Cx G k cc own nL R) {x y : Int64} (hd : Dc cc pc (.lcmp) 1 pc2) (kk : Wd G k nL ce sl ws pc2 lv (.int (lg_cmp x y) :: st)) : Wd G k nL ce sl ws pc lv (.long y :: .long x :: st) := by
  obtain ⟨hd, rfl⟩ := hd
  exact fun H locs ls hP hD hS hl => W.lcmp C.1 C.2.1 hd (kk H locs ls hP hD hS hl)
theorem w_dup (C : Cx G k cc own nL R) {v : Value} (hd : Dc cc pc (.dup) 1 pc2) (hv : v.category = 1) (kk : Wd G k nL ce sl ws pc2 lv (v :: v :: st)) : Wd G k nL ce sl ws pc lv (v :: st) := by
  obtain ⟨hd, rfl⟩ := hd
  exact fun H locs ls hP hD hS hl => lv_dup C.1 C.2.1 hd hv (kk H locs ls hP hD hS hl)
theorem w_pop (C : Cx G k cc own nL R) {v : Value} (hd : Dc cc pc (.pop) 1 pc2) (hv : v.category = 1) (kk : Wd G k nL ce sl ws pc2 lv (st)) : Wd G k nL ce sl ws pc lv (v :: st) := by
  obtain ⟨hd, rfl⟩ := hd
  exact fun H locs ls hP hD hS hl => lv_pop C.1 C.2.1 hd hv (kk H locs ls hP hD hS hl)
theorem w_dup2 (C : Cx G k cc own nL R) {v w : Value} (hd : Dc cc pc (.dup2) 1 pc2) (hv : v.category = 1) (hw : w.category = 1) (kk : Wd G k nL ce sl ws pc2 lv (v :: w :: v :: w :: st)) : Wd G k nL ce sl ws pc lv (v :: w :: st) := by
  obtain ⟨hd, rfl⟩ := hd
  exact fun H locs ls hP hD hS hl => lv_dup2_11 C.1 C.2.1 hd hv hw (kk H locs ls hP hD hS hl)
theorem w_goto (C : Cx G k cc own nL R) {off : Int} (tgt : Nat) (hd : Dc cc pc (.goto off) 3 pc2) (ht : (pc : Int) + off = (tgt : Int)) (kk : Wd G k nL ce sl ws tgt lv st) : Wd G k nL ce sl ws pc lv st := by
  obtain ⟨hd, rfl⟩ := hd
  exact fun H locs ls hP hD hS hl => lv_goto C.1 C.2.1 hd ht (kk H locs ls hP hD hS hl)
theorem w_icmp_eq (C : Cx G k cc own nL R) {a b off : Int} (tgt : Nat) (hd : Dc cc pc (.if_icmp .eq off) 3 pc2) (ht : (pc : Int) + off = (tgt : Int)) (hr : -2147483648 ≤ a ∧ a < 2147483648 ∧ -2147483648 ≤ b ∧ b < 2147483648) (kt : a = b → Wd G k nL ce sl ws tgt lv st) (kf : ¬ a = b → Wd G k nL ce sl ws pc2 lv st) : Wd G k nL ce sl ws pc lv (.int (iI b) :: .int (iI a) :: st) := by
  obtain ⟨hd, rfl⟩ := hd
  exact fun H locs ls hP hD hS hl => lv_icmp_eq C.1 C.2.1 hd ht (fun h => kt (by rwa [iI_eq ⟨hr.1, hr.2.1⟩ ⟨hr.2.2.1, hr.2.2.2⟩] at h) H locs ls hP hD hS hl) (fun h => kf (by rwa [iI_eq ⟨hr.1, hr.2.1⟩ ⟨hr.2.2.1, hr.2.2.2⟩] at h) H locs ls hP hD hS hl)
theorem w_if_eq (C : Cx G k cc own nL R) {a off : Int} (tgt : Nat) (hd : Dc cc pc (.ifCond .eq off) 3 pc2) (ht : (pc : Int) + off = (tgt : Int)) (hr : -2147483648 ≤ a ∧ a < 2147483648) (kt : a = 0 → Wd G k nL ce sl ws tgt lv st) (kf : ¬ a = 0 → Wd G k nL ce sl ws pc2 lv st) : Wd G k nL ce sl ws pc lv (.int (iI a) :: st) := by
  obtain ⟨hd, rfl⟩ := hd
  exact fun H locs ls hP hD hS hl => lv_if_eq C.1 C.2.1 hd ht (fun h => kt (by rwa [iI_z, iI_eq hr R32_0] at h) H locs ls hP hD hS hl) (fun h => kf (by rwa [iI_z, iI_eq hr R32_0] at h) H locs ls hP hD hS hl)
theorem w_icmp_ne (C : Cx G k cc own nL R) {a b off : Int} (tgt : Nat) (hd : Dc cc pc (.if_icmp .ne off) 3 pc2) (ht : (pc : Int) + off = (tgt : Int)) (hr : -2147483648 ≤ a ∧ a < 2147483648 ∧ -2147483648 ≤ b ∧ b < 2147483648) (kt : ¬ a = b → Wd G k nL ce sl ws tgt lv st) (kf : a = b → Wd G k nL ce sl ws pc2 lv st) : Wd G k nL ce sl ws pc lv (.int (iI b) :: .int (iI a) :: st) := by
  obtain ⟨hd, rfl⟩ := hd
  exact fun H locs ls hP hD hS hl => lv_icmp_ne C.1 C.2.1 hd ht (fun h => kt (by rwa [iI_eq ⟨hr.1, hr.2.1⟩ ⟨hr.2.2.1, hr.2.2.2⟩] at h) H locs ls hP hD hS hl) (fun h => kf (by rwa [iI_eq ⟨hr.1, hr.2.1⟩ ⟨hr.2.2.1, hr.2.2.2⟩] at h) H locs ls hP hD hS hl)
theorem w_if_ne (C : Cx G k cc own nL R) {a off : Int} (tgt : Nat) (hd : Dc cc pc (.ifCond .ne off) 3 pc2) (ht : (pc : Int) + off = (tgt : Int)) (hr : -2147483648 ≤ a ∧ a < 2147483648) (kt : ¬ a = 0 → Wd G k nL ce sl ws tgt lv st) (kf : a = 0 → Wd G k nL ce sl ws pc2 lv st) : Wd G k nL ce sl ws pc lv (.int (iI a) :: st) := by
  obtain ⟨hd, rfl⟩ := hd
  exact fun H locs ls hP hD hS hl => lv_if_ne C.1 C.2.1 hd ht (fun h => kt (by rwa [iI_z, iI_eq hr R32_0] at h) H locs ls hP hD hS hl) (fun h => kf (by rwa [iI_z, iI_eq hr R32_0] at h) H locs ls hP hD hS hl)
theorem w_icmp_lt (C : Cx G k cc own nL R) {a b off : Int} (tgt : Nat) (hd : Dc cc pc (.if_icmp .lt off) 3 pc2) (ht : (pc : Int) + off = (tgt : Int)) (hr : -2147483648 ≤ a ∧ a < 2147483648 ∧ -2147483648 ≤ b ∧ b < 2147483648) (kt : a < b → Wd G k nL ce sl ws tgt lv st) (kf : ¬ a < b → Wd G k nL ce sl ws pc2 lv st) : Wd G k nL ce sl ws pc lv (.int (iI b) :: .int (iI a) :: st) := by
  obtain ⟨hd, rfl⟩ := hd
  exact fun H locs ls hP hD hS hl => lv_icmp_lt C.1 C.2.1 hd ht (fun h => kt (by rwa [iI_lt ⟨hr.1, hr.2.1⟩ ⟨hr.2.2.1, hr.2.2.2⟩] at h) H locs ls hP hD hS hl) (fun h => kf (by rwa [iI_lt ⟨hr.1, hr.2.1⟩ ⟨hr.2.2.1, hr.2.2.2⟩] at h) H locs ls hP hD hS hl)
theorem w_if_lt (C : Cx G k cc own nL R) {a off : Int} (tgt : Nat) (hd : Dc cc pc (.ifCond .lt off) 3 pc2) (ht : (pc : Int) + off = (tgt : Int)) (hr : -2147483648 ≤ a ∧ a < 2147483648) (kt : a < 0 → Wd G k nL ce sl ws tgt lv st) (kf : ¬ a < 0 → Wd G k nL ce sl ws pc2 lv st) : Wd G k nL ce sl ws pc lv (.int (iI a) :: st) := by
  obtain ⟨hd, rfl⟩ := hd
  exact fun H locs ls hP hD hS hl => lv_if_lt C.1 C.2.1 hd ht (fun h => kt (by rwa [iI_z, iI_lt hr R32_0] at h) H locs ls hP hD hS hl) (fun h => kf (by rwa [iI_z, iI_lt hr R32_0] at h) H locs ls hP hD hS hl)
theorem w_icmp_ge (C : Cx G k cc own nL R) {a b off : Int} (tgt : Nat) (hd : Dc cc pc (.if_icmp .ge off) 3 pc2) (ht : (pc : Int) + off = (tgt : Int)) (hr : -2147483648 ≤ a ∧ a < 2147483648 ∧ -2147483648 ≤ b ∧ b < 2147483648) (kt : b ≤ a → Wd G k nL ce sl ws tgt lv st) (kf : ¬ b ≤ a → Wd G k nL ce sl ws pc2 lv st) : Wd G k nL ce sl ws pc lv (.int (iI b) :: .int (iI a) :: st) := by
  obtain ⟨hd, rfl⟩ := hd
  exact fun H locs ls hP hD hS hl => lv_icmp_ge C.1 C.2.1 hd ht (fun h => kt (by rwa [iI_le ⟨hr.2.2.1, hr.2.2.2⟩ ⟨hr.1, hr.2.1⟩] at h) H locs ls hP hD hS hl) (fun h => kf (by rwa [iI_le ⟨hr.2.2.1, hr.2.2.2⟩ ⟨hr.1, hr.2.1⟩] at h) H locs ls hP hD hS hl)
theorem w_if_ge (C : Cx G k cc own nL R) {a off : Int} (tgt : Nat) (hd : Dc cc pc (.ifCond .ge off) 3 pc2) (ht : (pc : Int) + off = (tgt : Int)) (hr : -2147483648 ≤ a ∧ a < 2147483648) (kt : 0 ≤ a → Wd G k nL ce sl ws tgt lv st) (kf : ¬ 0 ≤ a → Wd G k nL ce sl ws pc2 lv st) : Wd G k nL ce sl ws pc lv (.int (iI a) :: st) := by
  obtain ⟨hd, rfl⟩ := hd
  exact fun H locs ls hP hD hS hl => lv_if_ge C.1 C.2.1 hd ht (fun h => kt (by rwa [iI_z, iI_le R32_0 hr] at h) H locs ls hP hD hS hl) (fun h => kf (by rwa [iI_z, iI_le R32_0 hr] at h) H locs ls hP hD hS hl)
theorem w_icmp_gt (C : Cx G k cc own nL R) {a b off : Int} (tgt : Nat) (hd : Dc cc pc (.if_icmp .gt off) 3 pc2) (ht : (pc : Int) + off = (tgt : Int)) (hr : -2147483648 ≤ a ∧ a < 2147483648 ∧ -2147483648 ≤ b ∧ b < 2147483648) (kt : b < a → Wd G k nL ce sl ws tgt lv st) (kf : ¬ b < a → Wd G k nL ce sl ws pc2 lv st) : Wd G k nL ce sl ws pc lv (.int (iI b) :: .int (iI a) :: st) := by
  obtain ⟨hd, rfl⟩ := hd
  exact fun H locs ls hP hD hS hl => lv_icmp_gt C.1 C.2.1 hd ht (fun h => kt (by rwa [iI_lt ⟨hr.2.2.1, hr.2.2.2⟩ ⟨hr.1, hr.2.1⟩] at h) H locs ls hP hD hS hl) (fun h => kf (by rwa [iI_lt ⟨hr.2.2.1, hr.2.2.2⟩ ⟨hr.1, hr.2.1⟩] at h) H locs ls hP hD hS hl)
theorem w_if_gt (C : Cx G k cc own nL R) {a off : Int} (tgt : Nat) (hd : Dc cc pc (.ifCond .gt off) 3 pc2) (ht : (pc : Int) + off = (tgt : Int)) (hr : -2147483648 ≤ a ∧ a < 2147483648) (kt : 0 < a → Wd G k nL ce sl ws tgt lv st) (kf : ¬ 0 < a → Wd G k nL ce sl ws pc2 lv st) : Wd G k nL ce sl ws pc lv (.int (iI a) :: st) := by
  obtain ⟨hd, rfl⟩ := hd
  exact fun H locs ls hP hD hS hl => lv_if_gt C.1 C.2.1 hd ht (fun h => kt (by rwa [iI_z, iI_lt R32_0 hr] at h) H locs ls hP hD hS hl) (fun h => kf (by rwa [iI_z, iI_lt R32_0 hr] at h) H locs ls hP hD hS hl)
theorem w_icmp_le (C : Cx G k cc own nL R) {a b off : Int} (tgt : Nat) (hd : Dc cc pc (.if_icmp .le off) 3 pc2) (ht : (pc : Int) + off = (tgt : Int)) (hr : -2147483648 ≤ a ∧ a < 2147483648 ∧ -2147483648 ≤ b ∧ b < 2147483648) (kt : a ≤ b → Wd G k nL ce sl ws tgt lv st) (kf : ¬ a ≤ b → Wd G k nL ce sl ws pc2 lv st) : Wd G k nL ce sl ws pc lv (.int (iI b) :: .int (iI a) :: st) := by
  obtain ⟨hd, rfl⟩ := hd
  exact fun H locs ls hP hD hS hl => lv_icmp_le C.1 C.2.1 hd ht (fun h => kt (by rwa [iI_le ⟨hr.1, hr.2.1⟩ ⟨hr.2.2.1, hr.2.2.2⟩] at h) H locs ls hP hD hS hl) (fun h => kf (by rwa [iI_le ⟨hr.1, hr.2.1⟩ ⟨hr.2.2.1, hr.2.2.2⟩] at h) H locs ls hP hD hS hl)
theorem w_if_le (C : Cx G k cc own nL R) {a off : Int} (tgt : Nat) (hd : Dc cc pc (.ifCond .le off) 3 pc2) (ht : (pc : Int) + off = (tgt : Int)) (hr : -2147483648 ≤ a ∧ a < 2147483648) (kt : a ≤ 0 → Wd G k nL ce sl ws tgt lv st) (kf : ¬ a ≤ 0 → Wd G k nL ce sl ws pc2 lv st) : Wd G k nL ce sl ws pc lv (.int (iI a) :: st) := by
  obtain ⟨hd, rfl⟩ := hd
  exact fun H locs ls hP hD hS hl => lv_if_le C.1 C.2.1 hd ht (fun h => kt (by rwa [iI_z, iI_le hr R32_0] at h) H locs ls hP hD hS hl) (fun h => kf (by rwa [iI_z, iI_le hr R32_0] at h) H locs ls hP hD hS hl)
theorem w_bz (C : Cx G k cc own nL R) {b : Bool} {off : Int} (tgt : Nat) (hd : Dc cc pc (.ifCond .eq off) 3 pc2) (ht : (pc : Int) + off = (tgt : Int)) (kt : b = false → Wd G k nL ce sl ws tgt lv st) (kf : b = true → Wd G k nL ce sl ws pc2 lv st) : Wd G k nL ce sl ws pc lv (.int (iI (bI b)) :: st) :=
  w_if_eq C tgt hd ht (by have := bI_rg b; omega) (fun h => kt (bI_0.mp h)) (fun h => kf (by cases b with | false => exact absurd rfl h | true => rfl))
theorem w_bnz (C : Cx G k cc own nL R) {b : Bool} {off : Int} (tgt : Nat) (hd : Dc cc pc (.ifCond .ne off) 3 pc2) (ht : (pc : Int) + off = (tgt : Int)) (kt : b = true → Wd G k nL ce sl ws tgt lv st) (kf : b = false → Wd G k nL ce sl ws pc2 lv st) : Wd G k nL ce sl ws pc lv (.int (iI (bI b)) :: st) :=
  w_if_ne C tgt hd ht (by have := bI_rg b; omega) (fun h => kt (by cases b with | false => exact absurd rfl h | true => rfl)) (fun h => kf (bI_0.mp h))
theorem w_ldc (C : Cx G k cc own nL R) {idx : Nat} {v : Int32} {z : Int} (i : Nat) (hd : Dc cc pc (.ldc idx) 2 pc2) (hw : lw_tbl[i]? = some (.constant own idx v)) (hv : v = iI z) (kk : Wd G k nL ce sl ws pc2 lv (.int (iI z) :: st)) : Wd G k nL ce sl ws pc lv st := by
  obtain ⟨hd, rfl⟩ := hd
  subst hv
  exact fun H locs ls hP hD hS hl => lv_ldc C.1 C.2.1 C.2.2.2.1 (C.2.2.2.2.1 _ (tb_in i hw rfl)) hd (kk H locs ls hP hD hS hl)
theorem w_ldc2 (C : Cx G k cc own nL R) {idx : Nat} {v : Int64} (i : Nat) (hd : Dc cc pc (.ldc2_w idx) 3 pc2) (hw : lw_tbl[i]? = some (.constantLong own idx v)) (kk : Wd G k nL ce sl ws pc2 lv (.long v :: st)) : Wd G k nL ce sl ws pc lv st := by
  obtain ⟨hd, rfl⟩ := hd
  exact fun H locs ls hP hD hS hl => lv_ldc2 C.1 C.2.1 C.2.2.2.1 (C.2.2.2.2.1 _ (tb_in i hw rfl)) hd (kk H locs ls hP hD hS hl)
variable {a ci N idx : Nat} {fs : List Value} {T : u_T} {Cn : String}
theorem w_get (C : Cx G k cc own nL R) {v : Value} (q0 kf i : Nat) (hd : Dc cc pc (.getfield idx) 3 pc2) (he : ws[q0]? = some (a, .inr (ci, fs))) (hc : vwCl[ci]? = some (Cn, T, N)) (hin : ∀ w ∈ u_ws Cn T N, w ∈ tb) (hk : kf < N) (hw : lw_tbl[i]? = some (.fieldLink own idx (T kf).1 (T kf).2.1 (T kf).2.2.1)) (hv : fs[kf]? = some v) (kk : Wd G k nL ce sl ws pc2 lv (v :: st)) : Wd G k nL ce sl ws pc lv (.ref a :: st) := by
  obtain ⟨hd, rfl⟩ := hd
  exact fun H locs ls hP hD hS hl => va_get C.1 C.2.1 C.2.2.2.2.1 hin C.2.2.2.1 C.2.2.2.2.2.1 hP q0 he hc kf hk (C.2.2.2.2.1 _ (tb_in i hw rfl)) (fun _ h => h) hv hd (kk H locs ls hP hD hS hl)
theorem w_put (C : Cx G k cc own nL R) {v : Value} {ty : FieldType} {ty0 : Nat → FieldType} {ws2 : va_W} (q0 kf i : Nat) (hd : Dc cc pc (.putfield idx) 3 pc2) (he : ws[q0]? = some (a, .inr (ci, fs))) (hc : vwCl[ci]? = some (Cn, T, N)) (hin : ∀ w ∈ u_ws Cn T N, w ∈ tb) (hty : ∀ k, k < N → parseFieldDescriptor (T k).2.2.1 = some (ty0 k)) (hnm : ∀ a, a < N → ∀ b, b < N → a ≠ b → (T a).2.1 ≠ (T b).2.1) (hk : kf < N) (hw : lw_tbl[i]? = some (.fieldLink own idx (T kf).1 (T kf).2.1 (T kf).2.2.1)) (hfin : (T kf).2.2.2 = false) (ht : parseFieldDescriptor (T kf).2.2.1 = some ty) (hn : narrow ty v = v) (hfit : fits ty v = true) (hl0 : kf < fs.length) (h2 : ws.set q0 (a, .inr (ci, fs.set kf v)) = ws2) (kk : Wd G k nL ce sl ws2 pc2 lv st) : Wd G k nL ce sl ws pc lv (v :: .ref a :: st) := by
  obtain ⟨hd, rfl⟩ := hd
  subst h2
  exact fun H locs ls hP hD hS hl => va_put C.1 C.2.1 C.2.2.2.2.1 hin ty0 hty hnm C.2.2.2.1 C.2.2.2.2.2.1 hP hD hS q0 he hc kf hk (C.2.2.2.2.1 _ (tb_in i hw rfl)) (fun _ h => h) hfin ht hn hfit hl0 hd (fun H1 locs1 hP1 hD1 hS1 => kk H1 locs1 ls hP1 hD1 hS1 hl)
theorem w_iald (C : Cx G k cc own nL R) {n : Nat} {d : Im} {z : Int} (q0 : Nat) (hd : Dc cc pc (.iaload) 1 pc2) (he : ws[q0]? = some (a, .inl (gI G, n, .inl (arI d)))) (hr : 0 ≤ z ∧ z < n ∧ z < 2147483648) (kk : Wd G k nL ce sl ws pc2 lv (.int (iI (d.1 z)) :: st)) : Wd G k nL ce sl ws pc lv (.int (iI z) :: .ref a :: st) := by
  obtain ⟨hd, rfl⟩ := hd
  exact fun H locs ls hP hD hS hl => va_iald C.1 C.2.1 C.2.2.2.2.2.1 hP q0 0 he rfl (iI_in hr.1 hr.2.1 ⟨by omega, hr.2.2⟩) hd (by rw [arI_at d hr.1 ⟨by omega, hr.2.2⟩]; exact kk H locs ls hP hD hS hl)
theorem w_alen (C : Cx G k cc own nL R) {n : Nat} {d : Im} (q0 : Nat) (hd : Dc cc pc (.arraylength) 1 pc2) (he : ws[q0]? = some (a, .inl (gI G, n, .inl (arI d)))) (kk : Wd G k nL ce sl ws pc2 lv (.int (iI (n : Int)) :: st)) : Wd G k nL ce sl ws pc lv (.ref a :: st) := by
  obtain ⟨hd, rfl⟩ := hd
  exact fun H locs ls hP hD hS hl => va_alen C.1 C.2.1 C.2.2.2.2.2.1 hP q0 0 he rfl (iI_nat n) hd (kk H locs ls hP hD hS hl)
theorem w_iast (C : Cx G k cc own nL R) {n : Nat} {d : Im} {z v : Int} {ws2 : va_W} (q0 : Nat) (hd : Dc cc pc (.iastore) 1 pc2) (he : ws[q0]? = some (a, .inl (gI G, n, .inl (arI d)))) (hr : 0 ≤ z ∧ z < n ∧ z < 2147483648) (hv : 0 ≤ v ∧ v < 256) (h2 : ws.set q0 (a, .inl (gI G, n, .inl (arI (up d z v)))) = ws2) (kk : Wd G k nL ce sl ws2 pc2 lv st) : Wd G k nL ce sl ws pc lv (.int (iI v) :: .int (iI z) :: .ref a :: st) := by
  obtain ⟨hd, rfl⟩ := hd
  subst h2
  exact fun H locs ls hP hD hS hl => va_iast C.1 C.2.1 C.2.2.2.2.2.1 hP hD hS q0 0 he rfl (iI_in hr.1 hr.2.1 ⟨by omega, hr.2.2⟩) hd (fun H1 locs1 hP1 hD1 hS1 => by
    rw [arI_set d hv hr.1 ⟨by omega, hr.2.2⟩] at hP1 hD1
    exact kk H1 locs1 ls hP1 hD1 hS1 hl)
theorem w_zald (C : Cx G k cc own nL R) {n : Nat} {t : Int → Bool} {z : Int} (q0 : Nat) (hd : Dc cc pc (.baload) 1 pc2) (he : ws[q0]? = some (a, .inl (gZ G, n, .inl (arB t)))) (hr : 0 ≤ z ∧ z < n ∧ z < 2147483648) (kk : Wd G k nL ce sl ws pc2 lv (.int (iI (bI (t z))) :: st)) : Wd G k nL ce sl ws pc lv (.int (iI z) :: .ref a :: st) := by
  obtain ⟨hd, rfl⟩ := hd
  exact fun H locs ls hP hD hS hl => va_zald C.1 C.2.1 C.2.2.2.2.2.1 hP q0 1 he rfl (iI_in hr.1 hr.2.1 ⟨by omega, hr.2.2⟩) hd (by rw [arB_at t hr.1 ⟨by omega, hr.2.2⟩]; exact kk H locs ls hP hD hS hl)
theorem w_zast (C : Cx G k cc own nL R) {n : Nat} {t : Int → Bool} {z : Int} {v : Bool} {ws2 : va_W} (q0 : Nat) (hd : Dc cc pc (.bastore) 1 pc2) (he : ws[q0]? = some (a, .inl (gZ G, n, .inl (arB t)))) (hr : 0 ≤ z ∧ z < n ∧ z < 2147483648) (h2 : ws.set q0 (a, .inl (gZ G, n, .inl (arB (upB t z v)))) = ws2) (kk : Wd G k nL ce sl ws2 pc2 lv st) : Wd G k nL ce sl ws pc lv (.int (iI (bI v)) :: .int (iI z) :: .ref a :: st) := by
  obtain ⟨hd, rfl⟩ := hd
  subst h2
  exact fun H locs ls hP hD hS hl => va_zast C.1 C.2.1 C.2.2.2.2.2.1 hP hD hS q0 1 he rfl (iI_in hr.1 hr.2.1 ⟨by omega, hr.2.2⟩) hd (fun H1 locs1 hP1 hD1 hS1 => by
    rw [nar_bI, arB_set t v hr.1 ⟨by omega, hr.2.2⟩] at hP1 hD1
    exact kk H1 locs1 ls hP1 hD1 hS1 hl)
variable {ret : Option FieldType} {rm : Room} {post : Option Value → va_W → Prop}
theorem w_reti (hret : RetP G k nL cc ret rm post) {x : Int32} {ty : FieldType} (hd : Dc cc pc (.ireturn) 1 pc2) (ht : ret = some ty) (hn : narrow ty (.int x) = .int x) (hc : ce = rm.cells) (hs : sl = rm.slots) (hp : post (some (.int x)) ws) : Wd G k nL ce sl ws pc lv [.int x] := by
  subst hc; subst hs
  exact hret _ _ _ _ _ hp (Or.inl ⟨x, ty, ht, hn, rfl, rfl, hd.1⟩)
theorem w_retv (hret : RetP G k nL cc ret rm post) (hd : Dc cc pc (.return_) 1 pc2) (ht : ret = none) (hc : ce = rm.cells) (hs : sl = rm.slots) (hp : post none ws) : Wd G k nL ce sl ws pc lv [] := by
  subst hc; subst hs
  exact hret _ _ _ _ _ hp (Or.inr (Or.inl ⟨ht, rfl, rfl, hd.1⟩))
theorem w_retl (hret : RetP G k nL cc ret rm post) {x : Int64} (hd : Dc cc pc (.lreturn) 1 pc2) (ht : ret = some .long) (hc : ce = rm.cells) (hs : sl = rm.slots) (hp : post (some (.long x)) ws) : Wd G k nL ce sl ws pc lv [.long x] := by
  subst hc; subst hs
  exact hret _ _ _ _ _ hp (Or.inr (Or.inr ⟨x, ht, rfl, rfl, hd.1⟩))
end WR
end
section
/-! the layouts of the classes among the words; rooms -/
theorem inX0 : ∀ w ∈ u_ws RX0 TX0 8, w ∈ tb := by decide +kernel
theorem inX1 : ∀ w ∈ u_ws RX1 TX1 3, w ∈ tb := by decide +kernel
theorem inX2 : ∀ w ∈ u_ws RX2 TX2 1, w ∈ tb := by decide +kernel
theorem inX3 : ∀ w ∈ u_ws RX3 TX3 3, w ∈ tb := by decide +kernel
theorem inX4 : ∀ w ∈ u_ws RX4 TX4 2, w ∈ tb := by decide +kernel
theorem inX6 : ∀ w ∈ u_ws RX6 TX6 2, w ∈ tb := by decide +kernel
theorem inX7 : ∀ w ∈ u_ws RX7 TX7 6, w ∈ tb := by decide +kernel
theorem inX9 : ∀ w ∈ u_ws RX9 TX9 3, w ∈ tb := by decide +kernel
theorem inX10 : ∀ w ∈ u_ws RX10 TX10 6, w ∈ tb := by decide +kernel
theorem inX11 : ∀ w ∈ u_ws RX11 TX11 9, w ∈ tb := by decide +kernel
abbrev rmX0_connect : Room := { frames := 6, cells := 0, slots := 0, locals := 138 }
abbrev rmX0_isReached : Room := { frames := 0, cells := 0, slots := 0, locals := 0 }
abbrev rmX0_reach : Room := { frames := 2, cells := 0, slots := 0, locals := 42 }
abbrev rmX0_goThrough : Room := { frames := 5, cells := 0, slots := 0, locals := 113 }
abbrev rmX0_follow : Room := { frames := 4, cells := 0, slots := 0, locals := 89 }
abbrev rmX0_findName : Room := { frames := 4, cells := 0, slots := 0, locals := 93 }
abbrev rmX0_putAway : Room := { frames := 4, cells := 0, slots := 0, locals := 92 }
abbrev rmX1_entryCount : Room := { frames := 2, cells := 0, slots := 0, locals := 42 }
abbrev rmX1_entryPlace : Room := { frames := 2, cells := 0, slots := 0, locals := 46 }
abbrev rmX1_seek : Room := { frames := 3, cells := 0, slots := 0, locals := 68 }
abbrev rmX1_isNamed : Room := { frames := 1, cells := 0, slots := 0, locals := 21 }
abbrev rmX1_writeEntry : Room := { frames := 3, cells := 0, slots := 0, locals := 68 }
abbrev rmX1_wipeEntry : Room := { frames := 3, cells := 0, slots := 0, locals := 68 }
abbrev rmX1_writeDots : Room := { frames := 6, cells := 0, slots := 0, locals := 128 }
abbrev rmX1_setParent : Room := { frames := 2, cells := 0, slots := 0, locals := 46 }
abbrev rmX1_begin : Room := { frames := 7, cells := 0, slots := 0, locals := 150 }
abbrev rmX1_roomIn : Room := { frames := 5, cells := 0, slots := 0, locals := 114 }
abbrev rmX1_isEmpty : Room := { frames := 3, cells := 0, slots := 0, locals := 68 }
abbrev rmX1_tidy : Room := { frames := 7, cells := 0, slots := 0, locals := 150 }
abbrev rmX1_isValid : Room := { frames := 4, cells := 0, slots := 0, locals := 93 }
abbrev rmX1_wipeEntriesOf : Room := { frames := 4, cells := 0, slots := 0, locals := 89 }
abbrev rmX1_countLinks : Room := { frames := 3, cells := 0, slots := 0, locals := 68 }
abbrev rmX1_countLink : Room := { frames := 2, cells := 0, slots := 0, locals := 44 }
abbrev rmX2_at : Room := { frames := 0, cells := 0, slots := 0, locals := 0 }
abbrev rmX2_set : Room := { frames := 0, cells := 0, slots := 0, locals := 0 }
abbrev rmX2_pairAt : Room := { frames := 0, cells := 0, slots := 0, locals := 0 }
abbrev rmX2_setPair : Room := { frames := 0, cells := 0, slots := 0, locals := 0 }
abbrev rmX2_hasText : Room := { frames := 5, cells := 0, slots := 0, locals := 106 }
abbrev rmX2_setText : Room := { frames := 5, cells := 0, slots := 0, locals := 106 }
abbrev rmX2_wipe : Room := { frames := 2, cells := 0, slots := 0, locals := 46 }
abbrev rmX2_isBlank : Room := { frames := 1, cells := 0, slots := 0, locals := 21 }
abbrev rmX2_sum : Room := { frames := 1, cells := 0, slots := 0, locals := 21 }
abbrev rmX2_isRange : Room := { frames := 0, cells := 0, slots := 0, locals := 0 }
abbrev rmX2_copyBlock : Room := { frames := 1, cells := 0, slots := 0, locals := 40 }
abbrev rmX2_copyAll : Room := { frames := 1, cells := 0, slots := 0, locals := 40 }
abbrev rmX2_sameBlock : Room := { frames := 0, cells := 0, slots := 0, locals := 0 }
abbrev rmX3_keepSound : Room := { frames := 5, cells := 0, slots := 0, locals := 112 }
abbrev rmX3_hasSoundHead : Room := { frames := 3, cells := 0, slots := 0, locals := 66 }
abbrev rmX3_hasSoundSize : Room := { frames := 2, cells := 0, slots := 0, locals := 42 }
abbrev rmX3_hasBlankRest : Room := { frames := 3, cells := 0, slots := 0, locals := 63 }
abbrev rmX3_provide : Room := { frames := 8, cells := 0, slots := 0, locals := 172 }
abbrev rmX4_isNumber : Room := { frames := 0, cells := 0, slots := 0, locals := 0 }
abbrev rmX4_placeOf : Room := { frames := 0, cells := 0, slots := 0, locals := 0 }
abbrev rmX4_kind : Room := { frames := 1, cells := 0, slots := 0, locals := 21 }
abbrev rmX4_links : Room := { frames := 1, cells := 0, slots := 0, locals := 21 }
abbrev rmX4_size : Room := { frames := 1, cells := 0, slots := 0, locals := 21 }
abbrev rmX4_setLinks : Room := { frames := 1, cells := 0, slots := 0, locals := 22 }
abbrev rmX4_setSize : Room := { frames := 1, cells := 0, slots := 0, locals := 22 }
abbrev rmX4_rightSum : Room := { frames := 2, cells := 0, slots := 0, locals := 45 }
abbrev rmX4_writeSum : Room := { frames := 3, cells := 0, slots := 0, locals := 66 }
abbrev rmX4_blockCount : Room := { frames := 2, cells := 0, slots := 0, locals := 42 }
abbrev rmX4_contentPlace : Room := { frames := 1, cells := 0, slots := 0, locals := 21 }
abbrev rmX4_blocksOf : Room := { frames := 3, cells := 0, slots := 0, locals := 63 }
abbrev rmX4_withBlock : Room := { frames := 1, cells := 0, slots := 0, locals := 20 }
abbrev rmX4_taken : Room := { frames := 0, cells := 0, slots := 0, locals := 0 }
abbrev rmX4_forgetTaken : Room := { frames := 0, cells := 0, slots := 0, locals := 0 }
abbrev rmX4_takeBlocks : Room := { frames := 4, cells := 0, slots := 0, locals := 89 }
abbrev rmX4_firstFree : Room := { frames := 2, cells := 0, slots := 0, locals := 42 }
abbrev rmX4_hasFreeBlock : Room := { frames := 1, cells := 0, slots := 0, locals := 21 }
abbrev rmX4_takeFreeBlock : Room := { frames := 3, cells := 0, slots := 0, locals := 68 }
abbrev rmX4_begin : Room := { frames := 1, cells := 0, slots := 0, locals := 22 }
abbrev rmX4_addBlock : Room := { frames := 4, cells := 0, slots := 0, locals := 89 }
abbrev rmX4_erase : Room := { frames := 4, cells := 0, slots := 0, locals := 89 }
abbrev rmX4_wipe : Room := { frames := 3, cells := 0, slots := 0, locals := 68 }
abbrev rmX5_write : Room := { frames := 6, cells := 0, slots := 0, locals := 129 }
abbrev rmX5_writeSum : Room := { frames := 3, cells := 0, slots := 0, locals := 67 }
abbrev rmX5_replay : Room := { frames := 7, cells := 0, slots := 0, locals := 150 }
abbrev rmX5_isGood : Room := { frames := 6, cells := 0, slots := 0, locals := 129 }
abbrev rmX5_hasGoodTargets : Room := { frames := 1, cells := 0, slots := 0, locals := 21 }
abbrev rmX5_rightSum : Room := { frames := 2, cells := 0, slots := 0, locals := 45 }
abbrev rmX6_length : Room := { frames := 0, cells := 0, slots := 0, locals := 0 }
abbrev rmX6_at : Room := { frames := 0, cells := 0, slots := 0, locals := 0 }
abbrev rmX6_add : Room := { frames := 0, cells := 0, slots := 0, locals := 0 }
abbrev rmX6_spell : Room := { frames := 5, cells := 0, slots := 0, locals := 106 }
abbrev rmX6_unpack : Room := { frames := 1, cells := 0, slots := 0, locals := 21 }
abbrev rmX6_load : Room := { frames := 1, cells := 0, slots := 0, locals := 21 }
abbrev rmX6_number : Room := { frames := 1, cells := 0, slots := 0, locals := 21 }
abbrev rmX6_isAllowed : Room := { frames := 1, cells := 0, slots := 0, locals := 21 }
abbrev rmX7_plan : Room := { frames := 9, cells := 0, slots := 0, locals := 194 }
abbrev rmX7_settle : Room := { frames := 7, cells := 0, slots := 0, locals := 153 }
abbrev rmX7_writeMaps : Room := { frames := 3, cells := 0, slots := 0, locals := 68 }
abbrev rmX7_markUsed : Room := { frames := 1, cells := 0, slots := 0, locals := 22 }
abbrev rmX7_countDiffering : Room := { frames := 1, cells := 0, slots := 0, locals := 24 }
abbrev rmX7_writeBlocks : Room := { frames := 2, cells := 0, slots := 0, locals := 63 }
abbrev rmX7_keepPlan : Room := { frames := 8, cells := 0, slots := 0, locals := 175 }
abbrev rmX8_isGood : Room := { frames := 6, cells := 0, slots := 0, locals := 129 }
abbrev rmX8_write : Room := { frames := 6, cells := 0, slots := 0, locals := 129 }
abbrev rmX8_writeSum : Room := { frames := 2, cells := 0, slots := 0, locals := 45 }
abbrev rmX9_create : Room := { frames := 8, cells := 0, slots := 0, locals := 172 }
abbrev rmX9_addEntry : Room := { frames := 7, cells := 0, slots := 0, locals := 162 }
abbrev rmX9_mayEnter : Room := { frames := 4, cells := 0, slots := 0, locals := 93 }
abbrev rmX9_enter : Room := { frames := 6, cells := 0, slots := 0, locals := 138 }
abbrev rmX9_lengthen : Room := { frames := 5, cells := 0, slots := 0, locals := 114 }
abbrev rmX9_removeEntry : Room := { frames := 5, cells := 0, slots := 0, locals := 110 }
abbrev rmX10_format : Room := { frames := 10, cells := 0, slots := 0, locals := 215 }
abbrev rmX10_poke : Room := { frames := 1, cells := 0, slots := 0, locals := 22 }
abbrev rmX10_peek : Room := { frames := 1, cells := 0, slots := 0, locals := 21 }
abbrev rmX10_seal : Room := { frames := 4, cells := 0, slots := 0, locals := 87 }
abbrev rmX10_commit : Room := { frames := 7, cells := 0, slots := 0, locals := 153 }
abbrev rmX10_check : Room := { frames := 10, cells := 0, slots := 0, locals := 215 }
abbrev rmX10_repair : Room := { frames := 10, cells := 0, slots := 0, locals := 215 }
abbrev rmX10_inode : Room := { frames := 2, cells := 0, slots := 0, locals := 42 }
abbrev rmX10_read : Room := { frames := 2, cells := 0, slots := 0, locals := 46 }
abbrev rmX10_find : Room := { frames := 4, cells := 0, slots := 0, locals := 93 }
abbrev rmX10_make : Room := { frames := 10, cells := 0, slots := 0, locals := 215 }
abbrev rmX10_append : Room := { frames := 10, cells := 0, slots := 0, locals := 215 }
abbrev rmX10_link : Room := { frames := 10, cells := 0, slots := 0, locals := 215 }
abbrev rmX10_unlink : Room := { frames := 10, cells := 0, slots := 0, locals := 215 }
abbrev rmX10_isPlace : Room := { frames := 0, cells := 0, slots := 0, locals := 0 }
abbrev rmX10_isByte : Room := { frames := 0, cells := 0, slots := 0, locals := 0 }
abbrev rmX10_isDataBlock : Room := { frames := 0, cells := 0, slots := 0, locals := 0 }
abbrev rmX11_two : Room := { frames := 0, cells := 0, slots := 0, locals := 0 }
abbrev rmX11_put : Room := { frames := 0, cells := 0, slots := 0, locals := 0 }
abbrev rmX11_sum : Room := { frames := 0, cells := 0, slots := 0, locals := 0 }
abbrev rmX11_clear : Room := { frames := 0, cells := 0, slots := 0, locals := 0 }
abbrev rmX11_isClear : Room := { frames := 0, cells := 0, slots := 0, locals := 0 }
abbrev rmX11_has : Room := { frames := 0, cells := 0, slots := 0, locals := 0 }
abbrev rmX11_load : Room := { frames := 0, cells := 0, slots := 0, locals := 0 }
abbrev rmX11_store : Room := { frames := 0, cells := 0, slots := 0, locals := 0 }
abbrev rmX11_isSuper : Room := { frames := 1, cells := 0, slots := 0, locals := 25 }
abbrev rmX11_base : Room := { frames := 0, cells := 0, slots := 0, locals := 0 }
abbrev rmX11_kind : Room := { frames := 1, cells := 0, slots := 0, locals := 20 }
abbrev rmX11_size : Room := { frames := 1, cells := 0, slots := 0, locals := 21 }
abbrev rmX11_blocks : Room := { frames := 2, cells := 0, slots := 0, locals := 42 }
abbrev rmX11_block : Room := { frames := 1, cells := 0, slots := 0, locals := 20 }
abbrev rmX11_mark : Room := { frames := 0, cells := 0, slots := 0, locals := 0 }
abbrev rmX11_isSound : Room := { frames := 3, cells := 0, slots := 0, locals := 63 }
abbrev rmX11_free : Room := { frames := 3, cells := 0, slots := 0, locals := 63 }
abbrev rmX11_places : Room := { frames := 2, cells := 0, slots := 0, locals := 42 }
abbrev rmX11_entry : Room := { frames := 2, cells := 0, slots := 0, locals := 42 }
abbrev rmX11_write : Room := { frames := 1, cells := 0, slots := 0, locals := 23 }
abbrev rmX11_dots : Room := { frames := 0, cells := 0, slots := 0, locals := 0 }
abbrev rmX11_isName : Room := { frames := 0, cells := 0, slots := 0, locals := 0 }
abbrev rmX11_find : Room := { frames := 3, cells := 0, slots := 0, locals := 64 }
abbrev rmX11_isValid : Room := { frames := 4, cells := 0, slots := 0, locals := 87 }
abbrev rmX11_lostName : Room := { frames := 5, cells := 0, slots := 0, locals := 106 }
abbrev rmX11_replay : Room := { frames := 1, cells := 0, slots := 0, locals := 25 }
abbrev rmX11_inodes : Room := { frames := 5, cells := 0, slots := 0, locals := 109 }
abbrev rmX11_make : Room := { frames := 4, cells := 0, slots := 0, locals := 86 }
abbrev rmX11_directory : Room := { frames := 1, cells := 0, slots := 0, locals := 23 }
abbrev rmX11_entries : Room := { frames := 6, cells := 0, slots := 0, locals := 128 }
abbrev rmX11_reach : Room := { frames := 2, cells := 0, slots := 0, locals := 41 }
abbrev rmX11_go : Room := { frames := 3, cells := 0, slots := 0, locals := 64 }
abbrev rmX11_connect : Room := { frames := 6, cells := 0, slots := 0, locals := 134 }
abbrev rmX11_lostNameOf : Room := { frames := 4, cells := 0, slots := 0, locals := 87 }
abbrev rmX11_grow : Room := { frames := 4, cells := 0, slots := 0, locals := 86 }
abbrev rmX11_putEntry : Room := { frames := 5, cells := 0, slots := 0, locals := 111 }
abbrev rmX11_drop : Room := { frames := 3, cells := 0, slots := 0, locals := 64 }
abbrev rmX11_count : Room := { frames := 3, cells := 0, slots := 0, locals := 64 }
abbrev rmX11_finish : Room := { frames := 4, cells := 0, slots := 0, locals := 88 }
abbrev rmX11_superAt : Room := { frames := 1, cells := 0, slots := 0, locals := 24 }
abbrev rmX11_passes : Room := { frames := 7, cells := 0, slots := 0, locals := 155 }
abbrev rmX11_differs : Room := { frames := 0, cells := 0, slots := 0, locals := 0 }
abbrev rmX11_written : Room := { frames := 1, cells := 0, slots := 0, locals := 23 }
abbrev rmX11_format : Room := { frames := 9, cells := 0, slots := 0, locals := 196 }
abbrev rmX11_poke : Room := { frames := 0, cells := 0, slots := 0, locals := 0 }
abbrev rmX11_peek : Room := { frames := 0, cells := 0, slots := 0, locals := 0 }
abbrev rmX11_seal : Room := { frames := 1, cells := 0, slots := 0, locals := 24 }
abbrev rmX11_commit : Room := { frames := 2, cells := 0, slots := 0, locals := 46 }
abbrev rmX11_check : Room := { frames := 8, cells := 0, slots := 0, locals := 175 }
abbrev rmX11_repair : Room := { frames := 8, cells := 0, slots := 0, locals := 175 }
abbrev rmX11_inode : Room := { frames := 1, cells := 0, slots := 0, locals := 20 }
abbrev rmX11_read : Room := { frames := 2, cells := 0, slots := 0, locals := 43 }
abbrev rmX11_nameOf : Room := { frames := 0, cells := 0, slots := 0, locals := 0 }
abbrev rmX11_find_ : Room := { frames := 3, cells := 0, slots := 0, locals := 67 }
abbrev rmX11_mayPut : Room := { frames := 9, cells := 0, slots := 0, locals := 195 }
abbrev rmX11_make_ : Room := { frames := 10, cells := 0, slots := 0, locals := 221 }
abbrev rmX11_append : Room := { frames := 9, cells := 0, slots := 0, locals := 195 }
abbrev rmX11_link : Room := { frames := 10, cells := 0, slots := 0, locals := 221 }
abbrev rmX11_unlink : Room := { frames := 9, cells := 0, slots := 0, locals := 195 }
abbrev rmJ13_bitCount_95d88 : Room := { frames := 0, cells := 0, slots := 0, locals := 0 }
abbrev rmJ9_min_7cf53 : Room := { frames := 0, cells := 0, slots := 0, locals := 0 }
abbrev rmJ0_length_8abf5 : Room := { frames := 1, cells := 0, slots := 0, locals := 20 }
abbrev rmJ0_charAt_5068e : Room := { frames := 4, cells := 0, slots := 0, locals := 85 }
abbrev rmJ0_coder_7d493 : Room := { frames := 0, cells := 0, slots := 0, locals := 0 }
abbrev rmJ0_isLatin1_aae02 : Room := { frames := 0, cells := 0, slots := 0, locals := 0 }
abbrev rmJ0_checkIndex_df160 : Room := { frames := 1, cells := 0, slots := 0, locals := 22 }
abbrev rmJ1_charAt_3b067 : Room := { frames := 2, cells := 0, slots := 0, locals := 43 }
abbrev rmJ2_getChar_3b067 : Room := { frames := 1, cells := 0, slots := 0, locals := 20 }
abbrev rmJ2_length_9d52b : Room := { frames := 0, cells := 0, slots := 0, locals := 0 }
abbrev rmJ2_charAt_3b067 : Room := { frames := 3, cells := 0, slots := 0, locals := 64 }
abbrev rmJ2_checkIndex_2214a : Room := { frames := 2, cells := 0, slots := 0, locals := 43 }
abbrev rmJ7_rangeCheck_23922 : Room := { frames := 0, cells := 0, slots := 0, locals := 0 }
abbrev rmJ7_fill_fda19 : Room := { frames := 1, cells := 0, slots := 0, locals := 22 }
abbrev rmJ3_checkIndex_8e157 : Room := { frames := 0, cells := 0, slots := 0, locals := 0 }
end
section
/-! WHAT AN IMAGE'S METHODS MEAN -/
theorem up_mod (d : Im) (a v : Int) : up d a (v % 256) = up d a v := by
  apply Subtype.ext; funext j; simp only [up]; rw [Int.emod_emod]
theorem iI_shr {a : Int} (h : -2147483648 ≤ a ∧ a < 2147483648) (s : Int32) (k : Nat) (hs : (s.toBitVec.smod 32).toNat = k) : iI a >>> s = iI (a / 2 ^ k) := by
  have h1 := pk_shr (iI a) s k hs
  rw [iI_toInt h] at h1
  rw [← iI_of (iI a >>> s), h1, Int.shiftRight_eq_div_pow]
  simp
def clr (d : Im) (p n : Int) : Im := ⟨fun j => if p ≤ j ∧ j < p + n then 0 else d.1 j, fun j => by
  show 0 ≤ (if p ≤ j ∧ j < p + n then 0 else d.1 j) ∧ (if p ≤ j ∧ j < p + n then 0 else d.1 j) < 256
  have := d.2 j
  split <;> omega⟩
def im_at (d : Im) (p : Int) : Int := if 0 ≤ p ∧ p < 4096 then d.1 p else 0
theorem im_at_rg (d : Im) (p : Int) : 0 ≤ im_at d p ∧ im_at d p < 256 := by
  unfold im_at; have := d.2 p; split <;> omega
def im_set (d : Im) (p v : Int) : Im := if 0 ≤ p ∧ p < 4096 then up d p v else d
def im_two (d : Im) (p : Int) : Int := if 0 ≤ p ∧ p < 4095 then d.1 p * 256 + d.1 (p + 1) else 0
theorem im_two_rg (d : Im) (p : Int) : 0 ≤ im_two d p ∧ im_two d p < 65536 := by
  unfold im_two; have := d.2 p; have := d.2 (p + 1); split <;> omega
def im_put (d : Im) (p v : Int) : Im := if 0 ≤ p ∧ p < 4095 then up (up d p (v / 256)) (p + 1) v else d
/-- places p .. p + n - 1 lie on the disk -/
abbrev rgP (p n : Int) : Prop := 0 ≤ p ∧ p ≤ 4096 ∧ 0 ≤ n ∧ n ≤ 4096 - p
def im_wipe (d : Im) (p n : Int) : Im := if rgP p n then clr d p n else d
def blk (d : Im) (p : Int) : Nat → Bool
  | 0 => true
  | n + 1 => blk d p n && decide (d.1 (p + n) = 0)
theorem blk_iff (d : Im) (p : Int) : ∀ n : Nat, blk d p n = true ↔ ∀ j, p ≤ j → j < p + n → d.1 j = 0
  | 0 => by simp only [blk, true_iff]; intro j h1 h2; omega
  | n + 1 => by
    rw [blk, Bool.and_eq_true, blk_iff d p n, decide_eq_true_iff]
    constructor
    · rintro ⟨h1, h2⟩ j h3 h4
      by_cases h : j < p + n
      · exact h1 j h3 h
      · rw [show j = p + n by omega]; exact h2
    · intro h
      exact ⟨fun j h1 h2 => h j h1 (by omega), h _ (by omega) (by omega)⟩
def im_blank (d : Im) (p n : Int) : Bool := if rgP p n then blk d p n.toNat else true
def sm (d : Im) (p : Int) : Nat → Int
  | 0 => 0
  | n + 1 => sm d p n + d.1 (p + n)
theorem sm_rg (d : Im) (p : Int) : ∀ n : Nat, 0 ≤ sm d p n ∧ sm d p n ≤ 255 * n
  | 0 => by simp [sm]
  | n + 1 => by
    have h1 := sm_rg d p n
    have h2 := d.2 (p + n)
    simp only [sm]
    omega
theorem sm_next (d : Im) (p i : Int) (h : p ≤ i) : sm d p (i - p).toNat + d.1 i = sm d p (i + 1 - p).toNat := by
  rw [show (i + 1 - p).toNat = (i - p).toNat + 1 by omega, sm, show p + ((i - p).toNat : Int) = i by omega]
def im_sum (d : Im) (p n : Int) : Int := if rgP p n then sm d p n.toNat % 65536 else 0
theorem im_sum_rg (d : Im) (p n : Int) : 0 ≤ im_sum d p n ∧ im_sum d p n < 65536 := by
  unfold im_sum; split <;> omega
/-- two images are the same at n places from p on -/
def sam (d e : Im) (p : Int) : Nat → Bool
  | 0 => true
  | n + 1 => sam d e p n && decide (d.1 (p + n) = e.1 (p + n))
theorem sam_iff (d e : Im) (p : Int) : ∀ n : Nat, sam d e p n = true ↔ ∀ j, p ≤ j → j < p + n → d.1 j = e.1 j
  | 0 => by simp only [sam, true_iff]; intro j h1 h2; omega
  | n + 1 => by
    rw [sam, Bool.and_eq_true, sam_iff d e p n, decide_eq_true_iff]
    constructor
    · rintro ⟨h1, h2⟩ j h3 h4
      by_cases h : j < p + n
      · exact h1 j h3 h
      · rw [show j = p + n by omega]; exact h2
    · intro h
      exact ⟨fun j h1 h2 => h j h1 (by omega), h _ (by omega) (by omega)⟩
def im_same (d e : Im) (b : Int) : Bool := if 0 ≤ b ∧ b < 64 then sam d e (b * 64) 64 else true
theorem clr_next (d : Im) (p i : Int) (h : p ≤ i) : up (clr d p (i - p)) i 0 = clr d p (i + 1 - p) := by
  apply Subtype.ext; funext j
  show (if j = i then (0 : Int) % 256 else if p ≤ j ∧ j < p + (i - p) then 0 else d.1 j) = if p ≤ j ∧ j < p + (i + 1 - p) then 0 else d.1 j
  by_cases hj : j = i
  · rw [if_pos hj, if_pos (by omega)]; rfl
  · rw [if_neg hj]
    by_cases h2 : p ≤ j ∧ j < p + (i - p)
    · rw [if_pos h2, if_pos (by omega)]
    · rw [if_neg h2, if_neg (by omega)]
end
section
/-! TEXTS: the literals' own rows; arraycopy; Math.min -/
def txL : List (List Int) := [[83, 70, 83, 75], [74, 82, 78, 76], [46], [46, 46], [108, 111, 115, 116, 43, 102, 111, 117, 110, 100]]
/-- how long a literal is, its char at a place -/
def tn (t : Nat) : Int := ((txL.getD t []).length : Int)
def tx (t : Nat) (i : Int) : Int := (txL.getD t []).getD i.toNat 0
theorem tn_ok : ∀ t, t < 5 → (stL.getD t 0 : Int) = tn t := by decide
theorem tn_rg : ∀ t, t < 5 → 1 ≤ tn t ∧ tn t ≤ 10 := by decide
theorem tx_ok0 : ∀ t, t < 5 → ∀ j, j < stL.getD t 0 → (stB.getD t []).getD j 0 = iI ((txL.getD t []).getD j 0) := by decide +kernel
theorem tx_rg0 : ∀ t, t < 5 → ∀ j, j < 11 → 0 ≤ (txL.getD t []).getD j 0 ∧ (txL.getD t []).getD j 0 < 128 := by decide +kernel
theorem tx_rg {t : Nat} {i : Int} (ht : t < 5) (h : 0 ≤ i ∧ i < tn t) : 0 ≤ tx t i ∧ tx t i < 128 := by
  have := tn_rg t ht
  exact tx_rg0 t ht i.toNat (by omega)
section TX
variable {G : GX} {k : KX} {cc : ByteArray} {own : String} {R : Room} {nL ce sl pc pc2 : Nat} {ws : va_W} {lv : List (Nat × Value)} {st : List Value} {idx t : Nat}
theorem w_getsC (C : Cx G k cc own nL R) (i : Nat) (hd : Dc cc pc (.getstatic idx) 3 pc2) (hw : lw_tbl[i]? = some (.fieldLink own idx "java/lang/String" "COMPACT_STRINGS" "Z")) (kk : Wd G k nL ce sl ws pc2 lv (.int (iI 1) :: st)) : Wd G k nL ce sl ws pc lv st := by
  obtain ⟨hd, rfl⟩ := hd
  exact fun H locs ls hP hD hS hl => va_gets C.1 C.2.1 C.2.2.2.2.2.2.2.1.2.1 hS C.2.2.2.1 (C.2.2.2.2.1 _ (tb_in i hw rfl)) (fun _ h => h) hd (kk H locs ls hP hD hS hl)
theorem w_getsQ (C : Cx G k cc own nL R) (i : Nat) (hd : Dc cc pc (.getstatic idx) 3 pc2) (hw : lw_tbl[i]? = some (.fieldLink own idx "jdk/internal/util/Preconditions" "SIOOBE_FORMATTER" "Ljava/util/function/BiFunction;")) (k0 : Wd G k nL ce sl ws pc2 lv (.null :: st)) (k1 : ∀ a : Nat, Wd G k nL ce sl ws pc2 lv (.ref a :: st)) : Wd G k nL ce sl ws pc lv st := by
  obtain ⟨hd, rfl⟩ := hd
  intro H locs ls hP hD hS hl
  rcases C.2.2.2.2.2.2.2.1.2.2.1 with h | ⟨a, h⟩
  · exact va_gets C.1 C.2.1 h hS C.2.2.2.1 (C.2.2.2.2.1 _ (tb_in i hw rfl)) (fun _ h => h) hd (k0 H locs ls hP hD hS hl)
  · exact va_gets C.1 C.2.1 h hS C.2.2.2.1 (C.2.2.2.2.1 _ (tb_in i hw rfl)) (fun _ h => h) hd (k1 a H locs ls hP hD hS hl)
theorem w_sgetC (C : Cx G k cc own nL R) (i : Nat) (ht : t < 5) (hd : Dc cc pc (.getfield idx) 3 pc2) (hw : lw_tbl[i]? = some (.fieldLink own idx "java/lang/String" "coder" "B")) (kk : Wd G k nL ce sl ws pc2 lv (.int (iI 0) :: st)) : Wd G k nL ce sl ws pc lv (.ref (gK G t) :: st) := by
  obtain ⟨hd, rfl⟩ := hd
  exact fun H locs ls hP hD hS hl => vk_getf C.1 C.2.1 (C.2.2.2.2.2.2.2.1.1.1 t ht).2.1 hS C.2.2.2.1 (C.2.2.2.2.1 _ (tb_in i hw rfl)) (fun _ h => h) hd (kk H locs ls hP hD hS hl)
theorem w_sgetV (C : Cx G k cc own nL R) (i : Nat) (ht : t < 5) (hd : Dc cc pc (.getfield idx) 3 pc2) (hw : lw_tbl[i]? = some (.fieldLink own idx "java/lang/String" "value" "[B")) (kk : Wd G k nL ce sl ws pc2 lv (.ref (gV G t) :: st)) : Wd G k nL ce sl ws pc lv (.ref (gK G t) :: st) := by
  obtain ⟨hd, rfl⟩ := hd
  exact fun H locs ls hP hD hS hl => vk_getf C.1 C.2.1 (C.2.2.2.2.2.2.2.1.1.1 t ht).2.2.1 hS C.2.2.2.1 (C.2.2.2.2.1 _ (tb_in i hw rfl)) (fun _ h => h) hd (kk H locs ls hP hD hS hl)
theorem w_slen (C : Cx G k cc own nL R) (ht : t < 5) (hd : Dc cc pc (.arraylength) 1 pc2) (kk : Wd G k nL ce sl ws pc2 lv (.int (iI (tn t)) :: st)) : Wd G k nL ce sl ws pc lv (.ref (gV G t) :: st) := by
  obtain ⟨hd, rfl⟩ := hd
  exact fun H locs ls hP hD hS hl => va_tlen C.1 C.2.1 (C.2.2.2.2.2.2.2.1.1.1 t ht).2.2.2 hS (by rw [iI_nat, tn_ok t ht]) hd (kk H locs ls hP hD hS hl)
theorem w_sbald (C : Cx G k cc own nL R) {z : Int} (ht : t < 5) (hz : 0 ≤ z ∧ z < tn t) (hd : Dc cc pc (.baload) 1 pc2) (kk : Wd G k nL ce sl ws pc2 lv (.int (iI (tx t z)) :: st)) : Wd G k nL ce sl ws pc lv (.int (iI z) :: .ref (gV G t) :: st) := by
  obtain ⟨hd, rfl⟩ := hd
  have h1 := tn_ok t ht
  have h2 := tn_rg t ht
  have hz2 : R32 z := ⟨by omega, by omega⟩
  exact fun H locs ls hP hD hS hl => va_tb C.1 C.2.1 (C.2.2.2.2.2.2.2.1.1.1 t ht).2.2.2 hS (iI_in hz.1 (by omega) hz2) (by
    show Value.int _ = _
    rw [iI_clamp hz.1 hz2, tx_ok0 t ht z.toNat (by omega)]
    rfl) hd (kk H locs ls hP hD hS hl)
theorem w_ldcS (C : Cx G k cc own nL R) {tt : String} {a : Nat} (hd : Dc cc pc (.ldc idx) 2 pc2) (hR : vk_R own idx tt a (ks k)) (kk : Wd G k nL ce sl ws pc2 lv (.ref a :: st)) : Wd G k nL ce sl ws pc lv st := by
  obtain ⟨hd, rfl⟩ := hd
  exact fun H locs ls hP hD hS hl => va_ldcS C.1 C.2.1 C.2.2.2.1 hR hd (kk H locs ls hP hD hS hl)
variable {wc w0 w2 ws' : va_W} {rest As : List Value} {y : MethodName} {bytes : ByteArray} {maxL n i1 i2 i3 i4 i5 : Nat} {ret : Option FieldType} {rm : Room} {v0 : Option Value}
/-- a call of a literal's own method, that changes nothing -/
theorem w_callT (C : Cx G k cc own nL R) (ht : t < 5) (hM : Ct G (kl k) y bytes maxL ret rm (.ref (gK G t) :: As) [] v0 []) (hw : cwv own idx y bytes maxL ret n i1 i2 i3 i4 i5) (hd : Dc cc pc (.invokevirtual idx) 3 pc2) (ho : "java/lang/String" = y.cls) (hst : st = As.reverse ++ .ref (gK G t) :: rest) (hn : As.length = n) (hcat : (rest.map fun v => v.category).sum ≤ 8)
    (hR : rm.frames + 1 ≤ R.frames ∧ 8 + (maxL + 11) + rm.locals ≤ R.locals ∧ ce + rm.cells ≤ R.cells ∧ sl + rm.slots ≤ R.slots) {st2 : List Value} (hs2 : v0.toList ++ rest = st2) (kk : Wd G k nL (ce + rm.cells) (sl + rm.slots) ws pc2 lv st2) : Wd G k nL ce sl ws pc lv st := by
  intro H locs ls hP hD hS hl
  obtain ⟨⟨w1, w2, w3, w4, w5⟩, hd1, hd2, hd3⟩ := hw
  obtain ⟨hdg, rfl⟩ := hd
  subst hst
  have hRk := C.2.2.2.2.2.2.2.2
  have htb := C.2.2.2.2.1
  refine w_run (ws := []) C hP hD hS hl [] rfl (va_runV (Ts := tb) (C := y.cls) ⟨C.1, C.2.1, C.2.2.1, C.2.2.2.1, htb⟩ (hM H.size) ⟨callB_of n htb (tb_code w5) rfl rfl rfl (htb _ (tb_in _ w4 rfl)) (htb _ (tb_in _ w1 rfl)) ⟨hd1, hd2, hd3⟩ ⟨by rw [show k.1.2.2.2.1 = R from hRk]; exact hR.1, by rw [show k.1.2.2.2.1 = R from hRk]; exact hR.2.1⟩, htb _ (tb_in _ w2 rfl), htb _ (tb_in _ w3 rfl)⟩ ⟨CtP_blind, ?_, fun U hU hW => ct_at C hP hD hS [] rfl (by decide) hU hW⟩ rfl hn hl.1 rfl (lv_room hcat) hdg ⟨by rw [show k.1.2.2.2.1 = R from hRk]; exact hR.2.2.1, by rw [show k.1.2.2.2.1 = R from hRk]; exact hR.2.2.2⟩) (fun v ws' h => by rw [h.2]) (fun v ws' h => by rw [h.1, h.2, hs2]; exact kk)
  have h := vk_recv C.2.2.2.2.2.2.2.1.1 ht hS
  rw [ho] at h
  exact h
/-- bytes copied: from the image d into e -/
def cpy (d e : Im) (sp dp n : Int) : Im := ⟨fun j => if dp ≤ j ∧ j < dp + n then d.1 (sp + (j - dp)) else e.1 j, fun j => by
  show 0 ≤ (if dp ≤ j ∧ j < dp + n then d.1 (sp + (j - dp)) else e.1 j) ∧ (if dp ≤ j ∧ j < dp + n then d.1 (sp + (j - dp)) else e.1 j) < 256
  have := d.2 (sp + (j - dp))
  have := e.2 j
  split <;> omega⟩
theorem cpy_ar (d e : Im) {sp dp n : Int} (h1 : 0 ≤ sp) (h2 : 0 ≤ dp) (h3 : 0 ≤ n) : va_cpy (arI d) (arI e) sp.toNat dp.toNat n.toNat = arI (cpy d e sp dp n) := by
  funext j
  simp only [va_cpy, arI, cpy]
  by_cases h : dp.toNat ≤ j ∧ j < dp.toNat + n.toNat
  · rw [if_pos h, if_pos (by omega), show ((sp.toNat + (j - dp.toNat) : Nat) : Int) = sp + (j - dp) by omega]
  · rw [if_neg h, if_neg (by omega)]
theorem w_copy (C : Cx G k cc own nL R) {a a0 n0 n1 : Nat} {d e : Im} {sp dp n : Int} {ws2 : va_W} (i q0 q1 : Nat) (hd : Dc cc pc (.invokestatic idx) 3 pc2) (hw : lw_tbl[i]? = some (.methodLink own idx arraycopyName)) (ha0 : ws[q0]? = some (a0, .inl (gI G, n0, .inl (arI d)))) (ha1 : ws[q1]? = some (a, .inl (gI G, n1, .inl (arI e)))) (hr : 0 ≤ sp ∧ 0 ≤ dp ∧ 0 ≤ n ∧ sp + n ≤ n0 ∧ dp + n ≤ n1 ∧ n0 < 2147483648 ∧ n1 < 2147483648) (hR : 1 ≤ R.frames ∧ (st.map fun v => v.category).sum + 32 ≤ R.locals) (h2 : ws.set q1 (a, .inl (gI G, n1, .inl (arI (cpy d e sp dp n)))) = ws2) (kk : Wd G k nL ce sl ws2 pc2 lv st) : Wd G k nL ce sl ws pc lv (.int (iI n) :: .int (iI dp) :: .ref a :: .int (iI sp) :: .ref a0 :: st) := by
  obtain ⟨hd, rfl⟩ := hd
  subst h2
  have ht := C.2.2.2.2.1
  have hRk := C.2.2.2.2.2.2.2.2
  have rs : R32 sp := ⟨by omega, by omega⟩
  have rd : R32 dp := ⟨by omega, by omega⟩
  have rn : R32 n := ⟨by omega, by omega⟩
  intro H locs ls hP hD hS hl
  have w1 : (Cond.native arraycopyName) ∈ tb := by decide +kernel
  have w2 : (Cond.static arraycopyName) ∈ tb := by decide +kernel
  have w3 : (Cond.initialized "java/lang/System") ∈ tb := by decide +kernel
  refine va_copyi (ty := .int) C.1 C.2.1 (C.2.2.1.trans hl.1.symm) C.2.2.2.1 (ht _ (tb_in i hw rfl)) (ht _ w1) (ht _ w2) (ht _ w3) C.2.2.2.2.2.1 hP hD hS q0 q1 0 0 ha0 ha1 rfl rfl rfl (sp := iI sp) (dp := iI dp) (n := iI n) (by rw [iI_z, iI_lt rs R32_0]; omega) (by rw [iI_z, iI_lt rd R32_0]; omega) (by rw [iI_z, iI_lt rn R32_0]; omega) (by rw [iI_clamp hr.1 rs, iI_clamp hr.2.2.1 rn]; omega) (by rw [iI_clamp hr.2.1 rd, iI_clamp hr.2.2.1 rn]; omega) (fun i hi => rfl) (by rw [show k.1.2.2.2.1 = R from hRk]; exact hR.1) (by rw [show k.1.2.2.2.1 = R from hRk]; exact Nat.le_trans (Nat.add_le_add_left (by decide) _) hR.2) hd (fun H1 locs1 hP1 hD1 hS1 => ?_)
  rw [iI_clamp hr.1 rs, iI_clamp hr.2.1 rd, iI_clamp hr.2.2.1 rn, cpy_ar d e hr.1 hr.2.1 hr.2.2.1] at hP1 hD1
  exact kk H1 locs1 ls hP1 hD1 hS1 hl
theorem w_min (C : Cx G k cc own nL R) {a b : Int} (i : Nat) (hd : Dc cc pc (.invokestatic idx) 3 pc2) (hw : lw_tbl[i]? = some (.methodLink own idx Lib.Math.min.name)) (hr : -2147483648 ≤ a ∧ a < 2147483648 ∧ -2147483648 ≤ b ∧ b < 2147483648) (hR : 1 ≤ R.frames ∧ (st.map fun v => v.category).sum + 13 ≤ R.locals ∧ ce ≤ R.cells ∧ sl ≤ R.slots) (kk : Wd G k nL ce sl ws pc2 lv (.int (iI (min a b)) :: st)) : Wd G k nL ce sl ws pc lv (.int (iI b) :: .int (iI a) :: st) := by
  obtain ⟨hd, rfl⟩ := hd
  have ht := C.2.2.2.2.1
  have hRk := C.2.2.2.2.2.2.2.2
  intro H locs ls hP hD hS hl
  have w2 : (Cond.static Lib.Math.min.name) ∈ tb := by decide +kernel
  have w3 : (Cond.initialized "java/lang/Math") ∈ tb := by decide +kernel
  have w4 : (Cond.code Lib.Math.min.name Lib.Math.min.code 2 (some .int)) ∈ tb := by decide +kernel
  refine va_mmin C.1 C.2.1 (C.2.2.1.trans hl.1.symm) C.2.2.2.1 (ht _ (tb_in i hw rfl)) (ht _ w2) (ht _ w3) (ht _ w4) (by rw [show k.1.2.2.2.1 = R from hRk]; exact hR.1) (by rw [show k.1.2.2.2.1 = R from hRk]; exact hR.2.1) (by rw [show k.1.2.2.2.1 = R from hRk]; exact hR.2.2.1) (by rw [show k.1.2.2.2.1 = R from hRk]; exact hR.2.2.2) hd ?_
  have e : (if iI b < iI a then iI b else iI a) = iI (min a b) := by
    by_cases h : b < a
    · rw [if_pos ((iI_lt ⟨hr.2.2.1, hr.2.2.2⟩ ⟨hr.1, hr.2.1⟩).mpr h), show min a b = b by omega]
    · rw [if_neg (fun q => h ((iI_lt ⟨hr.2.2.1, hr.2.2.2⟩ ⟨hr.1, hr.2.1⟩).mp q)), show min a b = a by omega]
  rw [e]
  exact kk H locs ls hP hD hS hl
end TX
end
section
/-- a block copied; a text looked for, a text written -/
def im_cpb (e d : Im) (q r : Int) : Im := if 0 ≤ q ∧ q < 64 ∧ 0 ≤ r ∧ r < 64 then cpy e d (q * 64) (r * 64) 64 else d
def im_has (d : Im) (p : Int) (t : Nat) : Bool := (List.range (txL.getD t []).length).all (fun j => decide (im_at d (p + j) = tx t j))
theorem im_has_iff (d : Im) (p : Int) (t : Nat) : im_has d p t = true ↔ ∀ j, 0 ≤ j → j < tn t → im_at d (p + j) = tx t j := by
  unfold im_has
  rw [List.all_eq_true]
  constructor
  · intro h j h1 h2
    have := h j.toNat (List.mem_range.mpr (by unfold tn at h2; omega))
    rw [decide_eq_true_iff, Int.toNat_of_nonneg h1] at this
    exact this
  · intro h j hj
    rw [decide_eq_true_iff]
    exact h j (by omega) (by have := List.mem_range.mp hj; unfold tn; omega)
def im_txt (d : Im) (p : Int) (t : Nat) : Nat → Im
  | 0 => d
  | n + 1 => im_set (im_txt d p t n) (p + n) (tx t n)
end
section
set_option maxHeartbeats 4000000 in
set_option maxRecDepth 100000 in
theorem ct_J0_coder_7d493 (G : GX) (l : Launch) (t : Nat) (ht : t < 5) : Ct G l yJ0_coder_7d493 cJ0_coder_7d493 1 (some .byte) rmJ0_coder_7d493 [.ref (gK G t)] [] (some (.int (iI 0))) [] := by
  refine Ct.of (by decide) (Nat.le_of_ble_eq_true rfl) ?_
  intro k C hl hret
  subst hl
  refine w_lv (lv2 := [(0, .ref (gK G t))]) [0] rfl ?_
  refine w_getsC C 291 dJ0_coder_7d493_0 (by decide +kernel) ?_
  refine w_if_eq C 13 dJ0_coder_7d493_3 rfl (by omega) (fun c_1 => ?_) (fun c_1 => ?_)
  · exact absurd c_1 (by decide)
  · refine w_aload_n C 0 dJ0_coder_7d493_6 rfl ?_
    refine w_sgetC (t := t) C 1121 (by omega) dJ0_coder_7d493_7 (by decide +kernel) ?_
    refine w_goto C 14 dJ0_coder_7d493_10 rfl ?_
    exact w_reti hret dJ0_coder_7d493_14 rfl rfl rfl rfl ⟨rfl, rfl⟩

set_option maxHeartbeats 4000000 in
set_option maxRecDepth 100000 in
theorem ct_J0_isLatin1_aae02 (G : GX) (l : Launch) (t : Nat) (ht : t < 5) : Ct G l yJ0_isLatin1_aae02 cJ0_isLatin1_aae02 1 (some .boolean) rmJ0_isLatin1_aae02 [.ref (gK G t)] [] (some (.int (iI 1))) [] := by
  refine Ct.of (by decide) (Nat.le_of_ble_eq_true rfl) ?_
  intro k C hl hret
  subst hl
  refine w_lv (lv2 := [(0, .ref (gK G t))]) [0] rfl ?_
  refine w_getsC C 291 dJ0_isLatin1_aae02_0 (by decide +kernel) ?_
  refine w_if_eq C 17 dJ0_isLatin1_aae02_3 rfl (by omega) (fun c_1 => ?_) (fun c_1 => ?_)
  · exact absurd c_1 (by decide)
  · refine w_aload_n C 0 dJ0_isLatin1_aae02_6 rfl ?_
    refine w_sgetC (t := t) C 1121 (by omega) dJ0_isLatin1_aae02_7 (by decide +kernel) ?_
    refine w_if_ne C 17 dJ0_isLatin1_aae02_10 rfl (by omega) (fun c_2 => ?_) (fun c_2 => ?_)
    · exact absurd rfl c_2
    · refine w_iconst C dJ0_isLatin1_aae02_13 ?_
      refine w_goto C 18 dJ0_isLatin1_aae02_14 rfl ?_
      exact w_reti hret dJ0_isLatin1_aae02_18 rfl rfl rfl rfl ⟨rfl, rfl⟩

theorem gJ0_335 : cwv RJ0 335 yJ0_coder_7d493 cJ0_coder_7d493 1 (some .byte) 0 287 288 289 77 290 := by decide +kernel
set_option maxHeartbeats 4000000 in
set_option maxRecDepth 100000 in
theorem ct_J0_length_8abf5 (G : GX) (l : Launch) (t : Nat) (ht : t < 5) : Ct G l yJ0_length_8abf5 cJ0_length_8abf5 1 (some .int) rmJ0_length_8abf5 [.ref (gK G t)] [] (some (.int (iI (tn t)))) [] := by
  refine Ct.of (by decide) (Nat.le_of_ble_eq_true rfl) ?_
  intro k C hl hret
  subst hl
  refine w_lv (lv2 := [(0, .ref (gK G t))]) [0] rfl ?_
  refine w_aload_n C 0 dJ0_length_8abf5_0 rfl ?_
  refine w_sgetV (t := t) C 1120 (by omega) dJ0_length_8abf5_1 (by decide +kernel) ?_
  refine w_slen (t := t) C (by omega) dJ0_length_8abf5_4 ?_
  have f_1 := tn_rg t (by omega)
  refine w_aload_n C 0 dJ0_length_8abf5_5 rfl ?_
  refine w_callT (t := t) (As := []) (rest := [.int (iI (tn t))]) (st2 := [.int (iI 0), .int (iI (tn t))]) C (by omega) (ct_J0_coder_7d493 G (kl k) t (by omega)) gJ0_335 dJ0_length_8abf5_6 rfl rfl rfl (Nat.le_of_ble_eq_true rfl) (by decide) rfl ?_
  refine w_ishr (v := (iI (tn t))) C dJ0_length_8abf5_9 (by show iI (tn t) >>> ((0 : Int32) &&& 31) = iI (tn t); rw [iI_shr (by omega) _ 0 (by decide)]; simp) ?_
  exact w_reti hret dJ0_length_8abf5_10 rfl rfl rfl rfl ⟨rfl, rfl⟩

set_option maxHeartbeats 4000000 in
set_option maxRecDepth 100000 in
theorem ct_J3_checkIndex_n (G : GX) (l : Launch) (i : Int) (n : Int) (h : 0 ≤ i ∧ i < n ∧ n < 2147483648) : Ct G l yJ3_checkIndex_8e157 cJ3_checkIndex_8e157 3 (some .int) rmJ3_checkIndex_8e157 [.int (iI i), .int (iI n), .null] [] (some (.int (iI i))) [] := by
  refine Ct.of (by decide) (Nat.le_of_ble_eq_true rfl) ?_
  intro k C hl hret
  subst hl
  refine w_lv (lv2 := [(0, .int (iI i)), (1, .int (iI n)), (2, .null)]) [0, 1, 2] rfl ?_
  refine w_iload_n C 0 dJ3_checkIndex_8e157_0 rfl ?_
  refine w_if_lt C 9 dJ3_checkIndex_8e157_1 rfl (by omega) (fun c_1 => ?_) (fun c_1 => ?_)
  · omega
  · refine w_iload_n C 0 dJ3_checkIndex_8e157_4 rfl ?_
    refine w_iload_n C 1 dJ3_checkIndex_8e157_5 rfl ?_
    refine w_icmp_lt C 16 dJ3_checkIndex_8e157_6 rfl (by omega) (fun c_2 => ?_) (fun c_2 => ?_)
    · refine w_iload_n C 0 dJ3_checkIndex_8e157_16 rfl ?_
      exact w_reti hret dJ3_checkIndex_8e157_17 rfl rfl rfl rfl ⟨rfl, rfl⟩
    · omega

set_option maxHeartbeats 4000000 in
set_option maxRecDepth 100000 in
theorem ct_J3_checkIndex_r (G : GX) (l : Launch) (i : Int) (n : Int) (f : Nat) (h : 0 ≤ i ∧ i < n ∧ n < 2147483648) : Ct G l yJ3_checkIndex_8e157 cJ3_checkIndex_8e157 3 (some .int) rmJ3_checkIndex_8e157 [.int (iI i), .int (iI n), .ref f] [] (some (.int (iI i))) [] := by
  refine Ct.of (by decide) (Nat.le_of_ble_eq_true rfl) ?_
  intro k C hl hret
  subst hl
  refine w_lv (lv2 := [(0, .int (iI i)), (1, .int (iI n)), (2, .ref f)]) [0, 1, 2] rfl ?_
  refine w_iload_n C 0 dJ3_checkIndex_8e157_0 rfl ?_
  refine w_if_lt C 9 dJ3_checkIndex_8e157_1 rfl (by omega) (fun c_1 => ?_) (fun c_1 => ?_)
  · omega
  · refine w_iload_n C 0 dJ3_checkIndex_8e157_4 rfl ?_
    refine w_iload_n C 1 dJ3_checkIndex_8e157_5 rfl ?_
    refine w_icmp_lt C 16 dJ3_checkIndex_8e157_6 rfl (by omega) (fun c_2 => ?_) (fun c_2 => ?_)
    · refine w_iload_n C 0 dJ3_checkIndex_8e157_16 rfl ?_
      exact w_reti hret dJ3_checkIndex_8e157_17 rfl rfl rfl rfl ⟨rfl, rfl⟩
    · omega

theorem gJ0_1059 : cws RJ0 1059 yJ3_checkIndex_8e157 cJ3_checkIndex_8e157 3 (some .int) 3 309 310 79 311 := by decide +kernel
set_option maxHeartbeats 4000000 in
set_option maxRecDepth 100000 in
theorem ct_J0_checkIndex_df160 (G : GX) (l : Launch) (i : Int) (n : Int) (h : 0 ≤ i ∧ i < n ∧ n < 2147483648) : Ct G l yJ0_checkIndex_df160 cJ0_checkIndex_df160 2 none rmJ0_checkIndex_df160 [.int (iI i), .int (iI n)] [] none [] := by
  refine Ct.of (by decide) (Nat.le_of_ble_eq_true rfl) ?_
  intro k C hl hret
  subst hl
  refine w_lv (lv2 := [(0, .int (iI i)), (1, .int (iI n))]) [0, 1] rfl ?_
  refine w_iload_n C 0 dJ0_checkIndex_df160_0 rfl ?_
  refine w_iload_n C 1 dJ0_checkIndex_df160_1 rfl ?_
  refine w_getsQ C 307 dJ0_checkIndex_df160_2 (by decide +kernel) ?_ (fun fq => ?_)
  · refine w_callS (As := [.int (iI i), .int (iI n), .null]) (rest := []) (w2 := []) (st2 := [.int (iI i)]) C (ct_J3_checkIndex_n G (kl k) i n (by omega)) gJ0_1059 dJ0_checkIndex_df160_5 rfl rfl (Nat.le_of_ble_eq_true rfl) (by decide) [] rfl (by decide) [] rfl rfl rfl rfl ?_
    refine w_pop C dJ0_checkIndex_df160_8 rfl ?_
    exact w_retv hret dJ0_checkIndex_df160_9 rfl rfl rfl ⟨rfl, rfl⟩
  · refine w_callS (As := [.int (iI i), .int (iI n), .ref fq]) (rest := []) (w2 := []) (st2 := [.int (iI i)]) C (ct_J3_checkIndex_r G (kl k) i n fq (by omega)) gJ0_1059 dJ0_checkIndex_df160_5 rfl rfl (Nat.le_of_ble_eq_true rfl) (by decide) [] rfl (by decide) [] rfl rfl rfl rfl ?_
    refine w_pop C dJ0_checkIndex_df160_8 rfl ?_
    exact w_retv hret dJ0_checkIndex_df160_9 rfl rfl rfl ⟨rfl, rfl⟩

theorem gJ1_9 : cws RJ1 9 yJ0_checkIndex_df160 cJ0_checkIndex_df160 2 none 2 304 305 77 306 := by decide +kernel
set_option maxHeartbeats 4000000 in
set_option maxRecDepth 100000 in
theorem ct_J1_charAt_3b067 (G : GX) (l : Launch) (t : Nat) (i : Int) (ht : t < 5) (hi : 0 ≤ i ∧ i < tn t) : Ct G l yJ1_charAt_3b067 cJ1_charAt_3b067 2 (some .char) rmJ1_charAt_3b067 [.ref (gV G t), .int (iI i)] [] (some (.int (iI (tx t i)))) [] := by
  refine Ct.of (by decide) (Nat.le_of_ble_eq_true rfl) ?_
  intro k C hl hret
  subst hl
  refine w_lv (lv2 := [(0, .ref (gV G t)), (1, .int (iI i))]) [0, 1] rfl ?_
  refine w_iload_n C 1 dJ1_charAt_3b067_0 rfl ?_
  refine w_aload_n C 0 dJ1_charAt_3b067_1 rfl ?_
  refine w_slen (t := t) C (by omega) dJ1_charAt_3b067_2 ?_
  have f_1 := tn_rg t (by omega)
  refine w_callS (As := [.int (iI i), .int (iI (tn t))]) (rest := []) (w2 := []) (st2 := []) C (ct_J0_checkIndex_df160 G (kl k) i (tn t) (by omega)) gJ1_9 dJ1_charAt_3b067_3 rfl rfl (Nat.le_of_ble_eq_true rfl) (by decide) [] rfl (by decide) [] rfl rfl rfl rfl ?_
  refine w_aload_n C 0 dJ1_charAt_3b067_6 rfl ?_
  refine w_iload_n C 1 dJ1_charAt_3b067_7 rfl ?_
  refine w_sbald (t := t) C (by omega) (by omega) dJ1_charAt_3b067_8 ?_
  have f_2 := tx_rg (t := t) (i := i) (by omega) (by omega)
  refine w_sipush C dJ1_charAt_3b067_9 (by decide) ?_
  refine w_iandm (q := 256) C 8 dJ1_charAt_3b067_12 (by decide) (by decide) (by decide) ?_
  refine w_i2c (v := (iI ((tx t i) % 256))) C dJ1_charAt_3b067_13 (i2c_ok (by omega)) ?_
  exact w_reti hret dJ1_charAt_3b067_14 rfl (nar_c (by omega)) rfl rfl ⟨congrArg (fun z => some (Value.int (iI z))) (by omega), rfl⟩

theorem gJ0_492 : cwv RJ0 492 yJ0_isLatin1_aae02 cJ0_isLatin1_aae02 1 (some .boolean) 0 297 298 299 77 300 := by decide +kernel
theorem gJ0_495 : cws RJ0 495 yJ1_charAt_3b067 cJ1_charAt_3b067 2 (some .char) 2 301 302 78 303 := by decide +kernel
set_option maxHeartbeats 4000000 in
set_option maxRecDepth 100000 in
theorem ct_J0_charAt_5068e (G : GX) (l : Launch) (t : Nat) (i : Int) (ht : t < 5) (hi : 0 ≤ i ∧ i < tn t) : Ct G l yJ0_charAt_5068e cJ0_charAt_5068e 2 (some .char) rmJ0_charAt_5068e [.ref (gK G t), .int (iI i)] [] (some (.int (iI (tx t i)))) [] := by
  refine Ct.of (by decide) (Nat.le_of_ble_eq_true rfl) ?_
  intro k C hl hret
  subst hl
  refine w_lv (lv2 := [(0, .ref (gK G t)), (1, .int (iI i))]) [0, 1] rfl ?_
  refine w_aload_n C 0 dJ0_charAt_5068e_0 rfl ?_
  refine w_callT (t := t) (As := []) (rest := []) (st2 := [.int (iI 1)]) C (by omega) (ct_J0_isLatin1_aae02 G (kl k) t (by omega)) gJ0_492 dJ0_charAt_5068e_1 rfl rfl rfl (Nat.le_of_ble_eq_true rfl) (by decide) rfl ?_
  refine w_if_eq C 16 dJ0_charAt_5068e_4 rfl (by omega) (fun c_1 => ?_) (fun c_1 => ?_)
  · exact absurd c_1 (by decide)
  · refine w_aload_n C 0 dJ0_charAt_5068e_7 rfl ?_
    refine w_sgetV (t := t) C 1120 (by omega) dJ0_charAt_5068e_8 (by decide +kernel) ?_
    refine w_iload_n C 1 dJ0_charAt_5068e_11 rfl ?_
    refine w_callS (As := [.ref (gV G t), .int (iI i)]) (rest := []) (w2 := []) (st2 := [.int (iI (tx t i))]) C (ct_J1_charAt_3b067 G (kl k) t i (by omega) (by omega)) gJ0_495 dJ0_charAt_5068e_12 rfl rfl (Nat.le_of_ble_eq_true rfl) (by decide) [] rfl (by decide) [] rfl rfl rfl rfl ?_
    have q := tx_rg ht hi
    exact w_reti hret dJ0_charAt_5068e_15 rfl (nar_c (by omega)) rfl rfl ⟨rfl, rfl⟩

set_option maxHeartbeats 4000000 in
set_option maxRecDepth 100000 in
theorem ct_J7_rangeCheck_23922 (G : GX) (l : Launch) (n : Int) (a : Int) (b : Int) (h : 0 ≤ a ∧ a ≤ b ∧ b ≤ n ∧ n < 2147483648) : Ct G l yJ7_rangeCheck_23922 cJ7_rangeCheck_23922 3 none rmJ7_rangeCheck_23922 [.int (iI n), .int (iI a), .int (iI b)] [] none [] := by
  refine Ct.of (by decide) (Nat.le_of_ble_eq_true rfl) ?_
  intro k C hl hret
  subst hl
  refine w_lv (lv2 := [(0, .int (iI n)), (1, .int (iI a)), (2, .int (iI b))]) [0, 1, 2] rfl ?_
  refine w_iload_n C 1 dJ7_rangeCheck_23922_0 rfl ?_
  refine w_iload_n C 2 dJ7_rangeCheck_23922_1 rfl ?_
  refine w_icmp_le C 46 dJ7_rangeCheck_23922_2 rfl (by omega) (fun c_1 => ?_) (fun c_1 => ?_)
  · refine w_iload_n C 1 dJ7_rangeCheck_23922_46 rfl ?_
    refine w_if_ge C 59 dJ7_rangeCheck_23922_47 rfl (by omega) (fun c_2 => ?_) (fun c_2 => ?_)
    · refine w_iload_n C 2 dJ7_rangeCheck_23922_59 rfl ?_
      refine w_iload_n C 0 dJ7_rangeCheck_23922_60 rfl ?_
      refine w_icmp_le C 73 dJ7_rangeCheck_23922_61 rfl (by omega) (fun c_3 => ?_) (fun c_3 => ?_)
      · exact w_retv hret dJ7_rangeCheck_23922_73 rfl rfl rfl ⟨rfl, rfl⟩
      · omega
    · omega
  · omega

theorem gJ7_13 : cws RJ7 13 yJ7_rangeCheck_23922 cJ7_rangeCheck_23922 3 none 3 271 272 75 273 := by decide +kernel
set_option maxHeartbeats 4000000 in
set_option maxRecDepth 100000 in
theorem ct_J7_fill_fda19 (G : GX) (l : Launch) (b : Nat) (n : Nat) (d : Im) (p : Int) (q : Int) (h : 0 ≤ p ∧ p ≤ q ∧ q ≤ n ∧ (n : Int) < 2147483648) : Ct G l yJ7_fill_fda19 cJ7_fill_fda19 5 none rmJ7_fill_fda19 [.ref b, .int (iI p), .int (iI q), .int (iI 0)] [(b, .inl (gI G, n, .inl (arI d)))] none [(b, .inl (gI G, n, .inl (arI (clr d p (q - p)))))] := by
  refine Ct.of (by decide) (Nat.le_of_ble_eq_true rfl) ?_
  intro k C hl hret
  subst hl
  refine w_lv (lv2 := [(0, .ref b), (1, .int (iI p)), (2, .int (iI q)), (3, .int (iI 0))]) [0, 1, 2, 3] rfl ?_
  refine w_aload_n C 0 dJ7_fill_fda19_0 rfl ?_
  refine w_alen C 0 dJ7_fill_fda19_1 rfl ?_
  refine w_iload_n C 1 dJ7_fill_fda19_2 rfl ?_
  refine w_iload_n C 2 dJ7_fill_fda19_3 rfl ?_
  refine w_callS (As := [.int (iI n), .int (iI p), .int (iI q)]) (rest := []) (w2 := [(b, .inl (gI G, n, .inl (arI d)))]) (st2 := []) C (ct_J7_rangeCheck_23922 G (kl k) n p q (by omega)) gJ7_13 dJ7_fill_fda19_4 rfl rfl (Nat.le_of_ble_eq_true rfl) (by decide) [] rfl (by decide) [] rfl rfl rfl rfl ?_
  refine w_iload_n C 1 dJ7_fill_fda19_7 rfl ?_
  refine w_istore (lv2 := [(0, .ref b), (1, .int (iI p)), (2, .int (iI q)), (3, .int (iI 0)), (4, .int (iI p))]) C dJ7_fill_fda19_8 (by decide) rfl ?_
  have L_10 : ∀ (nn_10 : Nat) (i : Int) (e : Im), (p ≤ i ∧ i ≤ q) → (e = clr d p (i - p)) → (q - i).toNat = nn_10 → Wd G k 5 0 0 [(b, .inl (gI G, n, .inl (arI e)))] 10 [(0, .ref b), (1, .int (iI p)), (2, .int (iI q)), (3, .int (iI 0)), (4, .int (iI i))] [] := by
    intro nn_10
    induction nn_10 using Nat.strongRecOn with
    | ind nn_10 ih_10 =>
      intro i e h1 h2 hm_10
      refine w_iload C 4 dJ7_fill_fda19_10 rfl ?_
      refine w_iload_n C 2 dJ7_fill_fda19_12 rfl ?_
      refine w_icmp_ge C 27 dJ7_fill_fda19_13 rfl (by omega) (fun c_1 => ?_) (fun c_1 => ?_)
      · exact w_retv hret dJ7_fill_fda19_27 rfl rfl rfl ⟨rfl, (by rw [h2, show i = q by omega])⟩
      · refine w_aload_n C 0 dJ7_fill_fda19_16 rfl ?_
        refine w_iload C 4 dJ7_fill_fda19_17 rfl ?_
        refine w_iload_n C 3 dJ7_fill_fda19_19 rfl ?_
        refine w_iast (ws2 := [(b, .inl (gI G, n, .inl (arI (up e i 0))))]) C 0 dJ7_fill_fda19_20 rfl (by omega) (by omega) rfl ?_
        refine w_iinc (lv2 := [(0, .ref b), (1, .int (iI p)), (2, .int (iI q)), (3, .int (iI 0)), (4, .int (iI (i + 1)))]) C 4 dJ7_fill_fda19_21 rfl (by decide) rfl ?_
        refine w_goto C 10 dJ7_fill_fda19_24 rfl ?_
        refine w_ord (ws2 := [(b, .inl (gI G, n, .inl (arI ((up e i 0)))))]) [0] rfl (by decide) ?_
        refine w_lv (lv2 := [(0, .ref b), (1, .int (iI p)), (2, .int (iI q)), (3, .int (iI 0)), (4, .int (iI ((i + 1))))]) [0, 1, 2, 3, 4] rfl ?_
        exact ih_10 _ (by omega) (i + 1) (up e i 0) (by omega) (by rw [h2]; exact clr_next d p i h1.1) rfl
  exact L_10 _ p d (by omega) (by apply Subtype.ext; funext j; show d.1 j = if p ≤ j ∧ j < p + (p - p) then 0 else d.1 j; rw [if_neg (by omega)]) rfl
end
section
set_option maxHeartbeats 4000000 in
set_option maxRecDepth 100000 in
theorem ct_X2_at (G : GX) (l : Launch) (h : Nat) (b : Nat) (d : Im) (p : Int) (hp : -2147483648 ≤ p ∧ p < 2147483648) : Ct G l yX2_at cX2_at 2 (some .int) rmX2_at [.ref h, .int (iI p)] [(h, .inr (2, [.ref b])), (b, .inl (gI G, 4096, .inl (arI d)))] (some (.int (iI (im_at d p)))) [(h, .inr (2, [.ref b])), (b, .inl (gI G, 4096, .inl (arI d)))] := by
  refine Ct.of (by decide) (Nat.le_of_ble_eq_true rfl) ?_
  intro k C hl hret
  subst hl
  refine w_lv (lv2 := [(0, .ref h), (1, .int (iI p))]) [0, 1] rfl ?_
  refine w_iload_n C 1 dX2_at_0 rfl ?_
  refine w_if_lt C 20 dX2_at_1 rfl (by omega) (fun c_1 => ?_) (fun c_1 => ?_)
  · refine w_iconst C dX2_at_20 ?_
    exact w_reti hret dX2_at_21 rfl rfl rfl rfl ⟨congrArg (fun z => some (Value.int (iI z))) (by unfold im_at; split <;> first | rfl | omega), rfl⟩
  · refine w_iload_n C 1 dX2_at_4 rfl ?_
    refine w_sipush C dX2_at_5 (by decide) ?_
    refine w_icmp_ge C 20 dX2_at_8 rfl (by omega) (fun c_2 => ?_) (fun c_2 => ?_)
    · refine w_iconst C dX2_at_20 ?_
      exact w_reti hret dX2_at_21 rfl rfl rfl rfl ⟨congrArg (fun z => some (Value.int (iI z))) (by unfold im_at; split <;> first | rfl | omega), rfl⟩
    · refine w_aload_n C 0 dX2_at_11 rfl ?_
      refine w_get C 0 0 99 dX2_at_12 rfl rfl inX2 (by decide) (by decide +kernel) rfl ?_
      refine w_iload_n C 1 dX2_at_15 rfl ?_
      refine w_iald C 1 dX2_at_16 rfl (by omega) ?_
      have b_3 := d.2 p
      refine w_goto C 21 dX2_at_17 rfl ?_
      exact w_reti hret dX2_at_21 rfl rfl rfl rfl ⟨congrArg (fun z => some (Value.int (iI z))) (by unfold im_at; split <;> first | rfl | omega), rfl⟩

set_option maxHeartbeats 4000000 in
set_option maxRecDepth 100000 in
theorem ct_X2_set (G : GX) (l : Launch) (h : Nat) (b : Nat) (d : Im) (p : Int) (v : Int) (hp : -2147483648 ≤ p ∧ p < 2147483648) : Ct G l yX2_set cX2_set 3 none rmX2_set [.ref h, .int (iI p), .int (iI v)] [(h, .inr (2, [.ref b])), (b, .inl (gI G, 4096, .inl (arI d)))] none [(h, .inr (2, [.ref b])), (b, .inl (gI G, 4096, .inl (arI (im_set d p v))))] := by
  refine Ct.of (by decide) (Nat.le_of_ble_eq_true rfl) ?_
  intro k C hl hret
  subst hl
  refine w_lv (lv2 := [(0, .ref h), (1, .int (iI p)), (2, .int (iI v))]) [0, 1, 2] rfl ?_
  refine w_iload_n C 1 dX2_set_0 rfl ?_
  refine w_if_lt C 22 dX2_set_1 rfl (by omega) (fun c_1 => ?_) (fun c_1 => ?_)
  · exact w_retv hret dX2_set_22 rfl rfl rfl ⟨rfl, (by unfold im_set; first | rw [if_pos (by omega), up_mod] | rw [if_neg (by omega)])⟩
  · refine w_iload_n C 1 dX2_set_4 rfl ?_
    refine w_sipush C dX2_set_5 (by decide) ?_
    refine w_icmp_ge C 22 dX2_set_8 rfl (by omega) (fun c_2 => ?_) (fun c_2 => ?_)
    · exact w_retv hret dX2_set_22 rfl rfl rfl ⟨rfl, (by unfold im_set; first | rw [if_pos (by omega), up_mod] | rw [if_neg (by omega)])⟩
    · refine w_aload_n C 0 dX2_set_11 rfl ?_
      refine w_get C 0 0 99 dX2_set_12 rfl rfl inX2 (by decide) (by decide +kernel) rfl ?_
      refine w_iload_n C 1 dX2_set_15 rfl ?_
      refine w_iload_n C 2 dX2_set_16 rfl ?_
      refine w_sipush C dX2_set_17 (by decide) ?_
      refine w_iandm (q := 256) C 8 dX2_set_20 (by decide) (by decide) (by decide) ?_
      refine w_iast (ws2 := [(h, .inr (2, [.ref b])), (b, .inl (gI G, 4096, .inl (arI (up d p (v % 256)))))]) C 1 dX2_set_21 rfl (by omega) (by omega) rfl ?_
      exact w_retv hret dX2_set_22 rfl rfl rfl ⟨rfl, (by unfold im_set; first | rw [if_pos (by omega), up_mod] | rw [if_neg (by omega)])⟩

set_option maxHeartbeats 4000000 in
set_option maxRecDepth 100000 in
theorem ct_X2_pairAt (G : GX) (l : Launch) (h : Nat) (b : Nat) (d : Im) (p : Int) (hp : -2147483648 ≤ p ∧ p < 2147483648) : Ct G l yX2_pairAt cX2_pairAt 2 (some .int) rmX2_pairAt [.ref h, .int (iI p)] [(h, .inr (2, [.ref b])), (b, .inl (gI G, 4096, .inl (arI d)))] (some (.int (iI (im_two d p)))) [(h, .inr (2, [.ref b])), (b, .inl (gI G, 4096, .inl (arI d)))] := by
  refine Ct.of (by decide) (Nat.le_of_ble_eq_true rfl) ?_
  intro k C hl hret
  subst hl
  refine w_lv (lv2 := [(0, .ref h), (1, .int (iI p))]) [0, 1] rfl ?_
  refine w_iload_n C 1 dX2_pairAt_0 rfl ?_
  refine w_if_lt C 33 dX2_pairAt_1 rfl (by omega) (fun c_1 => ?_) (fun c_1 => ?_)
  · refine w_iconst C dX2_pairAt_33 ?_
    exact w_reti hret dX2_pairAt_34 rfl rfl rfl rfl ⟨congrArg (fun z => some (Value.int (iI z))) (by unfold im_two; split <;> first | rfl | omega), rfl⟩
  · refine w_iload_n C 1 dX2_pairAt_4 rfl ?_
    refine w_sipush C dX2_pairAt_5 (by decide) ?_
    refine w_icmp_ge C 33 dX2_pairAt_8 rfl (by omega) (fun c_2 => ?_) (fun c_2 => ?_)
    · refine w_iconst C dX2_pairAt_33 ?_
      exact w_reti hret dX2_pairAt_34 rfl rfl rfl rfl ⟨congrArg (fun z => some (Value.int (iI z))) (by unfold im_two; split <;> first | rfl | omega), rfl⟩
    · refine w_aload_n C 0 dX2_pairAt_11 rfl ?_
      refine w_get C 0 0 99 dX2_pairAt_12 rfl rfl inX2 (by decide) (by decide +kernel) rfl ?_
      refine w_iload_n C 1 dX2_pairAt_15 rfl ?_
      refine w_iald C 1 dX2_pairAt_16 rfl (by omega) ?_
      have b_3 := d.2 p
      refine w_sipush C dX2_pairAt_17 (by decide) ?_
      refine w_imul C dX2_pairAt_20 ?_
      refine w_aload_n C 0 dX2_pairAt_21 rfl ?_
      refine w_get C 0 0 99 dX2_pairAt_22 rfl rfl inX2 (by decide) (by decide +kernel) rfl ?_
      refine w_iload_n C 1 dX2_pairAt_25 rfl ?_
      refine w_iconst C dX2_pairAt_26 ?_
      refine w_iadd C dX2_pairAt_27 ?_
      refine w_iald C 1 dX2_pairAt_28 rfl (by omega) ?_
      have b_4 := d.2 (p + 1)
      refine w_iadd C dX2_pairAt_29 ?_
      refine w_goto C 34 dX2_pairAt_30 rfl ?_
      exact w_reti hret dX2_pairAt_34 rfl rfl rfl rfl ⟨congrArg (fun z => some (Value.int (iI z))) (by unfold im_two; split <;> first | rfl | omega), rfl⟩

set_option maxHeartbeats 4000000 in
set_option maxRecDepth 100000 in
theorem ct_X2_setPair (G : GX) (l : Launch) (h : Nat) (b : Nat) (d : Im) (p : Int) (v : Int) (hp : -2147483648 ≤ p ∧ p < 2147483648) (hv : -2147483648 ≤ v ∧ v < 2147483648) : Ct G l yX2_setPair cX2_setPair 3 none rmX2_setPair [.ref h, .int (iI p), .int (iI v)] [(h, .inr (2, [.ref b])), (b, .inl (gI G, 4096, .inl (arI d)))] none [(h, .inr (2, [.ref b])), (b, .inl (gI G, 4096, .inl (arI (im_put d p v))))] := by
  refine Ct.of (by decide) (Nat.le_of_ble_eq_true rfl) ?_
  intro k C hl hret
  subst hl
  refine w_lv (lv2 := [(0, .ref h), (1, .int (iI p)), (2, .int (iI v))]) [0, 1, 2] rfl ?_
  refine w_iload_n C 1 dX2_setPair_0 rfl ?_
  refine w_if_lt C 38 dX2_setPair_1 rfl (by omega) (fun c_1 => ?_) (fun c_1 => ?_)
  · exact w_retv hret dX2_setPair_38 rfl rfl rfl ⟨rfl, (by unfold im_put; first | rw [if_pos (by omega), up_mod, up_mod] | rw [if_neg (by omega)])⟩
  · refine w_iload_n C 1 dX2_setPair_4 rfl ?_
    refine w_sipush C dX2_setPair_5 (by decide) ?_
    refine w_icmp_ge C 38 dX2_setPair_8 rfl (by omega) (fun c_2 => ?_) (fun c_2 => ?_)
    · exact w_retv hret dX2_setPair_38 rfl rfl rfl ⟨rfl, (by unfold im_put; first | rw [if_pos (by omega), up_mod, up_mod] | rw [if_neg (by omega)])⟩
    · refine w_aload_n C 0 dX2_setPair_11 rfl ?_
      refine w_get C 0 0 99 dX2_setPair_12 rfl rfl inX2 (by decide) (by decide +kernel) rfl ?_
      refine w_iload_n C 1 dX2_setPair_15 rfl ?_
      refine w_iload_n C 2 dX2_setPair_16 rfl ?_
      refine w_bipush C dX2_setPair_17 (by decide) ?_
      refine w_ishr (v := (iI (v / 256))) C dX2_setPair_19 (iI_shr hv _ 8 (by decide)) ?_
      refine w_sipush C dX2_setPair_20 (by decide) ?_
      refine w_iandm (q := 256) C 8 dX2_setPair_23 (by decide) (by decide) (by decide) ?_
      refine w_iast (ws2 := [(h, .inr (2, [.ref b])), (b, .inl (gI G, 4096, .inl (arI (up d p ((v / 256) % 256)))))]) C 1 dX2_setPair_24 rfl (by omega) (by omega) rfl ?_
      refine w_aload_n C 0 dX2_setPair_25 rfl ?_
      refine w_get C 0 0 99 dX2_setPair_26 rfl rfl inX2 (by decide) (by decide +kernel) rfl ?_
      refine w_iload_n C 1 dX2_setPair_29 rfl ?_
      refine w_iconst C dX2_setPair_30 ?_
      refine w_iadd C dX2_setPair_31 ?_
      refine w_iload_n C 2 dX2_setPair_32 rfl ?_
      refine w_sipush C dX2_setPair_33 (by decide) ?_
      refine w_iandm (q := 256) C 8 dX2_setPair_36 (by decide) (by decide) (by decide) ?_
      refine w_iast (ws2 := [(h, .inr (2, [.ref b])), (b, .inl (gI G, 4096, .inl (arI (up (up d p ((v / 256) % 256)) (p + 1) (v % 256)))))]) C 1 dX2_setPair_37 rfl (by omega) (by omega) rfl ?_
      exact w_retv hret dX2_setPair_38 rfl rfl rfl ⟨rfl, (by unfold im_put; first | rw [if_pos (by omega), up_mod, up_mod] | rw [if_neg (by omega)])⟩

set_option maxHeartbeats 4000000 in
set_option maxRecDepth 100000 in
theorem ct_X2_isRange (G : GX) (l : Launch) (p : Int) (n : Int) (hp : -2147483648 ≤ p ∧ p < 2147483648) (hn : -2147483648 ≤ n ∧ n < 2147483648) : Ct G l yX2_isRange cX2_isRange 2 (some .boolean) rmX2_isRange [.int (iI p), .int (iI n)] [] (some (.int (iI (bI (decide (rgP p n)))))) [] := by
  refine Ct.of (by decide) (Nat.le_of_ble_eq_true rfl) ?_
  intro k C hl hret
  subst hl
  refine w_lv (lv2 := [(0, .int (iI p)), (1, .int (iI n))]) [0, 1] rfl ?_
  refine w_iload_n C 0 dX2_isRange_0 rfl ?_
  refine w_if_lt C 28 dX2_isRange_1 rfl (by omega) (fun c_1 => ?_) (fun c_1 => ?_)
  · refine w_iconst C dX2_isRange_28 ?_
    exact w_reti hret dX2_isRange_29 rfl rfl rfl rfl ⟨congrArg (fun z => some (Value.int (iI z))) (by first | exact (bI_t (by omega)).symm | exact (bI_f (by omega)).symm), rfl⟩
  · refine w_iload_n C 0 dX2_isRange_4 rfl ?_
    refine w_sipush C dX2_isRange_5 (by decide) ?_
    refine w_icmp_gt C 28 dX2_isRange_8 rfl (by omega) (fun c_2 => ?_) (fun c_2 => ?_)
    · refine w_iconst C dX2_isRange_28 ?_
      exact w_reti hret dX2_isRange_29 rfl rfl rfl rfl ⟨congrArg (fun z => some (Value.int (iI z))) (by first | exact (bI_t (by omega)).symm | exact (bI_f (by omega)).symm), rfl⟩
    · refine w_iload_n C 1 dX2_isRange_11 rfl ?_
      refine w_if_lt C 28 dX2_isRange_12 rfl (by omega) (fun c_3 => ?_) (fun c_3 => ?_)
      · refine w_iconst C dX2_isRange_28 ?_
        exact w_reti hret dX2_isRange_29 rfl rfl rfl rfl ⟨congrArg (fun z => some (Value.int (iI z))) (by first | exact (bI_t (by omega)).symm | exact (bI_f (by omega)).symm), rfl⟩
      · refine w_iload_n C 1 dX2_isRange_15 rfl ?_
        refine w_sipush C dX2_isRange_16 (by decide) ?_
        refine w_iload_n C 0 dX2_isRange_19 rfl ?_
        refine w_isub C dX2_isRange_20 ?_
        refine w_icmp_gt C 28 dX2_isRange_21 rfl (by omega) (fun c_4 => ?_) (fun c_4 => ?_)
        · refine w_iconst C dX2_isRange_28 ?_
          exact w_reti hret dX2_isRange_29 rfl rfl rfl rfl ⟨congrArg (fun z => some (Value.int (iI z))) (by first | exact (bI_t (by omega)).symm | exact (bI_f (by omega)).symm), rfl⟩
        · refine w_iconst C dX2_isRange_24 ?_
          refine w_goto C 29 dX2_isRange_25 rfl ?_
          exact w_reti hret dX2_isRange_29 rfl rfl rfl rfl ⟨congrArg (fun z => some (Value.int (iI z))) (by first | exact (bI_t (by omega)).symm | exact (bI_f (by omega)).symm), rfl⟩

theorem gX2_33 : cws RX2 33 yX2_isRange cX2_isRange 2 (some .boolean) 2 265 266 66 267 := by decide +kernel
set_option maxHeartbeats 4000000 in
set_option maxRecDepth 100000 in
theorem ct_X2_isBlank (G : GX) (l : Launch) (h : Nat) (b : Nat) (d : Im) (p : Int) (n : Int) (hp : -2147483648 ≤ p ∧ p < 2147483648) (hn : -2147483648 ≤ n ∧ n < 2147483648) : Ct G l yX2_isBlank cX2_isBlank 4 (some .boolean) rmX2_isBlank [.ref h, .int (iI p), .int (iI n)] [(h, .inr (2, [.ref b])), (b, .inl (gI G, 4096, .inl (arI d)))] (some (.int (iI (bI (im_blank d p n))))) [(h, .inr (2, [.ref b])), (b, .inl (gI G, 4096, .inl (arI d)))] := by
  refine Ct.of (by decide) (Nat.le_of_ble_eq_true rfl) ?_
  intro k C hl hret
  subst hl
  refine w_lv (lv2 := [(0, .ref h), (1, .int (iI p)), (2, .int (iI n))]) [0, 1, 2] rfl ?_
  refine w_iload_n C 1 dX2_isBlank_0 rfl ?_
  refine w_iload_n C 2 dX2_isBlank_1 rfl ?_
  refine w_callS (As := [.int (iI p), .int (iI n)]) (rest := []) (w2 := [(h, .inr (2, [.ref b])), (b, .inl (gI G, 4096, .inl (arI d)))]) (st2 := [.int (iI (bI (decide (rgP p n))))]) C (ct_X2_isRange G (kl k) p n (by omega) (by omega)) gX2_33 dX2_isBlank_2 rfl rfl (Nat.le_of_ble_eq_true rfl) (by decide) [] rfl (by decide) [] rfl rfl rfl rfl ?_
  refine w_bnz C 10 dX2_isBlank_5 rfl (fun c_1 => ?_) (fun c_1 => ?_)
  · have hg : rgP p n := of_decide_eq_true (by assumption)
    unfold rgP at hg
    refine w_iload_n C 1 dX2_isBlank_10 rfl ?_
    refine w_istore_n (lv2 := [(0, .ref h), (1, .int (iI p)), (2, .int (iI n)), (3, .int (iI p))]) C dX2_isBlank_11 (by decide) rfl ?_
    have L_12 : ∀ (nn_12 : Nat) (i : Int), (p ≤ i) → (i ≤ p + n) → (∀ j, p ≤ j → j < i → d.1 j = 0) → (p + n - i).toNat = nn_12 → Wd G k 4 0 0 [(h, .inr (2, [.ref b])), (b, .inl (gI G, 4096, .inl (arI d)))] 12 [(0, .ref h), (1, .int (iI p)), (2, .int (iI n)), (3, .int (iI i))] [] := by
      intro nn_12
      induction nn_12 using Nat.strongRecOn with
      | ind nn_12 ih_12 =>
        intro i h1 h2 h3 hm_12
        refine w_iload_n C 3 dX2_isBlank_12 rfl ?_
        refine w_iload_n C 1 dX2_isBlank_13 rfl ?_
        refine w_iload_n C 2 dX2_isBlank_14 rfl ?_
        refine w_iadd C dX2_isBlank_15 ?_
        refine w_icmp_ge C 36 dX2_isBlank_16 rfl (by omega) (fun c_2 => ?_) (fun c_2 => ?_)
        · refine w_iconst C dX2_isBlank_36 ?_
          exact w_reti hret dX2_isBlank_37 rfl rfl rfl rfl ⟨congrArg (fun z => some (Value.int (iI z))) (by unfold im_blank; rw [if_pos hg, (blk_iff d p n.toNat).mpr (fun j a b => h3 j a (by omega))]; rfl), rfl⟩
        · refine w_aload_n C 0 dX2_isBlank_19 rfl ?_
          refine w_get C 0 0 99 dX2_isBlank_20 rfl rfl inX2 (by decide) (by decide +kernel) rfl ?_
          refine w_iload_n C 3 dX2_isBlank_23 rfl ?_
          refine w_iald C 1 dX2_isBlank_24 rfl (by omega) ?_
          have b_3 := d.2 i
          refine w_if_eq C 30 dX2_isBlank_25 rfl (by omega) (fun c_4 => ?_) (fun c_4 => ?_)
          · refine w_iinc (lv2 := [(0, .ref h), (1, .int (iI p)), (2, .int (iI n)), (3, .int (iI (i + 1)))]) C 3 dX2_isBlank_30 rfl (by decide) rfl ?_
            refine w_goto C 12 dX2_isBlank_33 rfl ?_
            refine w_lv (lv2 := [(0, .ref h), (1, .int (iI p)), (2, .int (iI n)), (3, .int (iI ((i + 1))))]) [0, 1, 2, 3] rfl ?_
            exact ih_12 _ (by omega) (i + 1) (by omega) (by omega) (fun j a b => if q : j = i then (by rw [q]; assumption) else h3 j a (by omega)) rfl
          · refine w_iconst C dX2_isBlank_28 ?_
            exact w_reti hret dX2_isBlank_29 rfl rfl rfl rfl ⟨congrArg (fun z => some (Value.int (iI z))) (by unfold im_blank; rw [if_pos hg, show blk d p n.toNat = false from by cases q : blk d p n.toNat with | false => rfl | true => exact absurd ((blk_iff d p n.toNat).mp q i (by omega) (by omega)) (by assumption)]; rfl), rfl⟩
    exact L_12 _ p (by omega) (by omega) (fun j a b => by omega) rfl
  · refine w_iconst C dX2_isBlank_8 ?_
    exact w_reti hret dX2_isBlank_9 rfl rfl rfl rfl ⟨congrArg (fun z => some (Value.int (iI z))) (by unfold im_blank; rw [if_neg (of_decide_eq_false (by assumption))]; rfl), rfl⟩

set_option maxHeartbeats 4000000 in
set_option maxRecDepth 100000 in
theorem ct_X2_sum (G : GX) (l : Launch) (h : Nat) (b : Nat) (d : Im) (p : Int) (n : Int) (hp : -2147483648 ≤ p ∧ p < 2147483648) (hn : -2147483648 ≤ n ∧ n < 2147483648) : Ct G l yX2_sum cX2_sum 5 (some .int) rmX2_sum [.ref h, .int (iI p), .int (iI n)] [(h, .inr (2, [.ref b])), (b, .inl (gI G, 4096, .inl (arI d)))] (some (.int (iI (im_sum d p n)))) [(h, .inr (2, [.ref b])), (b, .inl (gI G, 4096, .inl (arI d)))] := by
  refine Ct.of (by decide) (Nat.le_of_ble_eq_true rfl) ?_
  intro k C hl hret
  subst hl
  refine w_lv (lv2 := [(0, .ref h), (1, .int (iI p)), (2, .int (iI n))]) [0, 1, 2] rfl ?_
  refine w_iconst C dX2_sum_0 ?_
  refine w_istore_n (lv2 := [(0, .ref h), (1, .int (iI p)), (2, .int (iI n)), (3, .int (iI 0))]) C dX2_sum_1 (by decide) rfl ?_
  refine w_iload_n C 1 dX2_sum_2 rfl ?_
  refine w_iload_n C 2 dX2_sum_3 rfl ?_
  refine w_callS (As := [.int (iI p), .int (iI n)]) (rest := []) (w2 := [(h, .inr (2, [.ref b])), (b, .inl (gI G, 4096, .inl (arI d)))]) (st2 := [.int (iI (bI (decide (rgP p n))))]) C (ct_X2_isRange G (kl k) p n (by omega) (by omega)) gX2_33 dX2_sum_4 rfl rfl (Nat.le_of_ble_eq_true rfl) (by decide) [] rfl (by decide) [] rfl rfl rfl rfl ?_
  refine w_bz C 37 dX2_sum_7 rfl (fun c_1 => ?_) (fun c_1 => ?_)
  · have hg : ¬ rgP p n := of_decide_eq_false (by assumption)
    refine w_iload_n C 3 dX2_sum_37 rfl ?_
    refine w_ldc (z := 65535) C 346 dX2_sum_38 (by decide +kernel) rfl ?_
    refine w_iandm (q := 65536) C 16 dX2_sum_40 (by decide) (by decide) (by decide) ?_
    exact w_reti hret dX2_sum_41 rfl rfl rfl rfl ⟨congrArg (fun z => some (Value.int (iI z))) (by unfold im_sum; first | (rw [if_neg hg]; rfl) | (rw [if_pos hg, h3, show (i - p).toNat = n.toNat by omega])), rfl⟩
  · have hg : rgP p n := of_decide_eq_true (by assumption)
    unfold rgP at hg
    refine w_iload_n C 1 dX2_sum_10 rfl ?_
    refine w_istore (lv2 := [(0, .ref h), (1, .int (iI p)), (2, .int (iI n)), (3, .int (iI 0)), (4, .int (iI p))]) C dX2_sum_11 (by decide) rfl ?_
    have L_13 : ∀ (nn_13 : Nat) (i : Int) (s : Int), (p ≤ i) → (i ≤ p + n) → (s = sm d p (i - p).toNat) → (0 ≤ s ∧ s ≤ 255 * (i - p)) → (p + n - i).toNat = nn_13 → Wd G k 5 0 0 [(h, .inr (2, [.ref b])), (b, .inl (gI G, 4096, .inl (arI d)))] 13 [(0, .ref h), (1, .int (iI p)), (2, .int (iI n)), (3, .int (iI s)), (4, .int (iI i))] [] := by
      intro nn_13
      induction nn_13 using Nat.strongRecOn with
      | ind nn_13 ih_13 =>
        intro i s h1 h2 h3 h4 hm_13
        refine w_iload C 4 dX2_sum_13 rfl ?_
        refine w_iload_n C 1 dX2_sum_15 rfl ?_
        refine w_iload_n C 2 dX2_sum_16 rfl ?_
        refine w_iadd C dX2_sum_17 ?_
        refine w_icmp_ge C 37 dX2_sum_18 rfl (by omega) (fun c_2 => ?_) (fun c_2 => ?_)
        · refine w_iload_n C 3 dX2_sum_37 rfl ?_
          refine w_ldc (z := 65535) C 346 dX2_sum_38 (by decide +kernel) rfl ?_
          refine w_iandm (q := 65536) C 16 dX2_sum_40 (by decide) (by decide) (by decide) ?_
          exact w_reti hret dX2_sum_41 rfl rfl rfl rfl ⟨congrArg (fun z => some (Value.int (iI z))) (by unfold im_sum; first | (rw [if_neg hg]; rfl) | (rw [if_pos hg, h3, show (i - p).toNat = n.toNat by omega])), rfl⟩
        · refine w_iload_n C 3 dX2_sum_21 rfl ?_
          refine w_aload_n C 0 dX2_sum_22 rfl ?_
          refine w_get C 0 0 99 dX2_sum_23 rfl rfl inX2 (by decide) (by decide +kernel) rfl ?_
          refine w_iload C 4 dX2_sum_26 rfl ?_
          refine w_iald C 1 dX2_sum_28 rfl (by omega) ?_
          have b_3 := d.2 i
          refine w_iadd C dX2_sum_29 ?_
          refine w_istore_n (lv2 := [(0, .ref h), (1, .int (iI p)), (2, .int (iI n)), (3, .int (iI (s + (d.1 i)))), (4, .int (iI i))]) C dX2_sum_30 (by decide) rfl ?_
          refine w_iinc (lv2 := [(0, .ref h), (1, .int (iI p)), (2, .int (iI n)), (3, .int (iI (s + (d.1 i)))), (4, .int (iI (i + 1)))]) C 4 dX2_sum_31 rfl (by decide) rfl ?_
          refine w_goto C 13 dX2_sum_34 rfl ?_
          refine w_lv (lv2 := [(0, .ref h), (1, .int (iI p)), (2, .int (iI n)), (3, .int (iI ((s + (d.1 i))))), (4, .int (iI ((i + 1))))]) [0, 1, 2, 3, 4] rfl ?_
          exact ih_13 _ (by omega) (i + 1) (s + (d.1 i)) (by omega) (by omega) (by rw [h3]; exact sm_next d p i h1) (by omega) rfl
    exact L_13 _ p 0 (by omega) (by omega) (by rw [show (p - p).toNat = 0 by omega]; rfl) (by omega) rfl

set_option maxHeartbeats 4000000 in
set_option maxRecDepth 100000 in
theorem ct_X2_sameBlock (G : GX) (l : Launch) (h : Nat) (b : Nat) (d : Im) (h2 : Nat) (b2 : Nat) (e : Im) (q : Int) (hq : -2147483648 ≤ q ∧ q < 2147483648) : Ct G l yX2_sameBlock cX2_sameBlock 5 (some .boolean) rmX2_sameBlock [.ref h, .int (iI q), .ref h2] [(h, .inr (2, [.ref b])), (b, .inl (gI G, 4096, .inl (arI d))), (h2, .inr (2, [.ref b2])), (b2, .inl (gI G, 4096, .inl (arI e)))] (some (.int (iI (bI (im_same d e q))))) [(h, .inr (2, [.ref b])), (b, .inl (gI G, 4096, .inl (arI d))), (h2, .inr (2, [.ref b2])), (b2, .inl (gI G, 4096, .inl (arI e)))] := by
  refine Ct.of (by decide) (Nat.le_of_ble_eq_true rfl) ?_
  intro k C hl hret
  subst hl
  refine w_lv (lv2 := [(0, .ref h), (1, .int (iI q)), (2, .ref h2)]) [0, 1, 2] rfl ?_
  refine w_iload_n C 1 dX2_sameBlock_0 rfl ?_
  refine w_if_lt C 10 dX2_sameBlock_1 rfl (by omega) (fun c_1 => ?_) (fun c_1 => ?_)
  · refine w_iconst C dX2_sameBlock_10 ?_
    exact w_reti hret dX2_sameBlock_11 rfl rfl rfl rfl ⟨congrArg (fun z => some (Value.int (iI z))) (by unfold im_same; rw [if_neg (by omega)]; rfl), rfl⟩
  · refine w_iload_n C 1 dX2_sameBlock_4 rfl ?_
    refine w_bipush C dX2_sameBlock_5 (by decide) ?_
    refine w_icmp_lt C 12 dX2_sameBlock_7 rfl (by omega) (fun c_2 => ?_) (fun c_2 => ?_)
    · refine w_iload_n C 1 dX2_sameBlock_12 rfl ?_
      refine w_bipush C dX2_sameBlock_13 (by decide) ?_
      refine w_imul C dX2_sameBlock_15 ?_
      refine w_istore_n (lv2 := [(0, .ref h), (1, .int (iI q)), (2, .ref h2), (3, .int (iI (q * 64)))]) C dX2_sameBlock_16 (by decide) rfl ?_
      refine w_iload_n C 3 dX2_sameBlock_17 rfl ?_
      refine w_istore (lv2 := [(0, .ref h), (1, .int (iI q)), (2, .ref h2), (3, .int (iI (q * 64))), (4, .int (iI (q * 64)))]) C dX2_sameBlock_18 (by decide) rfl ?_
      refine w_lv (lv2 := [(0, .ref h), (1, .int (iI q)), (2, .ref h2), (3, .int (iI (q * 64))), (4, .int (iI ((q * 64))))]) [0, 1, 2, 3, 4] rfl ?_
      have L_20 : ∀ (nn_20 : Nat) (i : Int), (q * 64 ≤ i) → (i ≤ q * 64 + 64) → (∀ j, q * 64 ≤ j → j < i → d.1 j = e.1 j) → (q * 64 + 64 - i).toNat = nn_20 → Wd G k 5 0 0 [(h, .inr (2, [.ref b])), (b, .inl (gI G, 4096, .inl (arI d))), (h2, .inr (2, [.ref b2])), (b2, .inl (gI G, 4096, .inl (arI e)))] 20 [(0, .ref h), (1, .int (iI q)), (2, .ref h2), (3, .int (iI (q * 64))), (4, .int (iI i))] [] := by
        intro nn_20
        induction nn_20 using Nat.strongRecOn with
        | ind nn_20 ih_20 =>
          intro i h3 h4 h5 hm_20
          refine w_iload C 4 dX2_sameBlock_20 rfl ?_
          refine w_iload_n C 3 dX2_sameBlock_22 rfl ?_
          refine w_bipush C dX2_sameBlock_23 (by decide) ?_
          refine w_iadd C dX2_sameBlock_25 ?_
          refine w_icmp_ge C 54 dX2_sameBlock_26 rfl (by omega) (fun c_3 => ?_) (fun c_3 => ?_)
          · refine w_iconst C dX2_sameBlock_54 ?_
            exact w_reti hret dX2_sameBlock_55 rfl rfl rfl rfl ⟨congrArg (fun z => some (Value.int (iI z))) (by unfold im_same; rw [if_pos (by omega), (sam_iff d e (q * 64) 64).mpr (fun j a b => h5 j a (by omega))]; rfl), rfl⟩
          · refine w_aload_n C 0 dX2_sameBlock_29 rfl ?_
            refine w_get C 0 0 99 dX2_sameBlock_30 rfl rfl inX2 (by decide) (by decide +kernel) rfl ?_
            refine w_iload C 4 dX2_sameBlock_33 rfl ?_
            refine w_iald C 1 dX2_sameBlock_35 rfl (by omega) ?_
            have b_4 := d.2 i
            refine w_aload_n C 2 dX2_sameBlock_36 rfl ?_
            refine w_get C 2 0 99 dX2_sameBlock_37 rfl rfl inX2 (by decide) (by decide +kernel) rfl ?_
            refine w_iload C 4 dX2_sameBlock_40 rfl ?_
            refine w_iald C 3 dX2_sameBlock_42 rfl (by omega) ?_
            have b_5 := e.2 i
            refine w_icmp_eq C 48 dX2_sameBlock_43 rfl (by omega) (fun c_6 => ?_) (fun c_6 => ?_)
            · refine w_iinc (lv2 := [(0, .ref h), (1, .int (iI q)), (2, .ref h2), (3, .int (iI (q * 64))), (4, .int (iI (i + 1)))]) C 4 dX2_sameBlock_48 rfl (by decide) rfl ?_
              refine w_goto C 20 dX2_sameBlock_51 rfl ?_
              refine w_lv (lv2 := [(0, .ref h), (1, .int (iI q)), (2, .ref h2), (3, .int (iI (q * 64))), (4, .int (iI ((i + 1))))]) [0, 1, 2, 3, 4] rfl ?_
              exact ih_20 _ (by omega) (i + 1) (by omega) (by omega) (fun j a b => if z : j = i then (by rw [z]; assumption) else h5 j a (by omega)) rfl
            · refine w_iconst C dX2_sameBlock_46 ?_
              exact w_reti hret dX2_sameBlock_47 rfl rfl rfl rfl ⟨congrArg (fun z => some (Value.int (iI z))) (by unfold im_same; rw [if_pos (by omega), show sam d e (q * 64) 64 = false from by cases z : sam d e (q * 64) 64 with | false => rfl | true => exact absurd ((sam_iff d e (q * 64) 64).mp z i (by omega) (by omega)) (by assumption)]; rfl), rfl⟩
      exact L_20 _ (q * 64) (by omega) (by omega) (fun j a b => by omega) rfl
    · refine w_iconst C dX2_sameBlock_10 ?_
      exact w_reti hret dX2_sameBlock_11 rfl rfl rfl rfl ⟨congrArg (fun z => some (Value.int (iI z))) (by unfold im_same; rw [if_neg (by omega)]; rfl), rfl⟩

theorem gX2_37 : cws RX2 37 yJ7_fill_fda19 cJ7_fill_fda19 5 none 4 268 269 75 270 := by decide +kernel
set_option maxHeartbeats 4000000 in
set_option maxRecDepth 100000 in
theorem ct_X2_wipe (G : GX) (l : Launch) (h : Nat) (b : Nat) (d : Im) (p : Int) (n : Int) (hp : -2147483648 ≤ p ∧ p < 2147483648) (hn : -2147483648 ≤ n ∧ n < 2147483648) : Ct G l yX2_wipe cX2_wipe 3 none rmX2_wipe [.ref h, .int (iI p), .int (iI n)] [(h, .inr (2, [.ref b])), (b, .inl (gI G, 4096, .inl (arI d)))] none [(h, .inr (2, [.ref b])), (b, .inl (gI G, 4096, .inl (arI (im_wipe d p n))))] := by
  refine Ct.of (by decide) (Nat.le_of_ble_eq_true rfl) ?_
  intro k C hl hret
  subst hl
  refine w_lv (lv2 := [(0, .ref h), (1, .int (iI p)), (2, .int (iI n))]) [0, 1, 2] rfl ?_
  refine w_iload_n C 1 dX2_wipe_0 rfl ?_
  refine w_iload_n C 2 dX2_wipe_1 rfl ?_
  refine w_callS (As := [.int (iI p), .int (iI n)]) (rest := []) (w2 := [(h, .inr (2, [.ref b])), (b, .inl (gI G, 4096, .inl (arI d)))]) (st2 := [.int (iI (bI (decide (rgP p n))))]) C (ct_X2_isRange G (kl k) p n (by omega) (by omega)) gX2_33 dX2_wipe_2 rfl rfl (Nat.le_of_ble_eq_true rfl) (by decide) [] rfl (by decide) [] rfl rfl rfl rfl ?_
  refine w_bz C 20 dX2_wipe_5 rfl (fun c_1 => ?_) (fun c_1 => ?_)
  · have hg : ¬ rgP p n := of_decide_eq_false (by assumption)
    exact w_retv hret dX2_wipe_20 rfl rfl rfl ⟨rfl, (by unfold im_wipe; first | rw [if_neg hg] | rw [if_pos hg, show p + n - p = n by omega])⟩
  · have hg : rgP p n := of_decide_eq_true (by assumption)
    unfold rgP at hg
    refine w_aload_n C 0 dX2_wipe_8 rfl ?_
    refine w_get C 0 0 99 dX2_wipe_9 rfl rfl inX2 (by decide) (by decide +kernel) rfl ?_
    refine w_iload_n C 1 dX2_wipe_12 rfl ?_
    refine w_iload_n C 1 dX2_wipe_13 rfl ?_
    refine w_iload_n C 2 dX2_wipe_14 rfl ?_
    refine w_iadd C dX2_wipe_15 ?_
    refine w_iconst C dX2_wipe_16 ?_
    refine w_callS (As := [.ref b, .int (iI p), .int (iI (p + n)), .int (iI 0)]) (rest := []) (w2 := [(h, .inr (2, [.ref b])), (b, .inl (gI G, 4096, .inl (arI (clr d p ((p + n) - p)))))]) (st2 := []) C (ct_J7_fill_fda19 G (kl k) b 4096 d p (p + n) (by omega)) gX2_37 dX2_wipe_17 rfl rfl (Nat.le_of_ble_eq_true rfl) (by decide) [1] rfl (by decide) [b] rfl rfl rfl rfl ?_
    exact w_retv hret dX2_wipe_20 rfl rfl rfl ⟨rfl, (by unfold im_wipe; first | rw [if_neg hg] | rw [if_pos hg, show p + n - p = n by omega])⟩

set_option maxHeartbeats 4000000 in
set_option maxRecDepth 100000 in
theorem ct_X2_copyAll (G : GX) (l : Launch) (h : Nat) (b : Nat) (d : Im) (h2 : Nat) (b2 : Nat) (e : Im) : Ct G l yX2_copyAll cX2_copyAll 2 none rmX2_copyAll [.ref h, .ref h2] [(h, .inr (2, [.ref b])), (b, .inl (gI G, 4096, .inl (arI d))), (h2, .inr (2, [.ref b2])), (b2, .inl (gI G, 4096, .inl (arI e)))] none [(h, .inr (2, [.ref b])), (b, .inl (gI G, 4096, .inl (arI (cpy e d 0 0 4096)))), (h2, .inr (2, [.ref b2])), (b2, .inl (gI G, 4096, .inl (arI e)))] := by
  refine Ct.of (by decide) (Nat.le_of_ble_eq_true rfl) ?_
  intro k C hl hret
  subst hl
  refine w_lv (lv2 := [(0, .ref h), (1, .ref h2)]) [0, 1] rfl ?_
  refine w_aload_n C 1 dX2_copyAll_0 rfl ?_
  refine w_get C 2 0 99 dX2_copyAll_1 rfl rfl inX2 (by decide) (by decide +kernel) rfl ?_
  refine w_iconst C dX2_copyAll_4 ?_
  refine w_aload_n C 0 dX2_copyAll_5 rfl ?_
  refine w_get C 0 0 99 dX2_copyAll_6 rfl rfl inX2 (by decide) (by decide +kernel) rfl ?_
  refine w_iconst C dX2_copyAll_9 ?_
  refine w_sipush C dX2_copyAll_10 (by decide) ?_
  refine w_copy (ws2 := [(h, .inr (2, [.ref b])), (b, .inl (gI G, 4096, .inl (arI (cpy e d 0 0 4096)))), (h2, .inr (2, [.ref b2])), (b2, .inl (gI G, 4096, .inl (arI e)))]) C 370 3 1 dX2_copyAll_13 (by decide +kernel) rfl rfl (by omega) (by decide) rfl ?_
  exact w_retv hret dX2_copyAll_16 rfl rfl rfl ⟨rfl, rfl⟩

set_option maxHeartbeats 4000000 in
set_option maxRecDepth 100000 in
theorem ct_X2_copyBlock (G : GX) (l : Launch) (h : Nat) (b : Nat) (d : Im) (h2 : Nat) (b2 : Nat) (e : Im) (q : Int) (r : Int) (hq : -2147483648 ≤ q ∧ q < 2147483648) (hr : -2147483648 ≤ r ∧ r < 2147483648) : Ct G l yX2_copyBlock cX2_copyBlock 4 none rmX2_copyBlock [.ref h, .int (iI q), .ref h2, .int (iI r)] [(h, .inr (2, [.ref b])), (b, .inl (gI G, 4096, .inl (arI d))), (h2, .inr (2, [.ref b2])), (b2, .inl (gI G, 4096, .inl (arI e)))] none [(h, .inr (2, [.ref b])), (b, .inl (gI G, 4096, .inl (arI (im_cpb e d q r)))), (h2, .inr (2, [.ref b2])), (b2, .inl (gI G, 4096, .inl (arI e)))] := by
  refine Ct.of (by decide) (Nat.le_of_ble_eq_true rfl) ?_
  intro k C hl hret
  subst hl
  refine w_lv (lv2 := [(0, .ref h), (1, .int (iI q)), (2, .ref h2), (3, .int (iI r))]) [0, 1, 2, 3] rfl ?_
  refine w_iload_n C 1 dX2_copyBlock_0 rfl ?_
  refine w_if_lt C 41 dX2_copyBlock_1 rfl (by omega) (fun c_1 => ?_) (fun c_1 => ?_)
  · exact w_retv hret dX2_copyBlock_41 rfl rfl rfl ⟨rfl, (by unfold im_cpb; first | rw [if_pos (by omega)] | rw [if_neg (by omega)])⟩
  · refine w_iload_n C 1 dX2_copyBlock_4 rfl ?_
    refine w_bipush C dX2_copyBlock_5 (by decide) ?_
    refine w_icmp_ge C 41 dX2_copyBlock_7 rfl (by omega) (fun c_2 => ?_) (fun c_2 => ?_)
    · exact w_retv hret dX2_copyBlock_41 rfl rfl rfl ⟨rfl, (by unfold im_cpb; first | rw [if_pos (by omega)] | rw [if_neg (by omega)])⟩
    · refine w_iload_n C 3 dX2_copyBlock_10 rfl ?_
      refine w_if_lt C 41 dX2_copyBlock_11 rfl (by omega) (fun c_3 => ?_) (fun c_3 => ?_)
      · exact w_retv hret dX2_copyBlock_41 rfl rfl rfl ⟨rfl, (by unfold im_cpb; first | rw [if_pos (by omega)] | rw [if_neg (by omega)])⟩
      · refine w_iload_n C 3 dX2_copyBlock_14 rfl ?_
        refine w_bipush C dX2_copyBlock_15 (by decide) ?_
        refine w_icmp_ge C 41 dX2_copyBlock_17 rfl (by omega) (fun c_4 => ?_) (fun c_4 => ?_)
        · exact w_retv hret dX2_copyBlock_41 rfl rfl rfl ⟨rfl, (by unfold im_cpb; first | rw [if_pos (by omega)] | rw [if_neg (by omega)])⟩
        · refine w_aload_n C 2 dX2_copyBlock_20 rfl ?_
          refine w_get C 2 0 99 dX2_copyBlock_21 rfl rfl inX2 (by decide) (by decide +kernel) rfl ?_
          refine w_iload_n C 1 dX2_copyBlock_24 rfl ?_
          refine w_bipush C dX2_copyBlock_25 (by decide) ?_
          refine w_imul C dX2_copyBlock_27 ?_
          refine w_aload_n C 0 dX2_copyBlock_28 rfl ?_
          refine w_get C 0 0 99 dX2_copyBlock_29 rfl rfl inX2 (by decide) (by decide +kernel) rfl ?_
          refine w_iload_n C 3 dX2_copyBlock_32 rfl ?_
          refine w_bipush C dX2_copyBlock_33 (by decide) ?_
          refine w_imul C dX2_copyBlock_35 ?_
          refine w_bipush C dX2_copyBlock_36 (by decide) ?_
          refine w_copy (ws2 := [(h, .inr (2, [.ref b])), (b, .inl (gI G, 4096, .inl (arI (cpy e d (q * 64) (r * 64) 64)))), (h2, .inr (2, [.ref b2])), (b2, .inl (gI G, 4096, .inl (arI e)))]) C 370 3 1 dX2_copyBlock_38 (by decide +kernel) rfl rfl (by omega) (by decide) rfl ?_
          exact w_retv hret dX2_copyBlock_41 rfl rfl rfl ⟨rfl, (by unfold im_cpb; first | rw [if_pos (by omega)] | rw [if_neg (by omega)])⟩

set_option maxHeartbeats 4000000 in
set_option maxRecDepth 100000 in
theorem ct_X2_copyBlock_s (G : GX) (l : Launch) (h : Nat) (b : Nat) (d : Im) (q : Int) (r : Int) (hq : -2147483648 ≤ q ∧ q < 2147483648) (hr : -2147483648 ≤ r ∧ r < 2147483648) : Ct G l yX2_copyBlock cX2_copyBlock 4 none rmX2_copyBlock [.ref h, .int (iI q), .ref h, .int (iI r)] [(h, .inr (2, [.ref b])), (b, .inl (gI G, 4096, .inl (arI d)))] none [(h, .inr (2, [.ref b])), (b, .inl (gI G, 4096, .inl (arI (im_cpb d d q r))))] := by
  refine Ct.of (by decide) (Nat.le_of_ble_eq_true rfl) ?_
  intro k C hl hret
  subst hl
  refine w_lv (lv2 := [(0, .ref h), (1, .int (iI q)), (2, .ref h), (3, .int (iI r))]) [0, 1, 2, 3] rfl ?_
  refine w_iload_n C 1 dX2_copyBlock_0 rfl ?_
  refine w_if_lt C 41 dX2_copyBlock_1 rfl (by omega) (fun c_1 => ?_) (fun c_1 => ?_)
  · exact w_retv hret dX2_copyBlock_41 rfl rfl rfl ⟨rfl, (by unfold im_cpb; first | rw [if_pos (by omega)] | rw [if_neg (by omega)])⟩
  · refine w_iload_n C 1 dX2_copyBlock_4 rfl ?_
    refine w_bipush C dX2_copyBlock_5 (by decide) ?_
    refine w_icmp_ge C 41 dX2_copyBlock_7 rfl (by omega) (fun c_2 => ?_) (fun c_2 => ?_)
    · exact w_retv hret dX2_copyBlock_41 rfl rfl rfl ⟨rfl, (by unfold im_cpb; first | rw [if_pos (by omega)] | rw [if_neg (by omega)])⟩
    · refine w_iload_n C 3 dX2_copyBlock_10 rfl ?_
      refine w_if_lt C 41 dX2_copyBlock_11 rfl (by omega) (fun c_3 => ?_) (fun c_3 => ?_)
      · exact w_retv hret dX2_copyBlock_41 rfl rfl rfl ⟨rfl, (by unfold im_cpb; first | rw [if_pos (by omega)] | rw [if_neg (by omega)])⟩
      · refine w_iload_n C 3 dX2_copyBlock_14 rfl ?_
        refine w_bipush C dX2_copyBlock_15 (by decide) ?_
        refine w_icmp_ge C 41 dX2_copyBlock_17 rfl (by omega) (fun c_4 => ?_) (fun c_4 => ?_)
        · exact w_retv hret dX2_copyBlock_41 rfl rfl rfl ⟨rfl, (by unfold im_cpb; first | rw [if_pos (by omega)] | rw [if_neg (by omega)])⟩
        · refine w_aload_n C 2 dX2_copyBlock_20 rfl ?_
          refine w_get C 0 0 99 dX2_copyBlock_21 rfl rfl inX2 (by decide) (by decide +kernel) rfl ?_
          refine w_iload_n C 1 dX2_copyBlock_24 rfl ?_
          refine w_bipush C dX2_copyBlock_25 (by decide) ?_
          refine w_imul C dX2_copyBlock_27 ?_
          refine w_aload_n C 0 dX2_copyBlock_28 rfl ?_
          refine w_get C 0 0 99 dX2_copyBlock_29 rfl rfl inX2 (by decide) (by decide +kernel) rfl ?_
          refine w_iload_n C 3 dX2_copyBlock_32 rfl ?_
          refine w_bipush C dX2_copyBlock_33 (by decide) ?_
          refine w_imul C dX2_copyBlock_35 ?_
          refine w_bipush C dX2_copyBlock_36 (by decide) ?_
          refine w_copy (ws2 := [(h, .inr (2, [.ref b])), (b, .inl (gI G, 4096, .inl (arI (cpy d d (q * 64) (r * 64) 64))))]) C 370 1 1 dX2_copyBlock_38 (by decide +kernel) rfl rfl (by omega) (by decide) rfl ?_
          exact w_retv hret dX2_copyBlock_41 rfl rfl rfl ⟨rfl, (by unfold im_cpb; first | rw [if_pos (by omega)] | rw [if_neg (by omega)])⟩

theorem gX2_15 : cwv RX2 15 yJ0_length_8abf5 cJ0_length_8abf5 1 (some .int) 0 283 284 285 77 286 := by decide +kernel
theorem gX2_21 : cwv RX2 21 yX2_at cX2_at 2 (some .int) 1 358 359 360 66 361 := by decide +kernel
theorem gX2_25 : cwv RX2 25 yJ0_charAt_5068e cJ0_charAt_5068e 2 (some .char) 1 293 294 295 77 296 := by decide +kernel
set_option maxHeartbeats 4000000 in
set_option maxRecDepth 100000 in
theorem ct_X2_hasText (G : GX) (l : Launch) (h : Nat) (b : Nat) (d : Im) (t : Nat) (p : Int) (hp : -1000000 ≤ p ∧ p < 1000000) (ht : t < 5) : Ct G l yX2_hasText cX2_hasText 4 (some .boolean) rmX2_hasText [.ref h, .int (iI p), .ref (gK G t)] [(h, .inr (2, [.ref b])), (b, .inl (gI G, 4096, .inl (arI d)))] (some (.int (iI (bI (im_has d p t))))) [(h, .inr (2, [.ref b])), (b, .inl (gI G, 4096, .inl (arI d)))] := by
  refine Ct.of (by decide) (Nat.le_of_ble_eq_true rfl) ?_
  intro k C hl hret
  subst hl
  refine w_lv (lv2 := [(0, .ref h), (1, .int (iI p)), (2, .ref (gK G t))]) [0, 1, 2] rfl ?_
  refine w_iconst C dX2_hasText_0 ?_
  refine w_istore_n (lv2 := [(0, .ref h), (1, .int (iI p)), (2, .ref (gK G t)), (3, .int (iI 0))]) C dX2_hasText_1 (by decide) rfl ?_
  have L_2 : ∀ (nn_2 : Nat) (i : Int), (0 ≤ i ∧ i ≤ tn t) → (∀ j, 0 ≤ j → j < i → im_at d (p + j) = tx t j) → (tn t - i).toNat = nn_2 → Wd G k 4 0 0 [(h, .inr (2, [.ref b])), (b, .inl (gI G, 4096, .inl (arI d)))] 2 [(0, .ref h), (1, .int (iI p)), (2, .ref (gK G t)), (3, .int (iI i))] [] := by
    intro nn_2
    induction nn_2 using Nat.strongRecOn with
    | ind nn_2 ih_2 =>
      intro i h1 h2 hm_2
      have q1 := tn_rg t ht
      refine w_iload_n C 3 dX2_hasText_2 rfl ?_
      refine w_aload_n C 2 dX2_hasText_3 rfl ?_
      refine w_callT (t := t) (As := []) (rest := [.int (iI i)]) (st2 := [.int (iI (tn t)), .int (iI i)]) C (by omega) (ct_J0_length_8abf5 G (kl k) t (by omega)) gX2_15 dX2_hasText_4 rfl rfl rfl (Nat.le_of_ble_eq_true rfl) (by decide) rfl ?_
      have f_1 := tn_rg t (by omega)
      refine w_icmp_ge C 33 dX2_hasText_7 rfl (by omega) (fun c_2 => ?_) (fun c_2 => ?_)
      · refine w_iconst C dX2_hasText_33 ?_
        exact w_reti hret dX2_hasText_34 rfl rfl rfl rfl ⟨congrArg (fun z => some (Value.int (iI z))) (by rw [(im_has_iff d p t).mpr (fun j a b => h2 j a (by omega))]; rfl), rfl⟩
      · refine w_aload_n C 0 dX2_hasText_10 rfl ?_
        refine w_iload_n C 1 dX2_hasText_11 rfl ?_
        refine w_iload_n C 3 dX2_hasText_12 rfl ?_
        refine w_iadd C dX2_hasText_13 ?_
        refine w_callV (As := [.int (iI (p + i))]) (rest := []) (w2 := [(h, .inr (2, [.ref b])), (b, .inl (gI G, 4096, .inl (arI d)))]) (st2 := [.int (iI (im_at d (p + i)))]) C (ct_X2_at G (kl k) h b d (p + i) (by omega)) gX2_21 dX2_hasText_14 0 rfl rfl rfl rfl rfl (Nat.le_of_ble_eq_true rfl) (by decide) [0, 1] rfl (by decide) [h, b] rfl rfl rfl rfl ?_
        have f_3 := im_at_rg d (p + i)
        refine w_aload_n C 2 dX2_hasText_17 rfl ?_
        refine w_iload_n C 3 dX2_hasText_18 rfl ?_
        refine w_callT (t := t) (As := [.int (iI i)]) (rest := [.int (iI (im_at d (p + i)))]) (st2 := [.int (iI (tx t i)), .int (iI (im_at d (p + i)))]) C (by omega) (ct_J0_charAt_5068e G (kl k) t i (by omega) (by omega)) gX2_25 dX2_hasText_19 rfl rfl rfl (Nat.le_of_ble_eq_true rfl) (by decide) rfl ?_
        have f_4 := tx_rg (t := t) (i := i) (by omega) (by omega)
        refine w_icmp_eq C 27 dX2_hasText_22 rfl (by omega) (fun c_5 => ?_) (fun c_5 => ?_)
        · refine w_iinc (lv2 := [(0, .ref h), (1, .int (iI p)), (2, .ref (gK G t)), (3, .int (iI (i + 1)))]) C 3 dX2_hasText_27 rfl (by decide) rfl ?_
          refine w_goto C 2 dX2_hasText_30 rfl ?_
          refine w_lv (lv2 := [(0, .ref h), (1, .int (iI p)), (2, .ref (gK G t)), (3, .int (iI ((i + 1))))]) [0, 1, 2, 3] rfl ?_
          exact ih_2 _ (by omega) (i + 1) (by omega) (fun j a b => if z : j = i then (by rw [z]; assumption) else h2 j a (by omega)) rfl
        · refine w_iconst C dX2_hasText_25 ?_
          exact w_reti hret dX2_hasText_26 rfl rfl rfl rfl ⟨congrArg (fun z => some (Value.int (iI z))) (by rw [show im_has d p t = false from by cases z : im_has d p t with | false => rfl | true => exact absurd ((im_has_iff d p t).mp z i (by omega) (by omega)) (by assumption)]; rfl), rfl⟩
  exact L_2 _ 0 (by have := tn_rg t ht; omega) (fun j a b => by omega) rfl

theorem gX2_29 : cwv RX2 29 yX2_set cX2_set 3 none 2 331 332 333 66 334 := by decide +kernel
set_option maxHeartbeats 4000000 in
set_option maxRecDepth 100000 in
theorem ct_X2_setText (G : GX) (l : Launch) (h : Nat) (b : Nat) (d : Im) (t : Nat) (p : Int) (hp : -1000000 ≤ p ∧ p < 1000000) (ht : t < 5) : Ct G l yX2_setText cX2_setText 4 none rmX2_setText [.ref h, .int (iI p), .ref (gK G t)] [(h, .inr (2, [.ref b])), (b, .inl (gI G, 4096, .inl (arI d)))] none [(h, .inr (2, [.ref b])), (b, .inl (gI G, 4096, .inl (arI (im_txt d p t (tn t).toNat))))] := by
  refine Ct.of (by decide) (Nat.le_of_ble_eq_true rfl) ?_
  intro k C hl hret
  subst hl
  refine w_lv (lv2 := [(0, .ref h), (1, .int (iI p)), (2, .ref (gK G t))]) [0, 1, 2] rfl ?_
  refine w_iconst C dX2_setText_0 ?_
  refine w_istore_n (lv2 := [(0, .ref h), (1, .int (iI p)), (2, .ref (gK G t)), (3, .int (iI 0))]) C dX2_setText_1 (by decide) rfl ?_
  have L_2 : ∀ (nn_2 : Nat) (i : Int) (e : Im), (0 ≤ i ∧ i ≤ tn t) → (e = im_txt d p t i.toNat) → (tn t - i).toNat = nn_2 → Wd G k 4 0 0 [(h, .inr (2, [.ref b])), (b, .inl (gI G, 4096, .inl (arI e)))] 2 [(0, .ref h), (1, .int (iI p)), (2, .ref (gK G t)), (3, .int (iI i))] [] := by
    intro nn_2
    induction nn_2 using Nat.strongRecOn with
    | ind nn_2 ih_2 =>
      intro i e h1 h2 hm_2
      have q1 := tn_rg t ht
      refine w_iload_n C 3 dX2_setText_2 rfl ?_
      refine w_aload_n C 2 dX2_setText_3 rfl ?_
      refine w_callT (t := t) (As := []) (rest := [.int (iI i)]) (st2 := [.int (iI (tn t)), .int (iI i)]) C (by omega) (ct_J0_length_8abf5 G (kl k) t (by omega)) gX2_15 dX2_setText_4 rfl rfl rfl (Nat.le_of_ble_eq_true rfl) (by decide) rfl ?_
      have f_1 := tn_rg t (by omega)
      refine w_icmp_ge C 28 dX2_setText_7 rfl (by omega) (fun c_2 => ?_) (fun c_2 => ?_)
      · exact w_retv hret dX2_setText_28 rfl rfl rfl ⟨rfl, (by rw [h2, show i = tn t by omega])⟩
      · refine w_aload_n C 0 dX2_setText_10 rfl ?_
        refine w_iload_n C 1 dX2_setText_11 rfl ?_
        refine w_iload_n C 3 dX2_setText_12 rfl ?_
        refine w_iadd C dX2_setText_13 ?_
        refine w_aload_n C 2 dX2_setText_14 rfl ?_
        refine w_iload_n C 3 dX2_setText_15 rfl ?_
        refine w_callT (t := t) (As := [.int (iI i)]) (rest := [.int (iI (p + i)), .ref h]) (st2 := [.int (iI (tx t i)), .int (iI (p + i)), .ref h]) C (by omega) (ct_J0_charAt_5068e G (kl k) t i (by omega) (by omega)) gX2_25 dX2_setText_16 rfl rfl rfl (Nat.le_of_ble_eq_true rfl) (by decide) rfl ?_
        have f_3 := tx_rg (t := t) (i := i) (by omega) (by omega)
        refine w_callV (As := [.int (iI (p + i)), .int (iI (tx t i))]) (rest := []) (w2 := [(h, .inr (2, [.ref b])), (b, .inl (gI G, 4096, .inl (arI (im_set e (p + i) (tx t i)))))]) (st2 := []) C (ct_X2_set G (kl k) h b e (p + i) (tx t i) (by omega)) gX2_29 dX2_setText_19 0 rfl rfl rfl rfl rfl (Nat.le_of_ble_eq_true rfl) (by decide) [0, 1] rfl (by decide) [h, b] rfl rfl rfl rfl ?_
        refine w_iinc (lv2 := [(0, .ref h), (1, .int (iI p)), (2, .ref (gK G t)), (3, .int (iI (i + 1)))]) C 3 dX2_setText_22 rfl (by decide) rfl ?_
        refine w_goto C 2 dX2_setText_25 rfl ?_
        refine w_ord (ws2 := [(h, .inr (2, [.ref b])), (b, .inl (gI G, 4096, .inl (arI ((im_set e (p + i) (tx t i))))))]) [0, 1] rfl (by decide) ?_
        refine w_lv (lv2 := [(0, .ref h), (1, .int (iI p)), (2, .ref (gK G t)), (3, .int (iI ((i + 1))))]) [0, 1, 2, 3] rfl ?_
        exact ih_2 _ (by omega) (i + 1) (im_set e (p + i) (tx t i)) (by omega) (by rw [h2, show (i + 1).toNat = i.toNat + 1 by omega, im_txt, show ((i.toNat : Nat) : Int) = i by omega]) rfl
  exact L_2 _ 0 d (by have := tn_rg t ht; omega) rfl rfl
end
section
/-! WHAT NAMES, SUPERS AND THE JOURNAL MEAN -/
/-- a name: bytes nb, of which n count -/
def nm_at (nb : Im) (n k : Int) : Int := if 0 ≤ k ∧ k < n ∧ k < 14 then nb.1 k else 0
theorem nm_at_rg (nb : Im) (n k : Int) : 0 ≤ nm_at nb n k ∧ nm_at nb n k < 256 := by
  unfold nm_at; have := nb.2 k; split <;> omega
def nm_addB (nb : Im) (n v : Int) : Im := if 0 ≤ n ∧ n < 14 then up nb n v else nb
def nm_addN (n : Int) : Int := if 0 ≤ n ∧ n < 14 then n + 1 else n
def nm_sp (nb : Im) (t : Nat) : Nat → Im
  | 0 => nb
  | j + 1 => up (nm_sp nb t j) j (tx t j)
def nm_ld (nb d : Im) (p : Int) : Nat → Im
  | 0 => nb
  | j + 1 => up (nm_ld nb d p j) j (im_at d (p + j))
def nm_hash (nb : Im) : Nat → Im
  | 0 => nb
  | j + 1 => up (nm_hash nb j) j 35
def nm_num (nb : Im) (m i : Int) : Im := up (up (nm_hash nb m.toNat) m (48 + i / 10)) (m + 1) (48 + i % 10)
/-- the byte of a long behind s bits -/
def lby (x : Int64) (s : Nat) : Int := ((x.toBitVec.toNat / 2 ^ s % 256 : Nat) : Int)
theorem lby_rg (x : Int64) (s : Nat) : 0 ≤ lby x s ∧ lby x s < 256 := by unfold lby; omega
theorem lby_of (x : Int64) (s : Nat) (hs : s < 64) : ((x.toUInt64 >>> ((iI s).toInt64.toUInt64 &&& Int64.toUInt64 63)).toInt64.toInt32 &&& iI 255) = iI (lby x s) := by
  have e1 : ((iI s).toInt64.toUInt64 &&& Int64.toUInt64 63) = UInt64.ofNat s := by
    have h : ∀ k, k < 64 → ((iI (k : Nat)).toInt64.toUInt64 &&& Int64.toUInt64 63) = UInt64.ofNat k := by decide +kernel
    exact h s hs
  rw [e1, pk_and _ 8 (by decide)]
  show Int32.ofNat _ = _
  rw [iI_nat]
  congr 1
  unfold lby
  congr 1
  have e2 : (x.toUInt64 >>> UInt64.ofNat s).toInt64.toInt32.toBitVec = ((x.toBitVec >>> s).setWidth 32) := by
    have h3 : (UInt64.ofNat s).toBitVec % 64 = BitVec.ofNat 64 s := by
      apply BitVec.eq_of_toNat_eq
      simp
      omega
    show BitVec.signExtend 32 (x.toBitVec >>> ((UInt64.ofNat s).toBitVec % 64)) = _
    rw [h3, BitVec.signExtend_eq_setWidth_of_le _ (by decide)]
    congr 1
    rw [BitVec.ushiftRight_eq', BitVec.toNat_ofNat, Nat.mod_eq_of_lt (by omega)]
  rw [e2, BitVec.toNat_setWidth, BitVec.toNat_ushiftRight, Nat.shiftRight_eq_div_pow]
  omega
/-- a long as a name, its first j bytes told: bytes and how many -/
def nm_un (nb : Im) (x : Int64) : Nat → Im × Int
  | 0 => (nb, 0)
  | j + 1 => if lby x (56 - 8 * j) ≠ 0 ∨ 0 < (nm_un nb x j).2 then (up (nm_un nb x j).1 (nm_un nb x j).2 (lby x (56 - 8 * j)), (nm_un nb x j).2 + 1) else nm_un nb x j
theorem nm_un_rg (nb : Im) (x : Int64) : ∀ j : Nat, 0 ≤ (nm_un nb x j).2 ∧ (nm_un nb x j).2 ≤ j
  | 0 => by simp [nm_un]
  | j + 1 => by
    have h := nm_un_rg nb x j
    rw [nm_un]
    split
    · show 0 ≤ (nm_un nb x j).2 + 1 ∧ (nm_un nb x j).2 + 1 ≤ _; omega
    · omega
/-- no byte 0 or 47 among the first j; how many of them are 46 -/
def nm_good (nb : Im) : Nat → Bool
  | 0 => true
  | j + 1 => nm_good nb j && decide (nb.1 j ≠ 0 ∧ nb.1 j ≠ 47)
theorem nm_good_iff (nb : Im) : ∀ n : Nat, nm_good nb n = true ↔ ∀ j : Int, 0 ≤ j → j < n → nb.1 j ≠ 0 ∧ nb.1 j ≠ 47
  | 0 => by simp only [nm_good, true_iff]; intro j h1 h2; omega
  | n + 1 => by
    rw [nm_good, Bool.and_eq_true, nm_good_iff nb n, decide_eq_true_iff]
    constructor
    · rintro ⟨h1, h2⟩ j h3 h4
      by_cases h : j < n
      · exact h1 j h3 h
      · rw [show j = n by omega]; exact h2
    · intro h
      exact ⟨fun j h1 h2 => h j h1 (by omega), h _ (by omega) (by omega)⟩
def nm_dots (nb : Im) : Nat → Int
  | 0 => 0
  | j + 1 => nm_dots nb j + (if nb.1 j = 46 then 1 else 0)
theorem nm_dots_rg (nb : Im) : ∀ j : Nat, 0 ≤ nm_dots nb j ∧ nm_dots nb j ≤ j
  | 0 => by simp [nm_dots]
  | j + 1 => by
    have h := nm_dots_rg nb j
    rw [nm_dots]
    split <;> omega
def nm_ok (nb : Im) (n : Int) : Bool := nm_good nb n.toNat && decide (2 < n ∨ nm_dots nb n.toNat < n)
-- supers
def su_ok (d : Im) (b : Int) : Bool := im_has d (b * 64) 0 && decide (im_two d (b * 64 + 62) = im_sum d (b * 64) 62)
def su_sum (d : Im) (b : Int) : Im := im_put d (b * 64 + 62) (im_sum d (b * 64) 62)
def su_wr (d : Im) (b x y : Int) : Im := su_sum (im_put (im_put (im_txt (im_wipe d (b * 64) 64) (b * 64) 0 (tn 0).toNat) (b * 64 + 4) x) (b * 64 + 6) y) b
-- the journal
def jn_right (d : Im) : Int := (im_sum d 64 62 + im_sum d 128 (min (im_at d 68) 5 * 64)) % 65536
theorem jn_right_rg (d : Im) : 0 ≤ jn_right d ∧ jn_right d < 65536 := by unfold jn_right; omega
def jn_sum (d : Im) : Im := im_put d 126 (jn_right d)
def jn_tg (d : Im) (x : Int64) : Nat → Im
  | 0 => d
  | j + 1 => im_set (jn_tg d x j) (69 + j) (lby x (56 - 8 * j))
def jn_wr (d : Im) (x : Int64) (n : Int) : Im := jn_sum (jn_tg (im_set (im_txt (im_wipe d 64 64) 64 1 (tn 1).toNat) 68 n) x n.toNat)
/-- the first j block numbers are different ones of 7 .. 62 -/
def jn_tgs (d : Im) : Nat → Prop := fun n => ∀ j : Int, 0 ≤ j → j < n → (7 ≤ im_at d (69 + j) ∧ im_at d (69 + j) ≤ 62) ∧ ∀ i : Int, 0 ≤ i → i < j → im_at d (69 + i) ≠ im_at d (69 + j)
end
section
set_option maxHeartbeats 4000000 in
set_option maxRecDepth 100000 in
theorem ct_X6_length (G : GX) (l : Launch) (h : Nat) (b : Nat) (nb : Im) (n : Int) : Ct G l yX6_length cX6_length 1 (some .int) rmX6_length [.ref h] [(h, .inr (5, [.ref b, .int (iI n)])), (b, .inl (gI G, 14, .inl (arI nb)))] (some (.int (iI n))) [(h, .inr (5, [.ref b, .int (iI n)])), (b, .inl (gI G, 14, .inl (arI nb)))] := by
  refine Ct.of (by decide) (Nat.le_of_ble_eq_true rfl) ?_
  intro k C hl hret
  subst hl
  refine w_lv (lv2 := [(0, .ref h)]) [0] rfl ?_
  refine w_aload_n C 0 dX6_length_0 rfl ?_
  refine w_get C 0 1 130 dX6_length_1 rfl rfl inX6 (by decide) (by decide +kernel) rfl ?_
  exact w_reti hret dX6_length_4 rfl rfl rfl rfl ⟨rfl, rfl⟩

set_option maxHeartbeats 4000000 in
set_option maxRecDepth 100000 in
theorem ct_X6_at (G : GX) (l : Launch) (h : Nat) (b : Nat) (nb : Im) (n : Int) (j : Int) (hj : -2147483648 ≤ j ∧ j < 2147483648) (hn : 0 ≤ n ∧ n ≤ 14) : Ct G l yX6_at cX6_at 2 (some .int) rmX6_at [.ref h, .int (iI j)] [(h, .inr (5, [.ref b, .int (iI n)])), (b, .inl (gI G, 14, .inl (arI nb)))] (some (.int (iI (nm_at nb n j)))) [(h, .inr (5, [.ref b, .int (iI n)])), (b, .inl (gI G, 14, .inl (arI nb)))] := by
  refine Ct.of (by decide) (Nat.le_of_ble_eq_true rfl) ?_
  intro k C hl hret
  subst hl
  refine w_lv (lv2 := [(0, .ref h), (1, .int (iI j))]) [0, 1] rfl ?_
  refine w_iload_n C 1 dX6_at_0 rfl ?_
  refine w_if_lt C 27 dX6_at_1 rfl (by omega) (fun c_1 => ?_) (fun c_1 => ?_)
  · refine w_iconst C dX6_at_27 ?_
    exact w_reti hret dX6_at_28 rfl rfl rfl rfl ⟨congrArg (fun z => some (Value.int (iI z))) (by unfold nm_at; split <;> first | rfl | omega), rfl⟩
  · refine w_iload_n C 1 dX6_at_4 rfl ?_
    refine w_aload_n C 0 dX6_at_5 rfl ?_
    refine w_get C 0 1 130 dX6_at_6 rfl rfl inX6 (by decide) (by decide +kernel) rfl ?_
    refine w_icmp_ge C 27 dX6_at_9 rfl (by omega) (fun c_2 => ?_) (fun c_2 => ?_)
    · refine w_iconst C dX6_at_27 ?_
      exact w_reti hret dX6_at_28 rfl rfl rfl rfl ⟨congrArg (fun z => some (Value.int (iI z))) (by unfold nm_at; split <;> first | rfl | omega), rfl⟩
    · refine w_iload_n C 1 dX6_at_12 rfl ?_
      refine w_bipush C dX6_at_13 (by decide) ?_
      refine w_icmp_ge C 27 dX6_at_15 rfl (by omega) (fun c_3 => ?_) (fun c_3 => ?_)
      · refine w_iconst C dX6_at_27 ?_
        exact w_reti hret dX6_at_28 rfl rfl rfl rfl ⟨congrArg (fun z => some (Value.int (iI z))) (by unfold nm_at; split <;> first | rfl | omega), rfl⟩
      · refine w_aload_n C 0 dX6_at_18 rfl ?_
        refine w_get C 0 0 129 dX6_at_19 rfl rfl inX6 (by decide) (by decide +kernel) rfl ?_
        refine w_iload_n C 1 dX6_at_22 rfl ?_
        refine w_iald C 1 dX6_at_23 rfl (by omega) ?_
        have b_4 := nb.2 j
        refine w_goto C 28 dX6_at_24 rfl ?_
        exact w_reti hret dX6_at_28 rfl rfl rfl rfl ⟨congrArg (fun z => some (Value.int (iI z))) (by unfold nm_at; split <;> first | rfl | omega), rfl⟩

set_option maxHeartbeats 4000000 in
set_option maxRecDepth 100000 in
theorem ct_X6_add (G : GX) (l : Launch) (h : Nat) (b : Nat) (nb : Im) (n : Int) (v : Int) (hv : 0 ≤ v ∧ v < 256) (hn : 0 ≤ n ∧ n ≤ 14) : Ct G l yX6_add cX6_add 2 none rmX6_add [.ref h, .int (iI v)] [(h, .inr (5, [.ref b, .int (iI n)])), (b, .inl (gI G, 14, .inl (arI nb)))] none [(h, .inr (5, [.ref b, .int (iI (nm_addN n))])), (b, .inl (gI G, 14, .inl (arI (nm_addB nb n v))))] := by
  refine Ct.of (by decide) (Nat.le_of_ble_eq_true rfl) ?_
  intro k C hl hret
  subst hl
  refine w_lv (lv2 := [(0, .ref h), (1, .int (iI v))]) [0, 1] rfl ?_
  refine w_aload_n C 0 dX6_add_0 rfl ?_
  refine w_get C 0 1 130 dX6_add_1 rfl rfl inX6 (by decide) (by decide +kernel) rfl ?_
  refine w_if_lt C 36 dX6_add_4 rfl (by omega) (fun c_1 => ?_) (fun c_1 => ?_)
  · exact w_retv hret dX6_add_36 rfl rfl rfl ⟨rfl, (by unfold nm_addB nm_addN; first | rw [if_neg (by omega), if_neg (by omega)] | rw [if_pos (by omega), if_pos (by omega)])⟩
  · refine w_aload_n C 0 dX6_add_7 rfl ?_
    refine w_get C 0 1 130 dX6_add_8 rfl rfl inX6 (by decide) (by decide +kernel) rfl ?_
    refine w_bipush C dX6_add_11 (by decide) ?_
    refine w_icmp_ge C 36 dX6_add_13 rfl (by omega) (fun c_2 => ?_) (fun c_2 => ?_)
    · exact w_retv hret dX6_add_36 rfl rfl rfl ⟨rfl, (by unfold nm_addB nm_addN; first | rw [if_neg (by omega), if_neg (by omega)] | rw [if_pos (by omega), if_pos (by omega)])⟩
    · refine w_aload_n C 0 dX6_add_16 rfl ?_
      refine w_get C 0 0 129 dX6_add_17 rfl rfl inX6 (by decide) (by decide +kernel) rfl ?_
      refine w_aload_n C 0 dX6_add_20 rfl ?_
      refine w_get C 0 1 130 dX6_add_21 rfl rfl inX6 (by decide) (by decide +kernel) rfl ?_
      refine w_iload_n C 1 dX6_add_24 rfl ?_
      refine w_iast (ws2 := [(h, .inr (5, [.ref b, .int (iI n)])), (b, .inl (gI G, 14, .inl (arI (up nb n v))))]) C 1 dX6_add_25 rfl (by omega) (by omega) rfl ?_
      refine w_aload_n C 0 dX6_add_26 rfl ?_
      refine w_dup C dX6_add_27 rfl ?_
      refine w_get C 0 1 130 dX6_add_28 rfl rfl inX6 (by decide) (by decide +kernel) rfl ?_
      refine w_iconst C dX6_add_31 ?_
      refine w_iadd C dX6_add_32 ?_
      refine w_put (ty := .int) (ws2 := [(h, .inr (5, [.ref b, .int (iI (n + 1))])), (b, .inl (gI G, 14, .inl (arI (up nb n v))))]) C 0 1 130 dX6_add_33 rfl rfl inX6 tyX6_ok nmX6 (by decide) (by decide +kernel) rfl (by decide +kernel) rfl rfl (Nat.le_of_ble_eq_true rfl) rfl ?_
      exact w_retv hret dX6_add_36 rfl rfl rfl ⟨rfl, (by unfold nm_addB nm_addN; first | rw [if_neg (by omega), if_neg (by omega)] | rw [if_pos (by omega), if_pos (by omega)])⟩

theorem gX6_19 : cwv RX6 19 yJ0_length_8abf5 cJ0_length_8abf5 1 (some .int) 0 529 284 285 77 286 := by decide +kernel
theorem gX6_24 : cwv RX6 24 yJ0_charAt_5068e cJ0_charAt_5068e 2 (some .char) 1 530 294 295 77 296 := by decide +kernel
theorem gX6_28 : cwv RX6 28 yX6_add cX6_add 2 none 1 531 533 4 69 534 := by decide +kernel
set_option maxHeartbeats 4000000 in
set_option maxRecDepth 100000 in
theorem ct_X6_spell (G : GX) (l : Launch) (h : Nat) (b : Nat) (nb : Im) (n : Int) (t : Nat) (ht : t < 5) : Ct G l yX6_spell cX6_spell 3 none rmX6_spell [.ref h, .ref (gK G t)] [(h, .inr (5, [.ref b, .int (iI n)])), (b, .inl (gI G, 14, .inl (arI nb)))] none [(h, .inr (5, [.ref b, .int (iI (tn t))])), (b, .inl (gI G, 14, .inl (arI (nm_sp nb t (tn t).toNat))))] := by
  refine Ct.of (by decide) (Nat.le_of_ble_eq_true rfl) ?_
  intro k C hl hret
  subst hl
  refine w_lv (lv2 := [(0, .ref h), (1, .ref (gK G t))]) [0, 1] rfl ?_
  refine w_aload_n C 0 dX6_spell_0 rfl ?_
  refine w_iconst C dX6_spell_1 ?_
  refine w_put (ty := .int) (ws2 := [(h, .inr (5, [.ref b, .int (iI 0)])), (b, .inl (gI G, 14, .inl (arI nb)))]) C 0 1 130 dX6_spell_2 rfl rfl inX6 tyX6_ok nmX6 (by decide) (by decide +kernel) rfl (by decide +kernel) rfl rfl (Nat.le_of_ble_eq_true rfl) rfl ?_
  refine w_iconst C dX6_spell_5 ?_
  refine w_istore_n (lv2 := [(0, .ref h), (1, .ref (gK G t)), (2, .int (iI 0))]) C dX6_spell_6 (by decide) rfl ?_
  have L_7 : ∀ (nn_7 : Nat) (i : Int) (e : Im), (0 ≤ i ∧ i ≤ tn t) → (e = nm_sp nb t i.toNat) → (tn t - i).toNat = nn_7 → Wd G k 3 0 0 [(h, .inr (5, [.ref b, .int (iI i)])), (b, .inl (gI G, 14, .inl (arI e)))] 7 [(0, .ref h), (1, .ref (gK G t)), (2, .int (iI i))] [] := by
    intro nn_7
    induction nn_7 using Nat.strongRecOn with
    | ind nn_7 ih_7 =>
      intro i e h1 h2 hm_7
      have q1 := tn_rg t ht
      refine w_iload_n C 2 dX6_spell_7 rfl ?_
      refine w_aload_n C 1 dX6_spell_8 rfl ?_
      refine w_callT (t := t) (As := []) (rest := [.int (iI i)]) (st2 := [.int (iI (tn t)), .int (iI i)]) C (by omega) (ct_J0_length_8abf5 G (kl k) t (by omega)) gX6_19 dX6_spell_9 rfl rfl rfl (Nat.le_of_ble_eq_true rfl) (by decide) rfl ?_
      have f_1 := tn_rg t (by omega)
      refine w_icmp_ge C 30 dX6_spell_12 rfl (by omega) (fun c_2 => ?_) (fun c_2 => ?_)
      · exact w_retv hret dX6_spell_30 rfl rfl rfl ⟨rfl, (by rw [h2, show i = tn t by omega])⟩
      · refine w_aload_n C 0 dX6_spell_15 rfl ?_
        refine w_aload_n C 1 dX6_spell_16 rfl ?_
        refine w_iload_n C 2 dX6_spell_17 rfl ?_
        refine w_callT (t := t) (As := [.int (iI i)]) (rest := [.ref h]) (st2 := [.int (iI (tx t i)), .ref h]) C (by omega) (ct_J0_charAt_5068e G (kl k) t i (by omega) (by omega)) gX6_24 dX6_spell_18 rfl rfl rfl (Nat.le_of_ble_eq_true rfl) (by decide) rfl ?_
        have f_3 := tx_rg (t := t) (i := i) (by omega) (by omega)
        refine w_callV (As := [.int (iI (tx t i))]) (rest := []) (w2 := [(h, .inr (5, [.ref b, .int (iI (nm_addN i))])), (b, .inl (gI G, 14, .inl (arI (nm_addB e i (tx t i)))))]) (st2 := []) C (ct_X6_add G (kl k) h b e i (tx t i) (by omega) (by omega)) gX6_28 dX6_spell_21 0 rfl rfl rfl rfl rfl (Nat.le_of_ble_eq_true rfl) (by decide) [0, 1] rfl (by decide) [h, b] rfl rfl rfl rfl ?_
        refine w_ws (ws2 := [(h, .inr (5, [.ref b, .int (iI (i + 1))])), (b, .inl (gI G, 14, .inl (arI (up e i (tx t i)))))]) (by unfold nm_addB nm_addN; rw [if_pos (by omega), if_pos (by omega)]) ?_
        refine w_iinc (lv2 := [(0, .ref h), (1, .ref (gK G t)), (2, .int (iI (i + 1)))]) C 2 dX6_spell_24 rfl (by decide) rfl ?_
        refine w_goto C 7 dX6_spell_27 rfl ?_
        refine w_ord (ws2 := [(h, .inr (5, [.ref b, .int (iI ((i + 1)))])), (b, .inl (gI G, 14, .inl (arI ((up e i (tx t i))))))]) [0, 1] rfl (by decide) ?_
        refine w_lv (lv2 := [(0, .ref h), (1, .ref (gK G t)), (2, .int (iI ((i + 1))))]) [0, 1, 2] rfl ?_
        exact ih_7 _ (by omega) (i + 1) (up e i (tx t i)) (by omega) (by rw [h2, show (i + 1).toNat = i.toNat + 1 by omega, nm_sp, show ((i.toNat : Nat) : Int) = i by omega]) rfl
  exact L_7 _ 0 nb (by have := tn_rg t ht; omega) rfl rfl

theorem gX6_32 : cwv RX6 32 yX2_at cX2_at 2 (some .int) 1 577 359 360 66 361 := by decide +kernel
set_option maxHeartbeats 4000000 in
set_option maxRecDepth 100000 in
theorem ct_X6_load (G : GX) (l : Launch) (h : Nat) (b : Nat) (nb : Im) (n : Int) (g : Nat) (gb : Nat) (d : Im) (p : Int) (c : Int) (hp : -1000000 ≤ p ∧ p < 1000000) (hc : 0 ≤ c ∧ c ≤ 14) : Ct G l yX6_load cX6_load 5 none rmX6_load [.ref h, .ref g, .int (iI p), .int (iI c)] [(h, .inr (5, [.ref b, .int (iI n)])), (b, .inl (gI G, 14, .inl (arI nb))), (g, .inr (2, [.ref gb])), (gb, .inl (gI G, 4096, .inl (arI d)))] none [(h, .inr (5, [.ref b, .int (iI c)])), (b, .inl (gI G, 14, .inl (arI (nm_ld nb d p c.toNat)))), (g, .inr (2, [.ref gb])), (gb, .inl (gI G, 4096, .inl (arI d)))] := by
  refine Ct.of (by decide) (Nat.le_of_ble_eq_true rfl) ?_
  intro k C hl hret
  subst hl
  refine w_lv (lv2 := [(0, .ref h), (1, .ref g), (2, .int (iI p)), (3, .int (iI c))]) [0, 1, 2, 3] rfl ?_
  refine w_aload_n C 0 dX6_load_0 rfl ?_
  refine w_iconst C dX6_load_1 ?_
  refine w_put (ty := .int) (ws2 := [(h, .inr (5, [.ref b, .int (iI 0)])), (b, .inl (gI G, 14, .inl (arI nb))), (g, .inr (2, [.ref gb])), (gb, .inl (gI G, 4096, .inl (arI d)))]) C 0 1 130 dX6_load_2 rfl rfl inX6 tyX6_ok nmX6 (by decide) (by decide +kernel) rfl (by decide +kernel) rfl rfl (Nat.le_of_ble_eq_true rfl) rfl ?_
  refine w_iconst C dX6_load_5 ?_
  refine w_istore (lv2 := [(0, .ref h), (1, .ref g), (2, .int (iI p)), (3, .int (iI c)), (4, .int (iI 0))]) C dX6_load_6 (by decide) rfl ?_
  have L_8 : ∀ (nn_8 : Nat) (i : Int) (e : Im), (0 ≤ i ∧ i ≤ c) → (e = nm_ld nb d p i.toNat) → (c - i).toNat = nn_8 → Wd G k 5 0 0 [(h, .inr (5, [.ref b, .int (iI i)])), (b, .inl (gI G, 14, .inl (arI e))), (g, .inr (2, [.ref gb])), (gb, .inl (gI G, 4096, .inl (arI d)))] 8 [(0, .ref h), (1, .ref g), (2, .int (iI p)), (3, .int (iI c)), (4, .int (iI i))] [] := by
    intro nn_8
    induction nn_8 using Nat.strongRecOn with
    | ind nn_8 ih_8 =>
      intro i e h1 h2 hm_8
      refine w_iload C 4 dX6_load_8 rfl ?_
      refine w_iload_n C 3 dX6_load_10 rfl ?_
      refine w_icmp_ge C 39 dX6_load_11 rfl (by omega) (fun c_1 => ?_) (fun c_1 => ?_)
      · exact w_retv hret dX6_load_39 rfl rfl rfl ⟨rfl, (by rw [h2, show i = c by omega])⟩
      · refine w_iload C 4 dX6_load_14 rfl ?_
        refine w_bipush C dX6_load_16 (by decide) ?_
        refine w_icmp_ge C 39 dX6_load_18 rfl (by omega) (fun c_2 => ?_) (fun c_2 => ?_)
        · exact w_retv hret dX6_load_39 rfl rfl rfl ⟨rfl, (by rw [h2, show i = c by omega])⟩
        · refine w_aload_n C 0 dX6_load_21 rfl ?_
          refine w_aload_n C 1 dX6_load_22 rfl ?_
          refine w_iload_n C 2 dX6_load_23 rfl ?_
          refine w_iload C 4 dX6_load_24 rfl ?_
          refine w_iadd C dX6_load_26 ?_
          refine w_callV (As := [.int (iI (p + i))]) (rest := [.ref h]) (w2 := [(h, .inr (5, [.ref b, .int (iI i)])), (b, .inl (gI G, 14, .inl (arI e))), (g, .inr (2, [.ref gb])), (gb, .inl (gI G, 4096, .inl (arI d)))]) (st2 := [.int (iI (im_at d (p + i))), .ref h]) C (ct_X2_at G (kl k) g gb d (p + i) (by omega)) gX6_32 dX6_load_27 2 rfl rfl rfl rfl rfl (Nat.le_of_ble_eq_true rfl) (by decide) [2, 3] rfl (by decide) [g, gb] rfl rfl rfl rfl ?_
          have f_3 := im_at_rg d (p + i)
          refine w_callV (As := [.int (iI (im_at d (p + i)))]) (rest := []) (w2 := [(h, .inr (5, [.ref b, .int (iI (nm_addN i))])), (b, .inl (gI G, 14, .inl (arI (nm_addB e i (im_at d (p + i)))))), (g, .inr (2, [.ref gb])), (gb, .inl (gI G, 4096, .inl (arI d)))]) (st2 := []) C (ct_X6_add G (kl k) h b e i (im_at d (p + i)) (by omega) (by omega)) gX6_28 dX6_load_30 0 rfl rfl rfl rfl rfl (Nat.le_of_ble_eq_true rfl) (by decide) [0, 1] rfl (by decide) [h, b] rfl rfl rfl rfl ?_
          refine w_ws (ws2 := [(h, .inr (5, [.ref b, .int (iI (i + 1))])), (b, .inl (gI G, 14, .inl (arI (up e i (im_at d (p + i)))))), (g, .inr (2, [.ref gb])), (gb, .inl (gI G, 4096, .inl (arI d)))]) (by unfold nm_addB nm_addN; rw [if_pos (by omega), if_pos (by omega)]) ?_
          refine w_iinc (lv2 := [(0, .ref h), (1, .ref g), (2, .int (iI p)), (3, .int (iI c)), (4, .int (iI (i + 1)))]) C 4 dX6_load_33 rfl (by decide) rfl ?_
          refine w_goto C 8 dX6_load_36 rfl ?_
          refine w_ord (ws2 := [(h, .inr (5, [.ref b, .int (iI ((i + 1)))])), (b, .inl (gI G, 14, .inl (arI ((up e i (im_at d (p + i))))))), (g, .inr (2, [.ref gb])), (gb, .inl (gI G, 4096, .inl (arI d)))]) [0, 1, 2, 3] rfl (by decide) ?_
          refine w_lv (lv2 := [(0, .ref h), (1, .ref g), (2, .int (iI p)), (3, .int (iI c)), (4, .int (iI ((i + 1))))]) [0, 1, 2, 3, 4] rfl ?_
          exact ih_8 _ (by omega) (i + 1) (up e i (im_at d (p + i))) (by omega) (by rw [h2, show (i + 1).toNat = i.toNat + 1 by omega, nm_ld, show ((i.toNat : Nat) : Int) = i by omega]) rfl
  exact L_8 _ 0 nb (by omega) rfl rfl

set_option maxHeartbeats 4000000 in
set_option maxRecDepth 100000 in
theorem ct_X6_number (G : GX) (l : Launch) (h : Nat) (b : Nat) (nb : Im) (n : Int) (m : Int) (i : Int) (hm : 0 ≤ m ∧ m ≤ 12) (hi : 0 ≤ i ∧ i < 100) : Ct G l yX6_number cX6_number 4 none rmX6_number [.ref h, .int (iI m), .int (iI i)] [(h, .inr (5, [.ref b, .int (iI n)])), (b, .inl (gI G, 14, .inl (arI nb)))] none [(h, .inr (5, [.ref b, .int (iI (m + 2))])), (b, .inl (gI G, 14, .inl (arI (nm_num nb m i))))] := by
  refine Ct.of (by decide) (Nat.le_of_ble_eq_true rfl) ?_
  intro k C hl hret
  subst hl
  refine w_lv (lv2 := [(0, .ref h), (1, .int (iI m)), (2, .int (iI i))]) [0, 1, 2] rfl ?_
  refine w_aload_n C 0 dX6_number_0 rfl ?_
  refine w_iconst C dX6_number_1 ?_
  refine w_put (ty := .int) (ws2 := [(h, .inr (5, [.ref b, .int (iI 0)])), (b, .inl (gI G, 14, .inl (arI nb)))]) C 0 1 130 dX6_number_2 rfl rfl inX6 tyX6_ok nmX6 (by decide) (by decide +kernel) rfl (by decide +kernel) rfl rfl (Nat.le_of_ble_eq_true rfl) rfl ?_
  refine w_iconst C dX6_number_5 ?_
  refine w_istore_n (lv2 := [(0, .ref h), (1, .int (iI m)), (2, .int (iI i)), (3, .int (iI 0))]) C dX6_number_6 (by decide) rfl ?_
  have L_7 : ∀ (nn_7 : Nat) (j : Int) (e : Im), (0 ≤ j ∧ j ≤ m) → (e = nm_hash nb j.toNat) → (m - j).toNat = nn_7 → Wd G k 4 0 0 [(h, .inr (5, [.ref b, .int (iI j)])), (b, .inl (gI G, 14, .inl (arI e)))] 7 [(0, .ref h), (1, .int (iI m)), (2, .int (iI i)), (3, .int (iI j))] [] := by
    intro nn_7
    induction nn_7 using Nat.strongRecOn with
    | ind nn_7 ih_7 =>
      intro j e h1 h2 hm_7
      refine w_iload_n C 3 dX6_number_7 rfl ?_
      refine w_iload_n C 1 dX6_number_8 rfl ?_
      refine w_icmp_ge C 24 dX6_number_9 rfl (by omega) (fun c_1 => ?_) (fun c_1 => ?_)
      · refine w_aload_n C 0 dX6_number_24 rfl ?_
        refine w_bipush C dX6_number_25 (by decide) ?_
        refine w_iload_n C 2 dX6_number_27 rfl ?_
        refine w_bipush C dX6_number_28 (by decide) ?_
        refine w_idiv C dX6_number_30 (by omega) ?_
        refine w_iadd C dX6_number_31 ?_
        refine w_callV (As := [.int (iI (48 + (i / 10)))]) (rest := []) (w2 := [(h, .inr (5, [.ref b, .int (iI (nm_addN j))])), (b, .inl (gI G, 14, .inl (arI (nm_addB e j (48 + (i / 10))))))]) (st2 := []) C (ct_X6_add G (kl k) h b e j (48 + (i / 10)) (by omega) (by omega)) gX6_28 dX6_number_32 0 rfl rfl rfl rfl rfl (Nat.le_of_ble_eq_true rfl) (by decide) [0, 1] rfl (by decide) [h, b] rfl rfl rfl rfl ?_
        refine w_ws (ws2 := [(h, .inr (5, [.ref b, .int (iI (j + 1))])), (b, .inl (gI G, 14, .inl (arI (up e j (48 + (i / 10))))))]) (by unfold nm_addB nm_addN; rw [if_pos (by omega), if_pos (by omega)]) ?_
        refine w_aload_n C 0 dX6_number_35 rfl ?_
        refine w_bipush C dX6_number_36 (by decide) ?_
        refine w_iload_n C 2 dX6_number_38 rfl ?_
        refine w_bipush C dX6_number_39 (by decide) ?_
        refine w_irem C dX6_number_41 (by omega) ?_
        refine w_iadd C dX6_number_42 ?_
        refine w_callV (As := [.int (iI (48 + (i % 10)))]) (rest := []) (w2 := [(h, .inr (5, [.ref b, .int (iI (nm_addN (j + 1)))])), (b, .inl (gI G, 14, .inl (arI (nm_addB (up e j (48 + (i / 10))) (j + 1) (48 + (i % 10))))))]) (st2 := []) C (ct_X6_add G (kl k) h b (up e j (48 + (i / 10))) (j + 1) (48 + (i % 10)) (by omega) (by omega)) gX6_28 dX6_number_43 0 rfl rfl rfl rfl rfl (Nat.le_of_ble_eq_true rfl) (by decide) [0, 1] rfl (by decide) [h, b] rfl rfl rfl rfl ?_
        refine w_ws (ws2 := [(h, .inr (5, [.ref b, .int (iI (j + 1 + 1))])), (b, .inl (gI G, 14, .inl (arI (up (up e j (48 + (i / 10))) (j + 1) (48 + (i % 10))))))]) (by unfold nm_addB nm_addN; rw [if_pos (by omega), if_pos (by omega)]) ?_
        exact w_retv hret dX6_number_46 rfl rfl rfl ⟨rfl, (by unfold nm_num; rw [h2, show j = m by omega, show m + 1 + 1 = m + 2 by omega])⟩
      · refine w_aload_n C 0 dX6_number_12 rfl ?_
        refine w_bipush C dX6_number_13 (by decide) ?_
        refine w_callV (As := [.int (iI 35)]) (rest := []) (w2 := [(h, .inr (5, [.ref b, .int (iI (nm_addN j))])), (b, .inl (gI G, 14, .inl (arI (nm_addB e j 35))))]) (st2 := []) C (ct_X6_add G (kl k) h b e j 35 (by omega) (by omega)) gX6_28 dX6_number_15 0 rfl rfl rfl rfl rfl (Nat.le_of_ble_eq_true rfl) (by decide) [0, 1] rfl (by decide) [h, b] rfl rfl rfl rfl ?_
        refine w_ws (ws2 := [(h, .inr (5, [.ref b, .int (iI (j + 1))])), (b, .inl (gI G, 14, .inl (arI (up e j 35))))]) (by unfold nm_addB nm_addN; rw [if_pos (by omega), if_pos (by omega)]) ?_
        refine w_iinc (lv2 := [(0, .ref h), (1, .int (iI m)), (2, .int (iI i)), (3, .int (iI (j + 1)))]) C 3 dX6_number_18 rfl (by decide) rfl ?_
        refine w_goto C 7 dX6_number_21 rfl ?_
        refine w_ord (ws2 := [(h, .inr (5, [.ref b, .int (iI ((j + 1)))])), (b, .inl (gI G, 14, .inl (arI ((up e j 35)))))]) [0, 1] rfl (by decide) ?_
        refine w_lv (lv2 := [(0, .ref h), (1, .int (iI m)), (2, .int (iI i)), (3, .int (iI ((j + 1))))]) [0, 1, 2, 3] rfl ?_
        exact ih_7 _ (by omega) (j + 1) (up e j 35) (by omega) (by rw [h2, show (j + 1).toNat = j.toNat + 1 by omega, nm_hash, show ((j.toNat : Nat) : Int) = j by omega]) rfl
  exact L_7 _ 0 nb (by omega) rfl rfl

set_option maxHeartbeats 4000000 in
set_option maxRecDepth 100000 in
theorem ct_X6_unpack (G : GX) (l : Launch) (h : Nat) (b : Nat) (nb : Im) (n : Int) (x : Int64) : Ct G l yX6_unpack cX6_unpack 5 none rmX6_unpack [.ref h, .long x] [(h, .inr (5, [.ref b, .int (iI n)])), (b, .inl (gI G, 14, .inl (arI nb)))] none [(h, .inr (5, [.ref b, .int (iI ((nm_un nb x 8).2))])), (b, .inl (gI G, 14, .inl (arI ((nm_un nb x 8).1))))] := by
  refine Ct.of (by decide) (Nat.le_of_ble_eq_true rfl) ?_
  intro k C hl hret
  subst hl
  refine w_lv (lv2 := [(0, .ref h), (1, .long x)]) [0, 1] rfl ?_
  refine w_aload_n C 0 dX6_unpack_0 rfl ?_
  refine w_iconst C dX6_unpack_1 ?_
  refine w_put (ty := .int) (ws2 := [(h, .inr (5, [.ref b, .int (iI 0)])), (b, .inl (gI G, 14, .inl (arI nb)))]) C 0 1 130 dX6_unpack_2 rfl rfl inX6 tyX6_ok nmX6 (by decide) (by decide +kernel) rfl (by decide +kernel) rfl rfl (Nat.le_of_ble_eq_true rfl) rfl ?_
  refine w_bipush C dX6_unpack_5 (by decide) ?_
  refine w_istore_n (lv2 := [(0, .ref h), (1, .long x), (3, .int (iI 56))]) C dX6_unpack_7 (by decide) rfl ?_
  have L_8 : ∀ (nn_8 : Nat) (i : Int) (e : Im) (n : Int) (j : Nat), (i = 56 - 8 * (j : Int) ∧ j ≤ 8) → (e = (nm_un nb x j).1) → (n = (nm_un nb x j).2) → (0 ≤ n ∧ n ≤ j) → 8 - j = nn_8 → Wd G k 5 0 0 [(h, .inr (5, [.ref b, .int (iI n)])), (b, .inl (gI G, 14, .inl (arI e)))] 8 [(0, .ref h), (1, .long x), (3, .int (iI i))] [] := by
    intro nn_8
    induction nn_8 using Nat.strongRecOn with
    | ind nn_8 ih_8 =>
      intro i e n j h1 h2 h3 h4 hm_8
      refine w_iload_n C 2 dX6_unpack_8 rfl ?_
      refine w_if_lt C 46 dX6_unpack_9 rfl (by omega) (fun c_1 => ?_) (fun c_1 => ?_)
      · exact w_retv hret dX6_unpack_46 rfl rfl rfl ⟨rfl, (by rw [h2, h3, show j = 8 by omega])⟩
      · refine w_lload_n C 1 dX6_unpack_12 rfl ?_
        refine w_iload_n C 2 dX6_unpack_13 rfl ?_
        refine w_lushr (v := ((x.toUInt64 >>> ((iI i).toInt64.toUInt64 &&& Int64.toUInt64 63)).toInt64)) C dX6_unpack_14 rfl ?_
        refine w_l2i (v := ((x.toUInt64 >>> ((iI i).toInt64.toUInt64 &&& Int64.toUInt64 63)).toInt64.toInt32)) C dX6_unpack_15 rfl ?_
        refine w_sipush C dX6_unpack_16 (by decide) ?_
        refine w_iand (v := (iI (lby x (56 - 8 * j)))) C dX6_unpack_19 (by have q := lby_of x (56 - 8 * j) (by omega); rwa [show ((56 - 8 * j : Nat) : Int) = i by omega] at q) ?_
        have q2 := lby_rg x (56 - 8 * j)
        refine w_istore (lv2 := [(0, .ref h), (1, .long x), (3, .int (iI i)), (4, .int (iI (lby x (56 - 8 * j))))]) C dX6_unpack_20 (by decide) rfl ?_
        refine w_iload C 3 dX6_unpack_22 rfl ?_
        refine w_if_ne C 34 dX6_unpack_24 rfl (by omega) (fun c_2 => ?_) (fun c_2 => ?_)
        · refine w_aload_n C 0 dX6_unpack_34 rfl ?_
          refine w_iload C 3 dX6_unpack_35 rfl ?_
          refine w_callV (As := [.int (iI (lby x (56 - 8 * j)))]) (rest := []) (w2 := [(h, .inr (5, [.ref b, .int (iI (nm_addN n))])), (b, .inl (gI G, 14, .inl (arI (nm_addB e n (lby x (56 - 8 * j))))))]) (st2 := []) C (ct_X6_add G (kl k) h b e n (lby x (56 - 8 * j)) (by omega) (by omega)) gX6_28 dX6_unpack_37 0 rfl rfl rfl rfl rfl (Nat.le_of_ble_eq_true rfl) (by decide) [0, 1] rfl (by decide) [h, b] rfl rfl rfl rfl ?_
          refine w_ws (ws2 := [(h, .inr (5, [.ref b, .int (iI (n + 1))])), (b, .inl (gI G, 14, .inl (arI (up e n (lby x (56 - 8 * j))))))]) (by unfold nm_addB nm_addN; rw [if_pos (by omega), if_pos (by omega)]) ?_
          refine w_iinc (lv2 := [(0, .ref h), (1, .long x), (3, .int (iI (i + (-8)))), (4, .int (iI (lby x (56 - 8 * j))))]) C 2 dX6_unpack_40 rfl (by decide) rfl ?_
          refine w_goto C 8 dX6_unpack_43 rfl ?_
          refine w_ord (ws2 := [(h, .inr (5, [.ref b, .int (iI ((n + 1)))])), (b, .inl (gI G, 14, .inl (arI ((up e n (lby x (56 - 8 * j)))))))]) [0, 1] rfl (by decide) ?_
          refine w_lv (lv2 := [(0, .ref h), (1, .long x), (3, .int (iI ((i + (-8)))))]) [0, 1, 2] rfl ?_
          exact ih_8 _ (by omega) (i + (-8)) (up e n (lby x (56 - 8 * j))) (n + 1) (j + 1) (by omega) (by rw [nm_un]; first | rw [if_pos (by rw [← h3]; omega), ← h2, ← h3] | rw [if_neg (by rw [← h3]; omega), ← h2]) (by rw [nm_un]; first | rw [if_pos (by rw [← h3]; omega), ← h3] | rw [if_neg (by rw [← h3]; omega), ← h3]) (by omega) rfl
        · refine w_aload_n C 0 dX6_unpack_27 rfl ?_
          refine w_get C 0 1 130 dX6_unpack_28 rfl rfl inX6 (by decide) (by decide +kernel) rfl ?_
          refine w_if_le C 40 dX6_unpack_31 rfl (by omega) (fun c_3 => ?_) (fun c_3 => ?_)
          · refine w_iinc (lv2 := [(0, .ref h), (1, .long x), (3, .int (iI (i + (-8)))), (4, .int (iI (lby x (56 - 8 * j))))]) C 2 dX6_unpack_40 rfl (by decide) rfl ?_
            refine w_goto C 8 dX6_unpack_43 rfl ?_
            refine w_lv (lv2 := [(0, .ref h), (1, .long x), (3, .int (iI ((i + (-8)))))]) [0, 1, 2] rfl ?_
            exact ih_8 _ (by omega) (i + (-8)) e n (j + 1) (by omega) (by rw [nm_un]; first | rw [if_pos (by rw [← h3]; omega), ← h2, ← h3] | rw [if_neg (by rw [← h3]; omega), ← h2]) (by rw [nm_un]; first | rw [if_pos (by rw [← h3]; omega), ← h3] | rw [if_neg (by rw [← h3]; omega), ← h3]) (by omega) rfl
          · refine w_aload_n C 0 dX6_unpack_34 rfl ?_
            refine w_iload C 3 dX6_unpack_35 rfl ?_
            refine w_callV (As := [.int (iI (lby x (56 - 8 * j)))]) (rest := []) (w2 := [(h, .inr (5, [.ref b, .int (iI (nm_addN n))])), (b, .inl (gI G, 14, .inl (arI (nm_addB e n (lby x (56 - 8 * j))))))]) (st2 := []) C (ct_X6_add G (kl k) h b e n (lby x (56 - 8 * j)) (by omega) (by omega)) gX6_28 dX6_unpack_37 0 rfl rfl rfl rfl rfl (Nat.le_of_ble_eq_true rfl) (by decide) [0, 1] rfl (by decide) [h, b] rfl rfl rfl rfl ?_
            refine w_ws (ws2 := [(h, .inr (5, [.ref b, .int (iI (n + 1))])), (b, .inl (gI G, 14, .inl (arI (up e n (lby x (56 - 8 * j))))))]) (by unfold nm_addB nm_addN; rw [if_pos (by omega), if_pos (by omega)]) ?_
            refine w_iinc (lv2 := [(0, .ref h), (1, .long x), (3, .int (iI (i + (-8)))), (4, .int (iI (lby x (56 - 8 * j))))]) C 2 dX6_unpack_40 rfl (by decide) rfl ?_
            refine w_goto C 8 dX6_unpack_43 rfl ?_
            refine w_ord (ws2 := [(h, .inr (5, [.ref b, .int (iI ((n + 1)))])), (b, .inl (gI G, 14, .inl (arI ((up e n (lby x (56 - 8 * j)))))))]) [0, 1] rfl (by decide) ?_
            refine w_lv (lv2 := [(0, .ref h), (1, .long x), (3, .int (iI ((i + (-8)))))]) [0, 1, 2] rfl ?_
            exact ih_8 _ (by omega) (i + (-8)) (up e n (lby x (56 - 8 * j))) (n + 1) (j + 1) (by omega) (by rw [nm_un]; first | rw [if_pos (by rw [← h3]; omega), ← h2, ← h3] | rw [if_neg (by rw [← h3]; omega), ← h2]) (by rw [nm_un]; first | rw [if_pos (by rw [← h3]; omega), ← h3] | rw [if_neg (by rw [← h3]; omega), ← h3]) (by omega) rfl
  exact L_8 _ 56 nb 0 0 (by omega) rfl rfl (by omega) rfl
end
section
theorem gX6_38 : cwv RX6 38 yX6_at cX6_at 2 (some .int) 1 583 551 552 69 553 := by decide +kernel
set_option maxHeartbeats 4000000 in
set_option maxRecDepth 100000 in
theorem ct_X6_isAllowed (G : GX) (l : Launch) (h : Nat) (b : Nat) (nb : Im) (n : Int) (hn : 0 ≤ n ∧ n ≤ 14) : Ct G l yX6_isAllowed cX6_isAllowed 4 (some .boolean) rmX6_isAllowed [.ref h] [(h, .inr (5, [.ref b, .int (iI n)])), (b, .inl (gI G, 14, .inl (arI nb)))] (some (.int (iI (bI (nm_ok nb n))))) [(h, .inr (5, [.ref b, .int (iI n)])), (b, .inl (gI G, 14, .inl (arI nb)))] := by
  refine Ct.of (by decide) (Nat.le_of_ble_eq_true rfl) ?_
  intro k C hl hret
  subst hl
  refine w_lv (lv2 := [(0, .ref h)]) [0] rfl ?_
  refine w_iconst C dX6_isAllowed_0 ?_
  refine w_istore_n (lv2 := [(0, .ref h), (1, .int (iI 0))]) C dX6_isAllowed_1 (by decide) rfl ?_
  refine w_iconst C dX6_isAllowed_2 ?_
  refine w_istore_n (lv2 := [(0, .ref h), (1, .int (iI 0)), (2, .int (iI 0))]) C dX6_isAllowed_3 (by decide) rfl ?_
  have L_4 : ∀ (nn_4 : Nat) (i : Int) (s : Int), (0 ≤ i ∧ i ≤ n) → (s = nm_dots nb i.toNat ∧ 0 ≤ s ∧ s ≤ i) → (∀ j : Int, 0 ≤ j → j < i → nb.1 j ≠ 0 ∧ nb.1 j ≠ 47) → (n - i).toNat = nn_4 → Wd G k 4 0 0 [(h, .inr (5, [.ref b, .int (iI n)])), (b, .inl (gI G, 14, .inl (arI nb)))] 4 [(0, .ref h), (1, .int (iI s)), (2, .int (iI i))] [] := by
    intro nn_4
    induction nn_4 using Nat.strongRecOn with
    | ind nn_4 ih_4 =>
      intro i s h1 h2 h3 hm_4
      refine w_iload_n C 2 dX6_isAllowed_4 rfl ?_
      refine w_aload_n C 0 dX6_isAllowed_5 rfl ?_
      refine w_get C 0 1 130 dX6_isAllowed_6 rfl rfl inX6 (by decide) (by decide +kernel) rfl ?_
      refine w_icmp_ge C 45 dX6_isAllowed_9 rfl (by omega) (fun c_1 => ?_) (fun c_1 => ?_)
      · refine w_aload_n C 0 dX6_isAllowed_45 rfl ?_
        refine w_get C 0 1 130 dX6_isAllowed_46 rfl rfl inX6 (by decide) (by decide +kernel) rfl ?_
        refine w_iconst C dX6_isAllowed_49 ?_
        refine w_icmp_gt C 61 dX6_isAllowed_50 rfl (by omega) (fun c_2 => ?_) (fun c_2 => ?_)
        · refine w_iconst C dX6_isAllowed_61 ?_
          refine w_goto C 66 dX6_isAllowed_62 rfl ?_
          exact w_reti hret dX6_isAllowed_66 rfl rfl rfl rfl ⟨congrArg (fun z => some (Value.int (iI z))) (by unfold nm_ok; rw [(nm_good_iff nb n.toNat).mpr (fun j a b => h3 j a (by omega)), ← show i = n by omega, ← h2.1]; first | rw [decide_eq_true (by omega)]; rfl | rw [decide_eq_false (by omega)]; rfl), rfl⟩
        · refine w_iload_n C 1 dX6_isAllowed_53 rfl ?_
          refine w_aload_n C 0 dX6_isAllowed_54 rfl ?_
          refine w_get C 0 1 130 dX6_isAllowed_55 rfl rfl inX6 (by decide) (by decide +kernel) rfl ?_
          refine w_icmp_ge C 65 dX6_isAllowed_58 rfl (by omega) (fun c_3 => ?_) (fun c_3 => ?_)
          · refine w_iconst C dX6_isAllowed_65 ?_
            exact w_reti hret dX6_isAllowed_66 rfl rfl rfl rfl ⟨congrArg (fun z => some (Value.int (iI z))) (by unfold nm_ok; rw [(nm_good_iff nb n.toNat).mpr (fun j a b => h3 j a (by omega)), ← show i = n by omega, ← h2.1]; first | rw [decide_eq_true (by omega)]; rfl | rw [decide_eq_false (by omega)]; rfl), rfl⟩
          · refine w_iconst C dX6_isAllowed_61 ?_
            refine w_goto C 66 dX6_isAllowed_62 rfl ?_
            exact w_reti hret dX6_isAllowed_66 rfl rfl rfl rfl ⟨congrArg (fun z => some (Value.int (iI z))) (by unfold nm_ok; rw [(nm_good_iff nb n.toNat).mpr (fun j a b => h3 j a (by omega)), ← show i = n by omega, ← h2.1]; first | rw [decide_eq_true (by omega)]; rfl | rw [decide_eq_false (by omega)]; rfl), rfl⟩
      · refine w_aload_n C 0 dX6_isAllowed_12 rfl ?_
        refine w_iload_n C 2 dX6_isAllowed_13 rfl ?_
        refine w_callV (As := [.int (iI i)]) (rest := []) (w2 := [(h, .inr (5, [.ref b, .int (iI n)])), (b, .inl (gI G, 14, .inl (arI nb)))]) (st2 := [.int (iI (nm_at nb n i))]) C (ct_X6_at G (kl k) h b nb n i (by omega) (by omega)) gX6_38 dX6_isAllowed_14 0 rfl rfl rfl rfl rfl (Nat.le_of_ble_eq_true rfl) (by decide) [0, 1] rfl (by decide) [h, b] rfl rfl rfl rfl ?_
        have f_4 := nm_at_rg nb n i
        have hat : nm_at nb n i = nb.1 i := by unfold nm_at; rw [if_pos (by omega)]
        refine w_istore_n (lv2 := [(0, .ref h), (1, .int (iI s)), (2, .int (iI i)), (3, .int (iI (nm_at nb n i)))]) C dX6_isAllowed_17 (by decide) rfl ?_
        refine w_iload_n C 3 dX6_isAllowed_18 rfl ?_
        refine w_if_eq C 28 dX6_isAllowed_19 rfl (by omega) (fun c_5 => ?_) (fun c_5 => ?_)
        · refine w_iconst C dX6_isAllowed_28 ?_
          exact w_reti hret dX6_isAllowed_29 rfl rfl rfl rfl ⟨congrArg (fun z => some (Value.int (iI z))) (by rw [show nm_ok nb n = false from by unfold nm_ok; rw [show nm_good nb n.toNat = false from by cases z : nm_good nb n.toNat with | false => rfl | true => exact absurd ((nm_good_iff nb n.toNat).mp z i (by omega) (by omega)) (by omega)]; rfl]; rfl), rfl⟩
        · refine w_iload_n C 3 dX6_isAllowed_22 rfl ?_
          refine w_bipush C dX6_isAllowed_23 (by decide) ?_
          refine w_icmp_ne C 30 dX6_isAllowed_25 rfl (by omega) (fun c_6 => ?_) (fun c_6 => ?_)
          · refine w_iload_n C 3 dX6_isAllowed_30 rfl ?_
            refine w_bipush C dX6_isAllowed_31 (by decide) ?_
            refine w_icmp_ne C 39 dX6_isAllowed_33 rfl (by omega) (fun c_7 => ?_) (fun c_7 => ?_)
            · refine w_iinc (lv2 := [(0, .ref h), (1, .int (iI s)), (2, .int (iI (i + 1))), (3, .int (iI (nm_at nb n i)))]) C 2 dX6_isAllowed_39 rfl (by decide) rfl ?_
              refine w_goto C 4 dX6_isAllowed_42 rfl ?_
              refine w_lv (lv2 := [(0, .ref h), (1, .int (iI s)), (2, .int (iI ((i + 1))))]) [0, 1, 2] rfl ?_
              exact ih_4 _ (by omega) (i + 1) s (by omega) (by rw [show (i + 1).toNat = i.toNat + 1 by omega, nm_dots, show ((i.toNat : Nat) : Int) = i by omega]; rw [hat] at *; first | (rw [if_pos (by omega)]; omega) | (rw [if_neg (by omega)]; omega)) (fun j a b => if z : j = i then (by rw [z]; omega) else h3 j a (by omega)) rfl
            · refine w_iinc (lv2 := [(0, .ref h), (1, .int (iI (s + 1))), (2, .int (iI i)), (3, .int (iI (nm_at nb n i)))]) C 1 dX6_isAllowed_36 rfl (by decide) rfl ?_
              refine w_iinc (lv2 := [(0, .ref h), (1, .int (iI (s + 1))), (2, .int (iI (i + 1))), (3, .int (iI (nm_at nb n i)))]) C 2 dX6_isAllowed_39 rfl (by decide) rfl ?_
              refine w_goto C 4 dX6_isAllowed_42 rfl ?_
              refine w_lv (lv2 := [(0, .ref h), (1, .int (iI ((s + 1)))), (2, .int (iI ((i + 1))))]) [0, 1, 2] rfl ?_
              exact ih_4 _ (by omega) (i + 1) (s + 1) (by omega) (by rw [show (i + 1).toNat = i.toNat + 1 by omega, nm_dots, show ((i.toNat : Nat) : Int) = i by omega]; rw [hat] at *; first | (rw [if_pos (by omega)]; omega) | (rw [if_neg (by omega)]; omega)) (fun j a b => if z : j = i then (by rw [z]; omega) else h3 j a (by omega)) rfl
          · refine w_iconst C dX6_isAllowed_28 ?_
            exact w_reti hret dX6_isAllowed_29 rfl rfl rfl rfl ⟨congrArg (fun z => some (Value.int (iI z))) (by rw [show nm_ok nb n = false from by unfold nm_ok; rw [show nm_good nb n.toNat = false from by cases z : nm_good nb n.toNat with | false => rfl | true => exact absurd ((nm_good_iff nb n.toNat).mp z i (by omega) (by omega)) (by omega)]; rfl]; rfl), rfl⟩
  exact L_4 _ 0 0 (by omega) ⟨rfl, by omega, by omega⟩ (fun j a b => by omega) rfl

theorem gX8_13 : cwv RX8 13 yX2_hasText cX2_hasText 4 (some .boolean) 2 354 355 356 66 357 := by decide +kernel
theorem gX8_19 : cwv RX8 19 yX2_pairAt cX2_pairAt 2 (some .int) 1 362 363 364 66 365 := by decide +kernel
theorem gX8_23 : cwv RX8 23 yX2_sum cX2_sum 5 (some .int) 2 342 343 344 66 345 := by decide +kernel
set_option maxHeartbeats 4000000 in
set_option maxRecDepth 100000 in
theorem ct_X8_isGood (G : GX) (l : Launch) (h : Nat) (b : Nat) (d : Im) (q : Int) (hq : -10000 ≤ q ∧ q < 10000) : Ct G l yX8_isGood cX8_isGood 3 (some .boolean) rmX8_isGood [.ref h, .int (iI q)] [(h, .inr (2, [.ref b])), (b, .inl (gI G, 4096, .inl (arI d)))] (some (.int (iI (bI (su_ok d q))))) [(h, .inr (2, [.ref b])), (b, .inl (gI G, 4096, .inl (arI d)))] := by
  refine Ct.of (by decide) (Nat.le_of_ble_eq_true rfl) ?_
  intro k C hl hret
  subst hl
  refine w_lv (lv2 := [(0, .ref h), (1, .int (iI q))]) [0, 1] rfl ?_
  refine w_iload_n C 1 dX8_isGood_0 rfl ?_
  refine w_bipush C dX8_isGood_1 (by decide) ?_
  refine w_imul C dX8_isGood_3 ?_
  refine w_istore_n (lv2 := [(0, .ref h), (1, .int (iI q)), (2, .int (iI (q * 64)))]) C dX8_isGood_4 (by decide) rfl ?_
  refine w_aload_n C 0 dX8_isGood_5 rfl ?_
  refine w_iload_n C 2 dX8_isGood_6 rfl ?_
  refine w_ldcS C dX8_isGood_7 C.2.2.2.2.2.2.2.1.2.2.2.1 ?_
  refine w_callV (As := [.int (iI (q * 64)), .ref (gK G 0)]) (rest := []) (w2 := [(h, .inr (2, [.ref b])), (b, .inl (gI G, 4096, .inl (arI d)))]) (st2 := [.int (iI (bI (im_has d (q * 64) 0)))]) C (ct_X2_hasText G (kl k) h b d 0 (q * 64) (by omega) (by omega)) gX8_13 dX8_isGood_9 0 rfl rfl rfl rfl rfl (Nat.le_of_ble_eq_true rfl) (by decide) [0, 1] rfl (by decide) [h, b] rfl rfl rfl rfl ?_
  refine w_bz C 37 dX8_isGood_12 rfl (fun c_1 => ?_) (fun c_1 => ?_)
  · refine w_iconst C dX8_isGood_37 ?_
    exact w_reti hret dX8_isGood_38 rfl rfl rfl rfl ⟨congrArg (fun z => some (Value.int (iI z))) (by unfold su_ok; simp [bI, c_1]), rfl⟩
  · refine w_aload_n C 0 dX8_isGood_15 rfl ?_
    refine w_iload_n C 2 dX8_isGood_16 rfl ?_
    refine w_bipush C dX8_isGood_17 (by decide) ?_
    refine w_iadd C dX8_isGood_19 ?_
    refine w_callV (As := [.int (iI ((q * 64) + 62))]) (rest := []) (w2 := [(h, .inr (2, [.ref b])), (b, .inl (gI G, 4096, .inl (arI d)))]) (st2 := [.int (iI (im_two d ((q * 64) + 62)))]) C (ct_X2_pairAt G (kl k) h b d ((q * 64) + 62) (by omega)) gX8_19 dX8_isGood_20 0 rfl rfl rfl rfl rfl (Nat.le_of_ble_eq_true rfl) (by decide) [0, 1] rfl (by decide) [h, b] rfl rfl rfl rfl ?_
    have f_2 := im_two_rg d ((q * 64) + 62)
    refine w_aload_n C 0 dX8_isGood_23 rfl ?_
    refine w_iload_n C 2 dX8_isGood_24 rfl ?_
    refine w_bipush C dX8_isGood_25 (by decide) ?_
    refine w_callV (As := [.int (iI (q * 64)), .int (iI 62)]) (rest := [.int (iI (im_two d ((q * 64) + 62)))]) (w2 := [(h, .inr (2, [.ref b])), (b, .inl (gI G, 4096, .inl (arI d)))]) (st2 := [.int (iI (im_sum d (q * 64) 62)), .int (iI (im_two d ((q * 64) + 62)))]) C (ct_X2_sum G (kl k) h b d (q * 64) 62 (by omega) (by omega)) gX8_23 dX8_isGood_27 0 rfl rfl rfl rfl rfl (Nat.le_of_ble_eq_true rfl) (by decide) [0, 1] rfl (by decide) [h, b] rfl rfl rfl rfl ?_
    have f_3 := im_sum_rg d (q * 64) 62
    refine w_icmp_ne C 37 dX8_isGood_30 rfl (by omega) (fun c_4 => ?_) (fun c_4 => ?_)
    · refine w_iconst C dX8_isGood_37 ?_
      exact w_reti hret dX8_isGood_38 rfl rfl rfl rfl ⟨congrArg (fun z => some (Value.int (iI z))) (by unfold su_ok; simp [bI, c_1, c_4]), rfl⟩
    · refine w_iconst C dX8_isGood_33 ?_
      refine w_goto C 38 dX8_isGood_34 rfl ?_
      exact w_reti hret dX8_isGood_38 rfl rfl rfl rfl ⟨congrArg (fun z => some (Value.int (iI z))) (by unfold su_ok; simp [bI, c_1, c_4]), rfl⟩

theorem gX8_35 : cwv RX8 35 yX2_setPair cX2_setPair 3 none 2 335 336 337 66 338 := by decide +kernel
set_option maxHeartbeats 4000000 in
set_option maxRecDepth 100000 in
theorem ct_X8_writeSum (G : GX) (l : Launch) (h : Nat) (b : Nat) (d : Im) (q : Int) (hq : -10000 ≤ q ∧ q < 10000) : Ct G l yX8_writeSum cX8_writeSum 3 none rmX8_writeSum [.ref h, .int (iI q)] [(h, .inr (2, [.ref b])), (b, .inl (gI G, 4096, .inl (arI d)))] none [(h, .inr (2, [.ref b])), (b, .inl (gI G, 4096, .inl (arI (su_sum d q))))] := by
  refine Ct.of (by decide) (Nat.le_of_ble_eq_true rfl) ?_
  intro k C hl hret
  subst hl
  refine w_lv (lv2 := [(0, .ref h), (1, .int (iI q))]) [0, 1] rfl ?_
  refine w_iload_n C 1 dX8_writeSum_0 rfl ?_
  refine w_bipush C dX8_writeSum_1 (by decide) ?_
  refine w_imul C dX8_writeSum_3 ?_
  refine w_istore_n (lv2 := [(0, .ref h), (1, .int (iI q)), (2, .int (iI (q * 64)))]) C dX8_writeSum_4 (by decide) rfl ?_
  refine w_aload_n C 0 dX8_writeSum_5 rfl ?_
  refine w_iload_n C 2 dX8_writeSum_6 rfl ?_
  refine w_bipush C dX8_writeSum_7 (by decide) ?_
  refine w_iadd C dX8_writeSum_9 ?_
  refine w_aload_n C 0 dX8_writeSum_10 rfl ?_
  refine w_iload_n C 2 dX8_writeSum_11 rfl ?_
  refine w_bipush C dX8_writeSum_12 (by decide) ?_
  refine w_callV (As := [.int (iI (q * 64)), .int (iI 62)]) (rest := [.int (iI ((q * 64) + 62)), .ref h]) (w2 := [(h, .inr (2, [.ref b])), (b, .inl (gI G, 4096, .inl (arI d)))]) (st2 := [.int (iI (im_sum d (q * 64) 62)), .int (iI ((q * 64) + 62)), .ref h]) C (ct_X2_sum G (kl k) h b d (q * 64) 62 (by omega) (by omega)) gX8_23 dX8_writeSum_14 0 rfl rfl rfl rfl rfl (Nat.le_of_ble_eq_true rfl) (by decide) [0, 1] rfl (by decide) [h, b] rfl rfl rfl rfl ?_
  have f_1 := im_sum_rg d (q * 64) 62
  refine w_callV (As := [.int (iI ((q * 64) + 62)), .int (iI (im_sum d (q * 64) 62))]) (rest := []) (w2 := [(h, .inr (2, [.ref b])), (b, .inl (gI G, 4096, .inl (arI (im_put d ((q * 64) + 62) (im_sum d (q * 64) 62)))))]) (st2 := []) C (ct_X2_setPair G (kl k) h b d ((q * 64) + 62) (im_sum d (q * 64) 62) (by omega) (by omega)) gX8_35 dX8_writeSum_17 0 rfl rfl rfl rfl rfl (Nat.le_of_ble_eq_true rfl) (by decide) [0, 1] rfl (by decide) [h, b] rfl rfl rfl rfl ?_
  exact w_retv hret dX8_writeSum_20 rfl rfl rfl ⟨rfl, rfl⟩

theorem gX8_27 : cwv RX8 27 yX2_wipe cX2_wipe 3 none 2 277 262 263 66 264 := by decide +kernel
theorem gX8_31 : cwv RX8 31 yX2_setText cX2_setText 4 none 2 279 280 281 66 282 := by decide +kernel
theorem gX8_38 : cws RX8 38 yX8_writeSum cX8_writeSum 3 none 2 339 340 76 341 := by decide +kernel
set_option maxHeartbeats 4000000 in
set_option maxRecDepth 100000 in
theorem ct_X8_write (G : GX) (l : Launch) (h : Nat) (b : Nat) (d : Im) (q : Int) (x : Int) (y : Int) (hq : -10000 ≤ q ∧ q < 10000) (hx : -2147483648 ≤ x ∧ x < 2147483648) (hy : -2147483648 ≤ y ∧ y < 2147483648) : Ct G l yX8_write cX8_write 5 none rmX8_write [.ref h, .int (iI q), .int (iI x), .int (iI y)] [(h, .inr (2, [.ref b])), (b, .inl (gI G, 4096, .inl (arI d)))] none [(h, .inr (2, [.ref b])), (b, .inl (gI G, 4096, .inl (arI (su_wr d q x y))))] := by
  refine Ct.of (by decide) (Nat.le_of_ble_eq_true rfl) ?_
  intro k C hl hret
  subst hl
  refine w_lv (lv2 := [(0, .ref h), (1, .int (iI q)), (2, .int (iI x)), (3, .int (iI y))]) [0, 1, 2, 3] rfl ?_
  refine w_iload_n C 1 dX8_write_0 rfl ?_
  refine w_bipush C dX8_write_1 (by decide) ?_
  refine w_imul C dX8_write_3 ?_
  refine w_istore (lv2 := [(0, .ref h), (1, .int (iI q)), (2, .int (iI x)), (3, .int (iI y)), (4, .int (iI (q * 64)))]) C dX8_write_4 (by decide) rfl ?_
  refine w_aload_n C 0 dX8_write_6 rfl ?_
  refine w_iload C 4 dX8_write_7 rfl ?_
  refine w_bipush C dX8_write_9 (by decide) ?_
  refine w_callV (As := [.int (iI (q * 64)), .int (iI 64)]) (rest := []) (w2 := [(h, .inr (2, [.ref b])), (b, .inl (gI G, 4096, .inl (arI (im_wipe d (q * 64) 64))))]) (st2 := []) C (ct_X2_wipe G (kl k) h b d (q * 64) 64 (by omega) (by omega)) gX8_27 dX8_write_11 0 rfl rfl rfl rfl rfl (Nat.le_of_ble_eq_true rfl) (by decide) [0, 1] rfl (by decide) [h, b] rfl rfl rfl rfl ?_
  refine w_aload_n C 0 dX8_write_14 rfl ?_
  refine w_iload C 4 dX8_write_15 rfl ?_
  refine w_ldcS C dX8_write_17 C.2.2.2.2.2.2.2.1.2.2.2.1 ?_
  refine w_callV (As := [.int (iI (q * 64)), .ref (gK G 0)]) (rest := []) (w2 := [(h, .inr (2, [.ref b])), (b, .inl (gI G, 4096, .inl (arI (im_txt (im_wipe d (q * 64) 64) (q * 64) 0 (tn 0).toNat))))]) (st2 := []) C (ct_X2_setText G (kl k) h b (im_wipe d (q * 64) 64) 0 (q * 64) (by omega) (by omega)) gX8_31 dX8_write_19 0 rfl rfl rfl rfl rfl (Nat.le_of_ble_eq_true rfl) (by decide) [0, 1] rfl (by decide) [h, b] rfl rfl rfl rfl ?_
  refine w_aload_n C 0 dX8_write_22 rfl ?_
  refine w_iload C 4 dX8_write_23 rfl ?_
  refine w_iconst C dX8_write_25 ?_
  refine w_iadd C dX8_write_26 ?_
  refine w_iload_n C 2 dX8_write_27 rfl ?_
  refine w_callV (As := [.int (iI ((q * 64) + 4)), .int (iI x)]) (rest := []) (w2 := [(h, .inr (2, [.ref b])), (b, .inl (gI G, 4096, .inl (arI (im_put (im_txt (im_wipe d (q * 64) 64) (q * 64) 0 (tn 0).toNat) ((q * 64) + 4) x))))]) (st2 := []) C (ct_X2_setPair G (kl k) h b (im_txt (im_wipe d (q * 64) 64) (q * 64) 0 (tn 0).toNat) ((q * 64) + 4) x (by omega) (by omega)) gX8_35 dX8_write_28 0 rfl rfl rfl rfl rfl (Nat.le_of_ble_eq_true rfl) (by decide) [0, 1] rfl (by decide) [h, b] rfl rfl rfl rfl ?_
  refine w_aload_n C 0 dX8_write_31 rfl ?_
  refine w_iload C 4 dX8_write_32 rfl ?_
  refine w_bipush C dX8_write_34 (by decide) ?_
  refine w_iadd C dX8_write_36 ?_
  refine w_iload_n C 3 dX8_write_37 rfl ?_
  refine w_callV (As := [.int (iI ((q * 64) + 6)), .int (iI y)]) (rest := []) (w2 := [(h, .inr (2, [.ref b])), (b, .inl (gI G, 4096, .inl (arI (im_put (im_put (im_txt (im_wipe d (q * 64) 64) (q * 64) 0 (tn 0).toNat) ((q * 64) + 4) x) ((q * 64) + 6) y))))]) (st2 := []) C (ct_X2_setPair G (kl k) h b (im_put (im_txt (im_wipe d (q * 64) 64) (q * 64) 0 (tn 0).toNat) ((q * 64) + 4) x) ((q * 64) + 6) y (by omega) (by omega)) gX8_35 dX8_write_38 0 rfl rfl rfl rfl rfl (Nat.le_of_ble_eq_true rfl) (by decide) [0, 1] rfl (by decide) [h, b] rfl rfl rfl rfl ?_
  refine w_aload_n C 0 dX8_write_41 rfl ?_
  refine w_iload_n C 1 dX8_write_42 rfl ?_
  refine w_callS (As := [.ref h, .int (iI q)]) (rest := []) (w2 := [(h, .inr (2, [.ref b])), (b, .inl (gI G, 4096, .inl (arI (su_sum (im_put (im_put (im_txt (im_wipe d (q * 64) 64) (q * 64) 0 (tn 0).toNat) ((q * 64) + 4) x) ((q * 64) + 6) y) q))))]) (st2 := []) C (ct_X8_writeSum G (kl k) h b (im_put (im_put (im_txt (im_wipe d (q * 64) 64) (q * 64) 0 (tn 0).toNat) ((q * 64) + 4) x) ((q * 64) + 6) y) q (by omega)) gX8_38 dX8_write_43 rfl rfl (Nat.le_of_ble_eq_true rfl) (by decide) [0, 1] rfl (by decide) [h, b] rfl rfl rfl rfl ?_
  exact w_retv hret dX8_write_46 rfl rfl rfl ⟨rfl, rfl⟩

theorem gX5_41 : cwv RX5 41 yX2_at cX2_at 2 (some .int) 1 379 359 360 66 361 := by decide +kernel
theorem gX5_70 : cwv RX5 70 yX2_sum cX2_sum 5 (some .int) 2 393 343 344 66 345 := by decide +kernel
set_option maxHeartbeats 4000000 in
set_option maxRecDepth 100000 in
theorem ct_X5_rightSum (G : GX) (l : Launch) (h : Nat) (b : Nat) (d : Im) : Ct G l yX5_rightSum cX5_rightSum 3 (some .int) rmX5_rightSum [.ref h] [(h, .inr (2, [.ref b])), (b, .inl (gI G, 4096, .inl (arI d)))] (some (.int (iI (jn_right d)))) [(h, .inr (2, [.ref b])), (b, .inl (gI G, 4096, .inl (arI d)))] := by
  refine Ct.of (by decide) (Nat.le_of_ble_eq_true rfl) ?_
  intro k C hl hret
  subst hl
  refine w_lv (lv2 := [(0, .ref h)]) [0] rfl ?_
  refine w_aload_n C 0 dX5_rightSum_0 rfl ?_
  refine w_bipush C dX5_rightSum_1 (by decide) ?_
  refine w_callV (As := [.int (iI 68)]) (rest := []) (w2 := [(h, .inr (2, [.ref b])), (b, .inl (gI G, 4096, .inl (arI d)))]) (st2 := [.int (iI (im_at d 68))]) C (ct_X2_at G (kl k) h b d 68 (by omega)) gX5_41 dX5_rightSum_3 0 rfl rfl rfl rfl rfl (Nat.le_of_ble_eq_true rfl) (by decide) [0, 1] rfl (by decide) [h, b] rfl rfl rfl rfl ?_
  have f_1 := im_at_rg d 68
  refine w_iconst C dX5_rightSum_6 ?_
  refine w_min C 390 dX5_rightSum_7 (by decide +kernel) (by omega) (by decide) ?_
  refine w_istore_n (lv2 := [(0, .ref h), (1, .int (iI (min (im_at d 68) 5)))]) C dX5_rightSum_10 (by decide) rfl ?_
  refine w_aload_n C 0 dX5_rightSum_11 rfl ?_
  refine w_sipush C dX5_rightSum_12 (by decide) ?_
  refine w_iload_n C 1 dX5_rightSum_15 rfl ?_
  refine w_bipush C dX5_rightSum_16 (by decide) ?_
  refine w_imul C dX5_rightSum_18 ?_
  refine w_callV (As := [.int (iI 128), .int (iI ((min (im_at d 68) 5) * 64))]) (rest := []) (w2 := [(h, .inr (2, [.ref b])), (b, .inl (gI G, 4096, .inl (arI d)))]) (st2 := [.int (iI (im_sum d 128 ((min (im_at d 68) 5) * 64)))]) C (ct_X2_sum G (kl k) h b d 128 ((min (im_at d 68) 5) * 64) (by omega) (by omega)) gX5_70 dX5_rightSum_19 0 rfl rfl rfl rfl rfl (Nat.le_of_ble_eq_true rfl) (by decide) [0, 1] rfl (by decide) [h, b] rfl rfl rfl rfl ?_
  have f_2 := im_sum_rg d 128 ((min (im_at d 68) 5) * 64)
  refine w_istore_n (lv2 := [(0, .ref h), (1, .int (iI (min (im_at d 68) 5))), (2, .int (iI (im_sum d 128 ((min (im_at d 68) 5) * 64))))]) C dX5_rightSum_22 (by decide) rfl ?_
  refine w_aload_n C 0 dX5_rightSum_23 rfl ?_
  refine w_bipush C dX5_rightSum_24 (by decide) ?_
  refine w_bipush C dX5_rightSum_26 (by decide) ?_
  refine w_callV (As := [.int (iI 64), .int (iI 62)]) (rest := []) (w2 := [(h, .inr (2, [.ref b])), (b, .inl (gI G, 4096, .inl (arI d)))]) (st2 := [.int (iI (im_sum d 64 62))]) C (ct_X2_sum G (kl k) h b d 64 62 (by omega) (by omega)) gX5_70 dX5_rightSum_28 0 rfl rfl rfl rfl rfl (Nat.le_of_ble_eq_true rfl) (by decide) [0, 1] rfl (by decide) [h, b] rfl rfl rfl rfl ?_
  have f_3 := im_sum_rg d 64 62
  refine w_iload_n C 2 dX5_rightSum_31 rfl ?_
  refine w_iadd C dX5_rightSum_32 ?_
  refine w_ldc (z := 65535) C 394 dX5_rightSum_33 (by decide +kernel) rfl ?_
  refine w_iandm (q := 65536) C 16 dX5_rightSum_35 (by decide) (by decide) (by decide) ?_
  exact w_reti hret dX5_rightSum_36 rfl rfl rfl rfl ⟨congrArg (fun z => some (Value.int (iI z))) (by unfold jn_right; omega), rfl⟩

theorem gX5_30 : cws RX5 30 yX5_rightSum cX5_rightSum 3 (some .int) 1 387 388 82 389 := by decide +kernel
theorem gX5_34 : cwv RX5 34 yX2_setPair cX2_setPair 3 none 2 729 336 337 66 338 := by decide +kernel
set_option maxHeartbeats 4000000 in
set_option maxRecDepth 100000 in
theorem ct_X5_writeSum (G : GX) (l : Launch) (h : Nat) (b : Nat) (d : Im) : Ct G l yX5_writeSum cX5_writeSum 1 none rmX5_writeSum [.ref h] [(h, .inr (2, [.ref b])), (b, .inl (gI G, 4096, .inl (arI d)))] none [(h, .inr (2, [.ref b])), (b, .inl (gI G, 4096, .inl (arI (jn_sum d))))] := by
  refine Ct.of (by decide) (Nat.le_of_ble_eq_true rfl) ?_
  intro k C hl hret
  subst hl
  refine w_lv (lv2 := [(0, .ref h)]) [0] rfl ?_
  refine w_aload_n C 0 dX5_writeSum_0 rfl ?_
  refine w_bipush C dX5_writeSum_1 (by decide) ?_
  refine w_aload_n C 0 dX5_writeSum_3 rfl ?_
  refine w_callS (As := [.ref h]) (rest := [.int (iI 126), .ref h]) (w2 := [(h, .inr (2, [.ref b])), (b, .inl (gI G, 4096, .inl (arI d)))]) (st2 := [.int (iI (jn_right d)), .int (iI 126), .ref h]) C (ct_X5_rightSum G (kl k) h b d) gX5_30 dX5_writeSum_4 rfl rfl (Nat.le_of_ble_eq_true rfl) (by decide) [0, 1] rfl (by decide) [h, b] rfl rfl rfl rfl ?_
  have f_1 := jn_right_rg d
  refine w_callV (As := [.int (iI 126), .int (iI (jn_right d))]) (rest := []) (w2 := [(h, .inr (2, [.ref b])), (b, .inl (gI G, 4096, .inl (arI (im_put d 126 (jn_right d)))))]) (st2 := []) C (ct_X2_setPair G (kl k) h b d 126 (jn_right d) (by omega) (by omega)) gX5_34 dX5_writeSum_7 0 rfl rfl rfl rfl rfl (Nat.le_of_ble_eq_true rfl) (by decide) [0, 1] rfl (by decide) [h, b] rfl rfl rfl rfl ?_
  exact w_retv hret dX5_writeSum_10 rfl rfl rfl ⟨rfl, rfl⟩

theorem gX5_11 : cwv RX5 11 yX2_wipe cX2_wipe 3 none 2 402 262 263 66 264 := by decide +kernel
theorem gX5_19 : cwv RX5 19 yX2_setText cX2_setText 4 none 2 738 280 281 66 282 := by decide +kernel
theorem gX5_23 : cwv RX5 23 yX2_set cX2_set 3 none 2 739 332 333 66 334 := by decide +kernel
theorem gX5_26 : cws RX5 26 yX5_writeSum cX5_writeSum 1 none 1 740 727 82 728 := by decide +kernel
set_option maxHeartbeats 4000000 in
set_option maxRecDepth 100000 in
theorem ct_X5_write (G : GX) (l : Launch) (h : Nat) (b : Nat) (d : Im) (x : Int64) (n : Int) (hn : 1 ≤ n ∧ n ≤ 5) : Ct G l yX5_write cX5_write 5 none rmX5_write [.ref h, .long x, .int (iI n)] [(h, .inr (2, [.ref b])), (b, .inl (gI G, 4096, .inl (arI d)))] none [(h, .inr (2, [.ref b])), (b, .inl (gI G, 4096, .inl (arI (jn_wr d x n))))] := by
  refine Ct.of (by decide) (Nat.le_of_ble_eq_true rfl) ?_
  intro k C hl hret
  subst hl
  refine w_lv (lv2 := [(0, .ref h), (1, .long x), (3, .int (iI n))]) [0, 1, 2] rfl ?_
  refine w_aload_n C 0 dX5_write_0 rfl ?_
  refine w_bipush C dX5_write_1 (by decide) ?_
  refine w_bipush C dX5_write_3 (by decide) ?_
  refine w_callV (As := [.int (iI 64), .int (iI 64)]) (rest := []) (w2 := [(h, .inr (2, [.ref b])), (b, .inl (gI G, 4096, .inl (arI (im_wipe d 64 64))))]) (st2 := []) C (ct_X2_wipe G (kl k) h b d 64 64 (by omega) (by omega)) gX5_11 dX5_write_5 0 rfl rfl rfl rfl rfl (Nat.le_of_ble_eq_true rfl) (by decide) [0, 1] rfl (by decide) [h, b] rfl rfl rfl rfl ?_
  refine w_aload_n C 0 dX5_write_8 rfl ?_
  refine w_bipush C dX5_write_9 (by decide) ?_
  refine w_ldcS C dX5_write_11 C.2.2.2.2.2.2.2.1.2.2.2.2.1 ?_
  refine w_callV (As := [.int (iI 64), .ref (gK G 1)]) (rest := []) (w2 := [(h, .inr (2, [.ref b])), (b, .inl (gI G, 4096, .inl (arI (im_txt (im_wipe d 64 64) 64 1 (tn 1).toNat))))]) (st2 := []) C (ct_X2_setText G (kl k) h b (im_wipe d 64 64) 1 64 (by omega) (by omega)) gX5_19 dX5_write_13 0 rfl rfl rfl rfl rfl (Nat.le_of_ble_eq_true rfl) (by decide) [0, 1] rfl (by decide) [h, b] rfl rfl rfl rfl ?_
  refine w_aload_n C 0 dX5_write_16 rfl ?_
  refine w_bipush C dX5_write_17 (by decide) ?_
  refine w_iload_n C 2 dX5_write_19 rfl ?_
  refine w_callV (As := [.int (iI 68), .int (iI n)]) (rest := []) (w2 := [(h, .inr (2, [.ref b])), (b, .inl (gI G, 4096, .inl (arI (im_set (im_txt (im_wipe d 64 64) 64 1 (tn 1).toNat) 68 n))))]) (st2 := []) C (ct_X2_set G (kl k) h b (im_txt (im_wipe d 64 64) 64 1 (tn 1).toNat) 68 n (by omega)) gX5_23 dX5_write_20 0 rfl rfl rfl rfl rfl (Nat.le_of_ble_eq_true rfl) (by decide) [0, 1] rfl (by decide) [h, b] rfl rfl rfl rfl ?_
  refine w_iconst C dX5_write_23 ?_
  refine w_istore (lv2 := [(0, .ref h), (1, .long x), (3, .int (iI n)), (4, .int (iI 0))]) C dX5_write_24 (by decide) rfl ?_
  refine w_ord (ws2 := [(h, .inr (2, [.ref b])), (b, .inl (gI G, 4096, .inl (arI ((im_set (im_txt (im_wipe d 64 64) 64 1 (tn 1).toNat) 68 n)))))]) [0, 1] rfl (by decide) ?_
  have L_26 : ∀ (nn_26 : Nat) (i : Int) (e : Im) (j : Nat), (i = (j : Int) ∧ i ≤ n) → (e = jn_tg (im_set (im_txt (im_wipe d 64 64) 64 1 (tn 1).toNat) 68 n) x j) → n.toNat - j = nn_26 → Wd G k 5 0 0 [(h, .inr (2, [.ref b])), (b, .inl (gI G, 4096, .inl (arI e)))] 26 [(0, .ref h), (1, .long x), (3, .int (iI n)), (4, .int (iI i))] [] := by
    intro nn_26
    induction nn_26 using Nat.strongRecOn with
    | ind nn_26 ih_26 =>
      intro i e j h1 h2 hm_26
      refine w_iload C 3 dX5_write_26 rfl ?_
      refine w_iload_n C 2 dX5_write_28 rfl ?_
      refine w_icmp_ge C 68 dX5_write_29 rfl (by omega) (fun c_1 => ?_) (fun c_1 => ?_)
      · refine w_aload_n C 0 dX5_write_68 rfl ?_
        refine w_callS (As := [.ref h]) (rest := []) (w2 := [(h, .inr (2, [.ref b])), (b, .inl (gI G, 4096, .inl (arI (jn_sum e))))]) (st2 := []) C (ct_X5_writeSum G (kl k) h b e) gX5_26 dX5_write_69 rfl rfl (Nat.le_of_ble_eq_true rfl) (by decide) [0, 1] rfl (by decide) [h, b] rfl rfl rfl rfl ?_
        exact w_retv hret dX5_write_72 rfl rfl rfl ⟨rfl, (by unfold jn_wr; rw [h2, show j = n.toNat by omega])⟩
      · refine w_iload C 3 dX5_write_32 rfl ?_
        refine w_iconst C dX5_write_34 ?_
        refine w_icmp_ge C 68 dX5_write_35 rfl (by omega) (fun c_2 => ?_) (fun c_2 => ?_)
        · refine w_aload_n C 0 dX5_write_68 rfl ?_
          refine w_callS (As := [.ref h]) (rest := []) (w2 := [(h, .inr (2, [.ref b])), (b, .inl (gI G, 4096, .inl (arI (jn_sum e))))]) (st2 := []) C (ct_X5_writeSum G (kl k) h b e) gX5_26 dX5_write_69 rfl rfl (Nat.le_of_ble_eq_true rfl) (by decide) [0, 1] rfl (by decide) [h, b] rfl rfl rfl rfl ?_
          exact w_retv hret dX5_write_72 rfl rfl rfl ⟨rfl, (by unfold jn_wr; rw [h2, show j = n.toNat by omega])⟩
        · refine w_aload_n C 0 dX5_write_38 rfl ?_
          refine w_bipush C dX5_write_39 (by decide) ?_
          refine w_iload C 3 dX5_write_41 rfl ?_
          refine w_iadd C dX5_write_43 ?_
          refine w_lload_n C 1 dX5_write_44 rfl ?_
          refine w_bipush C dX5_write_45 (by decide) ?_
          refine w_bipush C dX5_write_47 (by decide) ?_
          refine w_iload C 3 dX5_write_49 rfl ?_
          refine w_imul C dX5_write_51 ?_
          refine w_isub C dX5_write_52 ?_
          refine w_lushr (v := ((x.toUInt64 >>> ((iI (56 - 8 * i)).toInt64.toUInt64 &&& Int64.toUInt64 63)).toInt64)) C dX5_write_53 rfl ?_
          refine w_l2i (v := ((x.toUInt64 >>> ((iI (56 - 8 * i)).toInt64.toUInt64 &&& Int64.toUInt64 63)).toInt64.toInt32)) C dX5_write_54 rfl ?_
          refine w_sipush C dX5_write_55 (by decide) ?_
          refine w_iand (v := (iI (lby x (56 - 8 * j)))) C dX5_write_58 (by have q := lby_of x (56 - 8 * j) (by omega); rwa [show ((56 - 8 * j : Nat) : Int) = 56 - 8 * i by omega] at q) ?_
          refine w_callV (As := [.int (iI (69 + i)), .int (iI (lby x (56 - 8 * j)))]) (rest := []) (w2 := [(h, .inr (2, [.ref b])), (b, .inl (gI G, 4096, .inl (arI (im_set e (69 + i) (lby x (56 - 8 * j))))))]) (st2 := []) C (ct_X2_set G (kl k) h b e (69 + i) (lby x (56 - 8 * j)) (by omega)) gX5_23 dX5_write_59 0 rfl rfl rfl rfl rfl (Nat.le_of_ble_eq_true rfl) (by decide) [0, 1] rfl (by decide) [h, b] rfl rfl rfl rfl ?_
          refine w_iinc (lv2 := [(0, .ref h), (1, .long x), (3, .int (iI n)), (4, .int (iI (i + 1)))]) C 3 dX5_write_62 rfl (by decide) rfl ?_
          refine w_goto C 26 dX5_write_65 rfl ?_
          refine w_ord (ws2 := [(h, .inr (2, [.ref b])), (b, .inl (gI G, 4096, .inl (arI ((im_set e (69 + i) (lby x (56 - 8 * j)))))))]) [0, 1] rfl (by decide) ?_
          refine w_lv (lv2 := [(0, .ref h), (1, .long x), (3, .int (iI n)), (4, .int (iI ((i + 1))))]) [0, 1, 2, 3] rfl ?_
          exact ih_26 _ (by omega) (i + 1) (im_set e (69 + i) (lby x (56 - 8 * j))) (j + 1) (by omega) (by rw [jn_tg, ← h2, h1.1]) rfl
  exact L_26 _ 0 (im_set (im_txt (im_wipe d 64 64) 64 1 (tn 1).toNat) 68 n) 0 (by omega) rfl rfl
end
section
/-! LONGS AS SETS OF BLOCK NUMBERS -/
def tbt (x : Int64) (b : Int) : Bool := x.toBitVec.getLsbD b.toNat
def tset (x : Int64) (b : Int) : Int64 := x ||| ((1 : Int64) <<< ((iI b).toInt64 &&& 63))
theorem sh63 : ∀ k, k < 64 → ((iI (k : Nat)).toInt64 &&& 63) = Int64.ofNat k := by decide +kernel
theorem sh63s : ∀ k, k < 64 → ((Int64.ofNat k).toBitVec.smod 64).toNat = k := by decide +kernel
theorem shr_bv (x : Int64) {b : Int} (hb : 0 ≤ b ∧ b < 64) : (x >>> ((iI b).toInt64 &&& 63)).toBitVec = x.toBitVec.sshiftRight b.toNat := by
  have e : ((iI b).toInt64 &&& 63) = Int64.ofNat b.toNat := by
    have := sh63 b.toNat (by omega)
    rwa [Int.toNat_of_nonneg hb.1] at this
  rw [e]
  show x.toBitVec.sshiftRight' ((Int64.ofNat b.toNat).toBitVec.smod 64) = _
  unfold BitVec.sshiftRight'
  rw [sh63s b.toNat (by omega)]
theorem tb_bit (x : Int64) {b : Int} (hb : 0 ≤ b ∧ b < 64) : (x >>> ((iI b).toInt64 &&& 63)) &&& 1 = 0 ↔ tbt x b = false := by
  have key : ∀ i, i < 64 → ((x >>> ((iI b).toInt64 &&& 63)) &&& 1).toBitVec.getLsbD i = (decide (i = 0) && tbt x b) := by
    intro i hi
    show (((x >>> ((iI b).toInt64 &&& 63)).toBitVec) &&& 1#64).getLsbD i = _
    rw [BitVec.getLsbD_and, shr_bv x hb]
    by_cases h : i = 0
    · subst h
      rw [BitVec.getLsbD_sshiftRight]
      simp [tbt]
      intro _
      omega
    · have : (1#64).getLsbD i = false := by
        rw [BitVec.getLsbD_one]; simp [h]
      rw [this]
      simp [h]
  constructor
  · intro h
    have := key 0 (by decide)
    rw [h] at this
    simpa using this.symm
  · intro h
    rw [← Int64.toBitVec_inj]
    apply BitVec.eq_of_getLsbD_eq
    intro i hi
    rw [key i hi, h]
    simp
theorem tb_tset (x : Int64) {b j : Int} (hb : 0 ≤ b ∧ b < 64) (hj : 0 ≤ j ∧ j < 64) : tbt (tset x b) j = (tbt x j || decide (j = b)) := by
  unfold tbt tset
  show (x.toBitVec ||| ((1 : Int64) <<< ((iI b).toInt64 &&& 63)).toBitVec).getLsbD j.toNat = _
  rw [BitVec.getLsbD_or]
  congr 1
  have e : ((iI b).toInt64 &&& 63) = Int64.ofNat b.toNat := by
    have := sh63 b.toNat (by omega)
    rwa [Int.toNat_of_nonneg hb.1] at this
  rw [e]
  have e2 : ((1 : Int64) <<< Int64.ofNat b.toNat).toBitVec = 1#64 <<< b.toNat := by
    show 1#64 <<< ((Int64.ofNat b.toNat).toBitVec.smod 64) = _
    rw [BitVec.shiftLeft_eq', sh63s b.toNat (by omega)]
  rw [e2, BitVec.getLsbD_shiftLeft, BitVec.getLsbD_one]
  by_cases h : j = b
  · subst h
    simp
    omega
  · simp [h]
    intro _ _
    omega
section WB
variable {G : GX} {k : KX} {cc : ByteArray} {own : String} {R : Room} {nL ce sl pc pc2 : Nat} {ws : va_W} {lv : List (Nat × Value)} {st : List Value}
theorem w_lz (C : Cx G k cc own nL R) {x y : Int64} {off : Int} (tgt : Nat) (hd : Dc cc pc (.ifCond .eq off) 3 pc2) (ht : (pc : Int) + off = (tgt : Int)) (kt : x = y → Wd G k nL ce sl ws tgt lv st) (kf : ¬ x = y → Wd G k nL ce sl ws pc2 lv st) : Wd G k nL ce sl ws pc lv (.int (lg_cmp x y) :: st) := by
  obtain ⟨hd, rfl⟩ := hd
  exact fun H locs ls hP hD hS hl => lv_if_eq C.1 C.2.1 hd ht (fun h => kt ((lg_cmp_eq x y).mp h) H locs ls hP hD hS hl) (fun h => kf (fun q => h ((lg_cmp_eq x y).mpr q)) H locs ls hP hD hS hl)
theorem w_lnz (C : Cx G k cc own nL R) {x y : Int64} {off : Int} (tgt : Nat) (hd : Dc cc pc (.ifCond .ne off) 3 pc2) (ht : (pc : Int) + off = (tgt : Int)) (kt : ¬ x = y → Wd G k nL ce sl ws tgt lv st) (kf : x = y → Wd G k nL ce sl ws pc2 lv st) : Wd G k nL ce sl ws pc lv (.int (lg_cmp x y) :: st) := by
  obtain ⟨hd, rfl⟩ := hd
  exact fun H locs ls hP hD hS hl => lv_if_ne C.1 C.2.1 hd ht (fun h => kt (fun q => h ((lg_cmp_eq x y).mpr q)) H locs ls hP hD hS hl) (fun h => kf ((lg_cmp_eq x y).mp h) H locs ls hP hD hS hl)
theorem w_tbz (C : Cx G k cc own nL R) {x : Int64} {b off : Int} (tgt : Nat) (hd : Dc cc pc (.ifCond .eq off) 3 pc2) (ht : (pc : Int) + off = (tgt : Int)) (hb : 0 ≤ b ∧ b < 64) (kt : tbt x b = false → Wd G k nL ce sl ws tgt lv st) (kf : tbt x b = true → Wd G k nL ce sl ws pc2 lv st) : Wd G k nL ce sl ws pc lv (.int (lg_cmp ((x >>> ((iI b).toInt64 &&& 63)) &&& 1) 0) :: st) :=
  w_lz C tgt hd ht (fun h => kt ((tb_bit x hb).mp h)) (fun h => kf (by cases q : tbt x b with | false => exact absurd ((tb_bit x hb).mpr q) h | true => rfl))
theorem w_tbnz (C : Cx G k cc own nL R) {x : Int64} {b off : Int} (tgt : Nat) (hd : Dc cc pc (.ifCond .ne off) 3 pc2) (ht : (pc : Int) + off = (tgt : Int)) (hb : 0 ≤ b ∧ b < 64) (kt : tbt x b = true → Wd G k nL ce sl ws tgt lv st) (kf : tbt x b = false → Wd G k nL ce sl ws pc2 lv st) : Wd G k nL ce sl ws pc lv (.int (lg_cmp ((x >>> ((iI b).toInt64 &&& 63)) &&& 1) 0) :: st) :=
  w_lnz C tgt hd ht (fun h => kt (by cases q : tbt x b with | false => exact absurd ((tb_bit x hb).mpr q) h | true => rfl)) (fun h => kf ((tb_bit x hb).mp h))
end WB
end
section
/-! WHAT INODES MEAN -/
abbrev inR (i : Int) : Prop := 0 ≤ i ∧ i < 32
abbrev dat (b : Int) : Prop := 16 ≤ b ∧ b ≤ 62
def kd (d : Im) (i : Int) : Int := if inR i then d.1 (512 + i * 16) else 0
theorem kd_rg (d : Im) (i : Int) : 0 ≤ kd d i ∧ kd d i < 256 := by
  unfold kd; have := d.2 (512 + i * 16); split <;> omega
def lk (d : Im) (i : Int) : Int := if inR i then d.1 (512 + i * 16 + 1) else 0
theorem lk_rg (d : Im) (i : Int) : 0 ≤ lk d i ∧ lk d i < 256 := by
  unfold lk; have := d.2 (512 + i * 16 + 1); split <;> omega
def sz (d : Im) (i : Int) : Int := if inR i then d.1 (512 + i * 16 + 2) * 256 + d.1 (512 + i * 16 + 2 + 1) else 0
theorem sz_rg (d : Im) (i : Int) : 0 ≤ sz d i ∧ sz d i < 65536 := by
  unfold sz; have := d.2 (512 + i * 16 + 2); have := d.2 (512 + i * 16 + 2 + 1); split <;> omega
def bc (d : Im) (i : Int) : Int := (sz d i + 63) / 64
theorem bc_rg (d : Im) (i : Int) : 0 ≤ bc d i ∧ bc d i ≤ 1024 := by
  unfold bc; have := sz_rg d i; omega
/-- the number of block x of an inode; 0 where the indirect pointer tells none -/
def bk (d : Im) (i x : Int) : Int := if x < 5 then d.1 (512 + i * 16 + 4 + x) else if dat (d.1 (512 + i * 16 + 9)) then d.1 (d.1 (512 + i * 16 + 9) * 64 + x - 5) else 0
theorem bk_rg (d : Im) (i x : Int) : 0 ≤ bk d i x ∧ bk d i x < 256 := by
  unfold bk; have := d.2 (512 + i * 16 + 4 + x); have := d.2 (d.1 (512 + i * 16 + 9) * 64 + x - 5); split
  · omega
  · split <;> omega
/-- where byte j of the contents lies; -1 where no pointer leads there -/
def cp (d : Im) (i j : Int) : Int := if inR i ∧ j / 64 < 46 ∧ dat (bk d i (j / 64)) then bk d i (j / 64) * 64 + j % 64 else -1
theorem cp_rg (d : Im) (i j : Int) : cp d i j = -1 ∨ (1024 ≤ cp d i j ∧ cp d i j < 4032) := by
  unfold cp; split
  · right; omega
  · left; rfl
/-- a set of blocks with one more; bit 0 when it can't be had -/
def wbk (x : Int64) (b : Int) : Int64 := if dat b ∧ tbt x b = false then tset x b else x ||| 1
def bko (d : Im) (i : Int) : Nat → Int64
  | 0 => 0
  | j + 1 => wbk (bko d i j) (if cp d i (j * 64) = -1 then 0 else cp d i (j * 64) / 64)
def bks (d : Im) (i : Int) : Int64 := if 5 < bc d i then wbk (bko d i (min (bc d i) 46).toNat) (d.1 (512 + i * 16 + 9)) else bko d i (min (bc d i) 46).toNat
def tkB (tk : Int64) (d : Im) (i : Int) : Bool := decide (bks d i &&& (tk ||| 1) = 0)
def tkT (tk : Int64) (d : Im) (i : Int) : Int64 := if bks d i &&& (tk ||| 1) = 0 then tk ||| bks d i else tk
def ffs (d : Im) : Nat → Int → Int
  | 0, _ => -1
  | n + 1, i => if kd d i = 0 then i else ffs d n (i + 1)
def tfs (tk : Int64) : Nat → Int → Int
  | 0, _ => -1
  | n + 1, b => if tbt tk b = false then b else tfs tk n (b + 1)
theorem tfs_rg (tk : Int64) : ∀ (n : Nat) (b : Int), tfs tk n b = -1 ∨ (b ≤ tfs tk n b ∧ tfs tk n b < b + n)
  | 0, b => Or.inl rfl
  | n + 1, b => by
    rw [tfs]
    split
    · right; omega
    · rcases tfs_rg tk n (b + 1) with h | h
      · left; exact h
      · right; omega
/-- the first free block, and what is behind taking it -/
def tfB (tk : Int64) : Int := tfs tk 47 16
theorem tfB_rg (tk : Int64) : tfB tk = -1 ∨ (16 ≤ tfB tk ∧ tfB tk ≤ 62) := by
  unfold tfB; have := tfs_rg tk 47 16; omega
def tfT (tk : Int64) : Int64 := if tfB tk = -1 then tk else tset tk (tfB tk)
def tfD (tk : Int64) (d : Im) : Im := if tfB tk = -1 then d else im_wipe d (tfB tk * 64) 64
def ino_sum (d : Im) (i : Int) : Im := im_put d (512 + i * 16 + 14) (im_sum d (512 + i * 16) 14)
end
section
set_option maxHeartbeats 4000000 in
set_option maxRecDepth 100000 in
theorem ct_X10_isDataBlock (G : GX) (l : Launch) (q : Int) (hq : -2147483648 ≤ q ∧ q < 2147483648) : Ct G l yX10_isDataBlock cX10_isDataBlock 1 (some .boolean) rmX10_isDataBlock [.int (iI q)] [] (some (.int (iI (bI (decide (dat q)))))) [] := by
  refine Ct.of (by decide) (Nat.le_of_ble_eq_true rfl) ?_
  intro k C hl hret
  subst hl
  refine w_lv (lv2 := [(0, .int (iI q))]) [0] rfl ?_
  refine w_iload_n C 0 dX10_isDataBlock_0 rfl ?_
  refine w_bipush C dX10_isDataBlock_1 (by decide) ?_
  refine w_icmp_lt C 16 dX10_isDataBlock_3 rfl (by omega) (fun c_1 => ?_) (fun c_1 => ?_)
  · refine w_iconst C dX10_isDataBlock_16 ?_
    exact w_reti hret dX10_isDataBlock_17 rfl rfl rfl rfl ⟨congrArg (fun z => some (Value.int (iI z))) (by first | exact (bI_t (by omega)).symm | exact (bI_f (by omega)).symm), rfl⟩
  · refine w_iload_n C 0 dX10_isDataBlock_6 rfl ?_
    refine w_bipush C dX10_isDataBlock_7 (by decide) ?_
    refine w_icmp_gt C 16 dX10_isDataBlock_9 rfl (by omega) (fun c_2 => ?_) (fun c_2 => ?_)
    · refine w_iconst C dX10_isDataBlock_16 ?_
      exact w_reti hret dX10_isDataBlock_17 rfl rfl rfl rfl ⟨congrArg (fun z => some (Value.int (iI z))) (by first | exact (bI_t (by omega)).symm | exact (bI_f (by omega)).symm), rfl⟩
    · refine w_iconst C dX10_isDataBlock_12 ?_
      refine w_goto C 17 dX10_isDataBlock_13 rfl ?_
      exact w_reti hret dX10_isDataBlock_17 rfl rfl rfl rfl ⟨congrArg (fun z => some (Value.int (iI z))) (by first | exact (bI_t (by omega)).symm | exact (bI_f (by omega)).symm), rfl⟩

set_option maxHeartbeats 4000000 in
set_option maxRecDepth 100000 in
theorem ct_X4_isNumber (G : GX) (l : Launch) (i : Int) (hi : -2147483648 ≤ i ∧ i < 2147483648) : Ct G l yX4_isNumber cX4_isNumber 1 (some .boolean) rmX4_isNumber [.int (iI i)] [] (some (.int (iI (bI (decide (inR i)))))) [] := by
  refine Ct.of (by decide) (Nat.le_of_ble_eq_true rfl) ?_
  intro k C hl hret
  subst hl
  refine w_lv (lv2 := [(0, .int (iI i))]) [0] rfl ?_
  refine w_iload_n C 0 dX4_isNumber_0 rfl ?_
  refine w_if_lt C 14 dX4_isNumber_1 rfl (by omega) (fun c_1 => ?_) (fun c_1 => ?_)
  · refine w_iconst C dX4_isNumber_14 ?_
    exact w_reti hret dX4_isNumber_15 rfl rfl rfl rfl ⟨congrArg (fun z => some (Value.int (iI z))) (by first | exact (bI_t (by omega)).symm | exact (bI_f (by omega)).symm), rfl⟩
  · refine w_iload_n C 0 dX4_isNumber_4 rfl ?_
    refine w_bipush C dX4_isNumber_5 (by decide) ?_
    refine w_icmp_ge C 14 dX4_isNumber_7 rfl (by omega) (fun c_2 => ?_) (fun c_2 => ?_)
    · refine w_iconst C dX4_isNumber_14 ?_
      exact w_reti hret dX4_isNumber_15 rfl rfl rfl rfl ⟨congrArg (fun z => some (Value.int (iI z))) (by first | exact (bI_t (by omega)).symm | exact (bI_f (by omega)).symm), rfl⟩
    · refine w_iconst C dX4_isNumber_10 ?_
      refine w_goto C 15 dX4_isNumber_11 rfl ?_
      exact w_reti hret dX4_isNumber_15 rfl rfl rfl rfl ⟨congrArg (fun z => some (Value.int (iI z))) (by first | exact (bI_t (by omega)).symm | exact (bI_f (by omega)).symm), rfl⟩

set_option maxHeartbeats 4000000 in
set_option maxRecDepth 100000 in
theorem ct_X4_placeOf (G : GX) (l : Launch) (i : Int) : Ct G l yX4_placeOf cX4_placeOf 1 (some .int) rmX4_placeOf [.int (iI i)] [] (some (.int (iI (512 + i * 16)))) [] := by
  refine Ct.of (by decide) (Nat.le_of_ble_eq_true rfl) ?_
  intro k C hl hret
  subst hl
  refine w_lv (lv2 := [(0, .int (iI i))]) [0] rfl ?_
  refine w_sipush C dX4_placeOf_0 (by decide) ?_
  refine w_iload_n C 0 dX4_placeOf_3 rfl ?_
  refine w_bipush C dX4_placeOf_4 (by decide) ?_
  refine w_imul C dX4_placeOf_6 ?_
  refine w_iadd C dX4_placeOf_7 ?_
  exact w_reti hret dX4_placeOf_8 rfl rfl rfl rfl ⟨congrArg (fun z => some (Value.int (iI z))) (by omega), rfl⟩

theorem gX4_15 : cws RX4 15 yX4_isNumber cX4_isNumber 1 (some .boolean) 1 427 428 67 429 := by decide +kernel
theorem gX4_19 : cws RX4 19 yX4_placeOf cX4_placeOf 1 (some .int) 1 415 416 67 417 := by decide +kernel
theorem gX4_23 : cwv RX4 23 yX2_at cX2_at 2 (some .int) 1 430 359 360 66 361 := by decide +kernel
set_option maxHeartbeats 4000000 in
set_option maxRecDepth 100000 in
theorem ct_X4_kind (G : GX) (l : Launch) (h : Nat) (g : Nat) (b : Nat) (tk : Int64) (d : Im) (i : Int) (hi : -2147483648 ≤ i ∧ i < 2147483648) : Ct G l yX4_kind cX4_kind 2 (some .int) rmX4_kind [.ref h, .int (iI i)] [(h, .inr (4, [.ref g, .long tk])), (g, .inr (2, [.ref b])), (b, .inl (gI G, 4096, .inl (arI d)))] (some (.int (iI (kd d i)))) [(h, .inr (4, [.ref g, .long tk])), (g, .inr (2, [.ref b])), (b, .inl (gI G, 4096, .inl (arI d)))] := by
  refine Ct.of (by decide) (Nat.le_of_ble_eq_true rfl) ?_
  intro k C hl hret
  subst hl
  refine w_lv (lv2 := [(0, .ref h), (1, .int (iI i))]) [0, 1] rfl ?_
  refine w_iload_n C 1 dX4_kind_0 rfl ?_
  refine w_callS (As := [.int (iI i)]) (rest := []) (w2 := [(h, .inr (4, [.ref g, .long tk])), (g, .inr (2, [.ref b])), (b, .inl (gI G, 4096, .inl (arI d)))]) (st2 := [.int (iI (bI (decide (inR i))))]) C (ct_X4_isNumber G (kl k) i (by omega)) gX4_15 dX4_kind_1 rfl rfl (Nat.le_of_ble_eq_true rfl) (by decide) [] rfl (by decide) [] rfl rfl rfl rfl ?_
  refine w_bz C 21 dX4_kind_4 rfl (fun c_1 => ?_) (fun c_1 => ?_)
  · have hg : ¬ inR i := of_decide_eq_false (by assumption)
    refine w_iconst C dX4_kind_21 ?_
    exact w_reti hret dX4_kind_22 rfl rfl rfl rfl ⟨congrArg (fun z => some (Value.int (iI z))) (by unfold kd; first | (rw [if_neg hg]; done) | (unfold im_at; rw [if_pos hg, if_pos (by omega)]) | (unfold im_two; rw [if_pos hg, if_pos (by omega)])), rfl⟩
  · have hg : inR i := of_decide_eq_true (by assumption)
    have hg : inR i := of_decide_eq_true (by assumption)
    refine w_aload_n C 0 dX4_kind_7 rfl ?_
    refine w_get C 0 0 110 dX4_kind_8 rfl rfl inX4 (by decide) (by decide +kernel) rfl ?_
    refine w_iload_n C 1 dX4_kind_11 rfl ?_
    refine w_callS (As := [.int (iI i)]) (rest := [.ref g]) (w2 := [(h, .inr (4, [.ref g, .long tk])), (g, .inr (2, [.ref b])), (b, .inl (gI G, 4096, .inl (arI d)))]) (st2 := [.int (iI (512 + i * 16)), .ref g]) C (ct_X4_placeOf G (kl k) i) gX4_19 dX4_kind_12 rfl rfl (Nat.le_of_ble_eq_true rfl) (by decide) [] rfl (by decide) [] rfl rfl rfl rfl ?_
    refine w_callV (As := [.int (iI (512 + i * 16))]) (rest := []) (w2 := [(h, .inr (4, [.ref g, .long tk])), (g, .inr (2, [.ref b])), (b, .inl (gI G, 4096, .inl (arI d)))]) (st2 := [.int (iI (im_at d (512 + i * 16)))]) C (ct_X2_at G (kl k) g b d (512 + i * 16) (by omega)) gX4_23 dX4_kind_15 1 rfl rfl rfl rfl rfl (Nat.le_of_ble_eq_true rfl) (by decide) [1, 2] rfl (by decide) [g, b] rfl rfl rfl rfl ?_
    have f_2 := im_at_rg d (512 + i * 16)
    refine w_goto C 22 dX4_kind_18 rfl ?_
    exact w_reti hret dX4_kind_22 rfl rfl rfl rfl ⟨congrArg (fun z => some (Value.int (iI z))) (by unfold kd; first | (rw [if_neg hg]; done) | (unfold im_at; rw [if_pos hg, if_pos (by omega)]) | (unfold im_two; rw [if_pos hg, if_pos (by omega)])), rfl⟩

set_option maxHeartbeats 4000000 in
set_option maxRecDepth 100000 in
theorem ct_X4_links (G : GX) (l : Launch) (h : Nat) (g : Nat) (b : Nat) (tk : Int64) (d : Im) (i : Int) (hi : -2147483648 ≤ i ∧ i < 2147483648) : Ct G l yX4_links cX4_links 2 (some .int) rmX4_links [.ref h, .int (iI i)] [(h, .inr (4, [.ref g, .long tk])), (g, .inr (2, [.ref b])), (b, .inl (gI G, 4096, .inl (arI d)))] (some (.int (iI (lk d i)))) [(h, .inr (4, [.ref g, .long tk])), (g, .inr (2, [.ref b])), (b, .inl (gI G, 4096, .inl (arI d)))] := by
  refine Ct.of (by decide) (Nat.le_of_ble_eq_true rfl) ?_
  intro k C hl hret
  subst hl
  refine w_lv (lv2 := [(0, .ref h), (1, .int (iI i))]) [0, 1] rfl ?_
  refine w_iload_n C 1 dX4_links_0 rfl ?_
  refine w_callS (As := [.int (iI i)]) (rest := []) (w2 := [(h, .inr (4, [.ref g, .long tk])), (g, .inr (2, [.ref b])), (b, .inl (gI G, 4096, .inl (arI d)))]) (st2 := [.int (iI (bI (decide (inR i))))]) C (ct_X4_isNumber G (kl k) i (by omega)) gX4_15 dX4_links_1 rfl rfl (Nat.le_of_ble_eq_true rfl) (by decide) [] rfl (by decide) [] rfl rfl rfl rfl ?_
  refine w_bz C 23 dX4_links_4 rfl (fun c_1 => ?_) (fun c_1 => ?_)
  · have hg : ¬ inR i := of_decide_eq_false (by assumption)
    refine w_iconst C dX4_links_23 ?_
    exact w_reti hret dX4_links_24 rfl rfl rfl rfl ⟨congrArg (fun z => some (Value.int (iI z))) (by unfold lk; first | (rw [if_neg hg]; done) | (unfold im_at; rw [if_pos hg, if_pos (by omega)]) | (unfold im_two; rw [if_pos hg, if_pos (by omega)])), rfl⟩
  · have hg : inR i := of_decide_eq_true (by assumption)
    have hg : inR i := of_decide_eq_true (by assumption)
    refine w_aload_n C 0 dX4_links_7 rfl ?_
    refine w_get C 0 0 110 dX4_links_8 rfl rfl inX4 (by decide) (by decide +kernel) rfl ?_
    refine w_iload_n C 1 dX4_links_11 rfl ?_
    refine w_callS (As := [.int (iI i)]) (rest := [.ref g]) (w2 := [(h, .inr (4, [.ref g, .long tk])), (g, .inr (2, [.ref b])), (b, .inl (gI G, 4096, .inl (arI d)))]) (st2 := [.int (iI (512 + i * 16)), .ref g]) C (ct_X4_placeOf G (kl k) i) gX4_19 dX4_links_12 rfl rfl (Nat.le_of_ble_eq_true rfl) (by decide) [] rfl (by decide) [] rfl rfl rfl rfl ?_
    refine w_iconst C dX4_links_15 ?_
    refine w_iadd C dX4_links_16 ?_
    refine w_callV (As := [.int (iI ((512 + i * 16) + 1))]) (rest := []) (w2 := [(h, .inr (4, [.ref g, .long tk])), (g, .inr (2, [.ref b])), (b, .inl (gI G, 4096, .inl (arI d)))]) (st2 := [.int (iI (im_at d ((512 + i * 16) + 1)))]) C (ct_X2_at G (kl k) g b d ((512 + i * 16) + 1) (by omega)) gX4_23 dX4_links_17 1 rfl rfl rfl rfl rfl (Nat.le_of_ble_eq_true rfl) (by decide) [1, 2] rfl (by decide) [g, b] rfl rfl rfl rfl ?_
    have f_2 := im_at_rg d ((512 + i * 16) + 1)
    refine w_goto C 24 dX4_links_20 rfl ?_
    exact w_reti hret dX4_links_24 rfl rfl rfl rfl ⟨congrArg (fun z => some (Value.int (iI z))) (by unfold lk; first | (rw [if_neg hg]; done) | (unfold im_at; rw [if_pos hg, if_pos (by omega)]) | (unfold im_two; rw [if_pos hg, if_pos (by omega)])), rfl⟩

theorem gX4_28 : cwv RX4 28 yX2_pairAt cX2_pairAt 2 (some .int) 1 447 363 364 66 365 := by decide +kernel
set_option maxHeartbeats 4000000 in
set_option maxRecDepth 100000 in
theorem ct_X4_size (G : GX) (l : Launch) (h : Nat) (g : Nat) (b : Nat) (tk : Int64) (d : Im) (i : Int) (hi : -2147483648 ≤ i ∧ i < 2147483648) : Ct G l yX4_size cX4_size 2 (some .int) rmX4_size [.ref h, .int (iI i)] [(h, .inr (4, [.ref g, .long tk])), (g, .inr (2, [.ref b])), (b, .inl (gI G, 4096, .inl (arI d)))] (some (.int (iI (sz d i)))) [(h, .inr (4, [.ref g, .long tk])), (g, .inr (2, [.ref b])), (b, .inl (gI G, 4096, .inl (arI d)))] := by
  refine Ct.of (by decide) (Nat.le_of_ble_eq_true rfl) ?_
  intro k C hl hret
  subst hl
  refine w_lv (lv2 := [(0, .ref h), (1, .int (iI i))]) [0, 1] rfl ?_
  refine w_iload_n C 1 dX4_size_0 rfl ?_
  refine w_callS (As := [.int (iI i)]) (rest := []) (w2 := [(h, .inr (4, [.ref g, .long tk])), (g, .inr (2, [.ref b])), (b, .inl (gI G, 4096, .inl (arI d)))]) (st2 := [.int (iI (bI (decide (inR i))))]) C (ct_X4_isNumber G (kl k) i (by omega)) gX4_15 dX4_size_1 rfl rfl (Nat.le_of_ble_eq_true rfl) (by decide) [] rfl (by decide) [] rfl rfl rfl rfl ?_
  refine w_bz C 23 dX4_size_4 rfl (fun c_1 => ?_) (fun c_1 => ?_)
  · have hg : ¬ inR i := of_decide_eq_false (by assumption)
    refine w_iconst C dX4_size_23 ?_
    exact w_reti hret dX4_size_24 rfl rfl rfl rfl ⟨congrArg (fun z => some (Value.int (iI z))) (by unfold sz; first | (rw [if_neg hg]; done) | (unfold im_at; rw [if_pos hg, if_pos (by omega)]) | (unfold im_two; rw [if_pos hg, if_pos (by omega)])), rfl⟩
  · have hg : inR i := of_decide_eq_true (by assumption)
    have hg : inR i := of_decide_eq_true (by assumption)
    refine w_aload_n C 0 dX4_size_7 rfl ?_
    refine w_get C 0 0 110 dX4_size_8 rfl rfl inX4 (by decide) (by decide +kernel) rfl ?_
    refine w_iload_n C 1 dX4_size_11 rfl ?_
    refine w_callS (As := [.int (iI i)]) (rest := [.ref g]) (w2 := [(h, .inr (4, [.ref g, .long tk])), (g, .inr (2, [.ref b])), (b, .inl (gI G, 4096, .inl (arI d)))]) (st2 := [.int (iI (512 + i * 16)), .ref g]) C (ct_X4_placeOf G (kl k) i) gX4_19 dX4_size_12 rfl rfl (Nat.le_of_ble_eq_true rfl) (by decide) [] rfl (by decide) [] rfl rfl rfl rfl ?_
    refine w_iconst C dX4_size_15 ?_
    refine w_iadd C dX4_size_16 ?_
    refine w_callV (As := [.int (iI ((512 + i * 16) + 2))]) (rest := []) (w2 := [(h, .inr (4, [.ref g, .long tk])), (g, .inr (2, [.ref b])), (b, .inl (gI G, 4096, .inl (arI d)))]) (st2 := [.int (iI (im_two d ((512 + i * 16) + 2)))]) C (ct_X2_pairAt G (kl k) g b d ((512 + i * 16) + 2) (by omega)) gX4_28 dX4_size_17 1 rfl rfl rfl rfl rfl (Nat.le_of_ble_eq_true rfl) (by decide) [1, 2] rfl (by decide) [g, b] rfl rfl rfl rfl ?_
    have f_2 := im_two_rg d ((512 + i * 16) + 2)
    refine w_goto C 24 dX4_size_20 rfl ?_
    exact w_reti hret dX4_size_24 rfl rfl rfl rfl ⟨congrArg (fun z => some (Value.int (iI z))) (by unfold sz; first | (rw [if_neg hg]; done) | (unfold im_at; rw [if_pos hg, if_pos (by omega)]) | (unfold im_two; rw [if_pos hg, if_pos (by omega)])), rfl⟩

theorem gX4_31 : cwv RX4 31 yX2_set cX2_set 3 none 2 505 332 333 66 334 := by decide +kernel
set_option maxHeartbeats 4000000 in
set_option maxRecDepth 100000 in
theorem ct_X4_setLinks (G : GX) (l : Launch) (h : Nat) (g : Nat) (b : Nat) (tk : Int64) (d : Im) (i : Int) (v : Int) (hi : 0 ≤ i ∧ i < 32) : Ct G l yX4_setLinks cX4_setLinks 3 none rmX4_setLinks [.ref h, .int (iI i), .int (iI v)] [(h, .inr (4, [.ref g, .long tk])), (g, .inr (2, [.ref b])), (b, .inl (gI G, 4096, .inl (arI d)))] none [(h, .inr (4, [.ref g, .long tk])), (g, .inr (2, [.ref b])), (b, .inl (gI G, 4096, .inl (arI (im_set d (512 + i * 16 + 1) v))))] := by
  refine Ct.of (by decide) (Nat.le_of_ble_eq_true rfl) ?_
  intro k C hl hret
  subst hl
  refine w_lv (lv2 := [(0, .ref h), (1, .int (iI i)), (2, .int (iI v))]) [0, 1, 2] rfl ?_
  refine w_aload_n C 0 dX4_setLinks_0 rfl ?_
  refine w_get C 0 0 110 dX4_setLinks_1 rfl rfl inX4 (by decide) (by decide +kernel) rfl ?_
  refine w_iload_n C 1 dX4_setLinks_4 rfl ?_
  refine w_callS (As := [.int (iI i)]) (rest := [.ref g]) (w2 := [(h, .inr (4, [.ref g, .long tk])), (g, .inr (2, [.ref b])), (b, .inl (gI G, 4096, .inl (arI d)))]) (st2 := [.int (iI (512 + i * 16)), .ref g]) C (ct_X4_placeOf G (kl k) i) gX4_19 dX4_setLinks_5 rfl rfl (Nat.le_of_ble_eq_true rfl) (by decide) [] rfl (by decide) [] rfl rfl rfl rfl ?_
  refine w_iconst C dX4_setLinks_8 ?_
  refine w_iadd C dX4_setLinks_9 ?_
  refine w_iload_n C 2 dX4_setLinks_10 rfl ?_
  refine w_callV (As := [.int (iI ((512 + i * 16) + 1)), .int (iI v)]) (rest := []) (w2 := [(h, .inr (4, [.ref g, .long tk])), (g, .inr (2, [.ref b])), (b, .inl (gI G, 4096, .inl (arI (im_set d ((512 + i * 16) + 1) v))))]) (st2 := []) C (ct_X2_set G (kl k) g b d ((512 + i * 16) + 1) v (by omega)) gX4_31 dX4_setLinks_11 1 rfl rfl rfl rfl rfl (Nat.le_of_ble_eq_true rfl) (by decide) [1, 2] rfl (by decide) [g, b] rfl rfl rfl rfl ?_
  exact w_retv hret dX4_setLinks_14 rfl rfl rfl ⟨rfl, rfl⟩

theorem gX4_35 : cwv RX4 35 yX2_setPair cX2_setPair 3 none 2 519 336 337 66 338 := by decide +kernel
set_option maxHeartbeats 4000000 in
set_option maxRecDepth 100000 in
theorem ct_X4_setSize (G : GX) (l : Launch) (h : Nat) (g : Nat) (b : Nat) (tk : Int64) (d : Im) (i : Int) (v : Int) (hi : 0 ≤ i ∧ i < 32) (hv : -2147483648 ≤ v ∧ v < 2147483648) : Ct G l yX4_setSize cX4_setSize 3 none rmX4_setSize [.ref h, .int (iI i), .int (iI v)] [(h, .inr (4, [.ref g, .long tk])), (g, .inr (2, [.ref b])), (b, .inl (gI G, 4096, .inl (arI d)))] none [(h, .inr (4, [.ref g, .long tk])), (g, .inr (2, [.ref b])), (b, .inl (gI G, 4096, .inl (arI (im_put d (512 + i * 16 + 2) v))))] := by
  refine Ct.of (by decide) (Nat.le_of_ble_eq_true rfl) ?_
  intro k C hl hret
  subst hl
  refine w_lv (lv2 := [(0, .ref h), (1, .int (iI i)), (2, .int (iI v))]) [0, 1, 2] rfl ?_
  refine w_aload_n C 0 dX4_setSize_0 rfl ?_
  refine w_get C 0 0 110 dX4_setSize_1 rfl rfl inX4 (by decide) (by decide +kernel) rfl ?_
  refine w_iload_n C 1 dX4_setSize_4 rfl ?_
  refine w_callS (As := [.int (iI i)]) (rest := [.ref g]) (w2 := [(h, .inr (4, [.ref g, .long tk])), (g, .inr (2, [.ref b])), (b, .inl (gI G, 4096, .inl (arI d)))]) (st2 := [.int (iI (512 + i * 16)), .ref g]) C (ct_X4_placeOf G (kl k) i) gX4_19 dX4_setSize_5 rfl rfl (Nat.le_of_ble_eq_true rfl) (by decide) [] rfl (by decide) [] rfl rfl rfl rfl ?_
  refine w_iconst C dX4_setSize_8 ?_
  refine w_iadd C dX4_setSize_9 ?_
  refine w_iload_n C 2 dX4_setSize_10 rfl ?_
  refine w_callV (As := [.int (iI ((512 + i * 16) + 2)), .int (iI v)]) (rest := []) (w2 := [(h, .inr (4, [.ref g, .long tk])), (g, .inr (2, [.ref b])), (b, .inl (gI G, 4096, .inl (arI (im_put d ((512 + i * 16) + 2) v))))]) (st2 := []) C (ct_X2_setPair G (kl k) g b d ((512 + i * 16) + 2) v (by omega) (by omega)) gX4_35 dX4_setSize_11 1 rfl rfl rfl rfl rfl (Nat.le_of_ble_eq_true rfl) (by decide) [1, 2] rfl (by decide) [g, b] rfl rfl rfl rfl ?_
  exact w_retv hret dX4_setSize_14 rfl rfl rfl ⟨rfl, rfl⟩

theorem gX4_38 : cwv RX4 38 yX2_sum cX2_sum 5 (some .int) 2 438 343 344 66 345 := by decide +kernel
set_option maxHeartbeats 4000000 in
set_option maxRecDepth 100000 in
theorem ct_X4_rightSum (G : GX) (l : Launch) (h : Nat) (g : Nat) (b : Nat) (tk : Int64) (d : Im) (i : Int) (hi : 0 ≤ i ∧ i < 32) : Ct G l yX4_rightSum cX4_rightSum 2 (some .int) rmX4_rightSum [.ref h, .int (iI i)] [(h, .inr (4, [.ref g, .long tk])), (g, .inr (2, [.ref b])), (b, .inl (gI G, 4096, .inl (arI d)))] (some (.int (iI (im_sum d (512 + i * 16) 14)))) [(h, .inr (4, [.ref g, .long tk])), (g, .inr (2, [.ref b])), (b, .inl (gI G, 4096, .inl (arI d)))] := by
  refine Ct.of (by decide) (Nat.le_of_ble_eq_true rfl) ?_
  intro k C hl hret
  subst hl
  refine w_lv (lv2 := [(0, .ref h), (1, .int (iI i))]) [0, 1] rfl ?_
  refine w_aload_n C 0 dX4_rightSum_0 rfl ?_
  refine w_get C 0 0 110 dX4_rightSum_1 rfl rfl inX4 (by decide) (by decide +kernel) rfl ?_
  refine w_iload_n C 1 dX4_rightSum_4 rfl ?_
  refine w_callS (As := [.int (iI i)]) (rest := [.ref g]) (w2 := [(h, .inr (4, [.ref g, .long tk])), (g, .inr (2, [.ref b])), (b, .inl (gI G, 4096, .inl (arI d)))]) (st2 := [.int (iI (512 + i * 16)), .ref g]) C (ct_X4_placeOf G (kl k) i) gX4_19 dX4_rightSum_5 rfl rfl (Nat.le_of_ble_eq_true rfl) (by decide) [] rfl (by decide) [] rfl rfl rfl rfl ?_
  refine w_bipush C dX4_rightSum_8 (by decide) ?_
  refine w_callV (As := [.int (iI (512 + i * 16)), .int (iI 14)]) (rest := []) (w2 := [(h, .inr (4, [.ref g, .long tk])), (g, .inr (2, [.ref b])), (b, .inl (gI G, 4096, .inl (arI d)))]) (st2 := [.int (iI (im_sum d (512 + i * 16) 14))]) C (ct_X2_sum G (kl k) g b d (512 + i * 16) 14 (by omega) (by omega)) gX4_38 dX4_rightSum_10 1 rfl rfl rfl rfl rfl (Nat.le_of_ble_eq_true rfl) (by decide) [1, 2] rfl (by decide) [g, b] rfl rfl rfl rfl ?_
  have f_1 := im_sum_rg d (512 + i * 16) 14
  exact w_reti hret dX4_rightSum_13 rfl rfl rfl rfl ⟨rfl, rfl⟩

theorem gX4_42 : cwv RX4 42 yX4_rightSum cX4_rightSum 2 (some .int) 1 672 435 436 67 437 := by decide +kernel
set_option maxHeartbeats 4000000 in
set_option maxRecDepth 100000 in
theorem ct_X4_writeSum (G : GX) (l : Launch) (h : Nat) (g : Nat) (b : Nat) (tk : Int64) (d : Im) (i : Int) (hi : 0 ≤ i ∧ i < 32) : Ct G l yX4_writeSum cX4_writeSum 2 none rmX4_writeSum [.ref h, .int (iI i)] [(h, .inr (4, [.ref g, .long tk])), (g, .inr (2, [.ref b])), (b, .inl (gI G, 4096, .inl (arI d)))] none [(h, .inr (4, [.ref g, .long tk])), (g, .inr (2, [.ref b])), (b, .inl (gI G, 4096, .inl (arI (ino_sum d i))))] := by
  refine Ct.of (by decide) (Nat.le_of_ble_eq_true rfl) ?_
  intro k C hl hret
  subst hl
  refine w_lv (lv2 := [(0, .ref h), (1, .int (iI i))]) [0, 1] rfl ?_
  refine w_aload_n C 0 dX4_writeSum_0 rfl ?_
  refine w_get C 0 0 110 dX4_writeSum_1 rfl rfl inX4 (by decide) (by decide +kernel) rfl ?_
  refine w_iload_n C 1 dX4_writeSum_4 rfl ?_
  refine w_callS (As := [.int (iI i)]) (rest := [.ref g]) (w2 := [(h, .inr (4, [.ref g, .long tk])), (g, .inr (2, [.ref b])), (b, .inl (gI G, 4096, .inl (arI d)))]) (st2 := [.int (iI (512 + i * 16)), .ref g]) C (ct_X4_placeOf G (kl k) i) gX4_19 dX4_writeSum_5 rfl rfl (Nat.le_of_ble_eq_true rfl) (by decide) [] rfl (by decide) [] rfl rfl rfl rfl ?_
  refine w_bipush C dX4_writeSum_8 (by decide) ?_
  refine w_iadd C dX4_writeSum_10 ?_
  refine w_aload_n C 0 dX4_writeSum_11 rfl ?_
  refine w_iload_n C 1 dX4_writeSum_12 rfl ?_
  refine w_callV (As := [.int (iI i)]) (rest := [.int (iI ((512 + i * 16) + 14)), .ref g]) (w2 := [(h, .inr (4, [.ref g, .long tk])), (g, .inr (2, [.ref b])), (b, .inl (gI G, 4096, .inl (arI d)))]) (st2 := [.int (iI (im_sum d (512 + i * 16) 14)), .int (iI ((512 + i * 16) + 14)), .ref g]) C (ct_X4_rightSum G (kl k) h g b tk d i (by omega)) gX4_42 dX4_writeSum_13 0 rfl rfl rfl rfl rfl (Nat.le_of_ble_eq_true rfl) (by decide) [0, 1, 2] rfl (by decide) [h, g, b] rfl rfl rfl rfl ?_
  have f_1 := im_sum_rg d (512 + i * 16) 14
  refine w_callV (As := [.int (iI ((512 + i * 16) + 14)), .int (iI (im_sum d (512 + i * 16) 14))]) (rest := []) (w2 := [(h, .inr (4, [.ref g, .long tk])), (g, .inr (2, [.ref b])), (b, .inl (gI G, 4096, .inl (arI (im_put d ((512 + i * 16) + 14) (im_sum d (512 + i * 16) 14)))))]) (st2 := []) C (ct_X2_setPair G (kl k) g b d ((512 + i * 16) + 14) (im_sum d (512 + i * 16) 14) (by omega) (by omega)) gX4_35 dX4_writeSum_16 1 rfl rfl rfl rfl rfl (Nat.le_of_ble_eq_true rfl) (by decide) [1, 2] rfl (by decide) [g, b] rfl rfl rfl rfl ?_
  exact w_retv hret dX4_writeSum_19 rfl rfl rfl ⟨rfl, rfl⟩

theorem gX4_45 : cwv RX4 45 yX4_size cX4_size 2 (some .int) 1 456 444 445 67 446 := by decide +kernel
set_option maxHeartbeats 4000000 in
set_option maxRecDepth 100000 in
theorem ct_X4_blockCount (G : GX) (l : Launch) (h : Nat) (g : Nat) (b : Nat) (tk : Int64) (d : Im) (i : Int) (hi : -2147483648 ≤ i ∧ i < 2147483648) : Ct G l yX4_blockCount cX4_blockCount 2 (some .int) rmX4_blockCount [.ref h, .int (iI i)] [(h, .inr (4, [.ref g, .long tk])), (g, .inr (2, [.ref b])), (b, .inl (gI G, 4096, .inl (arI d)))] (some (.int (iI (bc d i)))) [(h, .inr (4, [.ref g, .long tk])), (g, .inr (2, [.ref b])), (b, .inl (gI G, 4096, .inl (arI d)))] := by
  refine Ct.of (by decide) (Nat.le_of_ble_eq_true rfl) ?_
  intro k C hl hret
  subst hl
  refine w_lv (lv2 := [(0, .ref h), (1, .int (iI i))]) [0, 1] rfl ?_
  refine w_aload_n C 0 dX4_blockCount_0 rfl ?_
  refine w_iload_n C 1 dX4_blockCount_1 rfl ?_
  refine w_callV (As := [.int (iI i)]) (rest := []) (w2 := [(h, .inr (4, [.ref g, .long tk])), (g, .inr (2, [.ref b])), (b, .inl (gI G, 4096, .inl (arI d)))]) (st2 := [.int (iI (sz d i))]) C (ct_X4_size G (kl k) h g b tk d i (by omega)) gX4_45 dX4_blockCount_2 0 rfl rfl rfl rfl rfl (Nat.le_of_ble_eq_true rfl) (by decide) [0, 1, 2] rfl (by decide) [h, g, b] rfl rfl rfl rfl ?_
  have f_1 := sz_rg d i
  refine w_bipush C dX4_blockCount_5 (by decide) ?_
  refine w_iadd C dX4_blockCount_7 ?_
  refine w_iconst C dX4_blockCount_8 ?_
  refine w_isub C dX4_blockCount_9 ?_
  refine w_bipush C dX4_blockCount_10 (by decide) ?_
  refine w_idiv C dX4_blockCount_12 (by omega) ?_
  exact w_reti hret dX4_blockCount_13 rfl rfl rfl rfl ⟨congrArg (fun z => some (Value.int (iI z))) (by unfold bc; rw [show sz d i + 64 - 1 = sz d i + 63 by omega]), rfl⟩

set_option maxHeartbeats 4000000 in
set_option maxRecDepth 100000 in
theorem ct_X4_begin (G : GX) (l : Launch) (h : Nat) (g : Nat) (b : Nat) (tk : Int64) (d : Im) (i : Int) (v : Int) (hi : 0 ≤ i ∧ i < 32) : Ct G l yX4_begin cX4_begin 3 none rmX4_begin [.ref h, .int (iI i), .int (iI v)] [(h, .inr (4, [.ref g, .long tk])), (g, .inr (2, [.ref b])), (b, .inl (gI G, 4096, .inl (arI d)))] none [(h, .inr (4, [.ref g, .long tk])), (g, .inr (2, [.ref b])), (b, .inl (gI G, 4096, .inl (arI (im_set d (512 + i * 16) v))))] := by
  refine Ct.of (by decide) (Nat.le_of_ble_eq_true rfl) ?_
  intro k C hl hret
  subst hl
  refine w_lv (lv2 := [(0, .ref h), (1, .int (iI i)), (2, .int (iI v))]) [0, 1, 2] rfl ?_
  refine w_aload_n C 0 dX4_begin_0 rfl ?_
  refine w_get C 0 0 110 dX4_begin_1 rfl rfl inX4 (by decide) (by decide +kernel) rfl ?_
  refine w_iload_n C 1 dX4_begin_4 rfl ?_
  refine w_callS (As := [.int (iI i)]) (rest := [.ref g]) (w2 := [(h, .inr (4, [.ref g, .long tk])), (g, .inr (2, [.ref b])), (b, .inl (gI G, 4096, .inl (arI d)))]) (st2 := [.int (iI (512 + i * 16)), .ref g]) C (ct_X4_placeOf G (kl k) i) gX4_19 dX4_begin_5 rfl rfl (Nat.le_of_ble_eq_true rfl) (by decide) [] rfl (by decide) [] rfl rfl rfl rfl ?_
  refine w_iload_n C 2 dX4_begin_8 rfl ?_
  refine w_callV (As := [.int (iI (512 + i * 16)), .int (iI v)]) (rest := []) (w2 := [(h, .inr (4, [.ref g, .long tk])), (g, .inr (2, [.ref b])), (b, .inl (gI G, 4096, .inl (arI (im_set d (512 + i * 16) v))))]) (st2 := []) C (ct_X2_set G (kl k) g b d (512 + i * 16) v (by omega)) gX4_31 dX4_begin_9 1 rfl rfl rfl rfl rfl (Nat.le_of_ble_eq_true rfl) (by decide) [1, 2] rfl (by decide) [g, b] rfl rfl rfl rfl ?_
  exact w_retv hret dX4_begin_12 rfl rfl rfl ⟨rfl, rfl⟩

theorem gX4_78 : cwv RX4 78 yX2_wipe cX2_wipe 3 none 2 418 262 263 66 264 := by decide +kernel
set_option maxHeartbeats 4000000 in
set_option maxRecDepth 100000 in
theorem ct_X4_wipe (G : GX) (l : Launch) (h : Nat) (g : Nat) (b : Nat) (tk : Int64) (d : Im) (i : Int) (hi : 0 ≤ i ∧ i < 32) : Ct G l yX4_wipe cX4_wipe 2 none rmX4_wipe [.ref h, .int (iI i)] [(h, .inr (4, [.ref g, .long tk])), (g, .inr (2, [.ref b])), (b, .inl (gI G, 4096, .inl (arI d)))] none [(h, .inr (4, [.ref g, .long tk])), (g, .inr (2, [.ref b])), (b, .inl (gI G, 4096, .inl (arI (im_wipe d (512 + i * 16) 16))))] := by
  refine Ct.of (by decide) (Nat.le_of_ble_eq_true rfl) ?_
  intro k C hl hret
  subst hl
  refine w_lv (lv2 := [(0, .ref h), (1, .int (iI i))]) [0, 1] rfl ?_
  refine w_aload_n C 0 dX4_wipe_0 rfl ?_
  refine w_get C 0 0 110 dX4_wipe_1 rfl rfl inX4 (by decide) (by decide +kernel) rfl ?_
  refine w_iload_n C 1 dX4_wipe_4 rfl ?_
  refine w_callS (As := [.int (iI i)]) (rest := [.ref g]) (w2 := [(h, .inr (4, [.ref g, .long tk])), (g, .inr (2, [.ref b])), (b, .inl (gI G, 4096, .inl (arI d)))]) (st2 := [.int (iI (512 + i * 16)), .ref g]) C (ct_X4_placeOf G (kl k) i) gX4_19 dX4_wipe_5 rfl rfl (Nat.le_of_ble_eq_true rfl) (by decide) [] rfl (by decide) [] rfl rfl rfl rfl ?_
  refine w_bipush C dX4_wipe_8 (by decide) ?_
  refine w_callV (As := [.int (iI (512 + i * 16)), .int (iI 16)]) (rest := []) (w2 := [(h, .inr (4, [.ref g, .long tk])), (g, .inr (2, [.ref b])), (b, .inl (gI G, 4096, .inl (arI (im_wipe d (512 + i * 16) 16))))]) (st2 := []) C (ct_X2_wipe G (kl k) g b d (512 + i * 16) 16 (by omega) (by omega)) gX4_78 dX4_wipe_10 1 rfl rfl rfl rfl rfl (Nat.le_of_ble_eq_true rfl) (by decide) [1, 2] rfl (by decide) [g, b] rfl rfl rfl rfl ?_
  exact w_retv hret dX4_wipe_13 rfl rfl rfl ⟨rfl, rfl⟩

set_option maxHeartbeats 4000000 in
set_option maxRecDepth 100000 in
theorem ct_X4_taken (G : GX) (l : Launch) (h : Nat) (g : Nat) (b : Nat) (tk : Int64) (d : Im) : Ct G l yX4_taken cX4_taken 1 (some .long) rmX4_taken [.ref h] [(h, .inr (4, [.ref g, .long tk])), (g, .inr (2, [.ref b])), (b, .inl (gI G, 4096, .inl (arI d)))] (some (.long tk)) [(h, .inr (4, [.ref g, .long tk])), (g, .inr (2, [.ref b])), (b, .inl (gI G, 4096, .inl (arI d)))] := by
  refine Ct.of (by decide) (Nat.le_of_ble_eq_true rfl) ?_
  intro k C hl hret
  subst hl
  refine w_lv (lv2 := [(0, .ref h)]) [0] rfl ?_
  refine w_aload_n C 0 dX4_taken_0 rfl ?_
  refine w_get C 0 1 111 dX4_taken_1 rfl rfl inX4 (by decide) (by decide +kernel) rfl ?_
  exact w_retl hret dX4_taken_4 rfl rfl rfl ⟨rfl, rfl⟩

set_option maxHeartbeats 4000000 in
set_option maxRecDepth 100000 in
theorem ct_X4_forgetTaken (G : GX) (l : Launch) (h : Nat) (g : Nat) (b : Nat) (tk : Int64) (d : Im) : Ct G l yX4_forgetTaken cX4_forgetTaken 1 none rmX4_forgetTaken [.ref h] [(h, .inr (4, [.ref g, .long tk])), (g, .inr (2, [.ref b])), (b, .inl (gI G, 4096, .inl (arI d)))] none [(h, .inr (4, [.ref g, .long 0])), (g, .inr (2, [.ref b])), (b, .inl (gI G, 4096, .inl (arI d)))] := by
  refine Ct.of (by decide) (Nat.le_of_ble_eq_true rfl) ?_
  intro k C hl hret
  subst hl
  refine w_lv (lv2 := [(0, .ref h)]) [0] rfl ?_
  refine w_aload_n C 0 dX4_forgetTaken_0 rfl ?_
  refine w_lconst (v := 0) C dX4_forgetTaken_1 (by decide) ?_
  refine w_put (ty := .long) (ws2 := [(h, .inr (4, [.ref g, .long 0])), (g, .inr (2, [.ref b])), (b, .inl (gI G, 4096, .inl (arI d)))]) C 0 1 111 dX4_forgetTaken_2 rfl rfl inX4 tyX4_ok nmX4 (by decide) (by decide +kernel) rfl (by decide +kernel) rfl rfl (Nat.le_of_ble_eq_true rfl) rfl ?_
  exact w_retv hret dX4_forgetTaken_5 rfl rfl rfl ⟨rfl, rfl⟩

theorem gX4_48 : cwn RX4 48 yX10_isDataBlock cX10_isDataBlock 1 (some .boolean) 1 4 472 65 473 := by decide +kernel
set_option maxHeartbeats 4000000 in
set_option maxRecDepth 100000 in
theorem ct_X4_contentPlace (G : GX) (l : Launch) (h : Nat) (g : Nat) (b : Nat) (tk : Int64) (d : Im) (i : Int) (j : Int) (hi : -2147483648 ≤ i ∧ i < 2147483648) (hj : 0 ≤ j ∧ j < 2147483648) : Ct G l yX4_contentPlace cX4_contentPlace 6 (some .int) rmX4_contentPlace [.ref h, .int (iI i), .int (iI j)] [(h, .inr (4, [.ref g, .long tk])), (g, .inr (2, [.ref b])), (b, .inl (gI G, 4096, .inl (arI d)))] (some (.int (iI (cp d i j)))) [(h, .inr (4, [.ref g, .long tk])), (g, .inr (2, [.ref b])), (b, .inl (gI G, 4096, .inl (arI d)))] := by
  refine Ct.of (by decide) (Nat.le_of_ble_eq_true rfl) ?_
  intro k C hl hret
  subst hl
  refine w_lv (lv2 := [(0, .ref h), (1, .int (iI i)), (2, .int (iI j))]) [0, 1, 2] rfl ?_
  refine w_iload_n C 2 dX4_contentPlace_0 rfl ?_
  refine w_bipush C dX4_contentPlace_1 (by decide) ?_
  refine w_idiv C dX4_contentPlace_3 (by omega) ?_
  refine w_istore_n (lv2 := [(0, .ref h), (1, .int (iI i)), (2, .int (iI j)), (3, .int (iI (j / 64)))]) C dX4_contentPlace_4 (by decide) rfl ?_
  refine w_iload_n C 1 dX4_contentPlace_5 rfl ?_
  refine w_callS (As := [.int (iI i)]) (rest := []) (w2 := [(h, .inr (4, [.ref g, .long tk])), (g, .inr (2, [.ref b])), (b, .inl (gI G, 4096, .inl (arI d)))]) (st2 := [.int (iI (bI (decide (inR i))))]) C (ct_X4_isNumber G (kl k) i (by omega)) gX4_15 dX4_contentPlace_6 rfl rfl (Nat.le_of_ble_eq_true rfl) (by decide) [] rfl (by decide) [] rfl rfl rfl rfl ?_
  refine w_bz C 22 dX4_contentPlace_9 rfl (fun c_1 => ?_) (fun c_1 => ?_)
  · have hg : ¬ inR i := of_decide_eq_false (by assumption)
    refine w_iconst C dX4_contentPlace_22 ?_
    exact w_reti hret dX4_contentPlace_23 rfl rfl rfl rfl ⟨congrArg (fun z => some (Value.int (iI z))) (by unfold cp; rw [if_neg (fun z => by first | exact hg z.1 | omega)]), rfl⟩
  · have hg : inR i := of_decide_eq_true (by assumption)
    refine w_iload_n C 2 dX4_contentPlace_12 rfl ?_
    refine w_if_lt C 22 dX4_contentPlace_13 rfl (by omega) (fun c_2 => ?_) (fun c_2 => ?_)
    · omega
    · refine w_iload_n C 3 dX4_contentPlace_16 rfl ?_
      refine w_bipush C dX4_contentPlace_17 (by decide) ?_
      refine w_icmp_lt C 24 dX4_contentPlace_19 rfl (by omega) (fun c_3 => ?_) (fun c_3 => ?_)
      · refine w_iload_n C 1 dX4_contentPlace_24 rfl ?_
        refine w_callS (As := [.int (iI i)]) (rest := []) (w2 := [(h, .inr (4, [.ref g, .long tk])), (g, .inr (2, [.ref b])), (b, .inl (gI G, 4096, .inl (arI d)))]) (st2 := [.int (iI (512 + i * 16))]) C (ct_X4_placeOf G (kl k) i) gX4_19 dX4_contentPlace_25 rfl rfl (Nat.le_of_ble_eq_true rfl) (by decide) [] rfl (by decide) [] rfl rfl rfl rfl ?_
        refine w_iconst C dX4_contentPlace_28 ?_
        refine w_iadd C dX4_contentPlace_29 ?_
        refine w_iload_n C 3 dX4_contentPlace_30 rfl ?_
        refine w_iadd C dX4_contentPlace_31 ?_
        refine w_istore (lv2 := [(0, .ref h), (1, .int (iI i)), (2, .int (iI j)), (3, .int (iI (j / 64))), (4, .int (iI (((512 + i * 16) + 4) + (j / 64))))]) C dX4_contentPlace_32 (by decide) rfl ?_
        refine w_iload_n C 3 dX4_contentPlace_34 rfl ?_
        refine w_iconst C dX4_contentPlace_35 ?_
        refine w_icmp_lt C 76 dX4_contentPlace_36 rfl (by omega) (fun c_4 => ?_) (fun c_4 => ?_)
        · refine w_aload_n C 0 dX4_contentPlace_76 rfl ?_
          refine w_get C 0 0 110 dX4_contentPlace_77 rfl rfl inX4 (by decide) (by decide +kernel) rfl ?_
          refine w_iload C 4 dX4_contentPlace_80 rfl ?_
          refine w_callV (As := [.int (iI (((512 + i * 16) + 4) + (j / 64)))]) (rest := []) (w2 := [(h, .inr (4, [.ref g, .long tk])), (g, .inr (2, [.ref b])), (b, .inl (gI G, 4096, .inl (arI d)))]) (st2 := [.int (iI (im_at d (((512 + i * 16) + 4) + (j / 64))))]) C (ct_X2_at G (kl k) g b d (((512 + i * 16) + 4) + (j / 64)) (by omega)) gX4_23 dX4_contentPlace_82 1 rfl rfl rfl rfl rfl (Nat.le_of_ble_eq_true rfl) (by decide) [1, 2] rfl (by decide) [g, b] rfl rfl rfl rfl ?_
          have f_5 := im_at_rg d (((512 + i * 16) + 4) + (j / 64))
          have b9 := bk_rg d i (j / 64)
          refine w_st (st2 := [.int (iI (bk d i (j / 64)))]) (by rw [show im_at d (((512 + i * 16) + 4) + (j / 64)) = bk d i (j / 64) from by unfold bk im_at; first | (rw [if_pos (by omega), if_pos (by omega)]; done) | rw [if_pos (by omega), if_neg (by omega), if_pos hq]]) ?_
          refine w_istore (lv2 := [(0, .ref h), (1, .int (iI i)), (2, .int (iI j)), (3, .int (iI (j / 64))), (4, .int (iI (((512 + i * 16) + 4) + (j / 64)))), (5, .int (iI (bk d i (j / 64))))]) C dX4_contentPlace_85 (by decide) rfl ?_
          refine w_iload C 5 dX4_contentPlace_87 rfl ?_
          refine w_callN (As := [.int (iI (bk d i (j / 64)))]) (rest := []) (w2 := [(h, .inr (4, [.ref g, .long tk])), (g, .inr (2, [.ref b])), (b, .inl (gI G, 4096, .inl (arI d)))]) (st2 := [.int (iI (bI (decide (dat (bk d i (j / 64))))))]) C (ct_X10_isDataBlock G (kl k) (bk d i (j / 64)) (by omega)) gX4_48 dX4_contentPlace_89 rfl rfl (Nat.le_of_ble_eq_true rfl) (by decide) [] rfl (by decide) [] rfl rfl rfl rfl ?_
          refine w_bz C 108 dX4_contentPlace_92 rfl (fun c_6 => ?_) (fun c_6 => ?_)
          · refine w_iconst C dX4_contentPlace_108 ?_
            exact w_reti hret dX4_contentPlace_109 rfl rfl rfl rfl ⟨congrArg (fun z => some (Value.int (iI z))) (by unfold cp; first | rw [if_pos ⟨hg, by omega, of_decide_eq_true (by assumption)⟩] | rw [if_neg (fun z => by have := of_decide_eq_false (by assumption : decide (dat (bk d i (j / 64))) = false); exact this z.2.2)]), rfl⟩
          · refine w_iload C 5 dX4_contentPlace_95 rfl ?_
            refine w_bipush C dX4_contentPlace_97 (by decide) ?_
            refine w_imul C dX4_contentPlace_99 ?_
            refine w_iload_n C 2 dX4_contentPlace_100 rfl ?_
            refine w_bipush C dX4_contentPlace_101 (by decide) ?_
            refine w_irem C dX4_contentPlace_103 (by omega) ?_
            refine w_iadd C dX4_contentPlace_104 ?_
            refine w_goto C 109 dX4_contentPlace_105 rfl ?_
            exact w_reti hret dX4_contentPlace_109 rfl rfl rfl rfl ⟨congrArg (fun z => some (Value.int (iI z))) (by unfold cp; first | rw [if_pos ⟨hg, by omega, of_decide_eq_true (by assumption)⟩] | rw [if_neg (fun z => by have := of_decide_eq_false (by assumption : decide (dat (bk d i (j / 64))) = false); exact this z.2.2)]), rfl⟩
        · refine w_aload_n C 0 dX4_contentPlace_39 rfl ?_
          refine w_get C 0 0 110 dX4_contentPlace_40 rfl rfl inX4 (by decide) (by decide +kernel) rfl ?_
          refine w_iload_n C 1 dX4_contentPlace_43 rfl ?_
          refine w_callS (As := [.int (iI i)]) (rest := [.ref g]) (w2 := [(h, .inr (4, [.ref g, .long tk])), (g, .inr (2, [.ref b])), (b, .inl (gI G, 4096, .inl (arI d)))]) (st2 := [.int (iI (512 + i * 16)), .ref g]) C (ct_X4_placeOf G (kl k) i) gX4_19 dX4_contentPlace_44 rfl rfl (Nat.le_of_ble_eq_true rfl) (by decide) [] rfl (by decide) [] rfl rfl rfl rfl ?_
          refine w_bipush C dX4_contentPlace_47 (by decide) ?_
          refine w_iadd C dX4_contentPlace_49 ?_
          refine w_callV (As := [.int (iI ((512 + i * 16) + 9))]) (rest := []) (w2 := [(h, .inr (4, [.ref g, .long tk])), (g, .inr (2, [.ref b])), (b, .inl (gI G, 4096, .inl (arI d)))]) (st2 := [.int (iI (im_at d ((512 + i * 16) + 9)))]) C (ct_X2_at G (kl k) g b d ((512 + i * 16) + 9) (by omega)) gX4_23 dX4_contentPlace_50 1 rfl rfl rfl rfl rfl (Nat.le_of_ble_eq_true rfl) (by decide) [1, 2] rfl (by decide) [g, b] rfl rfl rfl rfl ?_
          have f_7 := im_at_rg d ((512 + i * 16) + 9)
          have e1 : im_at d (512 + i * 16 + 9) = d.1 (512 + i * 16 + 9) := by unfold im_at; rw [if_pos (by omega)]
          refine w_st (st2 := [.int (iI (d.1 (512 + i * 16 + 9)))]) (by rw [e1]) ?_
          refine w_istore (lv2 := [(0, .ref h), (1, .int (iI i)), (2, .int (iI j)), (3, .int (iI (j / 64))), (4, .int (iI (((512 + i * 16) + 4) + (j / 64)))), (5, .int (iI (d.1 (512 + i * 16 + 9))))]) C dX4_contentPlace_53 (by decide) rfl ?_
          refine w_iload C 5 dX4_contentPlace_55 rfl ?_
          refine w_callN (As := [.int (iI (d.1 (512 + i * 16 + 9)))]) (rest := []) (w2 := [(h, .inr (4, [.ref g, .long tk])), (g, .inr (2, [.ref b])), (b, .inl (gI G, 4096, .inl (arI d)))]) (st2 := [.int (iI (bI (decide (dat (d.1 (512 + i * 16 + 9))))))]) C (ct_X10_isDataBlock G (kl k) (d.1 (512 + i * 16 + 9)) (by omega)) gX4_48 dX4_contentPlace_57 rfl rfl (Nat.le_of_ble_eq_true rfl) (by decide) [] rfl (by decide) [] rfl rfl rfl rfl ?_
          refine w_bnz C 65 dX4_contentPlace_60 rfl (fun c_8 => ?_) (fun c_8 => ?_)
          · have hq : dat (d.1 (512 + i * 16 + 9)) := of_decide_eq_true (by assumption)
            refine w_iload C 5 dX4_contentPlace_65 rfl ?_
            refine w_bipush C dX4_contentPlace_67 (by decide) ?_
            refine w_imul C dX4_contentPlace_69 ?_
            refine w_iload_n C 3 dX4_contentPlace_70 rfl ?_
            refine w_iadd C dX4_contentPlace_71 ?_
            refine w_iconst C dX4_contentPlace_72 ?_
            refine w_isub C dX4_contentPlace_73 ?_
            refine w_istore (lv2 := [(0, .ref h), (1, .int (iI i)), (2, .int (iI j)), (3, .int (iI (j / 64))), (4, .int (iI ((((d.1 (512 + i * 16 + 9)) * 64) + (j / 64)) - 5))), (5, .int (iI (d.1 (512 + i * 16 + 9))))]) C dX4_contentPlace_74 (by decide) rfl ?_
            refine w_aload_n C 0 dX4_contentPlace_76 rfl ?_
            refine w_get C 0 0 110 dX4_contentPlace_77 rfl rfl inX4 (by decide) (by decide +kernel) rfl ?_
            refine w_iload C 4 dX4_contentPlace_80 rfl ?_
            refine w_callV (As := [.int (iI ((((d.1 (512 + i * 16 + 9)) * 64) + (j / 64)) - 5))]) (rest := []) (w2 := [(h, .inr (4, [.ref g, .long tk])), (g, .inr (2, [.ref b])), (b, .inl (gI G, 4096, .inl (arI d)))]) (st2 := [.int (iI (im_at d ((((d.1 (512 + i * 16 + 9)) * 64) + (j / 64)) - 5)))]) C (ct_X2_at G (kl k) g b d ((((d.1 (512 + i * 16 + 9)) * 64) + (j / 64)) - 5) (by omega)) gX4_23 dX4_contentPlace_82 1 rfl rfl rfl rfl rfl (Nat.le_of_ble_eq_true rfl) (by decide) [1, 2] rfl (by decide) [g, b] rfl rfl rfl rfl ?_
            have f_9 := im_at_rg d ((((d.1 (512 + i * 16 + 9)) * 64) + (j / 64)) - 5)
            have b9 := bk_rg d i (j / 64)
            refine w_st (st2 := [.int (iI (bk d i (j / 64)))]) (by rw [show im_at d ((((d.1 (512 + i * 16 + 9)) * 64) + (j / 64)) - 5) = bk d i (j / 64) from by unfold bk im_at; first | (rw [if_pos (by omega), if_pos (by omega)]; done) | rw [if_pos (by omega), if_neg (by omega), if_pos hq]]) ?_
            refine w_istore (lv2 := [(0, .ref h), (1, .int (iI i)), (2, .int (iI j)), (3, .int (iI (j / 64))), (4, .int (iI ((((d.1 (512 + i * 16 + 9)) * 64) + (j / 64)) - 5))), (5, .int (iI (bk d i (j / 64))))]) C dX4_contentPlace_85 (by decide) rfl ?_
            refine w_iload C 5 dX4_contentPlace_87 rfl ?_
            refine w_callN (As := [.int (iI (bk d i (j / 64)))]) (rest := []) (w2 := [(h, .inr (4, [.ref g, .long tk])), (g, .inr (2, [.ref b])), (b, .inl (gI G, 4096, .inl (arI d)))]) (st2 := [.int (iI (bI (decide (dat (bk d i (j / 64))))))]) C (ct_X10_isDataBlock G (kl k) (bk d i (j / 64)) (by omega)) gX4_48 dX4_contentPlace_89 rfl rfl (Nat.le_of_ble_eq_true rfl) (by decide) [] rfl (by decide) [] rfl rfl rfl rfl ?_
            refine w_bz C 108 dX4_contentPlace_92 rfl (fun c_10 => ?_) (fun c_10 => ?_)
            · refine w_iconst C dX4_contentPlace_108 ?_
              exact w_reti hret dX4_contentPlace_109 rfl rfl rfl rfl ⟨congrArg (fun z => some (Value.int (iI z))) (by unfold cp; first | rw [if_pos ⟨hg, by omega, of_decide_eq_true (by assumption)⟩] | rw [if_neg (fun z => by have := of_decide_eq_false (by assumption : decide (dat (bk d i (j / 64))) = false); exact this z.2.2)]), rfl⟩
            · refine w_iload C 5 dX4_contentPlace_95 rfl ?_
              refine w_bipush C dX4_contentPlace_97 (by decide) ?_
              refine w_imul C dX4_contentPlace_99 ?_
              refine w_iload_n C 2 dX4_contentPlace_100 rfl ?_
              refine w_bipush C dX4_contentPlace_101 (by decide) ?_
              refine w_irem C dX4_contentPlace_103 (by omega) ?_
              refine w_iadd C dX4_contentPlace_104 ?_
              refine w_goto C 109 dX4_contentPlace_105 rfl ?_
              exact w_reti hret dX4_contentPlace_109 rfl rfl rfl rfl ⟨congrArg (fun z => some (Value.int (iI z))) (by unfold cp; first | rw [if_pos ⟨hg, by omega, of_decide_eq_true (by assumption)⟩] | rw [if_neg (fun z => by have := of_decide_eq_false (by assumption : decide (dat (bk d i (j / 64))) = false); exact this z.2.2)]), rfl⟩
          · have hq : ¬ dat (d.1 (512 + i * 16 + 9)) := of_decide_eq_false (by assumption)
            refine w_iconst C dX4_contentPlace_63 ?_
            exact w_reti hret dX4_contentPlace_64 rfl rfl rfl rfl ⟨congrArg (fun z => some (Value.int (iI z))) (by unfold cp bk; rw [if_neg (fun z => by have z2 := z.2.2; rw [if_neg (by assumption), if_neg hq] at z2; omega)]), rfl⟩
      · refine w_iconst C dX4_contentPlace_22 ?_
        exact w_reti hret dX4_contentPlace_23 rfl rfl rfl rfl ⟨congrArg (fun z => some (Value.int (iI z))) (by unfold cp; rw [if_neg (fun z => by first | exact hg z.1 | omega)]), rfl⟩

set_option maxHeartbeats 4000000 in
set_option maxRecDepth 100000 in
theorem ct_X4_withBlock (G : GX) (l : Launch) (x : Int64) (q : Int) (hq : -2147483648 ≤ q ∧ q < 2147483648) : Ct G l yX4_withBlock cX4_withBlock 4 (some .long) rmX4_withBlock [.long x, .int (iI q)] [] (some (.long (wbk x q))) [] := by
  refine Ct.of (by decide) (Nat.le_of_ble_eq_true rfl) ?_
  intro k C hl hret
  subst hl
  refine w_lv (lv2 := [(0, .long x), (2, .int (iI q))]) [0, 1] rfl ?_
  refine w_iload_n C 1 dX4_withBlock_0 rfl ?_
  refine w_callN (As := [.int (iI q)]) (rest := []) (w2 := []) (st2 := [.int (iI (bI (decide (dat q))))]) C (ct_X10_isDataBlock G (kl k) q (by omega)) gX4_48 dX4_withBlock_1 rfl rfl (Nat.le_of_ble_eq_true rfl) (by decide) [] rfl (by decide) [] rfl rfl rfl rfl ?_
  refine w_bz C 21 dX4_withBlock_4 rfl (fun c_1 => ?_) (fun c_1 => ?_)
  · have hg : ¬ dat q := of_decide_eq_false (by assumption)
    refine w_iconst C dX4_withBlock_21 ?_
    refine w_st (st2 := [.int (iI (bI false))]) rfl ?_
    refine w_istore_n (lv2 := [(0, .long x), (2, .int (iI q)), (3, .int (iI (bI false)))]) C dX4_withBlock_22 (by decide) rfl ?_
    refine w_iload_n C 2 dX4_withBlock_23 rfl ?_
    refine w_bz C 35 dX4_withBlock_24 rfl (fun c_2 => ?_) (fun c_2 => ?_)
    · refine w_lload_n C 0 dX4_withBlock_35 rfl ?_
      refine w_lconst (v := 1) C dX4_withBlock_36 (by decide) ?_
      refine w_lor (v := x ||| 1) C dX4_withBlock_37 rfl ?_
      exact w_retl hret dX4_withBlock_38 rfl rfl rfl ⟨(by unfold wbk; first | exact absurd ‹false = true› (by decide) | (rw [if_pos ⟨hg, by assumption⟩]; done) | (rw [if_neg (fun z => hg z.1)]; done) | rw [if_neg (fun z => by simp_all)]), rfl⟩
    · refine w_lload_n C 0 dX4_withBlock_27 rfl ?_
      refine w_lconst (v := 1) C dX4_withBlock_28 (by decide) ?_
      refine w_iload_n C 1 dX4_withBlock_29 rfl ?_
      refine w_lshl (v := (1 : Int64) <<< ((iI q).toInt64 &&& 63)) C dX4_withBlock_30 rfl ?_
      refine w_lor (v := tset x q) C dX4_withBlock_31 rfl ?_
      refine w_goto C 38 dX4_withBlock_32 rfl ?_
      exact w_retl hret dX4_withBlock_38 rfl rfl rfl ⟨(by unfold wbk; first | exact absurd ‹false = true› (by decide) | (rw [if_pos ⟨hg, by assumption⟩]; done) | (rw [if_neg (fun z => hg z.1)]; done) | rw [if_neg (fun z => by simp_all)]), rfl⟩
  · have hg : dat q := of_decide_eq_true (by assumption)
    refine w_lload_n C 0 dX4_withBlock_7 rfl ?_
    refine w_iload_n C 1 dX4_withBlock_8 rfl ?_
    refine w_lshr (v := x >>> ((iI q).toInt64 &&& 63)) C dX4_withBlock_9 rfl ?_
    refine w_lconst (v := 1) C dX4_withBlock_10 (by decide) ?_
    refine w_land (v := (x >>> ((iI q).toInt64 &&& 63)) &&& 1) C dX4_withBlock_11 rfl ?_
    refine w_lconst (v := 0) C dX4_withBlock_12 (by decide) ?_
    refine w_lcmp C dX4_withBlock_13 ?_
    refine w_tbnz C 21 dX4_withBlock_14 rfl (by omega) (fun c_3 => ?_) (fun c_3 => ?_)
    · refine w_iconst C dX4_withBlock_21 ?_
      refine w_st (st2 := [.int (iI (bI false))]) rfl ?_
      refine w_istore_n (lv2 := [(0, .long x), (2, .int (iI q)), (3, .int (iI (bI false)))]) C dX4_withBlock_22 (by decide) rfl ?_
      refine w_iload_n C 2 dX4_withBlock_23 rfl ?_
      refine w_bz C 35 dX4_withBlock_24 rfl (fun c_4 => ?_) (fun c_4 => ?_)
      · refine w_lload_n C 0 dX4_withBlock_35 rfl ?_
        refine w_lconst (v := 1) C dX4_withBlock_36 (by decide) ?_
        refine w_lor (v := x ||| 1) C dX4_withBlock_37 rfl ?_
        exact w_retl hret dX4_withBlock_38 rfl rfl rfl ⟨(by unfold wbk; first | exact absurd ‹false = true› (by decide) | (rw [if_pos ⟨hg, by assumption⟩]; done) | (rw [if_neg (fun z => hg z.1)]; done) | rw [if_neg (fun z => by simp_all)]), rfl⟩
      · refine w_lload_n C 0 dX4_withBlock_27 rfl ?_
        refine w_lconst (v := 1) C dX4_withBlock_28 (by decide) ?_
        refine w_iload_n C 1 dX4_withBlock_29 rfl ?_
        refine w_lshl (v := (1 : Int64) <<< ((iI q).toInt64 &&& 63)) C dX4_withBlock_30 rfl ?_
        refine w_lor (v := tset x q) C dX4_withBlock_31 rfl ?_
        refine w_goto C 38 dX4_withBlock_32 rfl ?_
        exact w_retl hret dX4_withBlock_38 rfl rfl rfl ⟨(by unfold wbk; first | exact absurd ‹false = true› (by decide) | (rw [if_pos ⟨hg, by assumption⟩]; done) | (rw [if_neg (fun z => hg z.1)]; done) | rw [if_neg (fun z => by simp_all)]), rfl⟩
    · refine w_iconst C dX4_withBlock_17 ?_
      refine w_goto C 22 dX4_withBlock_18 rfl ?_
      refine w_st (st2 := [.int (iI (bI true))]) rfl ?_
      refine w_istore_n (lv2 := [(0, .long x), (2, .int (iI q)), (3, .int (iI (bI true)))]) C dX4_withBlock_22 (by decide) rfl ?_
      refine w_iload_n C 2 dX4_withBlock_23 rfl ?_
      refine w_bz C 35 dX4_withBlock_24 rfl (fun c_5 => ?_) (fun c_5 => ?_)
      · refine w_lload_n C 0 dX4_withBlock_35 rfl ?_
        refine w_lconst (v := 1) C dX4_withBlock_36 (by decide) ?_
        refine w_lor (v := x ||| 1) C dX4_withBlock_37 rfl ?_
        exact w_retl hret dX4_withBlock_38 rfl rfl rfl ⟨(by unfold wbk; first | exact absurd ‹false = true› (by decide) | (rw [if_pos ⟨hg, by assumption⟩]; done) | (rw [if_neg (fun z => hg z.1)]; done) | rw [if_neg (fun z => by simp_all)]), rfl⟩
      · refine w_lload_n C 0 dX4_withBlock_27 rfl ?_
        refine w_lconst (v := 1) C dX4_withBlock_28 (by decide) ?_
        refine w_iload_n C 1 dX4_withBlock_29 rfl ?_
        refine w_lshl (v := (1 : Int64) <<< ((iI q).toInt64 &&& 63)) C dX4_withBlock_30 rfl ?_
        refine w_lor (v := tset x q) C dX4_withBlock_31 rfl ?_
        refine w_goto C 38 dX4_withBlock_32 rfl ?_
        exact w_retl hret dX4_withBlock_38 rfl rfl rfl ⟨(by unfold wbk; first | exact absurd ‹false = true› (by decide) | (rw [if_pos ⟨hg, by assumption⟩]; done) | (rw [if_neg (fun z => hg z.1)]; done) | rw [if_neg (fun z => by simp_all)]), rfl⟩

theorem gX4_51 : cwv RX4 51 yX4_blockCount cX4_blockCount 2 (some .int) 1 466 453 454 67 455 := by decide +kernel
theorem gX4_57 : cws RX4 57 yX4_withBlock cX4_withBlock 4 (some .long) 2 474 475 67 476 := by decide +kernel
theorem gX4_54 : cwv RX4 54 yX4_contentPlace cX4_contentPlace 6 (some .int) 2 467 468 469 67 470 := by decide +kernel
set_option maxHeartbeats 4000000 in
set_option maxRecDepth 100000 in
theorem ct_X4_blocksOf (G : GX) (l : Launch) (h : Nat) (g : Nat) (b : Nat) (tk : Int64) (d : Im) (i : Int) (hi : 0 ≤ i ∧ i < 32) : Ct G l yX4_blocksOf cX4_blocksOf 7 (some .long) rmX4_blocksOf [.ref h, .int (iI i)] [(h, .inr (4, [.ref g, .long tk])), (g, .inr (2, [.ref b])), (b, .inl (gI G, 4096, .inl (arI d)))] (some (.long (bks d i))) [(h, .inr (4, [.ref g, .long tk])), (g, .inr (2, [.ref b])), (b, .inl (gI G, 4096, .inl (arI d)))] := by
  refine Ct.of (by decide) (Nat.le_of_ble_eq_true rfl) ?_
  intro k C hl hret
  subst hl
  refine w_lv (lv2 := [(0, .ref h), (1, .int (iI i))]) [0, 1] rfl ?_
  refine w_aload_n C 0 dX4_blocksOf_0 rfl ?_
  refine w_iload_n C 1 dX4_blocksOf_1 rfl ?_
  refine w_callV (As := [.int (iI i)]) (rest := []) (w2 := [(h, .inr (4, [.ref g, .long tk])), (g, .inr (2, [.ref b])), (b, .inl (gI G, 4096, .inl (arI d)))]) (st2 := [.int (iI (bc d i))]) C (ct_X4_blockCount G (kl k) h g b tk d i (by omega)) gX4_51 dX4_blocksOf_2 0 rfl rfl rfl rfl rfl (Nat.le_of_ble_eq_true rfl) (by decide) [0, 1, 2] rfl (by decide) [h, g, b] rfl rfl rfl rfl ?_
  have f_1 := bc_rg d i
  refine w_istore_n (lv2 := [(0, .ref h), (1, .int (iI i)), (2, .int (iI (bc d i)))]) C dX4_blocksOf_5 (by decide) rfl ?_
  refine w_lconst (v := 0) C dX4_blocksOf_6 (by decide) ?_
  refine w_lstore_n (lv2 := [(0, .ref h), (1, .int (iI i)), (2, .int (iI (bc d i))), (3, .long 0)]) C dX4_blocksOf_7 (by decide) rfl ?_
  refine w_iconst C dX4_blocksOf_8 ?_
  refine w_istore (lv2 := [(0, .ref h), (1, .int (iI i)), (2, .int (iI (bc d i))), (3, .long 0), (5, .int (iI 0))]) C dX4_blocksOf_9 (by decide) rfl ?_
  have L_11 : ∀ (nn_11 : Nat) (j : Int) (x : Int64), (0 ≤ j ∧ j ≤ bc d i ∧ j ≤ 46) → (x = bko d i j.toNat) → (bc d i - j).toNat = nn_11 → Wd G k 7 0 0 [(h, .inr (4, [.ref g, .long tk])), (g, .inr (2, [.ref b])), (b, .inl (gI G, 4096, .inl (arI d)))] 11 [(0, .ref h), (1, .int (iI i)), (2, .int (iI (bc d i))), (3, .long x), (5, .int (iI j))] [] := by
    intro nn_11
    induction nn_11 using Nat.strongRecOn with
    | ind nn_11 ih_11 =>
      intro j x h1 h2 hm_11
      have b9 := bc_rg d i
      refine w_iload C 4 dX4_blocksOf_11 rfl ?_
      refine w_iload_n C 2 dX4_blocksOf_13 rfl ?_
      refine w_icmp_ge C 62 dX4_blocksOf_14 rfl (by omega) (fun c_2 => ?_) (fun c_2 => ?_)
      · refine w_iload_n C 2 dX4_blocksOf_62 rfl ?_
        refine w_iconst C dX4_blocksOf_63 ?_
        refine w_icmp_le C 86 dX4_blocksOf_64 rfl (by omega) (fun c_3 => ?_) (fun c_3 => ?_)
        · refine w_lload_n C 3 dX4_blocksOf_86 rfl ?_
          exact w_retl hret dX4_blocksOf_87 rfl rfl rfl ⟨(by unfold bks; first | (exfalso; omega) | rw [if_pos (by omega), h2, show j = min (bc d i) 46 by omega] | rw [if_neg (by omega), h2, show j = min (bc d i) 46 by omega]), rfl⟩
        · refine w_lload_n C 3 dX4_blocksOf_67 rfl ?_
          refine w_aload_n C 0 dX4_blocksOf_68 rfl ?_
          refine w_get C 0 0 110 dX4_blocksOf_69 rfl rfl inX4 (by decide) (by decide +kernel) rfl ?_
          refine w_iload_n C 1 dX4_blocksOf_72 rfl ?_
          refine w_callS (As := [.int (iI i)]) (rest := [.ref g, .long x]) (w2 := [(h, .inr (4, [.ref g, .long tk])), (g, .inr (2, [.ref b])), (b, .inl (gI G, 4096, .inl (arI d)))]) (st2 := [.int (iI (512 + i * 16)), .ref g, .long x]) C (ct_X4_placeOf G (kl k) i) gX4_19 dX4_blocksOf_73 rfl rfl (Nat.le_of_ble_eq_true rfl) (by decide) [] rfl (by decide) [] rfl rfl rfl rfl ?_
          refine w_bipush C dX4_blocksOf_76 (by decide) ?_
          refine w_iadd C dX4_blocksOf_78 ?_
          refine w_callV (As := [.int (iI ((512 + i * 16) + 9))]) (rest := [.long x]) (w2 := [(h, .inr (4, [.ref g, .long tk])), (g, .inr (2, [.ref b])), (b, .inl (gI G, 4096, .inl (arI d)))]) (st2 := [.int (iI (im_at d ((512 + i * 16) + 9))), .long x]) C (ct_X2_at G (kl k) g b d ((512 + i * 16) + 9) (by omega)) gX4_23 dX4_blocksOf_79 1 rfl rfl rfl rfl rfl (Nat.le_of_ble_eq_true rfl) (by decide) [1, 2] rfl (by decide) [g, b] rfl rfl rfl rfl ?_
          have f_4 := im_at_rg d ((512 + i * 16) + 9)
          have e1 : im_at d (512 + i * 16 + 9) = d.1 (512 + i * 16 + 9) := by unfold im_at; rw [if_pos (by omega)]
          refine w_st (st2 := [.int (iI (d.1 (512 + i * 16 + 9))), .long x]) (by rw [e1]) ?_
          refine w_callS (As := [.long x, .int (iI (d.1 (512 + i * 16 + 9)))]) (rest := []) (w2 := [(h, .inr (4, [.ref g, .long tk])), (g, .inr (2, [.ref b])), (b, .inl (gI G, 4096, .inl (arI d)))]) (st2 := [.long (wbk x (d.1 (512 + i * 16 + 9)))]) C (ct_X4_withBlock G (kl k) x (d.1 (512 + i * 16 + 9)) (by omega)) gX4_57 dX4_blocksOf_82 rfl rfl (Nat.le_of_ble_eq_true rfl) (by decide) [] rfl (by decide) [] rfl rfl rfl rfl ?_
          refine w_lstore_n (lv2 := [(0, .ref h), (1, .int (iI i)), (2, .int (iI (bc d i))), (3, .long (wbk x (d.1 (512 + i * 16 + 9)))), (5, .int (iI j))]) C dX4_blocksOf_85 (by decide) rfl ?_
          refine w_lload_n C 3 dX4_blocksOf_86 rfl ?_
          exact w_retl hret dX4_blocksOf_87 rfl rfl rfl ⟨(by unfold bks; first | (exfalso; omega) | rw [if_pos (by omega), h2, show j = min (bc d i) 46 by omega] | rw [if_neg (by omega), h2, show j = min (bc d i) 46 by omega]), rfl⟩
      · refine w_iload C 4 dX4_blocksOf_17 rfl ?_
        refine w_bipush C dX4_blocksOf_19 (by decide) ?_
        refine w_icmp_ge C 62 dX4_blocksOf_21 rfl (by omega) (fun c_5 => ?_) (fun c_5 => ?_)
        · refine w_iload_n C 2 dX4_blocksOf_62 rfl ?_
          refine w_iconst C dX4_blocksOf_63 ?_
          refine w_icmp_le C 86 dX4_blocksOf_64 rfl (by omega) (fun c_6 => ?_) (fun c_6 => ?_)
          · refine w_lload_n C 3 dX4_blocksOf_86 rfl ?_
            exact w_retl hret dX4_blocksOf_87 rfl rfl rfl ⟨(by unfold bks; first | (exfalso; omega) | rw [if_pos (by omega), h2, show j = min (bc d i) 46 by omega] | rw [if_neg (by omega), h2, show j = min (bc d i) 46 by omega]), rfl⟩
          · refine w_lload_n C 3 dX4_blocksOf_67 rfl ?_
            refine w_aload_n C 0 dX4_blocksOf_68 rfl ?_
            refine w_get C 0 0 110 dX4_blocksOf_69 rfl rfl inX4 (by decide) (by decide +kernel) rfl ?_
            refine w_iload_n C 1 dX4_blocksOf_72 rfl ?_
            refine w_callS (As := [.int (iI i)]) (rest := [.ref g, .long x]) (w2 := [(h, .inr (4, [.ref g, .long tk])), (g, .inr (2, [.ref b])), (b, .inl (gI G, 4096, .inl (arI d)))]) (st2 := [.int (iI (512 + i * 16)), .ref g, .long x]) C (ct_X4_placeOf G (kl k) i) gX4_19 dX4_blocksOf_73 rfl rfl (Nat.le_of_ble_eq_true rfl) (by decide) [] rfl (by decide) [] rfl rfl rfl rfl ?_
            refine w_bipush C dX4_blocksOf_76 (by decide) ?_
            refine w_iadd C dX4_blocksOf_78 ?_
            refine w_callV (As := [.int (iI ((512 + i * 16) + 9))]) (rest := [.long x]) (w2 := [(h, .inr (4, [.ref g, .long tk])), (g, .inr (2, [.ref b])), (b, .inl (gI G, 4096, .inl (arI d)))]) (st2 := [.int (iI (im_at d ((512 + i * 16) + 9))), .long x]) C (ct_X2_at G (kl k) g b d ((512 + i * 16) + 9) (by omega)) gX4_23 dX4_blocksOf_79 1 rfl rfl rfl rfl rfl (Nat.le_of_ble_eq_true rfl) (by decide) [1, 2] rfl (by decide) [g, b] rfl rfl rfl rfl ?_
            have f_7 := im_at_rg d ((512 + i * 16) + 9)
            have e1 : im_at d (512 + i * 16 + 9) = d.1 (512 + i * 16 + 9) := by unfold im_at; rw [if_pos (by omega)]
            refine w_st (st2 := [.int (iI (d.1 (512 + i * 16 + 9))), .long x]) (by rw [e1]) ?_
            refine w_callS (As := [.long x, .int (iI (d.1 (512 + i * 16 + 9)))]) (rest := []) (w2 := [(h, .inr (4, [.ref g, .long tk])), (g, .inr (2, [.ref b])), (b, .inl (gI G, 4096, .inl (arI d)))]) (st2 := [.long (wbk x (d.1 (512 + i * 16 + 9)))]) C (ct_X4_withBlock G (kl k) x (d.1 (512 + i * 16 + 9)) (by omega)) gX4_57 dX4_blocksOf_82 rfl rfl (Nat.le_of_ble_eq_true rfl) (by decide) [] rfl (by decide) [] rfl rfl rfl rfl ?_
            refine w_lstore_n (lv2 := [(0, .ref h), (1, .int (iI i)), (2, .int (iI (bc d i))), (3, .long (wbk x (d.1 (512 + i * 16 + 9)))), (5, .int (iI j))]) C dX4_blocksOf_85 (by decide) rfl ?_
            refine w_lload_n C 3 dX4_blocksOf_86 rfl ?_
            exact w_retl hret dX4_blocksOf_87 rfl rfl rfl ⟨(by unfold bks; first | (exfalso; omega) | rw [if_pos (by omega), h2, show j = min (bc d i) 46 by omega] | rw [if_neg (by omega), h2, show j = min (bc d i) 46 by omega]), rfl⟩
        · refine w_aload_n C 0 dX4_blocksOf_24 rfl ?_
          refine w_iload_n C 1 dX4_blocksOf_25 rfl ?_
          refine w_iload C 4 dX4_blocksOf_26 rfl ?_
          refine w_bipush C dX4_blocksOf_28 (by decide) ?_
          refine w_imul C dX4_blocksOf_30 ?_
          refine w_callV (As := [.int (iI i), .int (iI (j * 64))]) (rest := []) (w2 := [(h, .inr (4, [.ref g, .long tk])), (g, .inr (2, [.ref b])), (b, .inl (gI G, 4096, .inl (arI d)))]) (st2 := [.int (iI (cp d i (j * 64)))]) C (ct_X4_contentPlace G (kl k) h g b tk d i (j * 64) (by omega) (by omega)) gX4_54 dX4_blocksOf_31 0 rfl rfl rfl rfl rfl (Nat.le_of_ble_eq_true rfl) (by decide) [0, 1, 2] rfl (by decide) [h, g, b] rfl rfl rfl rfl ?_
          have f_8 := cp_rg d i (j * 64)
          refine w_istore (lv2 := [(0, .ref h), (1, .int (iI i)), (2, .int (iI (bc d i))), (3, .long x), (5, .int (iI j)), (6, .int (iI (cp d i (j * 64))))]) C dX4_blocksOf_34 (by decide) rfl ?_
          refine w_lload_n C 3 dX4_blocksOf_36 rfl ?_
          refine w_iload C 5 dX4_blocksOf_37 rfl ?_
          refine w_iconst C dX4_blocksOf_39 ?_
          refine w_icmp_ne C 47 dX4_blocksOf_40 rfl (by omega) (fun c_9 => ?_) (fun c_9 => ?_)
          · refine w_iload C 5 dX4_blocksOf_47 rfl ?_
            refine w_bipush C dX4_blocksOf_49 (by decide) ?_
            refine w_idiv C dX4_blocksOf_51 (by omega) ?_
            refine w_callS (As := [.long x, .int (iI ((cp d i (j * 64)) / 64))]) (rest := []) (w2 := [(h, .inr (4, [.ref g, .long tk])), (g, .inr (2, [.ref b])), (b, .inl (gI G, 4096, .inl (arI d)))]) (st2 := [.long (wbk x ((cp d i (j * 64)) / 64))]) C (ct_X4_withBlock G (kl k) x ((cp d i (j * 64)) / 64) (by omega)) gX4_57 dX4_blocksOf_52 rfl rfl (Nat.le_of_ble_eq_true rfl) (by decide) [] rfl (by decide) [] rfl rfl rfl rfl ?_
            refine w_lstore_n (lv2 := [(0, .ref h), (1, .int (iI i)), (2, .int (iI (bc d i))), (3, .long (wbk x ((cp d i (j * 64)) / 64))), (5, .int (iI j)), (6, .int (iI (cp d i (j * 64))))]) C dX4_blocksOf_55 (by decide) rfl ?_
            refine w_iinc (lv2 := [(0, .ref h), (1, .int (iI i)), (2, .int (iI (bc d i))), (3, .long (wbk x ((cp d i (j * 64)) / 64))), (5, .int (iI (j + 1))), (6, .int (iI (cp d i (j * 64))))]) C 4 dX4_blocksOf_56 rfl (by decide) rfl ?_
            refine w_goto C 11 dX4_blocksOf_59 rfl ?_
            refine w_lv (lv2 := [(0, .ref h), (1, .int (iI i)), (2, .int (iI (bc d i))), (3, .long ((wbk x ((cp d i (j * 64)) / 64)))), (5, .int (iI ((j + 1))))]) [0, 1, 2, 3, 4] rfl ?_
            exact ih_11 _ (by omega) (j + 1) (wbk x ((cp d i (j * 64)) / 64)) (by omega) (by rw [h2, show (j + 1).toNat = j.toNat + 1 by omega, bko, show ((j.toNat : Nat) : Int) = j by omega]; first | rw [if_pos (by assumption)] | rw [if_neg (by assumption)]) rfl
          · refine w_iconst C dX4_blocksOf_43 ?_
            refine w_goto C 52 dX4_blocksOf_44 rfl ?_
            refine w_callS (As := [.long x, .int (iI 0)]) (rest := []) (w2 := [(h, .inr (4, [.ref g, .long tk])), (g, .inr (2, [.ref b])), (b, .inl (gI G, 4096, .inl (arI d)))]) (st2 := [.long (wbk x 0)]) C (ct_X4_withBlock G (kl k) x 0 (by omega)) gX4_57 dX4_blocksOf_52 rfl rfl (Nat.le_of_ble_eq_true rfl) (by decide) [] rfl (by decide) [] rfl rfl rfl rfl ?_
            refine w_lstore_n (lv2 := [(0, .ref h), (1, .int (iI i)), (2, .int (iI (bc d i))), (3, .long (wbk x 0)), (5, .int (iI j)), (6, .int (iI (cp d i (j * 64))))]) C dX4_blocksOf_55 (by decide) rfl ?_
            refine w_iinc (lv2 := [(0, .ref h), (1, .int (iI i)), (2, .int (iI (bc d i))), (3, .long (wbk x 0)), (5, .int (iI (j + 1))), (6, .int (iI (cp d i (j * 64))))]) C 4 dX4_blocksOf_56 rfl (by decide) rfl ?_
            refine w_goto C 11 dX4_blocksOf_59 rfl ?_
            refine w_lv (lv2 := [(0, .ref h), (1, .int (iI i)), (2, .int (iI (bc d i))), (3, .long ((wbk x 0))), (5, .int (iI ((j + 1))))]) [0, 1, 2, 3, 4] rfl ?_
            exact ih_11 _ (by omega) (j + 1) (wbk x 0) (by omega) (by rw [h2, show (j + 1).toNat = j.toNat + 1 by omega, bko, show ((j.toNat : Nat) : Int) = j by omega]; first | rw [if_pos (by assumption)] | rw [if_neg (by assumption)]) rfl
  exact L_11 _ 0 0 (by omega) rfl rfl
end
section
/-! BIT COUNT; blocks taken and given -/
def bsh (x : Int64) (s : Int) : Int64 := (x.toUInt64 >>> ((iI s).toInt64.toUInt64 &&& Int64.toUInt64 63)).toInt64
def bs1 (x : Int64) : Int64 := x - (bsh x 1 &&& 6148914691236517205)
def bs2 (x : Int64) : Int64 := (x &&& 3689348814741910323) + (bsh x 2 &&& 3689348814741910323)
def bs3 (x : Int64) : Int64 := (x + bsh x 4) &&& 1085102592571150095
def bs4 (x : Int64) : Int64 := x + bsh x 8
def bs5 (x : Int64) : Int64 := x + bsh x 16
def bs6 (x : Int64) : Int64 := x + bsh x 32
/-- what Long.bitCount answers -/
def pcn (x : Int64) : Int := ((bs6 (bs5 (bs4 (bs3 (bs2 (bs1 x)))))).toInt32 &&& iI 127).toInt
theorem pcn_rg (x : Int64) : 0 ≤ pcn x ∧ pcn x ≤ 127 := by
  unfold pcn
  rw [pk_and _ 7 (by decide)]
  show 0 ≤ (Int32.ofNat _).toInt ∧ (Int32.ofNat _).toInt ≤ 127
  rw [iI_nat, iI_toInt ⟨by omega, by omega⟩]
  omega
/-- addBlock can't: too large, or too few blocks -/
abbrev abX (tk : Int64) (d : Im) (i : Int) : Prop := 46 ≤ bc d i ∨ 47 - pcn tk < (if bc d i = 5 then 2 else 1)
def abR (tk : Int64) (d : Im) (i : Int) : Int := if abX tk d i then -1 else tfB tk
theorem abR_rg (tk : Int64) (d : Im) (i : Int) : abR tk d i = -1 ∨ (16 ≤ abR tk d i ∧ abR tk d i ≤ 62) := by
  unfold abR; have := tfB_rg tk; split <;> omega
def abT (tk : Int64) (d : Im) (i : Int) : Int64 := if abX tk d i then tk else if bc d i = 5 then tfT (tfT tk) else tfT tk
/-- with the indirect block, if it comes now -/
def abI (tk : Int64) (d : Im) (i : Int) : Im := if bc d i = 5 then im_set (tfD (tfT tk) (tfD tk d)) (512 + i * 16 + 9) (tfB (tfT tk)) else tfD tk d
def abD (tk : Int64) (d : Im) (i : Int) : Im := if abX tk d i then d else if bc d i < 5 then im_set (tfD tk d) (512 + i * 16 + 4 + bc d i) (tfB tk) else im_set (abI tk d i) ((abI tk d i).1 (512 + i * 16 + 9) * 64 + bc d i - 5) (tfB tk)
def erT (tk : Int64) (d : Im) (i : Int) : Int64 := tk &&& (bks d i ^^^ -1)
end
section
set_option maxHeartbeats 4000000 in
set_option maxRecDepth 100000 in
theorem ct_J13_bitCount_95d88 (G : GX) (l : Launch) (x : Int64) : Ct G l yJ13_bitCount_95d88 cJ13_bitCount_95d88 2 (some .int) rmJ13_bitCount_95d88 [.long x] [] (some (.int (iI (pcn x)))) [] := by
  refine Ct.of (by decide) (Nat.le_of_ble_eq_true rfl) ?_
  intro k C hl hret
  subst hl
  refine w_lv (lv2 := [(0, .long x)]) [0] rfl ?_
  refine w_lload_n C 0 dJ13_bitCount_95d88_0 rfl ?_
  refine w_lload_n C 0 dJ13_bitCount_95d88_1 rfl ?_
  refine w_iconst C dJ13_bitCount_95d88_2 ?_
  refine w_lushr (v := (x.toUInt64 >>> ((iI 1).toInt64.toUInt64 &&& Int64.toUInt64 63)).toInt64) C dJ13_bitCount_95d88_3 rfl ?_
  refine w_ldc2 (v := 6148914691236517205) C 488 dJ13_bitCount_95d88_4 (by decide +kernel) ?_
  refine w_land (v := ((x.toUInt64 >>> ((iI 1).toInt64.toUInt64 &&& Int64.toUInt64 63)).toInt64) &&& 6148914691236517205) C dJ13_bitCount_95d88_7 rfl ?_
  refine w_lsub (v := x - (((x.toUInt64 >>> ((iI 1).toInt64.toUInt64 &&& Int64.toUInt64 63)).toInt64) &&& 6148914691236517205)) C dJ13_bitCount_95d88_8 rfl ?_
  refine w_st (st2 := [.long (bs1 x)]) rfl ?_
  refine w_lstore_n (lv2 := [(0, .long (bs1 x))]) C dJ13_bitCount_95d88_9 (by decide) rfl ?_
  refine w_lload_n C 0 dJ13_bitCount_95d88_10 rfl ?_
  refine w_ldc2 (v := 3689348814741910323) C 489 dJ13_bitCount_95d88_11 (by decide +kernel) ?_
  refine w_land (v := (bs1 x) &&& 3689348814741910323) C dJ13_bitCount_95d88_14 rfl ?_
  refine w_lload_n C 0 dJ13_bitCount_95d88_15 rfl ?_
  refine w_iconst C dJ13_bitCount_95d88_16 ?_
  refine w_lushr (v := ((bs1 x).toUInt64 >>> ((iI 2).toInt64.toUInt64 &&& Int64.toUInt64 63)).toInt64) C dJ13_bitCount_95d88_17 rfl ?_
  refine w_ldc2 (v := 3689348814741910323) C 489 dJ13_bitCount_95d88_18 (by decide +kernel) ?_
  refine w_land (v := (((bs1 x).toUInt64 >>> ((iI 2).toInt64.toUInt64 &&& Int64.toUInt64 63)).toInt64) &&& 3689348814741910323) C dJ13_bitCount_95d88_21 rfl ?_
  refine w_ladd (v := ((bs1 x) &&& 3689348814741910323) + ((((bs1 x).toUInt64 >>> ((iI 2).toInt64.toUInt64 &&& Int64.toUInt64 63)).toInt64) &&& 3689348814741910323)) C dJ13_bitCount_95d88_22 rfl ?_
  refine w_st (st2 := [.long (bs2 (bs1 x))]) rfl ?_
  refine w_lstore_n (lv2 := [(0, .long (bs2 (bs1 x)))]) C dJ13_bitCount_95d88_23 (by decide) rfl ?_
  refine w_lload_n C 0 dJ13_bitCount_95d88_24 rfl ?_
  refine w_lload_n C 0 dJ13_bitCount_95d88_25 rfl ?_
  refine w_iconst C dJ13_bitCount_95d88_26 ?_
  refine w_lushr (v := ((bs2 (bs1 x)).toUInt64 >>> ((iI 4).toInt64.toUInt64 &&& Int64.toUInt64 63)).toInt64) C dJ13_bitCount_95d88_27 rfl ?_
  refine w_ladd (v := (bs2 (bs1 x)) + (((bs2 (bs1 x)).toUInt64 >>> ((iI 4).toInt64.toUInt64 &&& Int64.toUInt64 63)).toInt64)) C dJ13_bitCount_95d88_28 rfl ?_
  refine w_ldc2 (v := 1085102592571150095) C 490 dJ13_bitCount_95d88_29 (by decide +kernel) ?_
  refine w_land (v := ((bs2 (bs1 x)) + (((bs2 (bs1 x)).toUInt64 >>> ((iI 4).toInt64.toUInt64 &&& Int64.toUInt64 63)).toInt64)) &&& 1085102592571150095) C dJ13_bitCount_95d88_32 rfl ?_
  refine w_st (st2 := [.long (bs3 (bs2 (bs1 x)))]) rfl ?_
  refine w_lstore_n (lv2 := [(0, .long (bs3 (bs2 (bs1 x))))]) C dJ13_bitCount_95d88_33 (by decide) rfl ?_
  refine w_lload_n C 0 dJ13_bitCount_95d88_34 rfl ?_
  refine w_lload_n C 0 dJ13_bitCount_95d88_35 rfl ?_
  refine w_bipush C dJ13_bitCount_95d88_36 (by decide) ?_
  refine w_lushr (v := ((bs3 (bs2 (bs1 x))).toUInt64 >>> ((iI 8).toInt64.toUInt64 &&& Int64.toUInt64 63)).toInt64) C dJ13_bitCount_95d88_38 rfl ?_
  refine w_ladd (v := (bs3 (bs2 (bs1 x))) + (((bs3 (bs2 (bs1 x))).toUInt64 >>> ((iI 8).toInt64.toUInt64 &&& Int64.toUInt64 63)).toInt64)) C dJ13_bitCount_95d88_39 rfl ?_
  refine w_st (st2 := [.long (bs4 (bs3 (bs2 (bs1 x))))]) rfl ?_
  refine w_lstore_n (lv2 := [(0, .long (bs4 (bs3 (bs2 (bs1 x)))))]) C dJ13_bitCount_95d88_40 (by decide) rfl ?_
  refine w_lload_n C 0 dJ13_bitCount_95d88_41 rfl ?_
  refine w_lload_n C 0 dJ13_bitCount_95d88_42 rfl ?_
  refine w_bipush C dJ13_bitCount_95d88_43 (by decide) ?_
  refine w_lushr (v := ((bs4 (bs3 (bs2 (bs1 x)))).toUInt64 >>> ((iI 16).toInt64.toUInt64 &&& Int64.toUInt64 63)).toInt64) C dJ13_bitCount_95d88_45 rfl ?_
  refine w_ladd (v := (bs4 (bs3 (bs2 (bs1 x)))) + (((bs4 (bs3 (bs2 (bs1 x)))).toUInt64 >>> ((iI 16).toInt64.toUInt64 &&& Int64.toUInt64 63)).toInt64)) C dJ13_bitCount_95d88_46 rfl ?_
  refine w_st (st2 := [.long (bs5 (bs4 (bs3 (bs2 (bs1 x)))))]) rfl ?_
  refine w_lstore_n (lv2 := [(0, .long (bs5 (bs4 (bs3 (bs2 (bs1 x))))))]) C dJ13_bitCount_95d88_47 (by decide) rfl ?_
  refine w_lload_n C 0 dJ13_bitCount_95d88_48 rfl ?_
  refine w_lload_n C 0 dJ13_bitCount_95d88_49 rfl ?_
  refine w_bipush C dJ13_bitCount_95d88_50 (by decide) ?_
  refine w_lushr (v := ((bs5 (bs4 (bs3 (bs2 (bs1 x))))).toUInt64 >>> ((iI 32).toInt64.toUInt64 &&& Int64.toUInt64 63)).toInt64) C dJ13_bitCount_95d88_52 rfl ?_
  refine w_ladd (v := (bs5 (bs4 (bs3 (bs2 (bs1 x))))) + (((bs5 (bs4 (bs3 (bs2 (bs1 x))))).toUInt64 >>> ((iI 32).toInt64.toUInt64 &&& Int64.toUInt64 63)).toInt64)) C dJ13_bitCount_95d88_53 rfl ?_
  refine w_st (st2 := [.long (bs6 (bs5 (bs4 (bs3 (bs2 (bs1 x))))))]) rfl ?_
  refine w_lstore_n (lv2 := [(0, .long (bs6 (bs5 (bs4 (bs3 (bs2 (bs1 x)))))))]) C dJ13_bitCount_95d88_54 (by decide) rfl ?_
  refine w_lload_n C 0 dJ13_bitCount_95d88_55 rfl ?_
  refine w_l2i (v := (bs6 (bs5 (bs4 (bs3 (bs2 (bs1 x)))))).toInt32) C dJ13_bitCount_95d88_56 rfl ?_
  refine w_bipush C dJ13_bitCount_95d88_57 (by decide) ?_
  refine w_iand (v := (iI (pcn x))) C dJ13_bitCount_95d88_59 (by unfold pcn; rw [iI_of]) ?_
  exact w_reti hret dJ13_bitCount_95d88_60 rfl rfl rfl rfl ⟨rfl, rfl⟩

theorem gX4_65 : cwv RX4 65 yX4_blocksOf cX4_blocksOf 7 (some .long) 1 462 463 464 67 465 := by decide +kernel
set_option maxHeartbeats 4000000 in
set_option maxRecDepth 100000 in
theorem ct_X4_takeBlocks (G : GX) (l : Launch) (h : Nat) (g : Nat) (b : Nat) (tk : Int64) (d : Im) (i : Int) (hi : 0 ≤ i ∧ i < 32) : Ct G l yX4_takeBlocks cX4_takeBlocks 4 (some .boolean) rmX4_takeBlocks [.ref h, .int (iI i)] [(h, .inr (4, [.ref g, .long tk])), (g, .inr (2, [.ref b])), (b, .inl (gI G, 4096, .inl (arI d)))] (some (.int (iI (bI (tkB tk d i))))) [(h, .inr (4, [.ref g, .long (tkT tk d i)])), (g, .inr (2, [.ref b])), (b, .inl (gI G, 4096, .inl (arI d)))] := by
  refine Ct.of (by decide) (Nat.le_of_ble_eq_true rfl) ?_
  intro k C hl hret
  subst hl
  refine w_lv (lv2 := [(0, .ref h), (1, .int (iI i))]) [0, 1] rfl ?_
  refine w_aload_n C 0 dX4_takeBlocks_0 rfl ?_
  refine w_iload_n C 1 dX4_takeBlocks_1 rfl ?_
  refine w_callV (As := [.int (iI i)]) (rest := []) (w2 := [(h, .inr (4, [.ref g, .long tk])), (g, .inr (2, [.ref b])), (b, .inl (gI G, 4096, .inl (arI d)))]) (st2 := [.long (bks d i)]) C (ct_X4_blocksOf G (kl k) h g b tk d i (by omega)) gX4_65 dX4_takeBlocks_2 0 rfl rfl rfl rfl rfl (Nat.le_of_ble_eq_true rfl) (by decide) [0, 1, 2] rfl (by decide) [h, g, b] rfl rfl rfl rfl ?_
  refine w_lstore_n (lv2 := [(0, .ref h), (1, .int (iI i)), (2, .long (bks d i))]) C dX4_takeBlocks_5 (by decide) rfl ?_
  refine w_lload_n C 2 dX4_takeBlocks_6 rfl ?_
  refine w_aload_n C 0 dX4_takeBlocks_7 rfl ?_
  refine w_get C 0 1 111 dX4_takeBlocks_8 rfl rfl inX4 (by decide) (by decide +kernel) rfl ?_
  refine w_lconst (v := 1) C dX4_takeBlocks_11 (by decide) ?_
  refine w_lor (v := tk ||| 1) C dX4_takeBlocks_12 rfl ?_
  refine w_land (v := (bks d i) &&& (tk ||| 1)) C dX4_takeBlocks_13 rfl ?_
  refine w_lconst (v := 0) C dX4_takeBlocks_14 (by decide) ?_
  refine w_lcmp C dX4_takeBlocks_15 ?_
  refine w_lz C 21 dX4_takeBlocks_16 rfl (fun c_1 => ?_) (fun c_1 => ?_)
  · refine w_aload_n C 0 dX4_takeBlocks_21 rfl ?_
    refine w_dup C dX4_takeBlocks_22 rfl ?_
    refine w_get C 0 1 111 dX4_takeBlocks_23 rfl rfl inX4 (by decide) (by decide +kernel) rfl ?_
    refine w_lload_n C 2 dX4_takeBlocks_26 rfl ?_
    refine w_lor (v := tk ||| (bks d i)) C dX4_takeBlocks_27 rfl ?_
    refine w_put (ty := .long) (ws2 := [(h, .inr (4, [.ref g, .long (tk ||| (bks d i))])), (g, .inr (2, [.ref b])), (b, .inl (gI G, 4096, .inl (arI d)))]) C 0 1 111 dX4_takeBlocks_28 rfl rfl inX4 tyX4_ok nmX4 (by decide) (by decide +kernel) rfl (by decide +kernel) rfl rfl (Nat.le_of_ble_eq_true rfl) rfl ?_
    refine w_iconst C dX4_takeBlocks_31 ?_
    exact w_reti hret dX4_takeBlocks_32 rfl rfl rfl rfl ⟨congrArg (fun z => some (Value.int (iI z))) (by unfold tkB; rw [decide_eq_true (by assumption)]; rfl), (by unfold tkT; rw [if_pos (by assumption)])⟩
  · refine w_iconst C dX4_takeBlocks_19 ?_
    exact w_reti hret dX4_takeBlocks_20 rfl rfl rfl rfl ⟨congrArg (fun z => some (Value.int (iI z))) (by unfold tkB; rw [decide_eq_false (by assumption)]; rfl), (by unfold tkT; rw [if_neg (by assumption)])⟩

theorem gX4_69 : cwv RX4 69 yX4_kind cX4_kind 2 (some .int) 1 783 424 425 67 426 := by decide +kernel
set_option maxHeartbeats 4000000 in
set_option maxRecDepth 100000 in
theorem ct_X4_firstFree (G : GX) (l : Launch) (h : Nat) (g : Nat) (b : Nat) (tk : Int64) (d : Im) : Ct G l yX4_firstFree cX4_firstFree 2 (some .int) rmX4_firstFree [.ref h] [(h, .inr (4, [.ref g, .long tk])), (g, .inr (2, [.ref b])), (b, .inl (gI G, 4096, .inl (arI d)))] (some (.int (iI (ffs d 29 3)))) [(h, .inr (4, [.ref g, .long tk])), (g, .inr (2, [.ref b])), (b, .inl (gI G, 4096, .inl (arI d)))] := by
  refine Ct.of (by decide) (Nat.le_of_ble_eq_true rfl) ?_
  intro k C hl hret
  subst hl
  refine w_lv (lv2 := [(0, .ref h)]) [0] rfl ?_
  refine w_iconst C dX4_firstFree_0 ?_
  refine w_istore_n (lv2 := [(0, .ref h), (1, .int (iI 3))]) C dX4_firstFree_1 (by decide) rfl ?_
  have L_2 : ∀ (nn_2 : Nat) (i : Int), (3 ≤ i ∧ i ≤ 32) → (ffs d 29 3 = ffs d (32 - i).toNat i) → (32 - i).toNat = nn_2 → Wd G k 2 0 0 [(h, .inr (4, [.ref g, .long tk])), (g, .inr (2, [.ref b])), (b, .inl (gI G, 4096, .inl (arI d)))] 2 [(0, .ref h), (1, .int (iI i))] [] := by
    intro nn_2
    induction nn_2 using Nat.strongRecOn with
    | ind nn_2 ih_2 =>
      intro i h1 h2 hm_2
      refine w_iload_n C 1 dX4_firstFree_2 rfl ?_
      refine w_bipush C dX4_firstFree_3 (by decide) ?_
      refine w_icmp_ge C 24 dX4_firstFree_5 rfl (by omega) (fun c_1 => ?_) (fun c_1 => ?_)
      · refine w_iconst C dX4_firstFree_24 ?_
        exact w_reti hret dX4_firstFree_25 rfl rfl rfl rfl ⟨congrArg (fun z => some (Value.int (iI z))) (by rw [h2, show (32 - i).toNat = 0 by omega, ffs]), rfl⟩
      · refine w_aload_n C 0 dX4_firstFree_8 rfl ?_
        refine w_iload_n C 1 dX4_firstFree_9 rfl ?_
        refine w_callV (As := [.int (iI i)]) (rest := []) (w2 := [(h, .inr (4, [.ref g, .long tk])), (g, .inr (2, [.ref b])), (b, .inl (gI G, 4096, .inl (arI d)))]) (st2 := [.int (iI (kd d i))]) C (ct_X4_kind G (kl k) h g b tk d i (by omega)) gX4_69 dX4_firstFree_10 0 rfl rfl rfl rfl rfl (Nat.le_of_ble_eq_true rfl) (by decide) [0, 1, 2] rfl (by decide) [h, g, b] rfl rfl rfl rfl ?_
        have f_2 := kd_rg d i
        refine w_if_ne C 18 dX4_firstFree_13 rfl (by omega) (fun c_3 => ?_) (fun c_3 => ?_)
        · refine w_iinc (lv2 := [(0, .ref h), (1, .int (iI (i + 1)))]) C 1 dX4_firstFree_18 rfl (by decide) rfl ?_
          refine w_goto C 2 dX4_firstFree_21 rfl ?_
          refine w_lv (lv2 := [(0, .ref h), (1, .int (iI ((i + 1))))]) [0, 1] rfl ?_
          exact ih_2 _ (by omega) (i + 1) (by omega) (by rw [h2, show (32 - i).toNat = (32 - (i + 1)).toNat + 1 by omega, ffs, if_neg (by assumption)]) rfl
        · refine w_iload_n C 1 dX4_firstFree_16 rfl ?_
          exact w_reti hret dX4_firstFree_17 rfl rfl rfl rfl ⟨congrArg (fun z => some (Value.int (iI z))) (by rw [h2, show (32 - i).toNat = (32 - (i + 1)).toNat + 1 by omega, ffs, if_pos (by assumption)]), rfl⟩
  exact L_2 _ 3 (by omega) rfl rfl

theorem gX4_72 : cws RX4 72 yJ13_bitCount_95d88 cJ13_bitCount_95d88 2 (some .int) 1 485 486 84 487 := by decide +kernel
set_option maxHeartbeats 4000000 in
set_option maxRecDepth 100000 in
theorem ct_X4_hasFreeBlock (G : GX) (l : Launch) (h : Nat) (g : Nat) (b : Nat) (tk : Int64) (d : Im) : Ct G l yX4_hasFreeBlock cX4_hasFreeBlock 1 (some .boolean) rmX4_hasFreeBlock [.ref h] [(h, .inr (4, [.ref g, .long tk])), (g, .inr (2, [.ref b])), (b, .inl (gI G, 4096, .inl (arI d)))] (some (.int (iI (bI (decide (pcn tk < 47)))))) [(h, .inr (4, [.ref g, .long tk])), (g, .inr (2, [.ref b])), (b, .inl (gI G, 4096, .inl (arI d)))] := by
  refine Ct.of (by decide) (Nat.le_of_ble_eq_true rfl) ?_
  intro k C hl hret
  subst hl
  refine w_lv (lv2 := [(0, .ref h)]) [0] rfl ?_
  refine w_aload_n C 0 dX4_hasFreeBlock_0 rfl ?_
  refine w_get C 0 1 111 dX4_hasFreeBlock_1 rfl rfl inX4 (by decide) (by decide +kernel) rfl ?_
  refine w_callS (As := [.long tk]) (rest := []) (w2 := [(h, .inr (4, [.ref g, .long tk])), (g, .inr (2, [.ref b])), (b, .inl (gI G, 4096, .inl (arI d)))]) (st2 := [.int (iI (pcn tk))]) C (ct_J13_bitCount_95d88 G (kl k) tk) gX4_72 dX4_hasFreeBlock_4 rfl rfl (Nat.le_of_ble_eq_true rfl) (by decide) [] rfl (by decide) [] rfl rfl rfl rfl ?_
  have f_1 := pcn_rg tk
  refine w_bipush C dX4_hasFreeBlock_7 (by decide) ?_
  refine w_icmp_ge C 16 dX4_hasFreeBlock_9 rfl (by omega) (fun c_2 => ?_) (fun c_2 => ?_)
  · refine w_iconst C dX4_hasFreeBlock_16 ?_
    exact w_reti hret dX4_hasFreeBlock_17 rfl rfl rfl rfl ⟨congrArg (fun z => some (Value.int (iI z))) (by first | exact (bI_t (by omega)).symm | exact (bI_f (by omega)).symm), rfl⟩
  · refine w_iconst C dX4_hasFreeBlock_12 ?_
    refine w_goto C 17 dX4_hasFreeBlock_13 rfl ?_
    exact w_reti hret dX4_hasFreeBlock_17 rfl rfl rfl rfl ⟨congrArg (fun z => some (Value.int (iI z))) (by first | exact (bI_t (by omega)).symm | exact (bI_f (by omega)).symm), rfl⟩

set_option maxHeartbeats 4000000 in
set_option maxRecDepth 100000 in
theorem ct_X4_takeFreeBlock (G : GX) (l : Launch) (h : Nat) (g : Nat) (b : Nat) (tk : Int64) (d : Im) : Ct G l yX4_takeFreeBlock cX4_takeFreeBlock 2 (some .int) rmX4_takeFreeBlock [.ref h] [(h, .inr (4, [.ref g, .long tk])), (g, .inr (2, [.ref b])), (b, .inl (gI G, 4096, .inl (arI d)))] (some (.int (iI (tfB tk)))) [(h, .inr (4, [.ref g, .long (tfT tk)])), (g, .inr (2, [.ref b])), (b, .inl (gI G, 4096, .inl (arI (tfD tk d))))] := by
  refine Ct.of (by decide) (Nat.le_of_ble_eq_true rfl) ?_
  intro k C hl hret
  subst hl
  refine w_lv (lv2 := [(0, .ref h)]) [0] rfl ?_
  refine w_bipush C dX4_takeFreeBlock_0 (by decide) ?_
  refine w_istore_n (lv2 := [(0, .ref h), (1, .int (iI 16))]) C dX4_takeFreeBlock_2 (by decide) rfl ?_
  have L_3 : ∀ (nn_3 : Nat) (q : Int), (16 ≤ q ∧ q ≤ 63) → (tfB tk = tfs tk (63 - q).toNat q) → (63 - q).toNat = nn_3 → Wd G k 2 0 0 [(h, .inr (4, [.ref g, .long tk])), (g, .inr (2, [.ref b])), (b, .inl (gI G, 4096, .inl (arI d)))] 3 [(0, .ref h), (1, .int (iI q))] [] := by
    intro nn_3
    induction nn_3 using Nat.strongRecOn with
    | ind nn_3 ih_3 =>
      intro q h1 h2 hm_3
      refine w_iload_n C 1 dX4_takeFreeBlock_3 rfl ?_
      refine w_bipush C dX4_takeFreeBlock_4 (by decide) ?_
      refine w_icmp_gt C 55 dX4_takeFreeBlock_6 rfl (by omega) (fun c_1 => ?_) (fun c_1 => ?_)
      · have h4 : tfB tk = -1 := by rw [h2, show (63 - q).toNat = 0 by omega, tfs]
        refine w_iconst C dX4_takeFreeBlock_55 ?_
        exact w_reti hret dX4_takeFreeBlock_56 rfl rfl rfl rfl ⟨congrArg (fun z => some (Value.int (iI z))) h4.symm, (by unfold tfT tfD; rw [if_pos h4, if_pos h4])⟩
      · refine w_aload_n C 0 dX4_takeFreeBlock_9 rfl ?_
        refine w_get C 0 1 111 dX4_takeFreeBlock_10 rfl rfl inX4 (by decide) (by decide +kernel) rfl ?_
        refine w_iload_n C 1 dX4_takeFreeBlock_13 rfl ?_
        refine w_lshr (v := tk >>> ((iI q).toInt64 &&& 63)) C dX4_takeFreeBlock_14 rfl ?_
        refine w_lconst (v := 1) C dX4_takeFreeBlock_15 (by decide) ?_
        refine w_land (v := (tk >>> ((iI q).toInt64 &&& 63)) &&& 1) C dX4_takeFreeBlock_16 rfl ?_
        refine w_lconst (v := 0) C dX4_takeFreeBlock_17 (by decide) ?_
        refine w_lcmp C dX4_takeFreeBlock_18 ?_
        refine w_tbnz C 49 dX4_takeFreeBlock_19 rfl (by omega) (fun c_2 => ?_) (fun c_2 => ?_)
        · refine w_iinc (lv2 := [(0, .ref h), (1, .int (iI (q + 1)))]) C 1 dX4_takeFreeBlock_49 rfl (by decide) rfl ?_
          refine w_goto C 3 dX4_takeFreeBlock_52 rfl ?_
          refine w_lv (lv2 := [(0, .ref h), (1, .int (iI ((q + 1))))]) [0, 1] rfl ?_
          exact ih_3 _ (by omega) (q + 1) (by omega) (by rw [h2, show (63 - q).toNat = (63 - (q + 1)).toNat + 1 by omega, tfs, if_neg (by rw [show tbt tk q = true by assumption]; decide)]) rfl
        · have h4 : tfB tk = q := by rw [h2, show (63 - q).toNat = (63 - (q + 1)).toNat + 1 by omega, tfs, if_pos (by assumption)]
          refine w_aload_n C 0 dX4_takeFreeBlock_22 rfl ?_
          refine w_dup C dX4_takeFreeBlock_23 rfl ?_
          refine w_get C 0 1 111 dX4_takeFreeBlock_24 rfl rfl inX4 (by decide) (by decide +kernel) rfl ?_
          refine w_lconst (v := 1) C dX4_takeFreeBlock_27 (by decide) ?_
          refine w_iload_n C 1 dX4_takeFreeBlock_28 rfl ?_
          refine w_lshl (v := (1 : Int64) <<< ((iI q).toInt64 &&& 63)) C dX4_takeFreeBlock_29 rfl ?_
          refine w_lor (v := tset tk q) C dX4_takeFreeBlock_30 rfl ?_
          refine w_put (ty := .long) (ws2 := [(h, .inr (4, [.ref g, .long (tset tk q)])), (g, .inr (2, [.ref b])), (b, .inl (gI G, 4096, .inl (arI d)))]) C 0 1 111 dX4_takeFreeBlock_31 rfl rfl inX4 tyX4_ok nmX4 (by decide) (by decide +kernel) rfl (by decide +kernel) rfl rfl (Nat.le_of_ble_eq_true rfl) rfl ?_
          refine w_aload_n C 0 dX4_takeFreeBlock_34 rfl ?_
          refine w_get C 0 0 110 dX4_takeFreeBlock_35 rfl rfl inX4 (by decide) (by decide +kernel) rfl ?_
          refine w_iload_n C 1 dX4_takeFreeBlock_38 rfl ?_
          refine w_bipush C dX4_takeFreeBlock_39 (by decide) ?_
          refine w_imul C dX4_takeFreeBlock_41 ?_
          refine w_bipush C dX4_takeFreeBlock_42 (by decide) ?_
          refine w_callV (As := [.int (iI (q * 64)), .int (iI 64)]) (rest := []) (w2 := [(h, .inr (4, [.ref g, .long (tset tk q)])), (g, .inr (2, [.ref b])), (b, .inl (gI G, 4096, .inl (arI (im_wipe d (q * 64) 64))))]) (st2 := []) C (ct_X2_wipe G (kl k) g b d (q * 64) 64 (by omega) (by omega)) gX4_78 dX4_takeFreeBlock_44 1 rfl rfl rfl rfl rfl (Nat.le_of_ble_eq_true rfl) (by decide) [1, 2] rfl (by decide) [g, b] rfl rfl rfl rfl ?_
          refine w_iload_n C 1 dX4_takeFreeBlock_47 rfl ?_
          exact w_reti hret dX4_takeFreeBlock_48 rfl rfl rfl rfl ⟨congrArg (fun z => some (Value.int (iI z))) h4.symm, (by unfold tfT tfD; rw [if_neg (by omega), if_neg (by omega), h4])⟩
  exact L_3 _ 16 (by omega) rfl rfl

theorem gX4_87 : cwv RX4 87 yX4_wipe cX4_wipe 2 none 1 496 412 413 67 414 := by decide +kernel
set_option maxHeartbeats 4000000 in
set_option maxRecDepth 100000 in
theorem ct_X4_erase (G : GX) (l : Launch) (h : Nat) (g : Nat) (b : Nat) (tk : Int64) (d : Im) (i : Int) (hi : 0 ≤ i ∧ i < 32) : Ct G l yX4_erase cX4_erase 2 none rmX4_erase [.ref h, .int (iI i)] [(h, .inr (4, [.ref g, .long tk])), (g, .inr (2, [.ref b])), (b, .inl (gI G, 4096, .inl (arI d)))] none [(h, .inr (4, [.ref g, .long (erT tk d i)])), (g, .inr (2, [.ref b])), (b, .inl (gI G, 4096, .inl (arI (im_wipe d (512 + i * 16) 16))))] := by
  refine Ct.of (by decide) (Nat.le_of_ble_eq_true rfl) ?_
  intro k C hl hret
  subst hl
  refine w_lv (lv2 := [(0, .ref h), (1, .int (iI i))]) [0, 1] rfl ?_
  refine w_aload_n C 0 dX4_erase_0 rfl ?_
  refine w_dup C dX4_erase_1 rfl ?_
  refine w_get C 0 1 111 dX4_erase_2 rfl rfl inX4 (by decide) (by decide +kernel) rfl ?_
  refine w_aload_n C 0 dX4_erase_5 rfl ?_
  refine w_iload_n C 1 dX4_erase_6 rfl ?_
  refine w_callV (As := [.int (iI i)]) (rest := [.long tk, .ref h]) (w2 := [(h, .inr (4, [.ref g, .long tk])), (g, .inr (2, [.ref b])), (b, .inl (gI G, 4096, .inl (arI d)))]) (st2 := [.long (bks d i), .long tk, .ref h]) C (ct_X4_blocksOf G (kl k) h g b tk d i (by omega)) gX4_65 dX4_erase_7 0 rfl rfl rfl rfl rfl (Nat.le_of_ble_eq_true rfl) (by decide) [0, 1, 2] rfl (by decide) [h, g, b] rfl rfl rfl rfl ?_
  refine w_ldc2 (v := -1) C 495 dX4_erase_10 (by decide +kernel) ?_
  refine w_lxor (v := (bks d i) ^^^ (-1)) C dX4_erase_13 rfl ?_
  refine w_land (v := tk &&& ((bks d i) ^^^ (-1))) C dX4_erase_14 rfl ?_
  refine w_put (ty := .long) (ws2 := [(h, .inr (4, [.ref g, .long (tk &&& ((bks d i) ^^^ (-1)))])), (g, .inr (2, [.ref b])), (b, .inl (gI G, 4096, .inl (arI d)))]) C 0 1 111 dX4_erase_15 rfl rfl inX4 tyX4_ok nmX4 (by decide) (by decide +kernel) rfl (by decide +kernel) rfl rfl (Nat.le_of_ble_eq_true rfl) rfl ?_
  refine w_aload_n C 0 dX4_erase_18 rfl ?_
  refine w_iload_n C 1 dX4_erase_19 rfl ?_
  refine w_callV (As := [.int (iI i)]) (rest := []) (w2 := [(h, .inr (4, [.ref g, .long ((tk &&& ((bks d i) ^^^ (-1))))])), (g, .inr (2, [.ref b])), (b, .inl (gI G, 4096, .inl (arI (im_wipe d (512 + i * 16) 16))))]) (st2 := []) C (ct_X4_wipe G (kl k) h g b (tk &&& ((bks d i) ^^^ (-1))) d i (by omega)) gX4_87 dX4_erase_20 0 rfl rfl rfl rfl rfl (Nat.le_of_ble_eq_true rfl) (by decide) [0, 1, 2] rfl (by decide) [h, g, b] rfl rfl rfl rfl ?_
  exact w_retv hret dX4_erase_23 rfl rfl rfl ⟨rfl, rfl⟩
end
section
theorem gX4_81 : cwv RX4 81 yX4_takeFreeBlock cX4_takeFreeBlock 2 (some .int) 0 510 512 3 67 513 := by decide +kernel
set_option maxHeartbeats 4000000 in
set_option maxRecDepth 100000 in
theorem ct_X4_addBlock (G : GX) (l : Launch) (h : Nat) (g : Nat) (b : Nat) (tk : Int64) (d : Im) (i : Int) (hi : 0 ≤ i ∧ i < 32) : Ct G l yX4_addBlock cX4_addBlock 6 (some .int) rmX4_addBlock [.ref h, .int (iI i)] [(h, .inr (4, [.ref g, .long tk])), (g, .inr (2, [.ref b])), (b, .inl (gI G, 4096, .inl (arI d)))] (some (.int (iI (abR tk d i)))) [(h, .inr (4, [.ref g, .long (abT tk d i)])), (g, .inr (2, [.ref b])), (b, .inl (gI G, 4096, .inl (arI (abD tk d i))))] := by
  refine Ct.of (by decide) (Nat.le_of_ble_eq_true rfl) ?_
  intro k C hl hret
  subst hl
  refine w_lv (lv2 := [(0, .ref h), (1, .int (iI i))]) [0, 1] rfl ?_
  refine w_aload_n C 0 dX4_addBlock_0 rfl ?_
  refine w_iload_n C 1 dX4_addBlock_1 rfl ?_
  refine w_callV (As := [.int (iI i)]) (rest := []) (w2 := [(h, .inr (4, [.ref g, .long tk])), (g, .inr (2, [.ref b])), (b, .inl (gI G, 4096, .inl (arI d)))]) (st2 := [.int (iI (bc d i))]) C (ct_X4_blockCount G (kl k) h g b tk d i (by omega)) gX4_51 dX4_addBlock_2 0 rfl rfl rfl rfl rfl (Nat.le_of_ble_eq_true rfl) (by decide) [0, 1, 2] rfl (by decide) [h, g, b] rfl rfl rfl rfl ?_
  have f_1 := bc_rg d i
  refine w_istore_n (lv2 := [(0, .ref h), (1, .int (iI i)), (2, .int (iI (bc d i)))]) C dX4_addBlock_5 (by decide) rfl ?_
  refine w_iload_n C 2 dX4_addBlock_6 rfl ?_
  refine w_iconst C dX4_addBlock_7 ?_
  refine w_icmp_ne C 15 dX4_addBlock_8 rfl (by omega) (fun c_2 => ?_) (fun c_2 => ?_)
  · refine w_iconst C dX4_addBlock_15 ?_
    refine w_istore_n (lv2 := [(0, .ref h), (1, .int (iI i)), (2, .int (iI (bc d i))), (3, .int (iI 1))]) C dX4_addBlock_16 (by decide) rfl ?_
    have nx : ¬ bc d i = 5 ∨ bc d i = 5 := by omega
    refine w_iload_n C 2 dX4_addBlock_17 rfl ?_
    refine w_bipush C dX4_addBlock_18 (by decide) ?_
    refine w_icmp_ge C 37 dX4_addBlock_20 rfl (by omega) (fun c_3 => ?_) (fun c_3 => ?_)
    · refine w_iconst C dX4_addBlock_37 ?_
      exact w_reti hret dX4_addBlock_38 rfl rfl rfl rfl ⟨congrArg (fun z => some (Value.int (iI z))) (by unfold abR; rw [if_pos (by unfold abX; first | (left; omega) | (right; rw [if_pos (by omega)]; omega) | (right; rw [if_neg (by omega)]; omega))]), (by unfold abT abD; rw [if_pos (by unfold abX; first | (left; omega) | (right; rw [if_pos (by omega)]; omega) | (right; rw [if_neg (by omega)]; omega)), if_pos (by unfold abX; first | (left; omega) | (right; rw [if_pos (by omega)]; omega) | (right; rw [if_neg (by omega)]; omega))])⟩
    · refine w_bipush C dX4_addBlock_23 (by decide) ?_
      refine w_aload_n C 0 dX4_addBlock_25 rfl ?_
      refine w_get C 0 1 111 dX4_addBlock_26 rfl rfl inX4 (by decide) (by decide +kernel) rfl ?_
      refine w_callS (As := [.long tk]) (rest := [.int (iI 47)]) (w2 := [(h, .inr (4, [.ref g, .long tk])), (g, .inr (2, [.ref b])), (b, .inl (gI G, 4096, .inl (arI d)))]) (st2 := [.int (iI (pcn tk)), .int (iI 47)]) C (ct_J13_bitCount_95d88 G (kl k) tk) gX4_72 dX4_addBlock_29 rfl rfl (Nat.le_of_ble_eq_true rfl) (by decide) [] rfl (by decide) [] rfl rfl rfl rfl ?_
      have f_4 := pcn_rg tk
      refine w_isub C dX4_addBlock_32 ?_
      refine w_iload_n C 3 dX4_addBlock_33 rfl ?_
      refine w_icmp_ge C 39 dX4_addBlock_34 rfl (by omega) (fun c_5 => ?_) (fun c_5 => ?_)
      · have nx : ¬ abX tk d i := by unfold abX; first | (rw [if_pos (by omega)]; omega) | (rw [if_neg (by omega)]; omega)
        refine w_aload_n C 0 dX4_addBlock_39 rfl ?_
        refine w_callV (As := []) (rest := []) (w2 := [(h, .inr (4, [.ref g, .long (tfT tk)])), (g, .inr (2, [.ref b])), (b, .inl (gI G, 4096, .inl (arI (tfD tk d))))]) (st2 := [.int (iI (tfB tk))]) C (ct_X4_takeFreeBlock G (kl k) h g b tk d) gX4_81 dX4_addBlock_40 0 rfl rfl rfl rfl rfl (Nat.le_of_ble_eq_true rfl) (by decide) [0, 1, 2] rfl (by decide) [h, g, b] rfl rfl rfl rfl ?_
        have f_6 := tfB_rg tk
        refine w_istore (lv2 := [(0, .ref h), (1, .int (iI i)), (2, .int (iI (bc d i))), (3, .int (iI 1)), (4, .int (iI (tfB tk)))]) C dX4_addBlock_43 (by decide) rfl ?_
        refine w_iload_n C 2 dX4_addBlock_45 rfl ?_
        refine w_iconst C dX4_addBlock_46 ?_
        refine w_icmp_ge C 70 dX4_addBlock_47 rfl (by omega) (fun c_7 => ?_) (fun c_7 => ?_)
        · refine w_iload_n C 2 dX4_addBlock_70 rfl ?_
          refine w_iconst C dX4_addBlock_71 ?_
          refine w_icmp_ne C 93 dX4_addBlock_72 rfl (by omega) (fun c_8 => ?_) (fun c_8 => ?_)
          · refine w_ws (ws2 := [(h, .inr (4, [.ref g, .long (tfT tk)])), (g, .inr (2, [.ref b])), (b, .inl (gI G, 4096, .inl (arI (abI tk d i))))]) (by unfold abI; first | rw [if_pos (by omega)] | rw [if_neg (by omega)]) ?_
            refine w_aload_n C 0 dX4_addBlock_93 rfl ?_
            refine w_get C 0 0 110 dX4_addBlock_94 rfl rfl inX4 (by decide) (by decide +kernel) rfl ?_
            refine w_iload_n C 1 dX4_addBlock_97 rfl ?_
            refine w_callS (As := [.int (iI i)]) (rest := [.ref g]) (w2 := [(h, .inr (4, [.ref g, .long (tfT tk)])), (g, .inr (2, [.ref b])), (b, .inl (gI G, 4096, .inl (arI (abI tk d i))))]) (st2 := [.int (iI (512 + i * 16)), .ref g]) C (ct_X4_placeOf G (kl k) i) gX4_19 dX4_addBlock_98 rfl rfl (Nat.le_of_ble_eq_true rfl) (by decide) [] rfl (by decide) [] rfl rfl rfl rfl ?_
            refine w_bipush C dX4_addBlock_101 (by decide) ?_
            refine w_iadd C dX4_addBlock_103 ?_
            refine w_callV (As := [.int (iI ((512 + i * 16) + 9))]) (rest := []) (w2 := [(h, .inr (4, [.ref g, .long (tfT tk)])), (g, .inr (2, [.ref b])), (b, .inl (gI G, 4096, .inl (arI ((abI tk d i)))))]) (st2 := [.int (iI (im_at (abI tk d i) ((512 + i * 16) + 9)))]) C (ct_X2_at G (kl k) g b (abI tk d i) ((512 + i * 16) + 9) (by omega)) gX4_23 dX4_addBlock_104 1 rfl rfl rfl rfl rfl (Nat.le_of_ble_eq_true rfl) (by decide) [1, 2] rfl (by decide) [g, b] rfl rfl rfl rfl ?_
            have f_9 := im_at_rg (abI tk d i) ((512 + i * 16) + 9)
            have e9 : im_at (abI tk d i) (512 + i * 16 + 9) = (abI tk d i).1 (512 + i * 16 + 9) := by unfold im_at; rw [if_pos (by omega)]
            refine w_st (st2 := [.int (iI ((abI tk d i).1 (512 + i * 16 + 9)))]) (by rw [e9]) ?_
            refine w_istore (lv2 := [(0, .ref h), (1, .int (iI i)), (2, .int (iI (bc d i))), (3, .int (iI 1)), (4, .int (iI (tfB tk))), (5, .int (iI ((abI tk d i).1 (512 + i * 16 + 9))))]) C dX4_addBlock_107 (by decide) rfl ?_
            have b9 := (abI tk d i).2 (512 + i * 16 + 9)
            refine w_aload_n C 0 dX4_addBlock_109 rfl ?_
            refine w_get C 0 0 110 dX4_addBlock_110 rfl rfl inX4 (by decide) (by decide +kernel) rfl ?_
            refine w_iload C 5 dX4_addBlock_113 rfl ?_
            refine w_bipush C dX4_addBlock_115 (by decide) ?_
            refine w_imul C dX4_addBlock_117 ?_
            refine w_iload_n C 2 dX4_addBlock_118 rfl ?_
            refine w_iadd C dX4_addBlock_119 ?_
            refine w_iconst C dX4_addBlock_120 ?_
            refine w_isub C dX4_addBlock_121 ?_
            refine w_iload C 4 dX4_addBlock_122 rfl ?_
            refine w_callV (As := [.int (iI (((((abI tk d i).1 (512 + i * 16 + 9)) * 64) + (bc d i)) - 5)), .int (iI (tfB tk))]) (rest := []) (w2 := [(h, .inr (4, [.ref g, .long (tfT tk)])), (g, .inr (2, [.ref b])), (b, .inl (gI G, 4096, .inl (arI (im_set ((abI tk d i)) (((((abI tk d i).1 (512 + i * 16 + 9)) * 64) + (bc d i)) - 5) (tfB tk)))))]) (st2 := []) C (ct_X2_set G (kl k) g b ((abI tk d i)) (((((abI tk d i).1 (512 + i * 16 + 9)) * 64) + (bc d i)) - 5) (tfB tk) (by omega)) gX4_31 dX4_addBlock_124 1 rfl rfl rfl rfl rfl (Nat.le_of_ble_eq_true rfl) (by decide) [1, 2] rfl (by decide) [g, b] rfl rfl rfl rfl ?_
            refine w_iload C 4 dX4_addBlock_127 rfl ?_
            exact w_reti hret dX4_addBlock_129 rfl rfl rfl rfl ⟨congrArg (fun z => some (Value.int (iI z))) (by unfold abR; rw [if_neg nx]), (by unfold abT abD; rw [if_neg nx, if_neg nx]; first | rw [if_pos (by omega), if_neg (by omega)] | rw [if_neg (by omega), if_neg (by omega)])⟩
          · omega
        · refine w_aload_n C 0 dX4_addBlock_50 rfl ?_
          refine w_get C 0 0 110 dX4_addBlock_51 rfl rfl inX4 (by decide) (by decide +kernel) rfl ?_
          refine w_iload_n C 1 dX4_addBlock_54 rfl ?_
          refine w_callS (As := [.int (iI i)]) (rest := [.ref g]) (w2 := [(h, .inr (4, [.ref g, .long (tfT tk)])), (g, .inr (2, [.ref b])), (b, .inl (gI G, 4096, .inl (arI (tfD tk d))))]) (st2 := [.int (iI (512 + i * 16)), .ref g]) C (ct_X4_placeOf G (kl k) i) gX4_19 dX4_addBlock_55 rfl rfl (Nat.le_of_ble_eq_true rfl) (by decide) [] rfl (by decide) [] rfl rfl rfl rfl ?_
          refine w_iconst C dX4_addBlock_58 ?_
          refine w_iadd C dX4_addBlock_59 ?_
          refine w_iload_n C 2 dX4_addBlock_60 rfl ?_
          refine w_iadd C dX4_addBlock_61 ?_
          refine w_iload C 4 dX4_addBlock_62 rfl ?_
          refine w_callV (As := [.int (iI (((512 + i * 16) + 4) + (bc d i))), .int (iI (tfB tk))]) (rest := []) (w2 := [(h, .inr (4, [.ref g, .long (tfT tk)])), (g, .inr (2, [.ref b])), (b, .inl (gI G, 4096, .inl (arI (im_set (tfD tk d) (((512 + i * 16) + 4) + (bc d i)) (tfB tk)))))]) (st2 := []) C (ct_X2_set G (kl k) g b (tfD tk d) (((512 + i * 16) + 4) + (bc d i)) (tfB tk) (by omega)) gX4_31 dX4_addBlock_64 1 rfl rfl rfl rfl rfl (Nat.le_of_ble_eq_true rfl) (by decide) [1, 2] rfl (by decide) [g, b] rfl rfl rfl rfl ?_
          refine w_iload C 4 dX4_addBlock_67 rfl ?_
          exact w_reti hret dX4_addBlock_69 rfl rfl rfl rfl ⟨congrArg (fun z => some (Value.int (iI z))) (by unfold abR; rw [if_neg nx]), (by unfold abT abD; rw [if_neg nx, if_neg nx, if_neg (by omega), if_pos (by omega)])⟩
      · refine w_iconst C dX4_addBlock_37 ?_
        exact w_reti hret dX4_addBlock_38 rfl rfl rfl rfl ⟨congrArg (fun z => some (Value.int (iI z))) (by unfold abR; rw [if_pos (by unfold abX; first | (left; omega) | (right; rw [if_pos (by omega)]; omega) | (right; rw [if_neg (by omega)]; omega))]), (by unfold abT abD; rw [if_pos (by unfold abX; first | (left; omega) | (right; rw [if_pos (by omega)]; omega) | (right; rw [if_neg (by omega)]; omega)), if_pos (by unfold abX; first | (left; omega) | (right; rw [if_pos (by omega)]; omega) | (right; rw [if_neg (by omega)]; omega))])⟩
  · refine w_iconst C dX4_addBlock_11 ?_
    refine w_goto C 16 dX4_addBlock_12 rfl ?_
    refine w_istore_n (lv2 := [(0, .ref h), (1, .int (iI i)), (2, .int (iI (bc d i))), (3, .int (iI 2))]) C dX4_addBlock_16 (by decide) rfl ?_
    have nx : ¬ bc d i = 5 ∨ bc d i = 5 := by omega
    refine w_iload_n C 2 dX4_addBlock_17 rfl ?_
    refine w_bipush C dX4_addBlock_18 (by decide) ?_
    refine w_icmp_ge C 37 dX4_addBlock_20 rfl (by omega) (fun c_10 => ?_) (fun c_10 => ?_)
    · refine w_iconst C dX4_addBlock_37 ?_
      exact w_reti hret dX4_addBlock_38 rfl rfl rfl rfl ⟨congrArg (fun z => some (Value.int (iI z))) (by unfold abR; rw [if_pos (by unfold abX; first | (left; omega) | (right; rw [if_pos (by omega)]; omega) | (right; rw [if_neg (by omega)]; omega))]), (by unfold abT abD; rw [if_pos (by unfold abX; first | (left; omega) | (right; rw [if_pos (by omega)]; omega) | (right; rw [if_neg (by omega)]; omega)), if_pos (by unfold abX; first | (left; omega) | (right; rw [if_pos (by omega)]; omega) | (right; rw [if_neg (by omega)]; omega))])⟩
    · refine w_bipush C dX4_addBlock_23 (by decide) ?_
      refine w_aload_n C 0 dX4_addBlock_25 rfl ?_
      refine w_get C 0 1 111 dX4_addBlock_26 rfl rfl inX4 (by decide) (by decide +kernel) rfl ?_
      refine w_callS (As := [.long tk]) (rest := [.int (iI 47)]) (w2 := [(h, .inr (4, [.ref g, .long tk])), (g, .inr (2, [.ref b])), (b, .inl (gI G, 4096, .inl (arI d)))]) (st2 := [.int (iI (pcn tk)), .int (iI 47)]) C (ct_J13_bitCount_95d88 G (kl k) tk) gX4_72 dX4_addBlock_29 rfl rfl (Nat.le_of_ble_eq_true rfl) (by decide) [] rfl (by decide) [] rfl rfl rfl rfl ?_
      have f_11 := pcn_rg tk
      refine w_isub C dX4_addBlock_32 ?_
      refine w_iload_n C 3 dX4_addBlock_33 rfl ?_
      refine w_icmp_ge C 39 dX4_addBlock_34 rfl (by omega) (fun c_12 => ?_) (fun c_12 => ?_)
      · have nx : ¬ abX tk d i := by unfold abX; first | (rw [if_pos (by omega)]; omega) | (rw [if_neg (by omega)]; omega)
        refine w_aload_n C 0 dX4_addBlock_39 rfl ?_
        refine w_callV (As := []) (rest := []) (w2 := [(h, .inr (4, [.ref g, .long (tfT tk)])), (g, .inr (2, [.ref b])), (b, .inl (gI G, 4096, .inl (arI (tfD tk d))))]) (st2 := [.int (iI (tfB tk))]) C (ct_X4_takeFreeBlock G (kl k) h g b tk d) gX4_81 dX4_addBlock_40 0 rfl rfl rfl rfl rfl (Nat.le_of_ble_eq_true rfl) (by decide) [0, 1, 2] rfl (by decide) [h, g, b] rfl rfl rfl rfl ?_
        have f_13 := tfB_rg tk
        refine w_istore (lv2 := [(0, .ref h), (1, .int (iI i)), (2, .int (iI (bc d i))), (3, .int (iI 2)), (4, .int (iI (tfB tk)))]) C dX4_addBlock_43 (by decide) rfl ?_
        refine w_iload_n C 2 dX4_addBlock_45 rfl ?_
        refine w_iconst C dX4_addBlock_46 ?_
        refine w_icmp_ge C 70 dX4_addBlock_47 rfl (by omega) (fun c_14 => ?_) (fun c_14 => ?_)
        · refine w_iload_n C 2 dX4_addBlock_70 rfl ?_
          refine w_iconst C dX4_addBlock_71 ?_
          refine w_icmp_ne C 93 dX4_addBlock_72 rfl (by omega) (fun c_15 => ?_) (fun c_15 => ?_)
          · omega
          · refine w_aload_n C 0 dX4_addBlock_75 rfl ?_
            refine w_get C 0 0 110 dX4_addBlock_76 rfl rfl inX4 (by decide) (by decide +kernel) rfl ?_
            refine w_iload_n C 1 dX4_addBlock_79 rfl ?_
            refine w_callS (As := [.int (iI i)]) (rest := [.ref g]) (w2 := [(h, .inr (4, [.ref g, .long (tfT tk)])), (g, .inr (2, [.ref b])), (b, .inl (gI G, 4096, .inl (arI (tfD tk d))))]) (st2 := [.int (iI (512 + i * 16)), .ref g]) C (ct_X4_placeOf G (kl k) i) gX4_19 dX4_addBlock_80 rfl rfl (Nat.le_of_ble_eq_true rfl) (by decide) [] rfl (by decide) [] rfl rfl rfl rfl ?_
            refine w_bipush C dX4_addBlock_83 (by decide) ?_
            refine w_iadd C dX4_addBlock_85 ?_
            refine w_aload_n C 0 dX4_addBlock_86 rfl ?_
            refine w_callV (As := []) (rest := [.int (iI ((512 + i * 16) + 9)), .ref g]) (w2 := [(h, .inr (4, [.ref g, .long (tfT (tfT tk))])), (g, .inr (2, [.ref b])), (b, .inl (gI G, 4096, .inl (arI (tfD (tfT tk) (tfD tk d)))))]) (st2 := [.int (iI (tfB (tfT tk))), .int (iI ((512 + i * 16) + 9)), .ref g]) C (ct_X4_takeFreeBlock G (kl k) h g b (tfT tk) (tfD tk d)) gX4_81 dX4_addBlock_87 0 rfl rfl rfl rfl rfl (Nat.le_of_ble_eq_true rfl) (by decide) [0, 1, 2] rfl (by decide) [h, g, b] rfl rfl rfl rfl ?_
            have f_16 := tfB_rg (tfT tk)
            refine w_callV (As := [.int (iI ((512 + i * 16) + 9)), .int (iI (tfB (tfT tk)))]) (rest := []) (w2 := [(h, .inr (4, [.ref g, .long (tfT (tfT tk))])), (g, .inr (2, [.ref b])), (b, .inl (gI G, 4096, .inl (arI (im_set (tfD (tfT tk) (tfD tk d)) ((512 + i * 16) + 9) (tfB (tfT tk))))))]) (st2 := []) C (ct_X2_set G (kl k) g b (tfD (tfT tk) (tfD tk d)) ((512 + i * 16) + 9) (tfB (tfT tk)) (by omega)) gX4_31 dX4_addBlock_90 1 rfl rfl rfl rfl rfl (Nat.le_of_ble_eq_true rfl) (by decide) [1, 2] rfl (by decide) [g, b] rfl rfl rfl rfl ?_
            refine w_ws (ws2 := [(h, .inr (4, [.ref g, .long (tfT (tfT tk))])), (g, .inr (2, [.ref b])), (b, .inl (gI G, 4096, .inl (arI (abI tk d i))))]) (by unfold abI; first | rw [if_pos (by omega)] | rw [if_neg (by omega)]) ?_
            refine w_aload_n C 0 dX4_addBlock_93 rfl ?_
            refine w_get C 0 0 110 dX4_addBlock_94 rfl rfl inX4 (by decide) (by decide +kernel) rfl ?_
            refine w_iload_n C 1 dX4_addBlock_97 rfl ?_
            refine w_callS (As := [.int (iI i)]) (rest := [.ref g]) (w2 := [(h, .inr (4, [.ref g, .long (tfT (tfT tk))])), (g, .inr (2, [.ref b])), (b, .inl (gI G, 4096, .inl (arI (abI tk d i))))]) (st2 := [.int (iI (512 + i * 16)), .ref g]) C (ct_X4_placeOf G (kl k) i) gX4_19 dX4_addBlock_98 rfl rfl (Nat.le_of_ble_eq_true rfl) (by decide) [] rfl (by decide) [] rfl rfl rfl rfl ?_
            refine w_bipush C dX4_addBlock_101 (by decide) ?_
            refine w_iadd C dX4_addBlock_103 ?_
            refine w_callV (As := [.int (iI ((512 + i * 16) + 9))]) (rest := []) (w2 := [(h, .inr (4, [.ref g, .long (tfT (tfT tk))])), (g, .inr (2, [.ref b])), (b, .inl (gI G, 4096, .inl (arI ((abI tk d i)))))]) (st2 := [.int (iI (im_at (abI tk d i) ((512 + i * 16) + 9)))]) C (ct_X2_at G (kl k) g b (abI tk d i) ((512 + i * 16) + 9) (by omega)) gX4_23 dX4_addBlock_104 1 rfl rfl rfl rfl rfl (Nat.le_of_ble_eq_true rfl) (by decide) [1, 2] rfl (by decide) [g, b] rfl rfl rfl rfl ?_
            have f_17 := im_at_rg (abI tk d i) ((512 + i * 16) + 9)
            have e9 : im_at (abI tk d i) (512 + i * 16 + 9) = (abI tk d i).1 (512 + i * 16 + 9) := by unfold im_at; rw [if_pos (by omega)]
            refine w_st (st2 := [.int (iI ((abI tk d i).1 (512 + i * 16 + 9)))]) (by rw [e9]) ?_
            refine w_istore (lv2 := [(0, .ref h), (1, .int (iI i)), (2, .int (iI (bc d i))), (3, .int (iI 2)), (4, .int (iI (tfB tk))), (5, .int (iI ((abI tk d i).1 (512 + i * 16 + 9))))]) C dX4_addBlock_107 (by decide) rfl ?_
            have b9 := (abI tk d i).2 (512 + i * 16 + 9)
            refine w_aload_n C 0 dX4_addBlock_109 rfl ?_
            refine w_get C 0 0 110 dX4_addBlock_110 rfl rfl inX4 (by decide) (by decide +kernel) rfl ?_
            refine w_iload C 5 dX4_addBlock_113 rfl ?_
            refine w_bipush C dX4_addBlock_115 (by decide) ?_
            refine w_imul C dX4_addBlock_117 ?_
            refine w_iload_n C 2 dX4_addBlock_118 rfl ?_
            refine w_iadd C dX4_addBlock_119 ?_
            refine w_iconst C dX4_addBlock_120 ?_
            refine w_isub C dX4_addBlock_121 ?_
            refine w_iload C 4 dX4_addBlock_122 rfl ?_
            refine w_callV (As := [.int (iI (((((abI tk d i).1 (512 + i * 16 + 9)) * 64) + (bc d i)) - 5)), .int (iI (tfB tk))]) (rest := []) (w2 := [(h, .inr (4, [.ref g, .long (tfT (tfT tk))])), (g, .inr (2, [.ref b])), (b, .inl (gI G, 4096, .inl (arI (im_set ((abI tk d i)) (((((abI tk d i).1 (512 + i * 16 + 9)) * 64) + (bc d i)) - 5) (tfB tk)))))]) (st2 := []) C (ct_X2_set G (kl k) g b ((abI tk d i)) (((((abI tk d i).1 (512 + i * 16 + 9)) * 64) + (bc d i)) - 5) (tfB tk) (by omega)) gX4_31 dX4_addBlock_124 1 rfl rfl rfl rfl rfl (Nat.le_of_ble_eq_true rfl) (by decide) [1, 2] rfl (by decide) [g, b] rfl rfl rfl rfl ?_
            refine w_iload C 4 dX4_addBlock_127 rfl ?_
            exact w_reti hret dX4_addBlock_129 rfl rfl rfl rfl ⟨congrArg (fun z => some (Value.int (iI z))) (by unfold abR; rw [if_neg nx]), (by unfold abT abD; rw [if_neg nx, if_neg nx]; first | rw [if_pos (by omega), if_neg (by omega)] | rw [if_neg (by omega), if_neg (by omega)])⟩
        · refine w_aload_n C 0 dX4_addBlock_50 rfl ?_
          refine w_get C 0 0 110 dX4_addBlock_51 rfl rfl inX4 (by decide) (by decide +kernel) rfl ?_
          refine w_iload_n C 1 dX4_addBlock_54 rfl ?_
          refine w_callS (As := [.int (iI i)]) (rest := [.ref g]) (w2 := [(h, .inr (4, [.ref g, .long (tfT tk)])), (g, .inr (2, [.ref b])), (b, .inl (gI G, 4096, .inl (arI (tfD tk d))))]) (st2 := [.int (iI (512 + i * 16)), .ref g]) C (ct_X4_placeOf G (kl k) i) gX4_19 dX4_addBlock_55 rfl rfl (Nat.le_of_ble_eq_true rfl) (by decide) [] rfl (by decide) [] rfl rfl rfl rfl ?_
          refine w_iconst C dX4_addBlock_58 ?_
          refine w_iadd C dX4_addBlock_59 ?_
          refine w_iload_n C 2 dX4_addBlock_60 rfl ?_
          refine w_iadd C dX4_addBlock_61 ?_
          refine w_iload C 4 dX4_addBlock_62 rfl ?_
          refine w_callV (As := [.int (iI (((512 + i * 16) + 4) + (bc d i))), .int (iI (tfB tk))]) (rest := []) (w2 := [(h, .inr (4, [.ref g, .long (tfT tk)])), (g, .inr (2, [.ref b])), (b, .inl (gI G, 4096, .inl (arI (im_set (tfD tk d) (((512 + i * 16) + 4) + (bc d i)) (tfB tk)))))]) (st2 := []) C (ct_X2_set G (kl k) g b (tfD tk d) (((512 + i * 16) + 4) + (bc d i)) (tfB tk) (by omega)) gX4_31 dX4_addBlock_64 1 rfl rfl rfl rfl rfl (Nat.le_of_ble_eq_true rfl) (by decide) [1, 2] rfl (by decide) [g, b] rfl rfl rfl rfl ?_
          refine w_iload C 4 dX4_addBlock_67 rfl ?_
          exact w_reti hret dX4_addBlock_69 rfl rfl rfl rfl ⟨congrArg (fun z => some (Value.int (iI z))) (by unfold abR; rw [if_neg nx]), (by unfold abT abD; rw [if_neg nx, if_neg nx, if_neg (by omega), if_pos (by omega)])⟩
      · refine w_iconst C dX4_addBlock_37 ?_
        exact w_reti hret dX4_addBlock_38 rfl rfl rfl rfl ⟨congrArg (fun z => some (Value.int (iI z))) (by unfold abR; rw [if_pos (by unfold abX; first | (left; omega) | (right; rw [if_pos (by omega)]; omega) | (right; rw [if_neg (by omega)]; omega))]), (by unfold abT abD; rw [if_pos (by unfold abX; first | (left; omega) | (right; rw [if_pos (by omega)]; omega) | (right; rw [if_neg (by omega)]; omega)), if_pos (by unfold abX; first | (left; omega) | (right; rw [if_pos (by omega)]; omega) | (right; rw [if_neg (by omega)]; omega))])⟩
end
section
/-! WHAT DIRECTORIES MEAN -/
def ec (d : Im) (i : Int) : Int := min (sz d i / 16) 184
theorem ec_rg (d : Im) (i : Int) : 0 ≤ ec d i ∧ ec d i ≤ 184 := by unfold ec; have := sz_rg d i; omega
def ep (d : Im) (i e : Int) : Int := cp d i (e * 16)
theorem ep_rg (d : Im) (i e : Int) : ep d i e = -1 ∨ (1024 ≤ ep d i e ∧ ep d i e < 4032) := cp_rg d i (e * 16)
def nmk (d : Im) (p : Int) (nb : Im) (n : Int) : Nat → Bool
  | 0 => true
  | j + 1 => nmk d p nb n j && decide (im_at d (p + 2 + j) = nm_at nb n j)
theorem nmk_iff (d : Im) (p : Int) (nb : Im) (n : Int) : ∀ m : Nat, nmk d p nb n m = true ↔ ∀ j : Int, 0 ≤ j → j < m → im_at d (p + 2 + j) = nm_at nb n j
  | 0 => by simp only [nmk, true_iff]; intro j h1 h2; omega
  | m + 1 => by
    rw [nmk, Bool.and_eq_true, nmk_iff d p nb n m, decide_eq_true_iff]
    constructor
    · rintro ⟨h1, h2⟩ j h3 h4
      by_cases h : j < m
      · exact h1 j h3 h
      · rw [show j = m by omega]; exact h2
    · intro h
      exact ⟨fun j h1 h2 => h j h1 (by omega), h _ (by omega) (by omega)⟩
/-- the entry at p has the name -/
def nmd (d : Im) (p : Int) (nb : Im) (n : Int) : Bool := decide (im_at d (p + 1) = n) && nmk d p nb n n.toNat
def sks (d : Im) (i : Int) (nb : Im) (n : Int) : Nat → Int → Int
  | 0, _ => -1
  | f + 1, e => if ep d i e ≠ -1 ∧ nmd d (ep d i e) nb n = true then ep d i e else sks d i nb n f (e + 1)
def sk (d : Im) (i : Int) (nb : Im) (n : Int) : Int := if n = 0 then -1 else sks d i nb n (ec d i - 2).toNat 2
theorem sks_rg (d : Im) (i : Int) (nb : Im) (n : Int) : ∀ (f : Nat) (e : Int), sks d i nb n f e = -1 ∨ (1024 ≤ sks d i nb n f e ∧ sks d i nb n f e < 4032)
  | 0, e => Or.inl rfl
  | f + 1, e => by
    rw [sks]
    have := ep_rg d i e
    split
    · omega
    · exact sks_rg d i nb n f (e + 1)
theorem sk_rg (d : Im) (i : Int) (nb : Im) (n : Int) : sk d i nb n = -1 ∨ (1024 ≤ sk d i nb n ∧ sk d i nb n < 4032) := by
  unfold sk; split
  · exact Or.inl rfl
  · exact sks_rg d i nb n _ _
def wek (x : Im) (p : Int) (nb : Im) (n : Int) : Nat → Im
  | 0 => x
  | j + 1 => im_set (wek x p nb n j) (p + 2 + j) (nm_at nb n j)
def we (d : Im) (p i : Int) (nb : Im) (n : Int) : Im := wek (im_set (im_set (im_wipe d p 16) p i) (p + 1) n) p nb n n.toNat
def dt1 (d : Im) (nb : Im) (i : Int) : Im := we d (ep d i 0) i (nm_sp nb 2 (tn 2).toNat) (tn 2)
def dtN (nb : Im) : Im := nm_sp (nm_sp nb 2 (tn 2).toNat) 3 (tn 3).toNat
def dtD (d : Im) (nb : Im) (i p : Int) : Im := we (dt1 d nb i) (ep (dt1 d nb i) i 1) p (dtN nb) (tn 3)
def spd (d : Im) (i p : Int) : Im := if kd d i = 2 then im_set d (cp d i 16) p else d
-- begin
def bg0 (d : Im) (i : Int) : Im := im_set d (512 + i * 16) 2
def bgR (tk : Int64) (d : Im) (i : Int) : Int := abR tk (bg0 d i) i
def bgT (tk : Int64) (d : Im) (i : Int) : Int64 := abT tk (bg0 d i) i
def bgD (tk : Int64) (d : Im) (nb : Im) (i p : Int) : Im := if bgR tk d i = -1 then im_wipe (abD tk (bg0 d i) i) (512 + i * 16) 16 else dtD (im_put (abD tk (bg0 d i) i) (512 + i * 16 + 2) 64) nb i p
def bgN (tk : Int64) (d : Im) (nb : Im) (i : Int) : Im := if bgR tk d i = -1 then nb else dtN nb
def bgL (tk : Int64) (d : Im) (n i : Int) : Int := if bgR tk d i = -1 then n else tn 3
-- room
def rms (d : Im) (i : Int) : Nat → Int → Int
  | 0, _ => -2
  | f + 1, e => if im_at d (ep d i e) = 0 then ep d i e else rms d i f (e + 1)
theorem rms_rg (d : Im) (i : Int) : ∀ (f : Nat) (e : Int), rms d i f e = -2 ∨ rms d i f e = -1 ∨ (1024 ≤ rms d i f e ∧ rms d i f e < 4032)
  | 0, e => Or.inl rfl
  | f + 1, e => by
    rw [rms]
    have := ep_rg d i e
    split
    · omega
    · exact rms_rg d i f (e + 1)
def rmF (d : Im) (i : Int) : Int := rms d i (ec d i - 2).toNat 2
def rmR (tk : Int64) (d : Im) (i : Int) : Int := if rmF d i = -2 then (if abR tk d i = -1 then -1 else abR tk d i * 64) else rmF d i
theorem rmR_rg (tk : Int64) (d : Im) (i : Int) : rmR tk d i = -1 ∨ (1024 ≤ rmR tk d i ∧ rmR tk d i < 4032) := by
  unfold rmR rmF
  have h1 := rms_rg d i (ec d i - 2).toNat 2
  have h2 := abR_rg tk d i
  split
  · split <;> omega
  · omega
def rmT (tk : Int64) (d : Im) (i : Int) : Int64 := if rmF d i = -2 then abT tk d i else tk
def rmD (tk : Int64) (d : Im) (i : Int) : Im := if rmF d i = -2 then (if abR tk d i = -1 then abD tk d i else im_put (abD tk d i) (512 + i * 16 + 2) (sz (abD tk d i) i + 64)) else d
def ems (d : Im) (i : Int) : Nat → Int → Bool
  | 0, _ => true
  | f + 1, e => if im_at d (ep d i e) = 0 then ems d i f (e + 1) else false
def emB (d : Im) (i : Int) : Bool := ems d i (ec d i - 2).toNat 2
-- valid entries
abbrev vaX (d : Im) (p : Int) : Prop := im_at d p < 3 ∨ kd d (im_at d p) = 0 ∨ im_at d (p + 1) < 1 ∨ 14 < im_at d (p + 1)
def vaN (d : Im) (nb : Im) (p : Int) : Im := if vaX d p then nb else nm_ld nb d (p + 2) (im_at d (p + 1)).toNat
def vaL (d : Im) (n p : Int) : Int := if vaX d p then n else im_at d (p + 1)
def vaB (d : Im) (nb : Im) (i p : Int) : Bool := if vaX d p then false else im_blank d (p + 2 + im_at d (p + 1)) (14 - im_at d (p + 1)) && (nm_ok (nm_ld nb d (p + 2) (im_at d (p + 1)).toNat) (im_at d (p + 1)) && decide (sk d i (nm_ld nb d (p + 2) (im_at d (p + 1)).toNat) (im_at d (p + 1)) = p))
theorem vaL_rg (d : Im) (n p : Int) (h : 0 ≤ n ∧ n ≤ 14) : 0 ≤ vaL d n p ∧ vaL d n p ≤ 14 := by
  unfold vaL; split
  · exact h
  · have := im_at_rg d (p + 1); omega
-- tidy: what is left to do from place e on, with a name in the hand
def tds (i : Int) : Nat → Int → Im → Im → Int → Im × Im × Int
  | 0, _, d, nb, n => (d, nb, n)
  | f + 1, e, d, nb, n => tds i f (e + 1) (if vaB d nb i (ep d i e) = true then d else im_wipe d (ep d i e) 16) (vaN d nb (ep d i e)) (vaL d n (ep d i e))
abbrev tdX (d : Im) (nb : Im) (i : Int) : Prop := i = 1 ∧ kd (dtD d nb i i) 2 ≠ 0
def td0 (d : Im) (nb : Im) (i : Int) : Im := if tdX d nb i then we (dtD d nb i i) (ep (dtD d nb i i) 1 2) 2 (nm_sp (dtN nb) 4 (tn 4).toNat) (tn 4) else dtD d nb i i
def tdn (d : Im) (nb : Im) (i : Int) : Im := if tdX d nb i then nm_sp (dtN nb) 4 (tn 4).toNat else dtN nb
def tdl (d : Im) (nb : Im) (i : Int) : Int := if tdX d nb i then tn 4 else tn 3
def tde (d : Im) (nb : Im) (i : Int) : Int := if tdX d nb i then 3 else 2
def tdF (d : Im) (nb : Im) (i : Int) : Im × Im × Int := tds i (ec (td0 d nb i) i - tde d nb i).toNat (tde d nb i) (td0 d nb i) (tdn d nb i) (tdl d nb i)
-- entries of an inode wiped
def cnt (d : Im) (i : Int) : Int := if kd d i = 2 then ec d i else 0
theorem cnt_rg (d : Im) (i : Int) : 0 ≤ cnt d i ∧ cnt d i ≤ 184 := by unfold cnt; have := ec_rg d i; split <;> omega
def wef (i dir : Int) : Nat → Int → Im → Im
  | 0, _, d => d
  | f + 1, e, d => wef i dir f (e + 1) (if im_at d (ep d dir e) = i then im_wipe d (ep d dir e) 16 else d)
def wed (i : Int) : Nat → Int → Im → Im
  | 0, _, d => d
  | f + 1, dir, d => wed i f (dir + 1) (wef i dir (cnt d dir - 2).toNat 2 d)
-- links
def clk (d : Im) (dir i : Int) : Im := if kd d i = 0 then d else if kd d i = 2 then im_set d (512 + dir * 16 + 1) (lk d dir + 1) else im_set d (512 + i * 16 + 1) (lk d i + 1)
def cl0 : Nat → Int → Im → Im
  | 0, _, d => d
  | f + 1, i, d => cl0 f (i + 1) (im_set d (512 + i * 16 + 1) (if kd d i = 2 then 2 else 0))
def clf (dir : Int) : Nat → Int → Im → Im
  | 0, _, d => d
  | f + 1, e, d => clf dir f (e + 1) (clk d dir (im_at d (ep d dir e)))
def cld : Nat → Int → Im → Im
  | 0, _, d => d
  | f + 1, dir, d => cld f (dir + 1) (clf dir (cnt d dir - 2).toNat 2 d)
def clL (d : Im) : Im := cld 31 1 (cl0 31 1 d)
end
section
theorem gX1_26 : cwv RX1 26 yX4_size cX4_size 2 (some .int) 1 566 444 445 67 446 := by decide +kernel
set_option maxHeartbeats 4000000 in
set_option maxRecDepth 100000 in
theorem ct_X1_entryCount (G : GX) (l : Launch) (h : Nat) (o : Nat) (g : Nat) (b : Nat) (m : Nat) (tk : Int64) (d : Im) (i : Int) (hi : -2147483648 ≤ i ∧ i < 2147483648) : Ct G l yX1_entryCount cX1_entryCount 2 (some .int) rmX1_entryCount [.ref h, .int (iI i)] [(h, .inr (1, [.ref g, .ref o, .ref m])), (o, .inr (4, [.ref g, .long tk])), (g, .inr (2, [.ref b])), (b, .inl (gI G, 4096, .inl (arI d)))] (some (.int (iI (ec d i)))) [(h, .inr (1, [.ref g, .ref o, .ref m])), (o, .inr (4, [.ref g, .long tk])), (g, .inr (2, [.ref b])), (b, .inl (gI G, 4096, .inl (arI d)))] := by
  refine Ct.of (by decide) (Nat.le_of_ble_eq_true rfl) ?_
  intro k C hl hret
  subst hl
  refine w_lv (lv2 := [(0, .ref h), (1, .int (iI i))]) [0, 1] rfl ?_
  refine w_aload_n C 0 dX1_entryCount_0 rfl ?_
  refine w_get C 0 1 137 dX1_entryCount_1 rfl rfl inX1 (by decide) (by decide +kernel) rfl ?_
  refine w_iload_n C 1 dX1_entryCount_4 rfl ?_
  refine w_callV (As := [.int (iI i)]) (rest := []) (w2 := [(h, .inr (1, [.ref g, .ref o, .ref m])), (o, .inr (4, [.ref g, .long tk])), (g, .inr (2, [.ref b])), (b, .inl (gI G, 4096, .inl (arI d)))]) (st2 := [.int (iI (sz d i))]) C (ct_X4_size G (kl k) o g b tk d i (by omega)) gX1_26 dX1_entryCount_5 1 rfl rfl rfl rfl rfl (Nat.le_of_ble_eq_true rfl) (by decide) [1, 2, 3] rfl (by decide) [o, g, b] rfl rfl rfl rfl ?_
  have f_1 := sz_rg d i
  refine w_bipush C dX1_entryCount_8 (by decide) ?_
  refine w_idiv C dX1_entryCount_10 (by omega) ?_
  refine w_sipush C dX1_entryCount_11 (by decide) ?_
  refine w_min C 567 dX1_entryCount_14 (by decide +kernel) (by omega) (by decide) ?_
  exact w_reti hret dX1_entryCount_17 rfl rfl rfl rfl ⟨congrArg (fun z => some (Value.int (iI z))) rfl, rfl⟩

theorem gX1_38 : cwv RX1 38 yX4_contentPlace cX4_contentPlace 6 (some .int) 2 539 468 469 67 470 := by decide +kernel
set_option maxHeartbeats 4000000 in
set_option maxRecDepth 100000 in
theorem ct_X1_entryPlace (G : GX) (l : Launch) (h : Nat) (o : Nat) (g : Nat) (b : Nat) (m : Nat) (tk : Int64) (d : Im) (i : Int) (e : Int) (hi : -2147483648 ≤ i ∧ i < 2147483648) (he : 0 ≤ e ∧ e < 1000) : Ct G l yX1_entryPlace cX1_entryPlace 3 (some .int) rmX1_entryPlace [.ref h, .int (iI i), .int (iI e)] [(h, .inr (1, [.ref g, .ref o, .ref m])), (o, .inr (4, [.ref g, .long tk])), (g, .inr (2, [.ref b])), (b, .inl (gI G, 4096, .inl (arI d)))] (some (.int (iI (ep d i e)))) [(h, .inr (1, [.ref g, .ref o, .ref m])), (o, .inr (4, [.ref g, .long tk])), (g, .inr (2, [.ref b])), (b, .inl (gI G, 4096, .inl (arI d)))] := by
  refine Ct.of (by decide) (Nat.le_of_ble_eq_true rfl) ?_
  intro k C hl hret
  subst hl
  refine w_lv (lv2 := [(0, .ref h), (1, .int (iI i)), (2, .int (iI e))]) [0, 1, 2] rfl ?_
  refine w_aload_n C 0 dX1_entryPlace_0 rfl ?_
  refine w_get C 0 1 137 dX1_entryPlace_1 rfl rfl inX1 (by decide) (by decide +kernel) rfl ?_
  refine w_iload_n C 1 dX1_entryPlace_4 rfl ?_
  refine w_iload_n C 2 dX1_entryPlace_5 rfl ?_
  refine w_bipush C dX1_entryPlace_6 (by decide) ?_
  refine w_imul C dX1_entryPlace_8 ?_
  refine w_callV (As := [.int (iI i), .int (iI (e * 16))]) (rest := []) (w2 := [(h, .inr (1, [.ref g, .ref o, .ref m])), (o, .inr (4, [.ref g, .long tk])), (g, .inr (2, [.ref b])), (b, .inl (gI G, 4096, .inl (arI d)))]) (st2 := [.int (iI (cp d i (e * 16)))]) C (ct_X4_contentPlace G (kl k) o g b tk d i (e * 16) (by omega) (by omega)) gX1_38 dX1_entryPlace_9 1 rfl rfl rfl rfl rfl (Nat.le_of_ble_eq_true rfl) (by decide) [1, 2, 3] rfl (by decide) [o, g, b] rfl rfl rfl rfl ?_
  have f_1 := cp_rg d i (e * 16)
  exact w_reti hret dX1_entryPlace_12 rfl rfl rfl rfl ⟨congrArg (fun z => some (Value.int (iI z))) rfl, rfl⟩

theorem gX1_41 : cwv RX1 41 yX6_length cX6_length 1 (some .int) 0 546 547 548 69 549 := by decide +kernel
theorem gX1_55 : cwv RX1 55 yX2_at cX2_at 2 (some .int) 1 572 359 360 66 361 := by decide +kernel
theorem gX1_60 : cwv RX1 60 yX6_at cX6_at 2 (some .int) 1 550 551 552 69 553 := by decide +kernel
set_option maxHeartbeats 4000000 in
set_option maxRecDepth 100000 in
theorem ct_X1_isNamed (G : GX) (l : Launch) (h : Nat) (o : Nat) (g : Nat) (b : Nat) (m : Nat) (tk : Int64) (d : Im) (v : Nat) (vb : Nat) (nb : Im) (n : Int) (p : Int) (hn : 0 ≤ n ∧ n ≤ 14) (hp : -1 ≤ p ∧ p < 5000) : Ct G l yX1_isNamed cX1_isNamed 5 (some .boolean) rmX1_isNamed [.ref h, .int (iI p), .ref v] [(h, .inr (1, [.ref g, .ref o, .ref m])), (o, .inr (4, [.ref g, .long tk])), (g, .inr (2, [.ref b])), (b, .inl (gI G, 4096, .inl (arI d))), (v, .inr (5, [.ref vb, .int (iI n)])), (vb, .inl (gI G, 14, .inl (arI nb)))] (some (.int (iI (bI (nmd d p nb n))))) [(h, .inr (1, [.ref g, .ref o, .ref m])), (o, .inr (4, [.ref g, .long tk])), (g, .inr (2, [.ref b])), (b, .inl (gI G, 4096, .inl (arI d))), (v, .inr (5, [.ref vb, .int (iI n)])), (vb, .inl (gI G, 14, .inl (arI nb)))] := by
  refine Ct.of (by decide) (Nat.le_of_ble_eq_true rfl) ?_
  intro k C hl hret
  subst hl
  refine w_lv (lv2 := [(0, .ref h), (1, .int (iI p)), (2, .ref v)]) [0, 1, 2] rfl ?_
  refine w_aload_n C 2 dX1_isNamed_0 rfl ?_
  refine w_callV (As := []) (rest := []) (w2 := [(h, .inr (1, [.ref g, .ref o, .ref m])), (o, .inr (4, [.ref g, .long tk])), (g, .inr (2, [.ref b])), (b, .inl (gI G, 4096, .inl (arI d))), (v, .inr (5, [.ref vb, .int (iI n)])), (vb, .inl (gI G, 14, .inl (arI nb)))]) (st2 := [.int (iI n)]) C (ct_X6_length G (kl k) v vb nb n) gX1_41 dX1_isNamed_1 4 rfl rfl rfl rfl rfl (Nat.le_of_ble_eq_true rfl) (by decide) [4, 5] rfl (by decide) [v, vb] rfl rfl rfl rfl ?_
  refine w_istore_n (lv2 := [(0, .ref h), (1, .int (iI p)), (2, .ref v), (3, .int (iI n))]) C dX1_isNamed_4 (by decide) rfl ?_
  refine w_aload_n C 0 dX1_isNamed_5 rfl ?_
  refine w_get C 0 0 136 dX1_isNamed_6 rfl rfl inX1 (by decide) (by decide +kernel) rfl ?_
  refine w_iload_n C 1 dX1_isNamed_9 rfl ?_
  refine w_iconst C dX1_isNamed_10 ?_
  refine w_iadd C dX1_isNamed_11 ?_
  refine w_callV (As := [.int (iI (p + 1))]) (rest := []) (w2 := [(h, .inr (1, [.ref g, .ref o, .ref m])), (o, .inr (4, [.ref g, .long tk])), (g, .inr (2, [.ref b])), (b, .inl (gI G, 4096, .inl (arI d))), (v, .inr (5, [.ref vb, .int (iI n)])), (vb, .inl (gI G, 14, .inl (arI nb)))]) (st2 := [.int (iI (im_at d (p + 1)))]) C (ct_X2_at G (kl k) g b d (p + 1) (by omega)) gX1_55 dX1_isNamed_12 2 rfl rfl rfl rfl rfl (Nat.le_of_ble_eq_true rfl) (by decide) [2, 3] rfl (by decide) [g, b] rfl rfl rfl rfl ?_
  have f_1 := im_at_rg d (p + 1)
  refine w_iload_n C 3 dX1_isNamed_15 rfl ?_
  refine w_icmp_eq C 21 dX1_isNamed_16 rfl (by omega) (fun c_2 => ?_) (fun c_2 => ?_)
  · have hc : im_at d (p + 1) = n := by assumption
    refine w_iconst C dX1_isNamed_21 ?_
    refine w_istore (lv2 := [(0, .ref h), (1, .int (iI p)), (2, .ref v), (3, .int (iI n)), (4, .int (iI 0))]) C dX1_isNamed_22 (by decide) rfl ?_
    have L_24 : ∀ (nn_24 : Nat) (j : Int), (0 ≤ j ∧ j ≤ n) → (∀ q : Int, 0 ≤ q → q < j → im_at d (p + 2 + q) = nm_at nb n q) → (n - j).toNat = nn_24 → Wd G k 5 0 0 [(h, .inr (1, [.ref g, .ref o, .ref m])), (o, .inr (4, [.ref g, .long tk])), (g, .inr (2, [.ref b])), (b, .inl (gI G, 4096, .inl (arI d))), (v, .inr (5, [.ref vb, .int (iI n)])), (vb, .inl (gI G, 14, .inl (arI nb)))] 24 [(0, .ref h), (1, .int (iI p)), (2, .ref v), (3, .int (iI n)), (4, .int (iI j))] [] := by
      intro nn_24
      induction nn_24 using Nat.strongRecOn with
      | ind nn_24 ih_24 =>
        intro j h1 h2 hm_24
        refine w_iload C 4 dX1_isNamed_24 rfl ?_
        refine w_iload_n C 3 dX1_isNamed_26 rfl ?_
        refine w_icmp_ge C 60 dX1_isNamed_27 rfl (by omega) (fun c_3 => ?_) (fun c_3 => ?_)
        · refine w_iconst C dX1_isNamed_60 ?_
          exact w_reti hret dX1_isNamed_61 rfl rfl rfl rfl ⟨congrArg (fun z => some (Value.int (iI z))) (by unfold nmd; rw [decide_eq_true hc, (nmk_iff d p nb n n.toNat).mpr (fun q a b => h2 q a (by omega))]; rfl), rfl⟩
        · refine w_aload_n C 0 dX1_isNamed_30 rfl ?_
          refine w_get C 0 0 136 dX1_isNamed_31 rfl rfl inX1 (by decide) (by decide +kernel) rfl ?_
          refine w_iload_n C 1 dX1_isNamed_34 rfl ?_
          refine w_iconst C dX1_isNamed_35 ?_
          refine w_iadd C dX1_isNamed_36 ?_
          refine w_iload C 4 dX1_isNamed_37 rfl ?_
          refine w_iadd C dX1_isNamed_39 ?_
          refine w_callV (As := [.int (iI ((p + 2) + j))]) (rest := []) (w2 := [(h, .inr (1, [.ref g, .ref o, .ref m])), (o, .inr (4, [.ref g, .long tk])), (g, .inr (2, [.ref b])), (b, .inl (gI G, 4096, .inl (arI d))), (v, .inr (5, [.ref vb, .int (iI n)])), (vb, .inl (gI G, 14, .inl (arI nb)))]) (st2 := [.int (iI (im_at d ((p + 2) + j)))]) C (ct_X2_at G (kl k) g b d ((p + 2) + j) (by omega)) gX1_55 dX1_isNamed_40 2 rfl rfl rfl rfl rfl (Nat.le_of_ble_eq_true rfl) (by decide) [2, 3] rfl (by decide) [g, b] rfl rfl rfl rfl ?_
          have f_4 := im_at_rg d ((p + 2) + j)
          refine w_aload_n C 2 dX1_isNamed_43 rfl ?_
          refine w_iload C 4 dX1_isNamed_44 rfl ?_
          refine w_callV (As := [.int (iI j)]) (rest := [.int (iI (im_at d ((p + 2) + j)))]) (w2 := [(h, .inr (1, [.ref g, .ref o, .ref m])), (o, .inr (4, [.ref g, .long tk])), (g, .inr (2, [.ref b])), (b, .inl (gI G, 4096, .inl (arI d))), (v, .inr (5, [.ref vb, .int (iI n)])), (vb, .inl (gI G, 14, .inl (arI nb)))]) (st2 := [.int (iI (nm_at nb n j)), .int (iI (im_at d ((p + 2) + j)))]) C (ct_X6_at G (kl k) v vb nb n j (by omega) (by omega)) gX1_60 dX1_isNamed_46 4 rfl rfl rfl rfl rfl (Nat.le_of_ble_eq_true rfl) (by decide) [4, 5] rfl (by decide) [v, vb] rfl rfl rfl rfl ?_
          have f_5 := nm_at_rg nb n j
          refine w_icmp_eq C 54 dX1_isNamed_49 rfl (by omega) (fun c_6 => ?_) (fun c_6 => ?_)
          · refine w_iinc (lv2 := [(0, .ref h), (1, .int (iI p)), (2, .ref v), (3, .int (iI n)), (4, .int (iI (j + 1)))]) C 4 dX1_isNamed_54 rfl (by decide) rfl ?_
            refine w_goto C 24 dX1_isNamed_57 rfl ?_
            refine w_lv (lv2 := [(0, .ref h), (1, .int (iI p)), (2, .ref v), (3, .int (iI n)), (4, .int (iI ((j + 1))))]) [0, 1, 2, 3, 4] rfl ?_
            exact ih_24 _ (by omega) (j + 1) (by omega) (fun q a b => if z : q = j then (by rw [z]; assumption) else h2 q a (by omega)) rfl
          · refine w_iconst C dX1_isNamed_52 ?_
            exact w_reti hret dX1_isNamed_53 rfl rfl rfl rfl ⟨congrArg (fun z => some (Value.int (iI z))) (by unfold nmd; rw [show nmk d p nb n n.toNat = false from by cases z : nmk d p nb n n.toNat with | false => rfl | true => exact absurd ((nmk_iff d p nb n n.toNat).mp z j (by omega) (by omega)) (by assumption), Bool.and_false]; rfl), rfl⟩
    exact L_24 _ 0 (by omega) (fun q a b => by omega) rfl
  · refine w_iconst C dX1_isNamed_19 ?_
    exact w_reti hret dX1_isNamed_20 rfl rfl rfl rfl ⟨congrArg (fun z => some (Value.int (iI z))) (by unfold nmd; rw [decide_eq_false (by assumption)]; rfl), rfl⟩

theorem gX1_45 : cwv RX1 45 yX1_entryCount cX1_entryCount 2 (some .int) 1 562 563 564 68 565 := by decide +kernel
theorem gX1_48 : cwv RX1 48 yX1_entryPlace cX1_entryPlace 3 (some .int) 2 535 536 537 68 538 := by decide +kernel
theorem gX1_51 : cwv RX1 51 yX1_isNamed cX1_isNamed 5 (some .boolean) 2 588 590 6 68 591 := by decide +kernel
set_option maxHeartbeats 4000000 in
set_option maxRecDepth 100000 in
theorem ct_X1_seek (G : GX) (l : Launch) (h : Nat) (o : Nat) (g : Nat) (b : Nat) (m : Nat) (tk : Int64) (d : Im) (v : Nat) (vb : Nat) (nb : Im) (n : Int) (i : Int) (hn : 0 ≤ n ∧ n ≤ 14) (hi : -2147483648 ≤ i ∧ i < 2147483648) : Ct G l yX1_seek cX1_seek 6 (some .int) rmX1_seek [.ref h, .int (iI i), .ref v] [(h, .inr (1, [.ref g, .ref o, .ref m])), (o, .inr (4, [.ref g, .long tk])), (g, .inr (2, [.ref b])), (b, .inl (gI G, 4096, .inl (arI d))), (v, .inr (5, [.ref vb, .int (iI n)])), (vb, .inl (gI G, 14, .inl (arI nb)))] (some (.int (iI (sk d i nb n)))) [(h, .inr (1, [.ref g, .ref o, .ref m])), (o, .inr (4, [.ref g, .long tk])), (g, .inr (2, [.ref b])), (b, .inl (gI G, 4096, .inl (arI d))), (v, .inr (5, [.ref vb, .int (iI n)])), (vb, .inl (gI G, 14, .inl (arI nb)))] := by
  refine Ct.of (by decide) (Nat.le_of_ble_eq_true rfl) ?_
  intro k C hl hret
  subst hl
  refine w_lv (lv2 := [(0, .ref h), (1, .int (iI i)), (2, .ref v)]) [0, 1, 2] rfl ?_
  refine w_aload_n C 2 dX1_seek_0 rfl ?_
  refine w_callV (As := []) (rest := []) (w2 := [(h, .inr (1, [.ref g, .ref o, .ref m])), (o, .inr (4, [.ref g, .long tk])), (g, .inr (2, [.ref b])), (b, .inl (gI G, 4096, .inl (arI d))), (v, .inr (5, [.ref vb, .int (iI n)])), (vb, .inl (gI G, 14, .inl (arI nb)))]) (st2 := [.int (iI n)]) C (ct_X6_length G (kl k) v vb nb n) gX1_41 dX1_seek_1 4 rfl rfl rfl rfl rfl (Nat.le_of_ble_eq_true rfl) (by decide) [4, 5] rfl (by decide) [v, vb] rfl rfl rfl rfl ?_
  refine w_if_ne C 9 dX1_seek_4 rfl (by omega) (fun c_1 => ?_) (fun c_1 => ?_)
  · refine w_aload_n C 0 dX1_seek_9 rfl ?_
    refine w_iload_n C 1 dX1_seek_10 rfl ?_
    refine w_callV (As := [.int (iI i)]) (rest := []) (w2 := [(h, .inr (1, [.ref g, .ref o, .ref m])), (o, .inr (4, [.ref g, .long tk])), (g, .inr (2, [.ref b])), (b, .inl (gI G, 4096, .inl (arI d))), (v, .inr (5, [.ref vb, .int (iI n)])), (vb, .inl (gI G, 14, .inl (arI nb)))]) (st2 := [.int (iI (ec d i))]) C (ct_X1_entryCount G (kl k) h o g b m tk d i (by omega)) gX1_45 dX1_seek_11 0 rfl rfl rfl rfl rfl (Nat.le_of_ble_eq_true rfl) (by decide) [0, 1, 2, 3] rfl (by decide) [h, o, g, b] rfl rfl rfl rfl ?_
    have f_2 := ec_rg d i
    refine w_istore_n (lv2 := [(0, .ref h), (1, .int (iI i)), (2, .ref v), (3, .int (iI (ec d i)))]) C dX1_seek_14 (by decide) rfl ?_
    refine w_iconst C dX1_seek_15 ?_
    refine w_istore (lv2 := [(0, .ref h), (1, .int (iI i)), (2, .ref v), (3, .int (iI (ec d i))), (4, .int (iI 2))]) C dX1_seek_16 (by decide) rfl ?_
    have L_18 : ∀ (nn_18 : Nat) (e : Int), (2 ≤ e ∧ e ≤ 184) → (sk d i nb n = sks d i nb n (ec d i - e).toNat e) → (ec d i - e).toNat = nn_18 → Wd G k 6 0 0 [(h, .inr (1, [.ref g, .ref o, .ref m])), (o, .inr (4, [.ref g, .long tk])), (g, .inr (2, [.ref b])), (b, .inl (gI G, 4096, .inl (arI d))), (v, .inr (5, [.ref vb, .int (iI n)])), (vb, .inl (gI G, 14, .inl (arI nb)))] 18 [(0, .ref h), (1, .int (iI i)), (2, .ref v), (3, .int (iI (ec d i))), (4, .int (iI e))] [] := by
      intro nn_18
      induction nn_18 using Nat.strongRecOn with
      | ind nn_18 ih_18 =>
        intro e h1 h2 hm_18
        have q9 := ec_rg d i
        refine w_iload C 4 dX1_seek_18 rfl ?_
        refine w_iload_n C 3 dX1_seek_20 rfl ?_
        refine w_icmp_ge C 58 dX1_seek_21 rfl (by omega) (fun c_3 => ?_) (fun c_3 => ?_)
        · refine w_iconst C dX1_seek_58 ?_
          exact w_reti hret dX1_seek_59 rfl rfl rfl rfl ⟨congrArg (fun z => some (Value.int (iI z))) (by rw [h2, show (ec d i - e).toNat = 0 by omega, sks]), rfl⟩
        · refine w_aload_n C 0 dX1_seek_24 rfl ?_
          refine w_iload_n C 1 dX1_seek_25 rfl ?_
          refine w_iload C 4 dX1_seek_26 rfl ?_
          refine w_callV (As := [.int (iI i), .int (iI e)]) (rest := []) (w2 := [(h, .inr (1, [.ref g, .ref o, .ref m])), (o, .inr (4, [.ref g, .long tk])), (g, .inr (2, [.ref b])), (b, .inl (gI G, 4096, .inl (arI d))), (v, .inr (5, [.ref vb, .int (iI n)])), (vb, .inl (gI G, 14, .inl (arI nb)))]) (st2 := [.int (iI (ep d i e))]) C (ct_X1_entryPlace G (kl k) h o g b m tk d i e (by omega) (by omega)) gX1_48 dX1_seek_28 0 rfl rfl rfl rfl rfl (Nat.le_of_ble_eq_true rfl) (by decide) [0, 1, 2, 3] rfl (by decide) [h, o, g, b] rfl rfl rfl rfl ?_
          have f_4 := ep_rg d i e
          refine w_istore (lv2 := [(0, .ref h), (1, .int (iI i)), (2, .ref v), (3, .int (iI (ec d i))), (4, .int (iI e)), (5, .int (iI (ep d i e)))]) C dX1_seek_31 (by decide) rfl ?_
          refine w_iload C 5 dX1_seek_33 rfl ?_
          refine w_iconst C dX1_seek_35 ?_
          refine w_icmp_eq C 52 dX1_seek_36 rfl (by omega) (fun c_5 => ?_) (fun c_5 => ?_)
          · refine w_iinc (lv2 := [(0, .ref h), (1, .int (iI i)), (2, .ref v), (3, .int (iI (ec d i))), (4, .int (iI (e + 1))), (5, .int (iI (ep d i e)))]) C 4 dX1_seek_52 rfl (by decide) rfl ?_
            refine w_goto C 18 dX1_seek_55 rfl ?_
            refine w_lv (lv2 := [(0, .ref h), (1, .int (iI i)), (2, .ref v), (3, .int (iI (ec d i))), (4, .int (iI ((e + 1))))]) [0, 1, 2, 3, 4] rfl ?_
            exact ih_18 _ (by omega) (e + 1) (by omega) (by rw [h2, show (ec d i - e).toNat = (ec d i - (e + 1)).toNat + 1 by omega, sks, if_neg (by simp [c_1, c_3, c_5])]) rfl
          · refine w_aload_n C 0 dX1_seek_39 rfl ?_
            refine w_iload C 5 dX1_seek_40 rfl ?_
            refine w_aload_n C 2 dX1_seek_42 rfl ?_
            refine w_callV (As := [.int (iI (ep d i e)), .ref v]) (rest := []) (w2 := [(h, .inr (1, [.ref g, .ref o, .ref m])), (o, .inr (4, [.ref g, .long tk])), (g, .inr (2, [.ref b])), (b, .inl (gI G, 4096, .inl (arI d))), (v, .inr (5, [.ref vb, .int (iI n)])), (vb, .inl (gI G, 14, .inl (arI nb)))]) (st2 := [.int (iI (bI (nmd d (ep d i e) nb n)))]) C (ct_X1_isNamed G (kl k) h o g b m tk d v vb nb n (ep d i e) (by omega) (by omega)) gX1_51 dX1_seek_43 0 rfl rfl rfl rfl rfl (Nat.le_of_ble_eq_true rfl) (by decide) [0, 1, 2, 3, 4, 5] rfl (by decide) [h, o, g, b, v, vb] rfl rfl rfl rfl ?_
            refine w_bz C 52 dX1_seek_46 rfl (fun c_6 => ?_) (fun c_6 => ?_)
            · refine w_iinc (lv2 := [(0, .ref h), (1, .int (iI i)), (2, .ref v), (3, .int (iI (ec d i))), (4, .int (iI (e + 1))), (5, .int (iI (ep d i e)))]) C 4 dX1_seek_52 rfl (by decide) rfl ?_
              refine w_goto C 18 dX1_seek_55 rfl ?_
              refine w_lv (lv2 := [(0, .ref h), (1, .int (iI i)), (2, .ref v), (3, .int (iI (ec d i))), (4, .int (iI ((e + 1))))]) [0, 1, 2, 3, 4] rfl ?_
              exact ih_18 _ (by omega) (e + 1) (by omega) (by rw [h2, show (ec d i - e).toNat = (ec d i - (e + 1)).toNat + 1 by omega, sks, if_neg (by simp [c_1, c_3, c_5, c_6])]) rfl
            · refine w_iload C 5 dX1_seek_49 rfl ?_
              exact w_reti hret dX1_seek_51 rfl rfl rfl rfl ⟨congrArg (fun z => some (Value.int (iI z))) (by rw [h2, show (ec d i - e).toNat = (ec d i - (e + 1)).toNat + 1 by omega, sks, if_pos (by simp [c_1, c_3, c_5, c_6])]), rfl⟩
    exact L_18 _ 2 (by omega) (by unfold sk; rw [if_neg (by assumption)]) rfl
  · refine w_iconst C dX1_seek_7 ?_
    exact w_reti hret dX1_seek_8 rfl rfl rfl rfl ⟨congrArg (fun z => some (Value.int (iI z))) (by unfold sk; rw [if_pos (by assumption)]), rfl⟩

theorem gX1_61 : cwv RX1 61 yX2_wipe cX2_wipe 3 none 2 544 262 263 66 264 := by decide +kernel
theorem gX1_65 : cwv RX1 65 yX2_set cX2_set 3 none 2 545 332 333 66 334 := by decide +kernel
set_option maxHeartbeats 4000000 in
set_option maxRecDepth 100000 in
theorem ct_X1_writeEntry (G : GX) (l : Launch) (h : Nat) (o : Nat) (g : Nat) (b : Nat) (m : Nat) (tk : Int64) (d : Im) (v : Nat) (vb : Nat) (nb : Im) (n : Int) (p : Int) (i : Int) (hn : 0 ≤ n ∧ n ≤ 14) (hp : -1 ≤ p ∧ p < 5000) : Ct G l yX1_writeEntry cX1_writeEntry 5 none rmX1_writeEntry [.ref h, .int (iI p), .int (iI i), .ref v] [(h, .inr (1, [.ref g, .ref o, .ref m])), (o, .inr (4, [.ref g, .long tk])), (g, .inr (2, [.ref b])), (b, .inl (gI G, 4096, .inl (arI d))), (v, .inr (5, [.ref vb, .int (iI n)])), (vb, .inl (gI G, 14, .inl (arI nb)))] none [(h, .inr (1, [.ref g, .ref o, .ref m])), (o, .inr (4, [.ref g, .long tk])), (g, .inr (2, [.ref b])), (b, .inl (gI G, 4096, .inl (arI (we d p i nb n)))), (v, .inr (5, [.ref vb, .int (iI n)])), (vb, .inl (gI G, 14, .inl (arI nb)))] := by
  refine Ct.of (by decide) (Nat.le_of_ble_eq_true rfl) ?_
  intro k C hl hret
  subst hl
  refine w_lv (lv2 := [(0, .ref h), (1, .int (iI p)), (2, .int (iI i)), (3, .ref v)]) [0, 1, 2, 3] rfl ?_
  refine w_aload_n C 0 dX1_writeEntry_0 rfl ?_
  refine w_get C 0 0 136 dX1_writeEntry_1 rfl rfl inX1 (by decide) (by decide +kernel) rfl ?_
  refine w_iload_n C 1 dX1_writeEntry_4 rfl ?_
  refine w_bipush C dX1_writeEntry_5 (by decide) ?_
  refine w_callV (As := [.int (iI p), .int (iI 16)]) (rest := []) (w2 := [(h, .inr (1, [.ref g, .ref o, .ref m])), (o, .inr (4, [.ref g, .long tk])), (g, .inr (2, [.ref b])), (b, .inl (gI G, 4096, .inl (arI (im_wipe d p 16)))), (v, .inr (5, [.ref vb, .int (iI n)])), (vb, .inl (gI G, 14, .inl (arI nb)))]) (st2 := []) C (ct_X2_wipe G (kl k) g b d p 16 (by omega) (by omega)) gX1_61 dX1_writeEntry_7 2 rfl rfl rfl rfl rfl (Nat.le_of_ble_eq_true rfl) (by decide) [2, 3] rfl (by decide) [g, b] rfl rfl rfl rfl ?_
  refine w_aload_n C 0 dX1_writeEntry_10 rfl ?_
  refine w_get C 0 0 136 dX1_writeEntry_11 rfl rfl inX1 (by decide) (by decide +kernel) rfl ?_
  refine w_iload_n C 1 dX1_writeEntry_14 rfl ?_
  refine w_iload_n C 2 dX1_writeEntry_15 rfl ?_
  refine w_callV (As := [.int (iI p), .int (iI i)]) (rest := []) (w2 := [(h, .inr (1, [.ref g, .ref o, .ref m])), (o, .inr (4, [.ref g, .long tk])), (g, .inr (2, [.ref b])), (b, .inl (gI G, 4096, .inl (arI (im_set (im_wipe d p 16) p i)))), (v, .inr (5, [.ref vb, .int (iI n)])), (vb, .inl (gI G, 14, .inl (arI nb)))]) (st2 := []) C (ct_X2_set G (kl k) g b (im_wipe d p 16) p i (by omega)) gX1_65 dX1_writeEntry_16 2 rfl rfl rfl rfl rfl (Nat.le_of_ble_eq_true rfl) (by decide) [2, 3] rfl (by decide) [g, b] rfl rfl rfl rfl ?_
  refine w_aload_n C 0 dX1_writeEntry_19 rfl ?_
  refine w_get C 0 0 136 dX1_writeEntry_20 rfl rfl inX1 (by decide) (by decide +kernel) rfl ?_
  refine w_iload_n C 1 dX1_writeEntry_23 rfl ?_
  refine w_iconst C dX1_writeEntry_24 ?_
  refine w_iadd C dX1_writeEntry_25 ?_
  refine w_aload_n C 3 dX1_writeEntry_26 rfl ?_
  refine w_callV (As := []) (rest := [.int (iI (p + 1)), .ref g]) (w2 := [(h, .inr (1, [.ref g, .ref o, .ref m])), (o, .inr (4, [.ref g, .long tk])), (g, .inr (2, [.ref b])), (b, .inl (gI G, 4096, .inl (arI (im_set (im_wipe d p 16) p i)))), (v, .inr (5, [.ref vb, .int (iI n)])), (vb, .inl (gI G, 14, .inl (arI nb)))]) (st2 := [.int (iI n), .int (iI (p + 1)), .ref g]) C (ct_X6_length G (kl k) v vb nb n) gX1_41 dX1_writeEntry_27 4 rfl rfl rfl rfl rfl (Nat.le_of_ble_eq_true rfl) (by decide) [4, 5] rfl (by decide) [v, vb] rfl rfl rfl rfl ?_
  refine w_callV (As := [.int (iI (p + 1)), .int (iI n)]) (rest := []) (w2 := [(h, .inr (1, [.ref g, .ref o, .ref m])), (o, .inr (4, [.ref g, .long tk])), (g, .inr (2, [.ref b])), (b, .inl (gI G, 4096, .inl (arI (im_set (im_set (im_wipe d p 16) p i) (p + 1) n)))), (v, .inr (5, [.ref vb, .int (iI n)])), (vb, .inl (gI G, 14, .inl (arI nb)))]) (st2 := []) C (ct_X2_set G (kl k) g b (im_set (im_wipe d p 16) p i) (p + 1) n (by omega)) gX1_65 dX1_writeEntry_30 2 rfl rfl rfl rfl rfl (Nat.le_of_ble_eq_true rfl) (by decide) [2, 3] rfl (by decide) [g, b] rfl rfl rfl rfl ?_
  refine w_iconst C dX1_writeEntry_33 ?_
  refine w_istore (lv2 := [(0, .ref h), (1, .int (iI p)), (2, .int (iI i)), (3, .ref v), (4, .int (iI 0))]) C dX1_writeEntry_34 (by decide) rfl ?_
  refine w_ord (ws2 := [(h, .inr (1, [.ref g, .ref o, .ref m])), (o, .inr (4, [.ref g, .long tk])), (g, .inr (2, [.ref b])), (b, .inl (gI G, 4096, .inl (arI ((im_set (im_set (im_wipe d p 16) p i) (p + 1) n))))), (v, .inr (5, [.ref vb, .int (iI n)])), (vb, .inl (gI G, 14, .inl (arI nb)))]) [0, 1, 2, 3, 4, 5] rfl (by decide) ?_
  have L_36 : ∀ (nn_36 : Nat) (j : Int) (x : Im), (0 ≤ j ∧ j ≤ n) → (x = wek (im_set (im_set (im_wipe d p 16) p i) (p + 1) n) p nb n j.toNat) → (n - j).toNat = nn_36 → Wd G k 5 0 0 [(h, .inr (1, [.ref g, .ref o, .ref m])), (o, .inr (4, [.ref g, .long tk])), (g, .inr (2, [.ref b])), (b, .inl (gI G, 4096, .inl (arI x))), (v, .inr (5, [.ref vb, .int (iI n)])), (vb, .inl (gI G, 14, .inl (arI nb)))] 36 [(0, .ref h), (1, .int (iI p)), (2, .int (iI i)), (3, .ref v), (4, .int (iI j))] [] := by
    intro nn_36
    induction nn_36 using Nat.strongRecOn with
    | ind nn_36 ih_36 =>
      intro j x h1 h2 hm_36
      refine w_iload C 4 dX1_writeEntry_36 rfl ?_
      refine w_aload_n C 3 dX1_writeEntry_38 rfl ?_
      refine w_callV (As := []) (rest := [.int (iI j)]) (w2 := [(h, .inr (1, [.ref g, .ref o, .ref m])), (o, .inr (4, [.ref g, .long tk])), (g, .inr (2, [.ref b])), (b, .inl (gI G, 4096, .inl (arI x))), (v, .inr (5, [.ref vb, .int (iI n)])), (vb, .inl (gI G, 14, .inl (arI nb)))]) (st2 := [.int (iI n), .int (iI j)]) C (ct_X6_length G (kl k) v vb nb n) gX1_41 dX1_writeEntry_39 4 rfl rfl rfl rfl rfl (Nat.le_of_ble_eq_true rfl) (by decide) [4, 5] rfl (by decide) [v, vb] rfl rfl rfl rfl ?_
      refine w_icmp_ge C 70 dX1_writeEntry_42 rfl (by omega) (fun c_1 => ?_) (fun c_1 => ?_)
      · exact w_retv hret dX1_writeEntry_70 rfl rfl rfl ⟨rfl, (by unfold we; rw [h2, show j = n by omega])⟩
      · refine w_aload_n C 0 dX1_writeEntry_45 rfl ?_
        refine w_get C 0 0 136 dX1_writeEntry_46 rfl rfl inX1 (by decide) (by decide +kernel) rfl ?_
        refine w_iload_n C 1 dX1_writeEntry_49 rfl ?_
        refine w_iconst C dX1_writeEntry_50 ?_
        refine w_iadd C dX1_writeEntry_51 ?_
        refine w_iload C 4 dX1_writeEntry_52 rfl ?_
        refine w_iadd C dX1_writeEntry_54 ?_
        refine w_aload_n C 3 dX1_writeEntry_55 rfl ?_
        refine w_iload C 4 dX1_writeEntry_56 rfl ?_
        refine w_callV (As := [.int (iI j)]) (rest := [.int (iI ((p + 2) + j)), .ref g]) (w2 := [(h, .inr (1, [.ref g, .ref o, .ref m])), (o, .inr (4, [.ref g, .long tk])), (g, .inr (2, [.ref b])), (b, .inl (gI G, 4096, .inl (arI x))), (v, .inr (5, [.ref vb, .int (iI n)])), (vb, .inl (gI G, 14, .inl (arI nb)))]) (st2 := [.int (iI (nm_at nb n j)), .int (iI ((p + 2) + j)), .ref g]) C (ct_X6_at G (kl k) v vb nb n j (by omega) (by omega)) gX1_60 dX1_writeEntry_58 4 rfl rfl rfl rfl rfl (Nat.le_of_ble_eq_true rfl) (by decide) [4, 5] rfl (by decide) [v, vb] rfl rfl rfl rfl ?_
        have f_2 := nm_at_rg nb n j
        refine w_callV (As := [.int (iI ((p + 2) + j)), .int (iI (nm_at nb n j))]) (rest := []) (w2 := [(h, .inr (1, [.ref g, .ref o, .ref m])), (o, .inr (4, [.ref g, .long tk])), (g, .inr (2, [.ref b])), (b, .inl (gI G, 4096, .inl (arI (im_set x ((p + 2) + j) (nm_at nb n j))))), (v, .inr (5, [.ref vb, .int (iI n)])), (vb, .inl (gI G, 14, .inl (arI nb)))]) (st2 := []) C (ct_X2_set G (kl k) g b x ((p + 2) + j) (nm_at nb n j) (by omega)) gX1_65 dX1_writeEntry_61 2 rfl rfl rfl rfl rfl (Nat.le_of_ble_eq_true rfl) (by decide) [2, 3] rfl (by decide) [g, b] rfl rfl rfl rfl ?_
        refine w_iinc (lv2 := [(0, .ref h), (1, .int (iI p)), (2, .int (iI i)), (3, .ref v), (4, .int (iI (j + 1)))]) C 4 dX1_writeEntry_64 rfl (by decide) rfl ?_
        refine w_goto C 36 dX1_writeEntry_67 rfl ?_
        refine w_ord (ws2 := [(h, .inr (1, [.ref g, .ref o, .ref m])), (o, .inr (4, [.ref g, .long tk])), (g, .inr (2, [.ref b])), (b, .inl (gI G, 4096, .inl (arI ((im_set x ((p + 2) + j) (nm_at nb n j)))))), (v, .inr (5, [.ref vb, .int (iI n)])), (vb, .inl (gI G, 14, .inl (arI nb)))]) [0, 1, 2, 3, 4, 5] rfl (by decide) ?_
        refine w_lv (lv2 := [(0, .ref h), (1, .int (iI p)), (2, .int (iI i)), (3, .ref v), (4, .int (iI ((j + 1))))]) [0, 1, 2, 3, 4] rfl ?_
        exact ih_36 _ (by omega) (j + 1) (im_set x ((p + 2) + j) (nm_at nb n j)) (by omega) (by rw [h2, show (j + 1).toNat = j.toNat + 1 by omega, wek, show ((j.toNat : Nat) : Int) = j by omega]) rfl
  exact L_36 _ 0 (im_set (im_set (im_wipe d p 16) p i) (p + 1) n) (by omega) rfl rfl

set_option maxHeartbeats 4000000 in
set_option maxRecDepth 100000 in
theorem ct_X1_wipeEntry (G : GX) (l : Launch) (h : Nat) (o : Nat) (g : Nat) (b : Nat) (m : Nat) (tk : Int64) (d : Im) (p : Int) (hp : -1 ≤ p ∧ p < 5000) : Ct G l yX1_wipeEntry cX1_wipeEntry 2 none rmX1_wipeEntry [.ref h, .int (iI p)] [(h, .inr (1, [.ref g, .ref o, .ref m])), (o, .inr (4, [.ref g, .long tk])), (g, .inr (2, [.ref b])), (b, .inl (gI G, 4096, .inl (arI d)))] none [(h, .inr (1, [.ref g, .ref o, .ref m])), (o, .inr (4, [.ref g, .long tk])), (g, .inr (2, [.ref b])), (b, .inl (gI G, 4096, .inl (arI (im_wipe d p 16))))] := by
  refine Ct.of (by decide) (Nat.le_of_ble_eq_true rfl) ?_
  intro k C hl hret
  subst hl
  refine w_lv (lv2 := [(0, .ref h), (1, .int (iI p))]) [0, 1] rfl ?_
  refine w_aload_n C 0 dX1_wipeEntry_0 rfl ?_
  refine w_get C 0 0 136 dX1_wipeEntry_1 rfl rfl inX1 (by decide) (by decide +kernel) rfl ?_
  refine w_iload_n C 1 dX1_wipeEntry_4 rfl ?_
  refine w_bipush C dX1_wipeEntry_5 (by decide) ?_
  refine w_callV (As := [.int (iI p), .int (iI 16)]) (rest := []) (w2 := [(h, .inr (1, [.ref g, .ref o, .ref m])), (o, .inr (4, [.ref g, .long tk])), (g, .inr (2, [.ref b])), (b, .inl (gI G, 4096, .inl (arI (im_wipe d p 16))))]) (st2 := []) C (ct_X2_wipe G (kl k) g b d p 16 (by omega) (by omega)) gX1_61 dX1_wipeEntry_7 2 rfl rfl rfl rfl rfl (Nat.le_of_ble_eq_true rfl) (by decide) [2, 3] rfl (by decide) [g, b] rfl rfl rfl rfl ?_
  exact w_retv hret dX1_wipeEntry_10 rfl rfl rfl ⟨rfl, rfl⟩

theorem gX1_70 : cwv RX1 70 yX6_spell cX6_spell 3 none 1 525 526 527 69 528 := by decide +kernel
theorem gX1_74 : cwv RX1 74 yX1_writeEntry cX1_writeEntry 5 none 3 540 541 542 68 543 := by decide +kernel
set_option maxHeartbeats 4000000 in
set_option maxRecDepth 100000 in
theorem ct_X1_writeDots (G : GX) (l : Launch) (h : Nat) (o : Nat) (g : Nat) (b : Nat) (m : Nat) (tk : Int64) (d : Im) (mb : Nat) (nb : Im) (n : Int) (i : Int) (p : Int) (hi : -2147483648 ≤ i ∧ i < 2147483648) : Ct G l yX1_writeDots cX1_writeDots 3 none rmX1_writeDots [.ref h, .int (iI i), .int (iI p)] [(h, .inr (1, [.ref g, .ref o, .ref m])), (o, .inr (4, [.ref g, .long tk])), (g, .inr (2, [.ref b])), (b, .inl (gI G, 4096, .inl (arI d))), (m, .inr (5, [.ref mb, .int (iI n)])), (mb, .inl (gI G, 14, .inl (arI nb)))] none [(h, .inr (1, [.ref g, .ref o, .ref m])), (o, .inr (4, [.ref g, .long tk])), (g, .inr (2, [.ref b])), (b, .inl (gI G, 4096, .inl (arI (dtD d nb i p)))), (m, .inr (5, [.ref mb, .int (iI (tn 3))])), (mb, .inl (gI G, 14, .inl (arI (dtN nb))))] := by
  refine Ct.of (by decide) (Nat.le_of_ble_eq_true rfl) ?_
  intro k C hl hret
  subst hl
  refine w_lv (lv2 := [(0, .ref h), (1, .int (iI i)), (2, .int (iI p))]) [0, 1, 2] rfl ?_
  refine w_aload_n C 0 dX1_writeDots_0 rfl ?_
  refine w_get C 0 2 138 dX1_writeDots_1 rfl rfl inX1 (by decide) (by decide +kernel) rfl ?_
  refine w_ldcS C dX1_writeDots_4 C.2.2.2.2.2.2.2.1.2.2.2.2.2.1 ?_
  refine w_callV (As := [.ref (gK G 2)]) (rest := []) (w2 := [(h, .inr (1, [.ref g, .ref o, .ref m])), (o, .inr (4, [.ref g, .long tk])), (g, .inr (2, [.ref b])), (b, .inl (gI G, 4096, .inl (arI d))), (m, .inr (5, [.ref mb, .int (iI (tn 2))])), (mb, .inl (gI G, 14, .inl (arI (nm_sp nb 2 (tn 2).toNat))))]) (st2 := []) C (ct_X6_spell G (kl k) m mb nb n 2 (by decide)) gX1_70 dX1_writeDots_6 4 rfl rfl rfl rfl rfl (Nat.le_of_ble_eq_true rfl) (by decide) [4, 5] rfl (by decide) [m, mb] rfl rfl rfl rfl ?_
  refine w_aload_n C 0 dX1_writeDots_9 rfl ?_
  refine w_aload_n C 0 dX1_writeDots_10 rfl ?_
  refine w_iload_n C 1 dX1_writeDots_11 rfl ?_
  refine w_iconst C dX1_writeDots_12 ?_
  refine w_callV (As := [.int (iI i), .int (iI 0)]) (rest := [.ref h]) (w2 := [(h, .inr (1, [.ref g, .ref o, .ref m])), (o, .inr (4, [.ref g, .long tk])), (g, .inr (2, [.ref b])), (b, .inl (gI G, 4096, .inl (arI d))), (m, .inr (5, [.ref mb, .int (iI (tn 2))])), (mb, .inl (gI G, 14, .inl (arI (nm_sp nb 2 (tn 2).toNat))))]) (st2 := [.int (iI (ep d i 0)), .ref h]) C (ct_X1_entryPlace G (kl k) h o g b m tk d i 0 (by omega) (by omega)) gX1_48 dX1_writeDots_13 0 rfl rfl rfl rfl rfl (Nat.le_of_ble_eq_true rfl) (by decide) [0, 1, 2, 3] rfl (by decide) [h, o, g, b] rfl rfl rfl rfl ?_
  have f_1 := ep_rg d i 0
  refine w_iload_n C 1 dX1_writeDots_16 rfl ?_
  refine w_aload_n C 0 dX1_writeDots_17 rfl ?_
  refine w_get C 0 2 138 dX1_writeDots_18 rfl rfl inX1 (by decide) (by decide +kernel) rfl ?_
  refine w_callV (As := [.int (iI (ep d i 0)), .int (iI i), .ref m]) (rest := []) (w2 := [(h, .inr (1, [.ref g, .ref o, .ref m])), (o, .inr (4, [.ref g, .long tk])), (g, .inr (2, [.ref b])), (b, .inl (gI G, 4096, .inl (arI (we d (ep d i 0) i (nm_sp nb 2 (tn 2).toNat) (tn 2))))), (m, .inr (5, [.ref mb, .int (iI ((tn 2)))])), (mb, .inl (gI G, 14, .inl (arI ((nm_sp nb 2 (tn 2).toNat)))))]) (st2 := []) C (ct_X1_writeEntry G (kl k) h o g b m tk d m mb (nm_sp nb 2 (tn 2).toNat) (tn 2) (ep d i 0) i (by have := tn_rg 2 (by decide); have := tn_rg 3 (by decide); have := tn_rg 4 (by decide); omega) (by omega)) gX1_74 dX1_writeDots_21 0 rfl rfl rfl rfl rfl (Nat.le_of_ble_eq_true rfl) (by decide) [0, 1, 2, 3, 4, 5] rfl (by decide) [h, o, g, b, m, mb] rfl rfl rfl rfl ?_
  refine w_aload_n C 0 dX1_writeDots_24 rfl ?_
  refine w_get C 0 2 138 dX1_writeDots_25 rfl rfl inX1 (by decide) (by decide +kernel) rfl ?_
  refine w_ldcS C dX1_writeDots_28 C.2.2.2.2.2.2.2.1.2.2.2.2.2.2.1 ?_
  refine w_callV (As := [.ref (gK G 3)]) (rest := []) (w2 := [(h, .inr (1, [.ref g, .ref o, .ref m])), (o, .inr (4, [.ref g, .long tk])), (g, .inr (2, [.ref b])), (b, .inl (gI G, 4096, .inl (arI (we d (ep d i 0) i (nm_sp nb 2 (tn 2).toNat) (tn 2))))), (m, .inr (5, [.ref mb, .int (iI (tn 3))])), (mb, .inl (gI G, 14, .inl (arI (nm_sp ((nm_sp nb 2 (tn 2).toNat)) 3 (tn 3).toNat))))]) (st2 := []) C (ct_X6_spell G (kl k) m mb ((nm_sp nb 2 (tn 2).toNat)) ((tn 2)) 3 (by decide)) gX1_70 dX1_writeDots_30 4 rfl rfl rfl rfl rfl (Nat.le_of_ble_eq_true rfl) (by decide) [4, 5] rfl (by decide) [m, mb] rfl rfl rfl rfl ?_
  refine w_aload_n C 0 dX1_writeDots_33 rfl ?_
  refine w_aload_n C 0 dX1_writeDots_34 rfl ?_
  refine w_iload_n C 1 dX1_writeDots_35 rfl ?_
  refine w_iconst C dX1_writeDots_36 ?_
  refine w_callV (As := [.int (iI i), .int (iI 1)]) (rest := [.ref h]) (w2 := [(h, .inr (1, [.ref g, .ref o, .ref m])), (o, .inr (4, [.ref g, .long tk])), (g, .inr (2, [.ref b])), (b, .inl (gI G, 4096, .inl (arI ((we d (ep d i 0) i (nm_sp nb 2 (tn 2).toNat) (tn 2)))))), (m, .inr (5, [.ref mb, .int (iI (tn 3))])), (mb, .inl (gI G, 14, .inl (arI (nm_sp ((nm_sp nb 2 (tn 2).toNat)) 3 (tn 3).toNat))))]) (st2 := [.int (iI (ep (we d (ep d i 0) i (nm_sp nb 2 (tn 2).toNat) (tn 2)) i 1)), .ref h]) C (ct_X1_entryPlace G (kl k) h o g b m tk (we d (ep d i 0) i (nm_sp nb 2 (tn 2).toNat) (tn 2)) i 1 (by omega) (by omega)) gX1_48 dX1_writeDots_37 0 rfl rfl rfl rfl rfl (Nat.le_of_ble_eq_true rfl) (by decide) [0, 1, 2, 3] rfl (by decide) [h, o, g, b] rfl rfl rfl rfl ?_
  have f_2 := ep_rg (we d (ep d i 0) i (nm_sp nb 2 (tn 2).toNat) (tn 2)) i 1
  refine w_iload_n C 2 dX1_writeDots_40 rfl ?_
  refine w_aload_n C 0 dX1_writeDots_41 rfl ?_
  refine w_get C 0 2 138 dX1_writeDots_42 rfl rfl inX1 (by decide) (by decide +kernel) rfl ?_
  refine w_callV (As := [.int (iI (ep (we d (ep d i 0) i (nm_sp nb 2 (tn 2).toNat) (tn 2)) i 1)), .int (iI p), .ref m]) (rest := []) (w2 := [(h, .inr (1, [.ref g, .ref o, .ref m])), (o, .inr (4, [.ref g, .long tk])), (g, .inr (2, [.ref b])), (b, .inl (gI G, 4096, .inl (arI (we ((we d (ep d i 0) i (nm_sp nb 2 (tn 2).toNat) (tn 2))) (ep (we d (ep d i 0) i (nm_sp nb 2 (tn 2).toNat) (tn 2)) i 1) p (nm_sp ((nm_sp nb 2 (tn 2).toNat)) 3 (tn 3).toNat) (tn 3))))), (m, .inr (5, [.ref mb, .int (iI ((tn 3)))])), (mb, .inl (gI G, 14, .inl (arI ((nm_sp ((nm_sp nb 2 (tn 2).toNat)) 3 (tn 3).toNat)))))]) (st2 := []) C (ct_X1_writeEntry G (kl k) h o g b m tk ((we d (ep d i 0) i (nm_sp nb 2 (tn 2).toNat) (tn 2))) m mb (nm_sp ((nm_sp nb 2 (tn 2).toNat)) 3 (tn 3).toNat) (tn 3) (ep (we d (ep d i 0) i (nm_sp nb 2 (tn 2).toNat) (tn 2)) i 1) p (by have := tn_rg 2 (by decide); have := tn_rg 3 (by decide); have := tn_rg 4 (by decide); omega) (by omega)) gX1_74 dX1_writeDots_45 0 rfl rfl rfl rfl rfl (Nat.le_of_ble_eq_true rfl) (by decide) [0, 1, 2, 3, 4, 5] rfl (by decide) [h, o, g, b, m, mb] rfl rfl rfl rfl ?_
  exact w_retv hret dX1_writeDots_48 rfl rfl rfl ⟨rfl, rfl⟩

theorem gX1_80 : cwv RX1 80 yX4_kind cX4_kind 2 (some .int) 1 560 424 425 67 426 := by decide +kernel
set_option maxHeartbeats 4000000 in
set_option maxRecDepth 100000 in
theorem ct_X1_setParent (G : GX) (l : Launch) (h : Nat) (o : Nat) (g : Nat) (b : Nat) (m : Nat) (tk : Int64) (d : Im) (i : Int) (p : Int) (hi : -2147483648 ≤ i ∧ i < 2147483648) : Ct G l yX1_setParent cX1_setParent 3 none rmX1_setParent [.ref h, .int (iI i), .int (iI p)] [(h, .inr (1, [.ref g, .ref o, .ref m])), (o, .inr (4, [.ref g, .long tk])), (g, .inr (2, [.ref b])), (b, .inl (gI G, 4096, .inl (arI d)))] none [(h, .inr (1, [.ref g, .ref o, .ref m])), (o, .inr (4, [.ref g, .long tk])), (g, .inr (2, [.ref b])), (b, .inl (gI G, 4096, .inl (arI (spd d i p))))] := by
  refine Ct.of (by decide) (Nat.le_of_ble_eq_true rfl) ?_
  intro k C hl hret
  subst hl
  refine w_lv (lv2 := [(0, .ref h), (1, .int (iI i)), (2, .int (iI p))]) [0, 1, 2] rfl ?_
  refine w_aload_n C 0 dX1_setParent_0 rfl ?_
  refine w_get C 0 1 137 dX1_setParent_1 rfl rfl inX1 (by decide) (by decide +kernel) rfl ?_
  refine w_iload_n C 1 dX1_setParent_4 rfl ?_
  refine w_callV (As := [.int (iI i)]) (rest := []) (w2 := [(h, .inr (1, [.ref g, .ref o, .ref m])), (o, .inr (4, [.ref g, .long tk])), (g, .inr (2, [.ref b])), (b, .inl (gI G, 4096, .inl (arI d)))]) (st2 := [.int (iI (kd d i))]) C (ct_X4_kind G (kl k) o g b tk d i (by omega)) gX1_80 dX1_setParent_5 1 rfl rfl rfl rfl rfl (Nat.le_of_ble_eq_true rfl) (by decide) [1, 2, 3] rfl (by decide) [o, g, b] rfl rfl rfl rfl ?_
  have f_1 := kd_rg d i
  refine w_iconst C dX1_setParent_8 ?_
  refine w_icmp_ne C 30 dX1_setParent_9 rfl (by omega) (fun c_2 => ?_) (fun c_2 => ?_)
  · exact w_retv hret dX1_setParent_30 rfl rfl rfl ⟨rfl, (by unfold spd; first | rw [if_pos (by omega)] | rw [if_neg (by omega)])⟩
  · refine w_aload_n C 0 dX1_setParent_12 rfl ?_
    refine w_get C 0 0 136 dX1_setParent_13 rfl rfl inX1 (by decide) (by decide +kernel) rfl ?_
    refine w_aload_n C 0 dX1_setParent_16 rfl ?_
    refine w_get C 0 1 137 dX1_setParent_17 rfl rfl inX1 (by decide) (by decide +kernel) rfl ?_
    refine w_iload_n C 1 dX1_setParent_20 rfl ?_
    refine w_bipush C dX1_setParent_21 (by decide) ?_
    refine w_callV (As := [.int (iI i), .int (iI 16)]) (rest := [.ref g]) (w2 := [(h, .inr (1, [.ref g, .ref o, .ref m])), (o, .inr (4, [.ref g, .long tk])), (g, .inr (2, [.ref b])), (b, .inl (gI G, 4096, .inl (arI d)))]) (st2 := [.int (iI (cp d i 16)), .ref g]) C (ct_X4_contentPlace G (kl k) o g b tk d i 16 (by omega) (by omega)) gX1_38 dX1_setParent_23 1 rfl rfl rfl rfl rfl (Nat.le_of_ble_eq_true rfl) (by decide) [1, 2, 3] rfl (by decide) [o, g, b] rfl rfl rfl rfl ?_
    have f_3 := cp_rg d i 16
    refine w_iload_n C 2 dX1_setParent_26 rfl ?_
    refine w_callV (As := [.int (iI (cp d i 16)), .int (iI p)]) (rest := []) (w2 := [(h, .inr (1, [.ref g, .ref o, .ref m])), (o, .inr (4, [.ref g, .long tk])), (g, .inr (2, [.ref b])), (b, .inl (gI G, 4096, .inl (arI (im_set d (cp d i 16) p))))]) (st2 := []) C (ct_X2_set G (kl k) g b d (cp d i 16) p (by omega)) gX1_65 dX1_setParent_27 2 rfl rfl rfl rfl rfl (Nat.le_of_ble_eq_true rfl) (by decide) [2, 3] rfl (by decide) [g, b] rfl rfl rfl rfl ?_
    exact w_retv hret dX1_setParent_30 rfl rfl rfl ⟨rfl, (by unfold spd; first | rw [if_pos (by omega)] | rw [if_neg (by omega)])⟩

set_option maxHeartbeats 4000000 in
set_option maxRecDepth 100000 in
theorem ct_X1_isEmpty (G : GX) (l : Launch) (h : Nat) (o : Nat) (g : Nat) (b : Nat) (m : Nat) (tk : Int64) (d : Im) (i : Int) (hi : -2147483648 ≤ i ∧ i < 2147483648) : Ct G l yX1_isEmpty cX1_isEmpty 4 (some .boolean) rmX1_isEmpty [.ref h, .int (iI i)] [(h, .inr (1, [.ref g, .ref o, .ref m])), (o, .inr (4, [.ref g, .long tk])), (g, .inr (2, [.ref b])), (b, .inl (gI G, 4096, .inl (arI d)))] (some (.int (iI (bI (emB d i))))) [(h, .inr (1, [.ref g, .ref o, .ref m])), (o, .inr (4, [.ref g, .long tk])), (g, .inr (2, [.ref b])), (b, .inl (gI G, 4096, .inl (arI d)))] := by
  refine Ct.of (by decide) (Nat.le_of_ble_eq_true rfl) ?_
  intro k C hl hret
  subst hl
  refine w_lv (lv2 := [(0, .ref h), (1, .int (iI i))]) [0, 1] rfl ?_
  refine w_aload_n C 0 dX1_isEmpty_0 rfl ?_
  refine w_iload_n C 1 dX1_isEmpty_1 rfl ?_
  refine w_callV (As := [.int (iI i)]) (rest := []) (w2 := [(h, .inr (1, [.ref g, .ref o, .ref m])), (o, .inr (4, [.ref g, .long tk])), (g, .inr (2, [.ref b])), (b, .inl (gI G, 4096, .inl (arI d)))]) (st2 := [.int (iI (ec d i))]) C (ct_X1_entryCount G (kl k) h o g b m tk d i (by omega)) gX1_45 dX1_isEmpty_2 0 rfl rfl rfl rfl rfl (Nat.le_of_ble_eq_true rfl) (by decide) [0, 1, 2, 3] rfl (by decide) [h, o, g, b] rfl rfl rfl rfl ?_
  have f_1 := ec_rg d i
  refine w_istore_n (lv2 := [(0, .ref h), (1, .int (iI i)), (2, .int (iI (ec d i)))]) C dX1_isEmpty_5 (by decide) rfl ?_
  refine w_iconst C dX1_isEmpty_6 ?_
  refine w_istore_n (lv2 := [(0, .ref h), (1, .int (iI i)), (2, .int (iI (ec d i))), (3, .int (iI 2))]) C dX1_isEmpty_7 (by decide) rfl ?_
  have L_8 : ∀ (nn_8 : Nat) (e : Int), (2 ≤ e ∧ e ≤ 184) → (emB d i = ems d i (ec d i - e).toNat e) → (ec d i - e).toNat = nn_8 → Wd G k 4 0 0 [(h, .inr (1, [.ref g, .ref o, .ref m])), (o, .inr (4, [.ref g, .long tk])), (g, .inr (2, [.ref b])), (b, .inl (gI G, 4096, .inl (arI d)))] 8 [(0, .ref h), (1, .int (iI i)), (2, .int (iI (ec d i))), (3, .int (iI e))] [] := by
    intro nn_8
    induction nn_8 using Nat.strongRecOn with
    | ind nn_8 ih_8 =>
      intro e h1 h2 hm_8
      have q9 := ec_rg d i
      refine w_iload_n C 3 dX1_isEmpty_8 rfl ?_
      refine w_iload_n C 2 dX1_isEmpty_9 rfl ?_
      refine w_icmp_ge C 37 dX1_isEmpty_10 rfl (by omega) (fun c_2 => ?_) (fun c_2 => ?_)
      · refine w_iconst C dX1_isEmpty_37 ?_
        exact w_reti hret dX1_isEmpty_38 rfl rfl rfl rfl ⟨congrArg (fun z => some (Value.int (iI z))) (by rw [h2, show (ec d i - e).toNat = 0 by omega, ems]; rfl), rfl⟩
      · refine w_aload_n C 0 dX1_isEmpty_13 rfl ?_
        refine w_get C 0 0 136 dX1_isEmpty_14 rfl rfl inX1 (by decide) (by decide +kernel) rfl ?_
        refine w_aload_n C 0 dX1_isEmpty_17 rfl ?_
        refine w_iload_n C 1 dX1_isEmpty_18 rfl ?_
        refine w_iload_n C 3 dX1_isEmpty_19 rfl ?_
        refine w_callV (As := [.int (iI i), .int (iI e)]) (rest := [.ref g]) (w2 := [(h, .inr (1, [.ref g, .ref o, .ref m])), (o, .inr (4, [.ref g, .long tk])), (g, .inr (2, [.ref b])), (b, .inl (gI G, 4096, .inl (arI d)))]) (st2 := [.int (iI (ep d i e)), .ref g]) C (ct_X1_entryPlace G (kl k) h o g b m tk d i e (by omega) (by omega)) gX1_48 dX1_isEmpty_20 0 rfl rfl rfl rfl rfl (Nat.le_of_ble_eq_true rfl) (by decide) [0, 1, 2, 3] rfl (by decide) [h, o, g, b] rfl rfl rfl rfl ?_
        have f_3 := ep_rg d i e
        refine w_callV (As := [.int (iI (ep d i e))]) (rest := []) (w2 := [(h, .inr (1, [.ref g, .ref o, .ref m])), (o, .inr (4, [.ref g, .long tk])), (g, .inr (2, [.ref b])), (b, .inl (gI G, 4096, .inl (arI d)))]) (st2 := [.int (iI (im_at d (ep d i e)))]) C (ct_X2_at G (kl k) g b d (ep d i e) (by omega)) gX1_55 dX1_isEmpty_23 2 rfl rfl rfl rfl rfl (Nat.le_of_ble_eq_true rfl) (by decide) [2, 3] rfl (by decide) [g, b] rfl rfl rfl rfl ?_
        have f_4 := im_at_rg d (ep d i e)
        refine w_if_eq C 31 dX1_isEmpty_26 rfl (by omega) (fun c_5 => ?_) (fun c_5 => ?_)
        · refine w_iinc (lv2 := [(0, .ref h), (1, .int (iI i)), (2, .int (iI (ec d i))), (3, .int (iI (e + 1)))]) C 3 dX1_isEmpty_31 rfl (by decide) rfl ?_
          refine w_goto C 8 dX1_isEmpty_34 rfl ?_
          refine w_lv (lv2 := [(0, .ref h), (1, .int (iI i)), (2, .int (iI (ec d i))), (3, .int (iI ((e + 1))))]) [0, 1, 2, 3] rfl ?_
          exact ih_8 _ (by omega) (e + 1) (by omega) (by rw [h2, show (ec d i - e).toNat = (ec d i - (e + 1)).toNat + 1 by omega, ems, if_pos (by assumption)]) rfl
        · refine w_iconst C dX1_isEmpty_29 ?_
          exact w_reti hret dX1_isEmpty_30 rfl rfl rfl rfl ⟨congrArg (fun z => some (Value.int (iI z))) (by rw [h2, show (ec d i - e).toNat = (ec d i - (e + 1)).toNat + 1 by omega, ems, if_neg (by assumption)]; rfl), rfl⟩
  exact L_8 _ 2 (by omega) rfl rfl

theorem gX1_86 : cwv RX1 86 yX4_addBlock cX4_addBlock 6 (some .int) 1 506 507 508 67 509 := by decide +kernel
theorem gX1_92 : cwv RX1 92 yX4_setSize cX4_setSize 3 none 2 515 516 517 67 518 := by decide +kernel
set_option maxHeartbeats 4000000 in
set_option maxRecDepth 100000 in
theorem ct_X1_roomIn (G : GX) (l : Launch) (h : Nat) (o : Nat) (g : Nat) (b : Nat) (m : Nat) (tk : Int64) (d : Im) (i : Int) (hi : 0 ≤ i ∧ i < 32) : Ct G l yX1_roomIn cX1_roomIn 5 (some .int) rmX1_roomIn [.ref h, .int (iI i)] [(h, .inr (1, [.ref g, .ref o, .ref m])), (o, .inr (4, [.ref g, .long tk])), (g, .inr (2, [.ref b])), (b, .inl (gI G, 4096, .inl (arI d)))] (some (.int (iI (rmR tk d i)))) [(h, .inr (1, [.ref g, .ref o, .ref m])), (o, .inr (4, [.ref g, .long (rmT tk d i)])), (g, .inr (2, [.ref b])), (b, .inl (gI G, 4096, .inl (arI (rmD tk d i))))] := by
  refine Ct.of (by decide) (Nat.le_of_ble_eq_true rfl) ?_
  intro k C hl hret
  subst hl
  refine w_lv (lv2 := [(0, .ref h), (1, .int (iI i))]) [0, 1] rfl ?_
  refine w_aload_n C 0 dX1_roomIn_0 rfl ?_
  refine w_iload_n C 1 dX1_roomIn_1 rfl ?_
  refine w_callV (As := [.int (iI i)]) (rest := []) (w2 := [(h, .inr (1, [.ref g, .ref o, .ref m])), (o, .inr (4, [.ref g, .long tk])), (g, .inr (2, [.ref b])), (b, .inl (gI G, 4096, .inl (arI d)))]) (st2 := [.int (iI (ec d i))]) C (ct_X1_entryCount G (kl k) h o g b m tk d i (by omega)) gX1_45 dX1_roomIn_2 0 rfl rfl rfl rfl rfl (Nat.le_of_ble_eq_true rfl) (by decide) [0, 1, 2, 3] rfl (by decide) [h, o, g, b] rfl rfl rfl rfl ?_
  have f_1 := ec_rg d i
  refine w_istore_n (lv2 := [(0, .ref h), (1, .int (iI i)), (2, .int (iI (ec d i)))]) C dX1_roomIn_5 (by decide) rfl ?_
  refine w_iconst C dX1_roomIn_6 ?_
  refine w_istore_n (lv2 := [(0, .ref h), (1, .int (iI i)), (2, .int (iI (ec d i))), (3, .int (iI 2))]) C dX1_roomIn_7 (by decide) rfl ?_
  have L_8 : ∀ (nn_8 : Nat) (e : Int), (2 ≤ e ∧ e ≤ 184) → (rmF d i = rms d i (ec d i - e).toNat e) → (ec d i - e).toNat = nn_8 → Wd G k 5 0 0 [(h, .inr (1, [.ref g, .ref o, .ref m])), (o, .inr (4, [.ref g, .long tk])), (g, .inr (2, [.ref b])), (b, .inl (gI G, 4096, .inl (arI d)))] 8 [(0, .ref h), (1, .int (iI i)), (2, .int (iI (ec d i))), (3, .int (iI e))] [] := by
    intro nn_8
    induction nn_8 using Nat.strongRecOn with
    | ind nn_8 ih_8 =>
      intro e h1 h2 hm_8
      have q9 := ec_rg d i
      refine w_iload_n C 3 dX1_roomIn_8 rfl ?_
      refine w_iload_n C 2 dX1_roomIn_9 rfl ?_
      refine w_icmp_ge C 42 dX1_roomIn_10 rfl (by omega) (fun c_2 => ?_) (fun c_2 => ?_)
      · have h4 : rmF d i = -2 := by rw [h2, show (ec d i - e).toNat = 0 by omega, rms]
        refine w_aload_n C 0 dX1_roomIn_42 rfl ?_
        refine w_get C 0 1 137 dX1_roomIn_43 rfl rfl inX1 (by decide) (by decide +kernel) rfl ?_
        refine w_iload_n C 1 dX1_roomIn_46 rfl ?_
        refine w_callV (As := [.int (iI i)]) (rest := []) (w2 := [(h, .inr (1, [.ref g, .ref o, .ref m])), (o, .inr (4, [.ref g, .long (abT tk d i)])), (g, .inr (2, [.ref b])), (b, .inl (gI G, 4096, .inl (arI (abD tk d i))))]) (st2 := [.int (iI (abR tk d i))]) C (ct_X4_addBlock G (kl k) o g b tk d i (by omega)) gX1_86 dX1_roomIn_47 1 rfl rfl rfl rfl rfl (Nat.le_of_ble_eq_true rfl) (by decide) [1, 2, 3] rfl (by decide) [o, g, b] rfl rfl rfl rfl ?_
        have f_3 := abR_rg tk d i
        refine w_istore_n (lv2 := [(0, .ref h), (1, .int (iI i)), (2, .int (iI (ec d i))), (3, .int (iI (abR tk d i)))]) C dX1_roomIn_50 (by decide) rfl ?_
        refine w_iload_n C 3 dX1_roomIn_51 rfl ?_
        refine w_iconst C dX1_roomIn_52 ?_
        refine w_icmp_ne C 58 dX1_roomIn_53 rfl (by omega) (fun c_4 => ?_) (fun c_4 => ?_)
        · refine w_aload_n C 0 dX1_roomIn_58 rfl ?_
          refine w_get C 0 1 137 dX1_roomIn_59 rfl rfl inX1 (by decide) (by decide +kernel) rfl ?_
          refine w_iload_n C 1 dX1_roomIn_62 rfl ?_
          refine w_aload_n C 0 dX1_roomIn_63 rfl ?_
          refine w_get C 0 1 137 dX1_roomIn_64 rfl rfl inX1 (by decide) (by decide +kernel) rfl ?_
          refine w_iload_n C 1 dX1_roomIn_67 rfl ?_
          refine w_callV (As := [.int (iI i)]) (rest := [.int (iI i), .ref o]) (w2 := [(h, .inr (1, [.ref g, .ref o, .ref m])), (o, .inr (4, [.ref g, .long ((abT tk d i))])), (g, .inr (2, [.ref b])), (b, .inl (gI G, 4096, .inl (arI ((abD tk d i)))))]) (st2 := [.int (iI (sz (abD tk d i) i)), .int (iI i), .ref o]) C (ct_X4_size G (kl k) o g b (abT tk d i) (abD tk d i) i (by omega)) gX1_26 dX1_roomIn_68 1 rfl rfl rfl rfl rfl (Nat.le_of_ble_eq_true rfl) (by decide) [1, 2, 3] rfl (by decide) [o, g, b] rfl rfl rfl rfl ?_
          have f_5 := sz_rg (abD tk d i) i
          refine w_bipush C dX1_roomIn_71 (by decide) ?_
          refine w_iadd C dX1_roomIn_73 ?_
          refine w_callV (As := [.int (iI i), .int (iI ((sz (abD tk d i) i) + 64))]) (rest := []) (w2 := [(h, .inr (1, [.ref g, .ref o, .ref m])), (o, .inr (4, [.ref g, .long (((abT tk d i)))])), (g, .inr (2, [.ref b])), (b, .inl (gI G, 4096, .inl (arI (im_put ((abD tk d i)) (512 + i * 16 + 2) ((sz (abD tk d i) i) + 64)))))]) (st2 := []) C (ct_X4_setSize G (kl k) o g b ((abT tk d i)) ((abD tk d i)) i ((sz (abD tk d i) i) + 64) (by omega) (by omega)) gX1_92 dX1_roomIn_74 1 rfl rfl rfl rfl rfl (Nat.le_of_ble_eq_true rfl) (by decide) [1, 2, 3] rfl (by decide) [o, g, b] rfl rfl rfl rfl ?_
          refine w_iload_n C 3 dX1_roomIn_77 rfl ?_
          refine w_bipush C dX1_roomIn_78 (by decide) ?_
          refine w_imul C dX1_roomIn_80 ?_
          exact w_reti hret dX1_roomIn_81 rfl rfl rfl rfl ⟨congrArg (fun z => some (Value.int (iI z))) (by unfold rmR; rw [if_pos h4, if_neg (by assumption)]), (by unfold rmT rmD; rw [if_pos h4, if_pos h4, if_neg (by assumption)])⟩
        · refine w_iconst C dX1_roomIn_56 ?_
          exact w_reti hret dX1_roomIn_57 rfl rfl rfl rfl ⟨congrArg (fun z => some (Value.int (iI z))) (by unfold rmR; rw [if_pos h4, if_pos (by assumption)]), (by unfold rmT rmD; rw [if_pos h4, if_pos h4, if_pos (by assumption)])⟩
      · refine w_aload_n C 0 dX1_roomIn_13 rfl ?_
        refine w_iload_n C 1 dX1_roomIn_14 rfl ?_
        refine w_iload_n C 3 dX1_roomIn_15 rfl ?_
        refine w_callV (As := [.int (iI i), .int (iI e)]) (rest := []) (w2 := [(h, .inr (1, [.ref g, .ref o, .ref m])), (o, .inr (4, [.ref g, .long tk])), (g, .inr (2, [.ref b])), (b, .inl (gI G, 4096, .inl (arI d)))]) (st2 := [.int (iI (ep d i e))]) C (ct_X1_entryPlace G (kl k) h o g b m tk d i e (by omega) (by omega)) gX1_48 dX1_roomIn_16 0 rfl rfl rfl rfl rfl (Nat.le_of_ble_eq_true rfl) (by decide) [0, 1, 2, 3] rfl (by decide) [h, o, g, b] rfl rfl rfl rfl ?_
        have f_6 := ep_rg d i e
        refine w_istore (lv2 := [(0, .ref h), (1, .int (iI i)), (2, .int (iI (ec d i))), (3, .int (iI e)), (4, .int (iI (ep d i e)))]) C dX1_roomIn_19 (by decide) rfl ?_
        refine w_aload_n C 0 dX1_roomIn_21 rfl ?_
        refine w_get C 0 0 136 dX1_roomIn_22 rfl rfl inX1 (by decide) (by decide +kernel) rfl ?_
        refine w_iload C 4 dX1_roomIn_25 rfl ?_
        refine w_callV (As := [.int (iI (ep d i e))]) (rest := []) (w2 := [(h, .inr (1, [.ref g, .ref o, .ref m])), (o, .inr (4, [.ref g, .long tk])), (g, .inr (2, [.ref b])), (b, .inl (gI G, 4096, .inl (arI d)))]) (st2 := [.int (iI (im_at d (ep d i e)))]) C (ct_X2_at G (kl k) g b d (ep d i e) (by omega)) gX1_55 dX1_roomIn_27 2 rfl rfl rfl rfl rfl (Nat.le_of_ble_eq_true rfl) (by decide) [2, 3] rfl (by decide) [g, b] rfl rfl rfl rfl ?_
        have f_7 := im_at_rg d (ep d i e)
        refine w_if_ne C 36 dX1_roomIn_30 rfl (by omega) (fun c_8 => ?_) (fun c_8 => ?_)
        · refine w_iinc (lv2 := [(0, .ref h), (1, .int (iI i)), (2, .int (iI (ec d i))), (3, .int (iI (e + 1))), (4, .int (iI (ep d i e)))]) C 3 dX1_roomIn_36 rfl (by decide) rfl ?_
          refine w_goto C 8 dX1_roomIn_39 rfl ?_
          refine w_lv (lv2 := [(0, .ref h), (1, .int (iI i)), (2, .int (iI (ec d i))), (3, .int (iI ((e + 1))))]) [0, 1, 2, 3] rfl ?_
          exact ih_8 _ (by omega) (e + 1) (by omega) (by rw [h2, show (ec d i - e).toNat = (ec d i - (e + 1)).toNat + 1 by omega, rms, if_neg (by assumption)]) rfl
        · have h4 : rmF d i = ep d i e := by rw [h2, show (ec d i - e).toNat = (ec d i - (e + 1)).toNat + 1 by omega, rms, if_pos (by assumption)]
          refine w_iload C 4 dX1_roomIn_33 rfl ?_
          exact w_reti hret dX1_roomIn_35 rfl rfl rfl rfl ⟨congrArg (fun z => some (Value.int (iI z))) (by unfold rmR; rw [if_neg (by omega), h4]), (by unfold rmT rmD; rw [if_neg (by omega), if_neg (by omega)])⟩
  exact L_8 _ 2 (by omega) rfl rfl
end
