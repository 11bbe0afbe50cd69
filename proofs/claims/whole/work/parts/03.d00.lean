theorem dX0_init_0 : decode cX0_init 0 = .ok (.aload_n 0, 1) := by decide +kernel
theorem dX0_init_1 : decode cX0_init 1 = .ok (.invokespecial 3, 3) := by decide +kernel
theorem dX0_init_4 : decode cX0_init 4 = .ok (.aload_n 0, 1) := by decide +kernel
theorem dX0_init_5 : decode cX0_init 5 = .ok (.aload_n 1, 1) := by decide +kernel
theorem dX0_init_6 : decode cX0_init 6 = .ok (.putfield 9, 3) := by decide +kernel
theorem dX0_init_9 : decode cX0_init 9 = .ok (.aload_n 0, 1) := by decide +kernel
theorem dX0_init_10 : decode cX0_init 10 = .ok (.aload_n 2, 1) := by decide +kernel
theorem dX0_init_11 : decode cX0_init 11 = .ok (.putfield 15, 3) := by decide +kernel
theorem dX0_init_14 : decode cX0_init 14 = .ok (.aload_n 0, 1) := by decide +kernel
theorem dX0_init_15 : decode cX0_init 15 = .ok (.aload_n 3, 1) := by decide +kernel
theorem dX0_init_16 : decode cX0_init 16 = .ok (.putfield 19, 3) := by decide +kernel
theorem dX0_init_19 : decode cX0_init 19 = .ok (.aload_n 0, 1) := by decide +kernel
theorem dX0_init_20 : decode cX0_init 20 = .ok (.new 23, 3) := by decide +kernel
theorem dX0_init_23 : decode cX0_init 23 = .ok (.dup, 1) := by decide +kernel
theorem dX0_init_24 : decode cX0_init 24 = .ok (.invokespecial 25, 3) := by decide +kernel
theorem dX0_init_27 : decode cX0_init 27 = .ok (.putfield 26, 3) := by decide +kernel
theorem dX0_init_30 : decode cX0_init 30 = .ok (.aload_n 0, 1) := by decide +kernel
theorem dX0_init_31 : decode cX0_init 31 = .ok (.bipush 32, 2) := by decide +kernel
theorem dX0_init_33 : decode cX0_init 33 = .ok (.newarray .int, 2) := by decide +kernel
theorem dX0_init_35 : decode cX0_init 35 = .ok (.putfield 30, 3) := by decide +kernel
theorem dX0_init_38 : decode cX0_init 38 = .ok (.return_, 1) := by decide +kernel
theorem dX0_connect_0 : decode cX0_connect 0 = .ok (.aload_n 0, 1) := by decide +kernel
theorem dX0_connect_1 : decode cX0_connect 1 = .ok (.iconst 0, 1) := by decide +kernel
theorem dX0_connect_2 : decode cX0_connect 2 = .ok (.putfield 34, 3) := by decide +kernel
theorem dX0_connect_5 : decode cX0_connect 5 = .ok (.aload_n 0, 1) := by decide +kernel
theorem dX0_connect_6 : decode cX0_connect 6 = .ok (.iconst 0, 1) := by decide +kernel
theorem dX0_connect_7 : decode cX0_connect 7 = .ok (.putfield 38, 3) := by decide +kernel
theorem dX0_connect_10 : decode cX0_connect 10 = .ok (.aload_n 0, 1) := by decide +kernel
theorem dX0_connect_11 : decode cX0_connect 11 = .ok (.iconst 0, 1) := by decide +kernel
theorem dX0_connect_12 : decode cX0_connect 12 = .ok (.putfield 41, 3) := by decide +kernel
theorem dX0_connect_15 : decode cX0_connect 15 = .ok (.aload_n 0, 1) := by decide +kernel
theorem dX0_connect_16 : decode cX0_connect 16 = .ok (.getfield 15, 3) := by decide +kernel
theorem dX0_connect_19 : decode cX0_connect 19 = .ok (.iconst 1, 1) := by decide +kernel
theorem dX0_connect_20 : decode cX0_connect 20 = .ok (.invokevirtual 44, 3) := by decide +kernel
theorem dX0_connect_23 : decode cX0_connect 23 = .ok (.ifCond .eq 12, 3) := by decide +kernel
theorem dX0_connect_26 : decode cX0_connect 26 = .ok (.aload_n 0, 1) := by decide +kernel
theorem dX0_connect_27 : decode cX0_connect 27 = .ok (.iconst 1, 1) := by decide +kernel
theorem dX0_connect_28 : decode cX0_connect 28 = .ok (.invokevirtual 50, 3) := by decide +kernel
theorem dX0_connect_31 : decode cX0_connect 31 = .ok (.aload_n 0, 1) := by decide +kernel
theorem dX0_connect_32 : decode cX0_connect 32 = .ok (.invokevirtual 54, 3) := by decide +kernel
theorem dX0_connect_35 : decode cX0_connect 35 = .ok (.iconst 1, 1) := by decide +kernel
theorem dX0_connect_36 : decode cX0_connect 36 = .ok (.istore_n 1, 1) := by decide +kernel
theorem dX0_connect_37 : decode cX0_connect 37 = .ok (.iload_n 1, 1) := by decide +kernel
theorem dX0_connect_38 : decode cX0_connect 38 = .ok (.bipush 32, 2) := by decide +kernel
theorem dX0_connect_40 : decode cX0_connect 40 = .ok (.if_icmp .ge 86, 3) := by decide +kernel
theorem dX0_connect_43 : decode cX0_connect 43 = .ok (.aload_n 0, 1) := by decide +kernel
theorem dX0_connect_44 : decode cX0_connect 44 = .ok (.getfield 15, 3) := by decide +kernel
theorem dX0_connect_47 : decode cX0_connect 47 = .ok (.iload_n 1, 1) := by decide +kernel
theorem dX0_connect_48 : decode cX0_connect 48 = .ok (.invokevirtual 44, 3) := by decide +kernel
theorem dX0_connect_51 : decode cX0_connect 51 = .ok (.ifCond .eq 69, 3) := by decide +kernel
theorem dX0_connect_54 : decode cX0_connect 54 = .ok (.aload_n 0, 1) := by decide +kernel
theorem dX0_connect_55 : decode cX0_connect 55 = .ok (.iload_n 1, 1) := by decide +kernel
theorem dX0_connect_56 : decode cX0_connect 56 = .ok (.invokevirtual 57, 3) := by decide +kernel
theorem dX0_connect_59 : decode cX0_connect 59 = .ok (.ifCond .eq 6, 3) := by decide +kernel
theorem dX0_connect_62 : decode cX0_connect 62 = .ok (.goto 58, 3) := by decide +kernel
theorem dX0_connect_65 : decode cX0_connect 65 = .ok (.aload_n 0, 1) := by decide +kernel
theorem dX0_connect_66 : decode cX0_connect 66 = .ok (.iload_n 1, 1) := by decide +kernel
theorem dX0_connect_67 : decode cX0_connect 67 = .ok (.invokevirtual 61, 3) := by decide +kernel
theorem dX0_connect_70 : decode cX0_connect 70 = .ok (.ifCond .eq 14, 3) := by decide +kernel
theorem dX0_connect_73 : decode cX0_connect 73 = .ok (.aload_n 0, 1) := by decide +kernel
theorem dX0_connect_74 : decode cX0_connect 74 = .ok (.getfield 19, 3) := by decide +kernel
theorem dX0_connect_77 : decode cX0_connect 77 = .ok (.iconst 2, 1) := by decide +kernel
theorem dX0_connect_78 : decode cX0_connect 78 = .ok (.invokevirtual 64, 3) := by decide +kernel
theorem dX0_connect_81 : decode cX0_connect 81 = .ok (.goto 4, 3) := by decide +kernel
theorem dX0_connect_84 : decode cX0_connect 84 = .ok (.iconst (-1), 1) := by decide +kernel
theorem dX0_connect_85 : decode cX0_connect 85 = .ok (.istore_n 2, 1) := by decide +kernel
theorem dX0_connect_86 : decode cX0_connect 86 = .ok (.iload_n 2, 1) := by decide +kernel
theorem dX0_connect_87 : decode cX0_connect 87 = .ok (.iconst (-1), 1) := by decide +kernel
theorem dX0_connect_88 : decode cX0_connect 88 = .ok (.if_icmp .eq 16, 3) := by decide +kernel
theorem dX0_connect_91 : decode cX0_connect 91 = .ok (.aload_n 0, 1) := by decide +kernel
theorem dX0_connect_92 : decode cX0_connect 92 = .ok (.iload_n 1, 1) := by decide +kernel
theorem dX0_connect_93 : decode cX0_connect 93 = .ok (.iload_n 2, 1) := by decide +kernel
theorem dX0_connect_94 : decode cX0_connect 94 = .ok (.invokevirtual 69, 3) := by decide +kernel
theorem dX0_connect_97 : decode cX0_connect 97 = .ok (.aload_n 0, 1) := by decide +kernel
theorem dX0_connect_98 : decode cX0_connect 98 = .ok (.invokevirtual 54, 3) := by decide +kernel
theorem dX0_connect_101 : decode cX0_connect 101 = .ok (.goto 19, 3) := by decide +kernel
theorem dX0_connect_104 : decode cX0_connect 104 = .ok (.aload_n 0, 1) := by decide +kernel
theorem dX0_connect_105 : decode cX0_connect 105 = .ok (.getfield 15, 3) := by decide +kernel
theorem dX0_connect_108 : decode cX0_connect 108 = .ok (.iload_n 1, 1) := by decide +kernel
theorem dX0_connect_109 : decode cX0_connect 109 = .ok (.invokevirtual 73, 3) := by decide +kernel
theorem dX0_connect_112 : decode cX0_connect 112 = .ok (.aload_n 0, 1) := by decide +kernel
theorem dX0_connect_113 : decode cX0_connect 113 = .ok (.getfield 19, 3) := by decide +kernel
theorem dX0_connect_116 : decode cX0_connect 116 = .ok (.iload_n 1, 1) := by decide +kernel
theorem dX0_connect_117 : decode cX0_connect 117 = .ok (.invokevirtual 76, 3) := by decide +kernel
theorem dX0_connect_120 : decode cX0_connect 120 = .ok (.iinc 1 1, 3) := by decide +kernel
theorem dX0_connect_123 : decode cX0_connect 123 = .ok (.goto (-86), 3) := by decide +kernel
theorem dX0_connect_126 : decode cX0_connect 126 = .ok (.return_, 1) := by decide +kernel
theorem dX0_isReached_0 : decode cX0_isReached 0 = .ok (.aload_n 0, 1) := by decide +kernel
theorem dX0_isReached_1 : decode cX0_isReached 1 = .ok (.getfield 41, 3) := by decide +kernel
theorem dX0_isReached_4 : decode cX0_isReached 4 = .ok (.iload_n 1, 1) := by decide +kernel
theorem dX0_isReached_5 : decode cX0_isReached 5 = .ok (.ishr, 1) := by decide +kernel
theorem dX0_isReached_6 : decode cX0_isReached 6 = .ok (.iconst 1, 1) := by decide +kernel
theorem dX0_isReached_7 : decode cX0_isReached 7 = .ok (.iand, 1) := by decide +kernel
theorem dX0_isReached_8 : decode cX0_isReached 8 = .ok (.ifCond .eq 7, 3) := by decide +kernel
theorem dX0_isReached_11 : decode cX0_isReached 11 = .ok (.iconst 1, 1) := by decide +kernel
theorem dX0_isReached_12 : decode cX0_isReached 12 = .ok (.goto 4, 3) := by decide +kernel
theorem dX0_isReached_15 : decode cX0_isReached 15 = .ok (.iconst 0, 1) := by decide +kernel
theorem dX0_isReached_16 : decode cX0_isReached 16 = .ok (.ireturn, 1) := by decide +kernel
theorem dX0_reach_0 : decode cX0_reach 0 = .ok (.aload_n 0, 1) := by decide +kernel
theorem dX0_reach_1 : decode cX0_reach 1 = .ok (.dup, 1) := by decide +kernel
theorem dX0_reach_2 : decode cX0_reach 2 = .ok (.getfield 41, 3) := by decide +kernel
theorem dX0_reach_5 : decode cX0_reach 5 = .ok (.iconst 1, 1) := by decide +kernel
theorem dX0_reach_6 : decode cX0_reach 6 = .ok (.iload_n 1, 1) := by decide +kernel
theorem dX0_reach_7 : decode cX0_reach 7 = .ok (.ishl, 1) := by decide +kernel
theorem dX0_reach_8 : decode cX0_reach 8 = .ok (.ior, 1) := by decide +kernel
theorem dX0_reach_9 : decode cX0_reach 9 = .ok (.putfield 41, 3) := by decide +kernel
theorem dX0_reach_12 : decode cX0_reach 12 = .ok (.aload_n 0, 1) := by decide +kernel
theorem dX0_reach_13 : decode cX0_reach 13 = .ok (.getfield 15, 3) := by decide +kernel
theorem dX0_reach_16 : decode cX0_reach 16 = .ok (.iload_n 1, 1) := by decide +kernel
theorem dX0_reach_17 : decode cX0_reach 17 = .ok (.invokevirtual 44, 3) := by decide +kernel
theorem dX0_reach_20 : decode cX0_reach 20 = .ok (.iconst 2, 1) := by decide +kernel
theorem dX0_reach_21 : decode cX0_reach 21 = .ok (.if_icmp .ne 39, 3) := by decide +kernel
theorem dX0_reach_24 : decode cX0_reach 24 = .ok (.aload_n 0, 1) := by decide +kernel
theorem dX0_reach_25 : decode cX0_reach 25 = .ok (.getfield 38, 3) := by decide +kernel
theorem dX0_reach_28 : decode cX0_reach 28 = .ok (.ifCond .lt 32, 3) := by decide +kernel
theorem dX0_reach_31 : decode cX0_reach 31 = .ok (.aload_n 0, 1) := by decide +kernel
theorem dX0_reach_32 : decode cX0_reach 32 = .ok (.getfield 38, 3) := by decide +kernel
theorem dX0_reach_35 : decode cX0_reach 35 = .ok (.bipush 32, 2) := by decide +kernel
theorem dX0_reach_37 : decode cX0_reach 37 = .ok (.if_icmp .ge 23, 3) := by decide +kernel
theorem dX0_reach_40 : decode cX0_reach 40 = .ok (.aload_n 0, 1) := by decide +kernel
theorem dX0_reach_41 : decode cX0_reach 41 = .ok (.getfield 30, 3) := by decide +kernel
theorem dX0_reach_44 : decode cX0_reach 44 = .ok (.aload_n 0, 1) := by decide +kernel
theorem dX0_reach_45 : decode cX0_reach 45 = .ok (.getfield 38, 3) := by decide +kernel
theorem dX0_reach_48 : decode cX0_reach 48 = .ok (.iload_n 1, 1) := by decide +kernel
theorem dX0_reach_49 : decode cX0_reach 49 = .ok (.iastore, 1) := by decide +kernel
theorem dX0_reach_50 : decode cX0_reach 50 = .ok (.aload_n 0, 1) := by decide +kernel
theorem dX0_reach_51 : decode cX0_reach 51 = .ok (.dup, 1) := by decide +kernel
theorem dX0_reach_52 : decode cX0_reach 52 = .ok (.getfield 38, 3) := by decide +kernel
theorem dX0_reach_55 : decode cX0_reach 55 = .ok (.iconst 1, 1) := by decide +kernel
theorem dX0_reach_56 : decode cX0_reach 56 = .ok (.iadd, 1) := by decide +kernel
theorem dX0_reach_57 : decode cX0_reach 57 = .ok (.putfield 38, 3) := by decide +kernel
theorem dX0_reach_60 : decode cX0_reach 60 = .ok (.return_, 1) := by decide +kernel
theorem dX0_goThrough_0 : decode cX0_goThrough 0 = .ok (.aload_n 0, 1) := by decide +kernel
theorem dX0_goThrough_1 : decode cX0_goThrough 1 = .ok (.getfield 34, 3) := by decide +kernel
theorem dX0_goThrough_4 : decode cX0_goThrough 4 = .ok (.ifCond .lt 82, 3) := by decide +kernel
theorem dX0_goThrough_7 : decode cX0_goThrough 7 = .ok (.aload_n 0, 1) := by decide +kernel
theorem dX0_goThrough_8 : decode cX0_goThrough 8 = .ok (.getfield 34, 3) := by decide +kernel
theorem dX0_goThrough_11 : decode cX0_goThrough 11 = .ok (.aload_n 0, 1) := by decide +kernel
theorem dX0_goThrough_12 : decode cX0_goThrough 12 = .ok (.getfield 38, 3) := by decide +kernel
theorem dX0_goThrough_15 : decode cX0_goThrough 15 = .ok (.if_icmp .ge 71, 3) := by decide +kernel
theorem dX0_goThrough_18 : decode cX0_goThrough 18 = .ok (.aload_n 0, 1) := by decide +kernel
theorem dX0_goThrough_19 : decode cX0_goThrough 19 = .ok (.getfield 34, 3) := by decide +kernel
theorem dX0_goThrough_22 : decode cX0_goThrough 22 = .ok (.bipush 32, 2) := by decide +kernel
theorem dX0_goThrough_24 : decode cX0_goThrough 24 = .ok (.if_icmp .ge 62, 3) := by decide +kernel
theorem dX0_goThrough_27 : decode cX0_goThrough 27 = .ok (.aload_n 0, 1) := by decide +kernel
theorem dX0_goThrough_28 : decode cX0_goThrough 28 = .ok (.getfield 30, 3) := by decide +kernel
theorem dX0_goThrough_31 : decode cX0_goThrough 31 = .ok (.aload_n 0, 1) := by decide +kernel
theorem dX0_goThrough_32 : decode cX0_goThrough 32 = .ok (.getfield 34, 3) := by decide +kernel
theorem dX0_goThrough_35 : decode cX0_goThrough 35 = .ok (.iaload, 1) := by decide +kernel
theorem dX0_goThrough_36 : decode cX0_goThrough 36 = .ok (.istore_n 1, 1) := by decide +kernel
theorem dX0_goThrough_37 : decode cX0_goThrough 37 = .ok (.aload_n 0, 1) := by decide +kernel
theorem dX0_goThrough_38 : decode cX0_goThrough 38 = .ok (.getfield 19, 3) := by decide +kernel
theorem dX0_goThrough_41 : decode cX0_goThrough 41 = .ok (.iload_n 1, 1) := by decide +kernel
theorem dX0_goThrough_42 : decode cX0_goThrough 42 = .ok (.invokevirtual 79, 3) := by decide +kernel
theorem dX0_goThrough_45 : decode cX0_goThrough 45 = .ok (.istore_n 2, 1) := by decide +kernel
theorem dX0_goThrough_46 : decode cX0_goThrough 46 = .ok (.iconst 2, 1) := by decide +kernel
theorem dX0_goThrough_47 : decode cX0_goThrough 47 = .ok (.istore_n 3, 1) := by decide +kernel
theorem dX0_goThrough_48 : decode cX0_goThrough 48 = .ok (.iload_n 3, 1) := by decide +kernel
theorem dX0_goThrough_49 : decode cX0_goThrough 49 = .ok (.iload_n 2, 1) := by decide +kernel
theorem dX0_goThrough_50 : decode cX0_goThrough 50 = .ok (.if_icmp .ge 23, 3) := by decide +kernel
theorem dX0_goThrough_53 : decode cX0_goThrough 53 = .ok (.aload_n 0, 1) := by decide +kernel
theorem dX0_goThrough_54 : decode cX0_goThrough 54 = .ok (.iload_n 1, 1) := by decide +kernel
theorem dX0_goThrough_55 : decode cX0_goThrough 55 = .ok (.aload_n 0, 1) := by decide +kernel
theorem dX0_goThrough_56 : decode cX0_goThrough 56 = .ok (.getfield 19, 3) := by decide +kernel
theorem dX0_goThrough_59 : decode cX0_goThrough 59 = .ok (.iload_n 1, 1) := by decide +kernel
theorem dX0_goThrough_60 : decode cX0_goThrough 60 = .ok (.iload_n 3, 1) := by decide +kernel
theorem dX0_goThrough_61 : decode cX0_goThrough 61 = .ok (.invokevirtual 82, 3) := by decide +kernel
theorem dX0_goThrough_64 : decode cX0_goThrough 64 = .ok (.invokevirtual 86, 3) := by decide +kernel
theorem dX0_goThrough_67 : decode cX0_goThrough 67 = .ok (.iinc 3 1, 3) := by decide +kernel
theorem dX0_goThrough_70 : decode cX0_goThrough 70 = .ok (.goto (-22), 3) := by decide +kernel
theorem dX0_goThrough_73 : decode cX0_goThrough 73 = .ok (.aload_n 0, 1) := by decide +kernel
theorem dX0_goThrough_74 : decode cX0_goThrough 74 = .ok (.dup, 1) := by decide +kernel
theorem dX0_goThrough_75 : decode cX0_goThrough 75 = .ok (.getfield 34, 3) := by decide +kernel
theorem dX0_goThrough_78 : decode cX0_goThrough 78 = .ok (.iconst 1, 1) := by decide +kernel
theorem dX0_goThrough_79 : decode cX0_goThrough 79 = .ok (.iadd, 1) := by decide +kernel
theorem dX0_goThrough_80 : decode cX0_goThrough 80 = .ok (.putfield 34, 3) := by decide +kernel
theorem dX0_goThrough_83 : decode cX0_goThrough 83 = .ok (.goto (-83), 3) := by decide +kernel
theorem dX0_goThrough_86 : decode cX0_goThrough 86 = .ok (.return_, 1) := by decide +kernel
theorem dX0_follow_0 : decode cX0_follow 0 = .ok (.aload_n 0, 1) := by decide +kernel
theorem dX0_follow_1 : decode cX0_follow 1 = .ok (.getfield 9, 3) := by decide +kernel
theorem dX0_follow_4 : decode cX0_follow 4 = .ok (.iload_n 2, 1) := by decide +kernel
theorem dX0_follow_5 : decode cX0_follow 5 = .ok (.invokevirtual 89, 3) := by decide +kernel
theorem dX0_follow_8 : decode cX0_follow 8 = .ok (.istore_n 3, 1) := by decide +kernel
theorem dX0_follow_9 : decode cX0_follow 9 = .ok (.aload_n 0, 1) := by decide +kernel
theorem dX0_follow_10 : decode cX0_follow 10 = .ok (.getfield 15, 3) := by decide +kernel
theorem dX0_follow_13 : decode cX0_follow 13 = .ok (.iload_n 3, 1) := by decide +kernel
theorem dX0_follow_14 : decode cX0_follow 14 = .ok (.invokevirtual 44, 3) := by decide +kernel
theorem dX0_follow_17 : decode cX0_follow 17 = .ok (.istore 4, 2) := by decide +kernel
theorem dX0_follow_19 : decode cX0_follow 19 = .ok (.iload 4, 2) := by decide +kernel
theorem dX0_follow_21 : decode cX0_follow 21 = .ok (.iconst 2, 1) := by decide +kernel
theorem dX0_follow_22 : decode cX0_follow 22 = .ok (.if_icmp .ne 22, 3) := by decide +kernel
theorem dX0_follow_25 : decode cX0_follow 25 = .ok (.aload_n 0, 1) := by decide +kernel
theorem dX0_follow_26 : decode cX0_follow 26 = .ok (.iload_n 3, 1) := by decide +kernel
theorem dX0_follow_27 : decode cX0_follow 27 = .ok (.invokevirtual 57, 3) := by decide +kernel
theorem dX0_follow_30 : decode cX0_follow 30 = .ok (.ifCond .eq 14, 3) := by decide +kernel
theorem dX0_follow_33 : decode cX0_follow 33 = .ok (.aload_n 0, 1) := by decide +kernel
theorem dX0_follow_34 : decode cX0_follow 34 = .ok (.getfield 19, 3) := by decide +kernel
theorem dX0_follow_37 : decode cX0_follow 37 = .ok (.iload_n 2, 1) := by decide +kernel
theorem dX0_follow_38 : decode cX0_follow 38 = .ok (.invokevirtual 94, 3) := by decide +kernel
theorem dX0_follow_41 : decode cX0_follow 41 = .ok (.goto 22, 3) := by decide +kernel
theorem dX0_follow_44 : decode cX0_follow 44 = .ok (.iload 4, 2) := by decide +kernel
theorem dX0_follow_46 : decode cX0_follow 46 = .ok (.ifCond .eq 17, 3) := by decide +kernel
theorem dX0_follow_49 : decode cX0_follow 49 = .ok (.aload_n 0, 1) := by decide +kernel
theorem dX0_follow_50 : decode cX0_follow 50 = .ok (.iload_n 3, 1) := by decide +kernel
theorem dX0_follow_51 : decode cX0_follow 51 = .ok (.invokevirtual 50, 3) := by decide +kernel
theorem dX0_follow_54 : decode cX0_follow 54 = .ok (.aload_n 0, 1) := by decide +kernel
theorem dX0_follow_55 : decode cX0_follow 55 = .ok (.getfield 19, 3) := by decide +kernel
theorem dX0_follow_58 : decode cX0_follow 58 = .ok (.iload_n 3, 1) := by decide +kernel
theorem dX0_follow_59 : decode cX0_follow 59 = .ok (.iload_n 1, 1) := by decide +kernel
theorem dX0_follow_60 : decode cX0_follow 60 = .ok (.invokevirtual 97, 3) := by decide +kernel
theorem dX0_follow_63 : decode cX0_follow 63 = .ok (.return_, 1) := by decide +kernel
theorem dX0_findName_0 : decode cX0_findName 0 = .ok (.aload_n 0, 1) := by decide +kernel
theorem dX0_findName_1 : decode cX0_findName 1 = .ok (.iconst 2, 1) := by decide +kernel
theorem dX0_findName_2 : decode cX0_findName 2 = .ok (.invokevirtual 57, 3) := by decide +kernel
theorem dX0_findName_5 : decode cX0_findName 5 = .ok (.ifCond .eq 8, 3) := by decide +kernel
theorem dX0_findName_8 : decode cX0_findName 8 = .ok (.bipush 12, 2) := by decide +kernel
theorem dX0_findName_10 : decode cX0_findName 10 = .ok (.goto 4, 3) := by decide +kernel
theorem dX0_findName_13 : decode cX0_findName 13 = .ok (.iconst 0, 1) := by decide +kernel
theorem dX0_findName_14 : decode cX0_findName 14 = .ok (.istore_n 2, 1) := by decide +kernel
theorem dX0_findName_15 : decode cX0_findName 15 = .ok (.iconst 1, 1) := by decide +kernel
theorem dX0_findName_16 : decode cX0_findName 16 = .ok (.istore_n 3, 1) := by decide +kernel
theorem dX0_findName_17 : decode cX0_findName 17 = .ok (.iload_n 3, 1) := by decide +kernel
theorem dX0_findName_18 : decode cX0_findName 18 = .ok (.iload_n 2, 1) := by decide +kernel
theorem dX0_findName_19 : decode cX0_findName 19 = .ok (.if_icmp .gt 36, 3) := by decide +kernel
theorem dX0_findName_22 : decode cX0_findName 22 = .ok (.aload_n 0, 1) := by decide +kernel
theorem dX0_findName_23 : decode cX0_findName 23 = .ok (.getfield 26, 3) := by decide +kernel
theorem dX0_findName_26 : decode cX0_findName 26 = .ok (.iload_n 3, 1) := by decide +kernel
theorem dX0_findName_27 : decode cX0_findName 27 = .ok (.iload_n 1, 1) := by decide +kernel
theorem dX0_findName_28 : decode cX0_findName 28 = .ok (.invokevirtual 100, 3) := by decide +kernel
theorem dX0_findName_31 : decode cX0_findName 31 = .ok (.aload_n 0, 1) := by decide +kernel
theorem dX0_findName_32 : decode cX0_findName 32 = .ok (.getfield 19, 3) := by decide +kernel
theorem dX0_findName_35 : decode cX0_findName 35 = .ok (.iconst 2, 1) := by decide +kernel
theorem dX0_findName_36 : decode cX0_findName 36 = .ok (.aload_n 0, 1) := by decide +kernel
theorem dX0_findName_37 : decode cX0_findName 37 = .ok (.getfield 26, 3) := by decide +kernel
theorem dX0_findName_40 : decode cX0_findName 40 = .ok (.invokevirtual 103, 3) := by decide +kernel
theorem dX0_findName_43 : decode cX0_findName 43 = .ok (.iconst (-1), 1) := by decide +kernel
theorem dX0_findName_44 : decode cX0_findName 44 = .ok (.if_icmp .ne 5, 3) := by decide +kernel
theorem dX0_findName_47 : decode cX0_findName 47 = .ok (.iconst 1, 1) := by decide +kernel
theorem dX0_findName_48 : decode cX0_findName 48 = .ok (.ireturn, 1) := by decide +kernel
theorem dX0_findName_49 : decode cX0_findName 49 = .ok (.iinc 3 1, 3) := by decide +kernel
theorem dX0_findName_52 : decode cX0_findName 52 = .ok (.goto (-35), 3) := by decide +kernel
theorem dX0_findName_55 : decode cX0_findName 55 = .ok (.iconst 0, 1) := by decide +kernel
theorem dX0_findName_56 : decode cX0_findName 56 = .ok (.ireturn, 1) := by decide +kernel
theorem dX0_putAway_0 : decode cX0_putAway 0 = .ok (.aload_n 0, 1) := by decide +kernel
theorem dX0_putAway_1 : decode cX0_putAway 1 = .ok (.getfield 19, 3) := by decide +kernel
theorem dX0_putAway_4 : decode cX0_putAway 4 = .ok (.iload_n 2, 1) := by decide +kernel
theorem dX0_putAway_5 : decode cX0_putAway 5 = .ok (.iload_n 1, 1) := by decide +kernel
theorem dX0_putAway_6 : decode cX0_putAway 6 = .ok (.aload_n 0, 1) := by decide +kernel
theorem dX0_putAway_7 : decode cX0_putAway 7 = .ok (.getfield 26, 3) := by decide +kernel
theorem dX0_putAway_10 : decode cX0_putAway 10 = .ok (.invokevirtual 107, 3) := by decide +kernel
theorem dX0_putAway_13 : decode cX0_putAway 13 = .ok (.aload_n 0, 1) := by decide +kernel
theorem dX0_putAway_14 : decode cX0_putAway 14 = .ok (.iload_n 1, 1) := by decide +kernel
theorem dX0_putAway_15 : decode cX0_putAway 15 = .ok (.invokevirtual 50, 3) := by decide +kernel
theorem dX0_putAway_18 : decode cX0_putAway 18 = .ok (.aload_n 0, 1) := by decide +kernel
theorem dX0_putAway_19 : decode cX0_putAway 19 = .ok (.getfield 19, 3) := by decide +kernel
theorem dX0_putAway_22 : decode cX0_putAway 22 = .ok (.iload_n 1, 1) := by decide +kernel
theorem dX0_putAway_23 : decode cX0_putAway 23 = .ok (.iconst 2, 1) := by decide +kernel
theorem dX0_putAway_24 : decode cX0_putAway 24 = .ok (.invokevirtual 97, 3) := by decide +kernel
theorem dX0_putAway_27 : decode cX0_putAway 27 = .ok (.return_, 1) := by decide +kernel
theorem dX1_init_0 : decode cX1_init 0 = .ok (.aload_n 0, 1) := by decide +kernel
theorem dX1_init_1 : decode cX1_init 1 = .ok (.invokespecial 3, 3) := by decide +kernel
theorem dX1_init_4 : decode cX1_init 4 = .ok (.aload_n 0, 1) := by decide +kernel
theorem dX1_init_5 : decode cX1_init 5 = .ok (.aload_n 1, 1) := by decide +kernel
theorem dX1_init_6 : decode cX1_init 6 = .ok (.putfield 9, 3) := by decide +kernel
theorem dX1_init_9 : decode cX1_init 9 = .ok (.aload_n 0, 1) := by decide +kernel
theorem dX1_init_10 : decode cX1_init 10 = .ok (.aload_n 2, 1) := by decide +kernel
theorem dX1_init_11 : decode cX1_init 11 = .ok (.putfield 15, 3) := by decide +kernel
theorem dX1_init_14 : decode cX1_init 14 = .ok (.aload_n 0, 1) := by decide +kernel
theorem dX1_init_15 : decode cX1_init 15 = .ok (.new 19, 3) := by decide +kernel
theorem dX1_init_18 : decode cX1_init 18 = .ok (.dup, 1) := by decide +kernel
theorem dX1_init_19 : decode cX1_init 19 = .ok (.invokespecial 21, 3) := by decide +kernel
theorem dX1_init_22 : decode cX1_init 22 = .ok (.putfield 22, 3) := by decide +kernel
theorem dX1_init_25 : decode cX1_init 25 = .ok (.return_, 1) := by decide +kernel
theorem dX1_entryCount_0 : decode cX1_entryCount 0 = .ok (.aload_n 0, 1) := by decide +kernel
theorem dX1_entryCount_1 : decode cX1_entryCount 1 = .ok (.getfield 15, 3) := by decide +kernel
theorem dX1_entryCount_4 : decode cX1_entryCount 4 = .ok (.iload_n 1, 1) := by decide +kernel
theorem dX1_entryCount_5 : decode cX1_entryCount 5 = .ok (.invokevirtual 26, 3) := by decide +kernel
theorem dX1_entryCount_8 : decode cX1_entryCount 8 = .ok (.bipush 16, 2) := by decide +kernel
theorem dX1_entryCount_10 : decode cX1_entryCount 10 = .ok (.idiv, 1) := by decide +kernel
theorem dX1_entryCount_11 : decode cX1_entryCount 11 = .ok (.sipush 184, 3) := by decide +kernel
theorem dX1_entryCount_14 : decode cX1_entryCount 14 = .ok (.invokestatic 32, 3) := by decide +kernel
theorem dX1_entryCount_17 : decode cX1_entryCount 17 = .ok (.ireturn, 1) := by decide +kernel
theorem dX1_entryPlace_0 : decode cX1_entryPlace 0 = .ok (.aload_n 0, 1) := by decide +kernel
theorem dX1_entryPlace_1 : decode cX1_entryPlace 1 = .ok (.getfield 15, 3) := by decide +kernel
theorem dX1_entryPlace_4 : decode cX1_entryPlace 4 = .ok (.iload_n 1, 1) := by decide +kernel
theorem dX1_entryPlace_5 : decode cX1_entryPlace 5 = .ok (.iload_n 2, 1) := by decide +kernel
theorem dX1_entryPlace_6 : decode cX1_entryPlace 6 = .ok (.bipush 16, 2) := by decide +kernel
theorem dX1_entryPlace_8 : decode cX1_entryPlace 8 = .ok (.imul, 1) := by decide +kernel
theorem dX1_entryPlace_9 : decode cX1_entryPlace 9 = .ok (.invokevirtual 38, 3) := by decide +kernel
theorem dX1_entryPlace_12 : decode cX1_entryPlace 12 = .ok (.ireturn, 1) := by decide +kernel
theorem dX1_seek_0 : decode cX1_seek 0 = .ok (.aload_n 2, 1) := by decide +kernel
theorem dX1_seek_1 : decode cX1_seek 1 = .ok (.invokevirtual 41, 3) := by decide +kernel
theorem dX1_seek_4 : decode cX1_seek 4 = .ok (.ifCond .ne 5, 3) := by decide +kernel
theorem dX1_seek_7 : decode cX1_seek 7 = .ok (.iconst (-1), 1) := by decide +kernel
theorem dX1_seek_8 : decode cX1_seek 8 = .ok (.ireturn, 1) := by decide +kernel
theorem dX1_seek_9 : decode cX1_seek 9 = .ok (.aload_n 0, 1) := by decide +kernel
theorem dX1_seek_10 : decode cX1_seek 10 = .ok (.iload_n 1, 1) := by decide +kernel
theorem dX1_seek_11 : decode cX1_seek 11 = .ok (.invokevirtual 45, 3) := by decide +kernel
theorem dX1_seek_14 : decode cX1_seek 14 = .ok (.istore_n 3, 1) := by decide +kernel
theorem dX1_seek_15 : decode cX1_seek 15 = .ok (.iconst 2, 1) := by decide +kernel
theorem dX1_seek_16 : decode cX1_seek 16 = .ok (.istore 4, 2) := by decide +kernel
theorem dX1_seek_18 : decode cX1_seek 18 = .ok (.iload 4, 2) := by decide +kernel
theorem dX1_seek_20 : decode cX1_seek 20 = .ok (.iload_n 3, 1) := by decide +kernel
theorem dX1_seek_21 : decode cX1_seek 21 = .ok (.if_icmp .ge 37, 3) := by decide +kernel
theorem dX1_seek_24 : decode cX1_seek 24 = .ok (.aload_n 0, 1) := by decide +kernel
theorem dX1_seek_25 : decode cX1_seek 25 = .ok (.iload_n 1, 1) := by decide +kernel
theorem dX1_seek_26 : decode cX1_seek 26 = .ok (.iload 4, 2) := by decide +kernel
theorem dX1_seek_28 : decode cX1_seek 28 = .ok (.invokevirtual 48, 3) := by decide +kernel
theorem dX1_seek_31 : decode cX1_seek 31 = .ok (.istore 5, 2) := by decide +kernel
theorem dX1_seek_33 : decode cX1_seek 33 = .ok (.iload 5, 2) := by decide +kernel
theorem dX1_seek_35 : decode cX1_seek 35 = .ok (.iconst (-1), 1) := by decide +kernel
theorem dX1_seek_36 : decode cX1_seek 36 = .ok (.if_icmp .eq 16, 3) := by decide +kernel
theorem dX1_seek_39 : decode cX1_seek 39 = .ok (.aload_n 0, 1) := by decide +kernel
theorem dX1_seek_40 : decode cX1_seek 40 = .ok (.iload 5, 2) := by decide +kernel
theorem dX1_seek_42 : decode cX1_seek 42 = .ok (.aload_n 2, 1) := by decide +kernel
theorem dX1_seek_43 : decode cX1_seek 43 = .ok (.invokevirtual 51, 3) := by decide +kernel
theorem dX1_seek_46 : decode cX1_seek 46 = .ok (.ifCond .eq 6, 3) := by decide +kernel
theorem dX1_seek_49 : decode cX1_seek 49 = .ok (.iload 5, 2) := by decide +kernel
theorem dX1_seek_51 : decode cX1_seek 51 = .ok (.ireturn, 1) := by decide +kernel
theorem dX1_seek_52 : decode cX1_seek 52 = .ok (.iinc 4 1, 3) := by decide +kernel
theorem dX1_seek_55 : decode cX1_seek 55 = .ok (.goto (-37), 3) := by decide +kernel
theorem dX1_seek_58 : decode cX1_seek 58 = .ok (.iconst (-1), 1) := by decide +kernel
theorem dX1_seek_59 : decode cX1_seek 59 = .ok (.ireturn, 1) := by decide +kernel
theorem dX1_isNamed_0 : decode cX1_isNamed 0 = .ok (.aload_n 2, 1) := by decide +kernel
theorem dX1_isNamed_1 : decode cX1_isNamed 1 = .ok (.invokevirtual 41, 3) := by decide +kernel
theorem dX1_isNamed_4 : decode cX1_isNamed 4 = .ok (.istore_n 3, 1) := by decide +kernel
theorem dX1_isNamed_5 : decode cX1_isNamed 5 = .ok (.aload_n 0, 1) := by decide +kernel
theorem dX1_isNamed_6 : decode cX1_isNamed 6 = .ok (.getfield 9, 3) := by decide +kernel
theorem dX1_isNamed_9 : decode cX1_isNamed 9 = .ok (.iload_n 1, 1) := by decide +kernel
theorem dX1_isNamed_10 : decode cX1_isNamed 10 = .ok (.iconst 1, 1) := by decide +kernel
theorem dX1_isNamed_11 : decode cX1_isNamed 11 = .ok (.iadd, 1) := by decide +kernel
theorem dX1_isNamed_12 : decode cX1_isNamed 12 = .ok (.invokevirtual 55, 3) := by decide +kernel
theorem dX1_isNamed_15 : decode cX1_isNamed 15 = .ok (.iload_n 3, 1) := by decide +kernel
theorem dX1_isNamed_16 : decode cX1_isNamed 16 = .ok (.if_icmp .eq 5, 3) := by decide +kernel
theorem dX1_isNamed_19 : decode cX1_isNamed 19 = .ok (.iconst 0, 1) := by decide +kernel
theorem dX1_isNamed_20 : decode cX1_isNamed 20 = .ok (.ireturn, 1) := by decide +kernel
theorem dX1_isNamed_21 : decode cX1_isNamed 21 = .ok (.iconst 0, 1) := by decide +kernel
theorem dX1_isNamed_22 : decode cX1_isNamed 22 = .ok (.istore 4, 2) := by decide +kernel
theorem dX1_isNamed_24 : decode cX1_isNamed 24 = .ok (.iload 4, 2) := by decide +kernel
theorem dX1_isNamed_26 : decode cX1_isNamed 26 = .ok (.iload_n 3, 1) := by decide +kernel
theorem dX1_isNamed_27 : decode cX1_isNamed 27 = .ok (.if_icmp .ge 33, 3) := by decide +kernel
theorem dX1_isNamed_30 : decode cX1_isNamed 30 = .ok (.aload_n 0, 1) := by decide +kernel
theorem dX1_isNamed_31 : decode cX1_isNamed 31 = .ok (.getfield 9, 3) := by decide +kernel
theorem dX1_isNamed_34 : decode cX1_isNamed 34 = .ok (.iload_n 1, 1) := by decide +kernel
theorem dX1_isNamed_35 : decode cX1_isNamed 35 = .ok (.iconst 2, 1) := by decide +kernel
theorem dX1_isNamed_36 : decode cX1_isNamed 36 = .ok (.iadd, 1) := by decide +kernel
theorem dX1_isNamed_37 : decode cX1_isNamed 37 = .ok (.iload 4, 2) := by decide +kernel
theorem dX1_isNamed_39 : decode cX1_isNamed 39 = .ok (.iadd, 1) := by decide +kernel
theorem dX1_isNamed_40 : decode cX1_isNamed 40 = .ok (.invokevirtual 55, 3) := by decide +kernel
theorem dX1_isNamed_43 : decode cX1_isNamed 43 = .ok (.aload_n 2, 1) := by decide +kernel
theorem dX1_isNamed_44 : decode cX1_isNamed 44 = .ok (.iload 4, 2) := by decide +kernel
theorem dX1_isNamed_46 : decode cX1_isNamed 46 = .ok (.invokevirtual 60, 3) := by decide +kernel
theorem dX1_isNamed_49 : decode cX1_isNamed 49 = .ok (.if_icmp .eq 5, 3) := by decide +kernel
theorem dX1_isNamed_52 : decode cX1_isNamed 52 = .ok (.iconst 0, 1) := by decide +kernel
theorem dX1_isNamed_53 : decode cX1_isNamed 53 = .ok (.ireturn, 1) := by decide +kernel
theorem dX1_isNamed_54 : decode cX1_isNamed 54 = .ok (.iinc 4 1, 3) := by decide +kernel
theorem dX1_isNamed_57 : decode cX1_isNamed 57 = .ok (.goto (-33), 3) := by decide +kernel
theorem dX1_isNamed_60 : decode cX1_isNamed 60 = .ok (.iconst 1, 1) := by decide +kernel
theorem dX1_isNamed_61 : decode cX1_isNamed 61 = .ok (.ireturn, 1) := by decide +kernel
theorem dX1_writeEntry_0 : decode cX1_writeEntry 0 = .ok (.aload_n 0, 1) := by decide +kernel
theorem dX1_writeEntry_1 : decode cX1_writeEntry 1 = .ok (.getfield 9, 3) := by decide +kernel
theorem dX1_writeEntry_4 : decode cX1_writeEntry 4 = .ok (.iload_n 1, 1) := by decide +kernel
theorem dX1_writeEntry_5 : decode cX1_writeEntry 5 = .ok (.bipush 16, 2) := by decide +kernel
theorem dX1_writeEntry_7 : decode cX1_writeEntry 7 = .ok (.invokevirtual 61, 3) := by decide +kernel
theorem dX1_writeEntry_10 : decode cX1_writeEntry 10 = .ok (.aload_n 0, 1) := by decide +kernel
theorem dX1_writeEntry_11 : decode cX1_writeEntry 11 = .ok (.getfield 9, 3) := by decide +kernel
theorem dX1_writeEntry_14 : decode cX1_writeEntry 14 = .ok (.iload_n 1, 1) := by decide +kernel
theorem dX1_writeEntry_15 : decode cX1_writeEntry 15 = .ok (.iload_n 2, 1) := by decide +kernel
theorem dX1_writeEntry_16 : decode cX1_writeEntry 16 = .ok (.invokevirtual 65, 3) := by decide +kernel
theorem dX1_writeEntry_19 : decode cX1_writeEntry 19 = .ok (.aload_n 0, 1) := by decide +kernel
theorem dX1_writeEntry_20 : decode cX1_writeEntry 20 = .ok (.getfield 9, 3) := by decide +kernel
theorem dX1_writeEntry_23 : decode cX1_writeEntry 23 = .ok (.iload_n 1, 1) := by decide +kernel
theorem dX1_writeEntry_24 : decode cX1_writeEntry 24 = .ok (.iconst 1, 1) := by decide +kernel
theorem dX1_writeEntry_25 : decode cX1_writeEntry 25 = .ok (.iadd, 1) := by decide +kernel
theorem dX1_writeEntry_26 : decode cX1_writeEntry 26 = .ok (.aload_n 3, 1) := by decide +kernel
theorem dX1_writeEntry_27 : decode cX1_writeEntry 27 = .ok (.invokevirtual 41, 3) := by decide +kernel
theorem dX1_writeEntry_30 : decode cX1_writeEntry 30 = .ok (.invokevirtual 65, 3) := by decide +kernel
theorem dX1_writeEntry_33 : decode cX1_writeEntry 33 = .ok (.iconst 0, 1) := by decide +kernel
theorem dX1_writeEntry_34 : decode cX1_writeEntry 34 = .ok (.istore 4, 2) := by decide +kernel
theorem dX1_writeEntry_36 : decode cX1_writeEntry 36 = .ok (.iload 4, 2) := by decide +kernel
theorem dX1_writeEntry_38 : decode cX1_writeEntry 38 = .ok (.aload_n 3, 1) := by decide +kernel
theorem dX1_writeEntry_39 : decode cX1_writeEntry 39 = .ok (.invokevirtual 41, 3) := by decide +kernel
theorem dX1_writeEntry_42 : decode cX1_writeEntry 42 = .ok (.if_icmp .ge 28, 3) := by decide +kernel
theorem dX1_writeEntry_45 : decode cX1_writeEntry 45 = .ok (.aload_n 0, 1) := by decide +kernel
theorem dX1_writeEntry_46 : decode cX1_writeEntry 46 = .ok (.getfield 9, 3) := by decide +kernel
theorem dX1_writeEntry_49 : decode cX1_writeEntry 49 = .ok (.iload_n 1, 1) := by decide +kernel
theorem dX1_writeEntry_50 : decode cX1_writeEntry 50 = .ok (.iconst 2, 1) := by decide +kernel
theorem dX1_writeEntry_51 : decode cX1_writeEntry 51 = .ok (.iadd, 1) := by decide +kernel
theorem dX1_writeEntry_52 : decode cX1_writeEntry 52 = .ok (.iload 4, 2) := by decide +kernel
theorem dX1_writeEntry_54 : decode cX1_writeEntry 54 = .ok (.iadd, 1) := by decide +kernel
theorem dX1_writeEntry_55 : decode cX1_writeEntry 55 = .ok (.aload_n 3, 1) := by decide +kernel
theorem dX1_writeEntry_56 : decode cX1_writeEntry 56 = .ok (.iload 4, 2) := by decide +kernel
theorem dX1_writeEntry_58 : decode cX1_writeEntry 58 = .ok (.invokevirtual 60, 3) := by decide +kernel
theorem dX1_writeEntry_61 : decode cX1_writeEntry 61 = .ok (.invokevirtual 65, 3) := by decide +kernel
theorem dX1_writeEntry_64 : decode cX1_writeEntry 64 = .ok (.iinc 4 1, 3) := by decide +kernel
theorem dX1_writeEntry_67 : decode cX1_writeEntry 67 = .ok (.goto (-31), 3) := by decide +kernel
theorem dX1_writeEntry_70 : decode cX1_writeEntry 70 = .ok (.return_, 1) := by decide +kernel
theorem dX1_wipeEntry_0 : decode cX1_wipeEntry 0 = .ok (.aload_n 0, 1) := by decide +kernel
theorem dX1_wipeEntry_1 : decode cX1_wipeEntry 1 = .ok (.getfield 9, 3) := by decide +kernel
theorem dX1_wipeEntry_4 : decode cX1_wipeEntry 4 = .ok (.iload_n 1, 1) := by decide +kernel
theorem dX1_wipeEntry_5 : decode cX1_wipeEntry 5 = .ok (.bipush 16, 2) := by decide +kernel
theorem dX1_wipeEntry_7 : decode cX1_wipeEntry 7 = .ok (.invokevirtual 61, 3) := by decide +kernel
theorem dX1_wipeEntry_10 : decode cX1_wipeEntry 10 = .ok (.return_, 1) := by decide +kernel
theorem dX1_writeDots_0 : decode cX1_writeDots 0 = .ok (.aload_n 0, 1) := by decide +kernel
theorem dX1_writeDots_1 : decode cX1_writeDots 1 = .ok (.getfield 22, 3) := by decide +kernel
theorem dX1_writeDots_4 : decode cX1_writeDots 4 = .ok (.ldc 68, 2) := by decide +kernel
theorem dX1_writeDots_6 : decode cX1_writeDots 6 = .ok (.invokevirtual 70, 3) := by decide +kernel
theorem dX1_writeDots_9 : decode cX1_writeDots 9 = .ok (.aload_n 0, 1) := by decide +kernel
theorem dX1_writeDots_10 : decode cX1_writeDots 10 = .ok (.aload_n 0, 1) := by decide +kernel
theorem dX1_writeDots_11 : decode cX1_writeDots 11 = .ok (.iload_n 1, 1) := by decide +kernel
theorem dX1_writeDots_12 : decode cX1_writeDots 12 = .ok (.iconst 0, 1) := by decide +kernel
theorem dX1_writeDots_13 : decode cX1_writeDots 13 = .ok (.invokevirtual 48, 3) := by decide +kernel
theorem dX1_writeDots_16 : decode cX1_writeDots 16 = .ok (.iload_n 1, 1) := by decide +kernel
theorem dX1_writeDots_17 : decode cX1_writeDots 17 = .ok (.aload_n 0, 1) := by decide +kernel
theorem dX1_writeDots_18 : decode cX1_writeDots 18 = .ok (.getfield 22, 3) := by decide +kernel
theorem dX1_writeDots_21 : decode cX1_writeDots 21 = .ok (.invokevirtual 74, 3) := by decide +kernel
theorem dX1_writeDots_24 : decode cX1_writeDots 24 = .ok (.aload_n 0, 1) := by decide +kernel
theorem dX1_writeDots_25 : decode cX1_writeDots 25 = .ok (.getfield 22, 3) := by decide +kernel
theorem dX1_writeDots_28 : decode cX1_writeDots 28 = .ok (.ldc 78, 2) := by decide +kernel
theorem dX1_writeDots_30 : decode cX1_writeDots 30 = .ok (.invokevirtual 70, 3) := by decide +kernel
theorem dX1_writeDots_33 : decode cX1_writeDots 33 = .ok (.aload_n 0, 1) := by decide +kernel
theorem dX1_writeDots_34 : decode cX1_writeDots 34 = .ok (.aload_n 0, 1) := by decide +kernel
theorem dX1_writeDots_35 : decode cX1_writeDots 35 = .ok (.iload_n 1, 1) := by decide +kernel
theorem dX1_writeDots_36 : decode cX1_writeDots 36 = .ok (.iconst 1, 1) := by decide +kernel
theorem dX1_writeDots_37 : decode cX1_writeDots 37 = .ok (.invokevirtual 48, 3) := by decide +kernel
theorem dX1_writeDots_40 : decode cX1_writeDots 40 = .ok (.iload_n 2, 1) := by decide +kernel
theorem dX1_writeDots_41 : decode cX1_writeDots 41 = .ok (.aload_n 0, 1) := by decide +kernel
theorem dX1_writeDots_42 : decode cX1_writeDots 42 = .ok (.getfield 22, 3) := by decide +kernel
theorem dX1_writeDots_45 : decode cX1_writeDots 45 = .ok (.invokevirtual 74, 3) := by decide +kernel
theorem dX1_writeDots_48 : decode cX1_writeDots 48 = .ok (.return_, 1) := by decide +kernel
theorem dX1_setParent_0 : decode cX1_setParent 0 = .ok (.aload_n 0, 1) := by decide +kernel
theorem dX1_setParent_1 : decode cX1_setParent 1 = .ok (.getfield 15, 3) := by decide +kernel
theorem dX1_setParent_4 : decode cX1_setParent 4 = .ok (.iload_n 1, 1) := by decide +kernel
theorem dX1_setParent_5 : decode cX1_setParent 5 = .ok (.invokevirtual 80, 3) := by decide +kernel
theorem dX1_setParent_8 : decode cX1_setParent 8 = .ok (.iconst 2, 1) := by decide +kernel
theorem dX1_setParent_9 : decode cX1_setParent 9 = .ok (.if_icmp .ne 21, 3) := by decide +kernel
theorem dX1_setParent_12 : decode cX1_setParent 12 = .ok (.aload_n 0, 1) := by decide +kernel
theorem dX1_setParent_13 : decode cX1_setParent 13 = .ok (.getfield 9, 3) := by decide +kernel
theorem dX1_setParent_16 : decode cX1_setParent 16 = .ok (.aload_n 0, 1) := by decide +kernel
theorem dX1_setParent_17 : decode cX1_setParent 17 = .ok (.getfield 15, 3) := by decide +kernel
theorem dX1_setParent_20 : decode cX1_setParent 20 = .ok (.iload_n 1, 1) := by decide +kernel
theorem dX1_setParent_21 : decode cX1_setParent 21 = .ok (.bipush 16, 2) := by decide +kernel
theorem dX1_setParent_23 : decode cX1_setParent 23 = .ok (.invokevirtual 38, 3) := by decide +kernel
theorem dX1_setParent_26 : decode cX1_setParent 26 = .ok (.iload_n 2, 1) := by decide +kernel
theorem dX1_setParent_27 : decode cX1_setParent 27 = .ok (.invokevirtual 65, 3) := by decide +kernel
theorem dX1_setParent_30 : decode cX1_setParent 30 = .ok (.return_, 1) := by decide +kernel
theorem dX1_begin_0 : decode cX1_begin 0 = .ok (.aload_n 0, 1) := by decide +kernel
theorem dX1_begin_1 : decode cX1_begin 1 = .ok (.getfield 15, 3) := by decide +kernel
theorem dX1_begin_4 : decode cX1_begin 4 = .ok (.iload_n 1, 1) := by decide +kernel
theorem dX1_begin_5 : decode cX1_begin 5 = .ok (.iconst 2, 1) := by decide +kernel
theorem dX1_begin_6 : decode cX1_begin 6 = .ok (.invokevirtual 83, 3) := by decide +kernel
theorem dX1_begin_9 : decode cX1_begin 9 = .ok (.aload_n 0, 1) := by decide +kernel
theorem dX1_begin_10 : decode cX1_begin 10 = .ok (.getfield 15, 3) := by decide +kernel
theorem dX1_begin_13 : decode cX1_begin 13 = .ok (.iload_n 1, 1) := by decide +kernel
theorem dX1_begin_14 : decode cX1_begin 14 = .ok (.invokevirtual 86, 3) := by decide +kernel
theorem dX1_begin_17 : decode cX1_begin 17 = .ok (.iconst (-1), 1) := by decide +kernel
theorem dX1_begin_18 : decode cX1_begin 18 = .ok (.if_icmp .ne 13, 3) := by decide +kernel
theorem dX1_begin_21 : decode cX1_begin 21 = .ok (.aload_n 0, 1) := by decide +kernel
theorem dX1_begin_22 : decode cX1_begin 22 = .ok (.getfield 15, 3) := by decide +kernel
theorem dX1_begin_25 : decode cX1_begin 25 = .ok (.iload_n 1, 1) := by decide +kernel
theorem dX1_begin_26 : decode cX1_begin 26 = .ok (.invokevirtual 89, 3) := by decide +kernel
theorem dX1_begin_29 : decode cX1_begin 29 = .ok (.iconst 0, 1) := by decide +kernel
theorem dX1_begin_30 : decode cX1_begin 30 = .ok (.ireturn, 1) := by decide +kernel
theorem dX1_begin_31 : decode cX1_begin 31 = .ok (.aload_n 0, 1) := by decide +kernel
theorem dX1_begin_32 : decode cX1_begin 32 = .ok (.getfield 15, 3) := by decide +kernel
theorem dX1_begin_35 : decode cX1_begin 35 = .ok (.iload_n 1, 1) := by decide +kernel
theorem dX1_begin_36 : decode cX1_begin 36 = .ok (.bipush 64, 2) := by decide +kernel
theorem dX1_begin_38 : decode cX1_begin 38 = .ok (.invokevirtual 92, 3) := by decide +kernel
theorem dX1_begin_41 : decode cX1_begin 41 = .ok (.aload_n 0, 1) := by decide +kernel
theorem dX1_begin_42 : decode cX1_begin 42 = .ok (.iload_n 1, 1) := by decide +kernel
theorem dX1_begin_43 : decode cX1_begin 43 = .ok (.iload_n 2, 1) := by decide +kernel
theorem dX1_begin_44 : decode cX1_begin 44 = .ok (.invokevirtual 95, 3) := by decide +kernel
theorem dX1_begin_47 : decode cX1_begin 47 = .ok (.iconst 1, 1) := by decide +kernel
theorem dX1_begin_48 : decode cX1_begin 48 = .ok (.ireturn, 1) := by decide +kernel
theorem dX1_roomIn_0 : decode cX1_roomIn 0 = .ok (.aload_n 0, 1) := by decide +kernel
theorem dX1_roomIn_1 : decode cX1_roomIn 1 = .ok (.iload_n 1, 1) := by decide +kernel
theorem dX1_roomIn_2 : decode cX1_roomIn 2 = .ok (.invokevirtual 45, 3) := by decide +kernel
theorem dX1_roomIn_5 : decode cX1_roomIn 5 = .ok (.istore_n 2, 1) := by decide +kernel
theorem dX1_roomIn_6 : decode cX1_roomIn 6 = .ok (.iconst 2, 1) := by decide +kernel
theorem dX1_roomIn_7 : decode cX1_roomIn 7 = .ok (.istore_n 3, 1) := by decide +kernel
theorem dX1_roomIn_8 : decode cX1_roomIn 8 = .ok (.iload_n 3, 1) := by decide +kernel
theorem dX1_roomIn_9 : decode cX1_roomIn 9 = .ok (.iload_n 2, 1) := by decide +kernel
theorem dX1_roomIn_10 : decode cX1_roomIn 10 = .ok (.if_icmp .ge 32, 3) := by decide +kernel
theorem dX1_roomIn_13 : decode cX1_roomIn 13 = .ok (.aload_n 0, 1) := by decide +kernel
theorem dX1_roomIn_14 : decode cX1_roomIn 14 = .ok (.iload_n 1, 1) := by decide +kernel
theorem dX1_roomIn_15 : decode cX1_roomIn 15 = .ok (.iload_n 3, 1) := by decide +kernel
theorem dX1_roomIn_16 : decode cX1_roomIn 16 = .ok (.invokevirtual 48, 3) := by decide +kernel
theorem dX1_roomIn_19 : decode cX1_roomIn 19 = .ok (.istore 4, 2) := by decide +kernel
theorem dX1_roomIn_21 : decode cX1_roomIn 21 = .ok (.aload_n 0, 1) := by decide +kernel
theorem dX1_roomIn_22 : decode cX1_roomIn 22 = .ok (.getfield 9, 3) := by decide +kernel
theorem dX1_roomIn_25 : decode cX1_roomIn 25 = .ok (.iload 4, 2) := by decide +kernel
theorem dX1_roomIn_27 : decode cX1_roomIn 27 = .ok (.invokevirtual 55, 3) := by decide +kernel
theorem dX1_roomIn_30 : decode cX1_roomIn 30 = .ok (.ifCond .ne 6, 3) := by decide +kernel
theorem dX1_roomIn_33 : decode cX1_roomIn 33 = .ok (.iload 4, 2) := by decide +kernel
theorem dX1_roomIn_35 : decode cX1_roomIn 35 = .ok (.ireturn, 1) := by decide +kernel
theorem dX1_roomIn_36 : decode cX1_roomIn 36 = .ok (.iinc 3 1, 3) := by decide +kernel
theorem dX1_roomIn_39 : decode cX1_roomIn 39 = .ok (.goto (-31), 3) := by decide +kernel
theorem dX1_roomIn_42 : decode cX1_roomIn 42 = .ok (.aload_n 0, 1) := by decide +kernel
theorem dX1_roomIn_43 : decode cX1_roomIn 43 = .ok (.getfield 15, 3) := by decide +kernel
theorem dX1_roomIn_46 : decode cX1_roomIn 46 = .ok (.iload_n 1, 1) := by decide +kernel
theorem dX1_roomIn_47 : decode cX1_roomIn 47 = .ok (.invokevirtual 86, 3) := by decide +kernel
theorem dX1_roomIn_50 : decode cX1_roomIn 50 = .ok (.istore_n 3, 1) := by decide +kernel
theorem dX1_roomIn_51 : decode cX1_roomIn 51 = .ok (.iload_n 3, 1) := by decide +kernel
theorem dX1_roomIn_52 : decode cX1_roomIn 52 = .ok (.iconst (-1), 1) := by decide +kernel
theorem dX1_roomIn_53 : decode cX1_roomIn 53 = .ok (.if_icmp .ne 5, 3) := by decide +kernel
theorem dX1_roomIn_56 : decode cX1_roomIn 56 = .ok (.iconst (-1), 1) := by decide +kernel
theorem dX1_roomIn_57 : decode cX1_roomIn 57 = .ok (.ireturn, 1) := by decide +kernel
theorem dX1_roomIn_58 : decode cX1_roomIn 58 = .ok (.aload_n 0, 1) := by decide +kernel
theorem dX1_roomIn_59 : decode cX1_roomIn 59 = .ok (.getfield 15, 3) := by decide +kernel
theorem dX1_roomIn_62 : decode cX1_roomIn 62 = .ok (.iload_n 1, 1) := by decide +kernel
theorem dX1_roomIn_63 : decode cX1_roomIn 63 = .ok (.aload_n 0, 1) := by decide +kernel
theorem dX1_roomIn_64 : decode cX1_roomIn 64 = .ok (.getfield 15, 3) := by decide +kernel
theorem dX1_roomIn_67 : decode cX1_roomIn 67 = .ok (.iload_n 1, 1) := by decide +kernel
theorem dX1_roomIn_68 : decode cX1_roomIn 68 = .ok (.invokevirtual 26, 3) := by decide +kernel
theorem dX1_roomIn_71 : decode cX1_roomIn 71 = .ok (.bipush 64, 2) := by decide +kernel
theorem dX1_roomIn_73 : decode cX1_roomIn 73 = .ok (.iadd, 1) := by decide +kernel
theorem dX1_roomIn_74 : decode cX1_roomIn 74 = .ok (.invokevirtual 92, 3) := by decide +kernel
theorem dX1_roomIn_77 : decode cX1_roomIn 77 = .ok (.iload_n 3, 1) := by decide +kernel
theorem dX1_roomIn_78 : decode cX1_roomIn 78 = .ok (.bipush 64, 2) := by decide +kernel
theorem dX1_roomIn_80 : decode cX1_roomIn 80 = .ok (.imul, 1) := by decide +kernel
theorem dX1_roomIn_81 : decode cX1_roomIn 81 = .ok (.ireturn, 1) := by decide +kernel
theorem dX1_isEmpty_0 : decode cX1_isEmpty 0 = .ok (.aload_n 0, 1) := by decide +kernel
theorem dX1_isEmpty_1 : decode cX1_isEmpty 1 = .ok (.iload_n 1, 1) := by decide +kernel
theorem dX1_isEmpty_2 : decode cX1_isEmpty 2 = .ok (.invokevirtual 45, 3) := by decide +kernel
theorem dX1_isEmpty_5 : decode cX1_isEmpty 5 = .ok (.istore_n 2, 1) := by decide +kernel
theorem dX1_isEmpty_6 : decode cX1_isEmpty 6 = .ok (.iconst 2, 1) := by decide +kernel
theorem dX1_isEmpty_7 : decode cX1_isEmpty 7 = .ok (.istore_n 3, 1) := by decide +kernel
theorem dX1_isEmpty_8 : decode cX1_isEmpty 8 = .ok (.iload_n 3, 1) := by decide +kernel
theorem dX1_isEmpty_9 : decode cX1_isEmpty 9 = .ok (.iload_n 2, 1) := by decide +kernel
theorem dX1_isEmpty_10 : decode cX1_isEmpty 10 = .ok (.if_icmp .ge 27, 3) := by decide +kernel
theorem dX1_isEmpty_13 : decode cX1_isEmpty 13 = .ok (.aload_n 0, 1) := by decide +kernel
theorem dX1_isEmpty_14 : decode cX1_isEmpty 14 = .ok (.getfield 9, 3) := by decide +kernel
theorem dX1_isEmpty_17 : decode cX1_isEmpty 17 = .ok (.aload_n 0, 1) := by decide +kernel
theorem dX1_isEmpty_18 : decode cX1_isEmpty 18 = .ok (.iload_n 1, 1) := by decide +kernel
theorem dX1_isEmpty_19 : decode cX1_isEmpty 19 = .ok (.iload_n 3, 1) := by decide +kernel
theorem dX1_isEmpty_20 : decode cX1_isEmpty 20 = .ok (.invokevirtual 48, 3) := by decide +kernel
theorem dX1_isEmpty_23 : decode cX1_isEmpty 23 = .ok (.invokevirtual 55, 3) := by decide +kernel
theorem dX1_isEmpty_26 : decode cX1_isEmpty 26 = .ok (.ifCond .eq 5, 3) := by decide +kernel
theorem dX1_isEmpty_29 : decode cX1_isEmpty 29 = .ok (.iconst 0, 1) := by decide +kernel
theorem dX1_isEmpty_30 : decode cX1_isEmpty 30 = .ok (.ireturn, 1) := by decide +kernel
theorem dX1_isEmpty_31 : decode cX1_isEmpty 31 = .ok (.iinc 3 1, 3) := by decide +kernel
theorem dX1_isEmpty_34 : decode cX1_isEmpty 34 = .ok (.goto (-26), 3) := by decide +kernel
theorem dX1_isEmpty_37 : decode cX1_isEmpty 37 = .ok (.iconst 1, 1) := by decide +kernel
theorem dX1_isEmpty_38 : decode cX1_isEmpty 38 = .ok (.ireturn, 1) := by decide +kernel
theorem dX1_tidy_0 : decode cX1_tidy 0 = .ok (.aload_n 0, 1) := by decide +kernel
theorem dX1_tidy_1 : decode cX1_tidy 1 = .ok (.iload_n 1, 1) := by decide +kernel
theorem dX1_tidy_2 : decode cX1_tidy 2 = .ok (.iload_n 1, 1) := by decide +kernel
theorem dX1_tidy_3 : decode cX1_tidy 3 = .ok (.invokevirtual 95, 3) := by decide +kernel
theorem dX1_tidy_6 : decode cX1_tidy 6 = .ok (.iconst 2, 1) := by decide +kernel
theorem dX1_tidy_7 : decode cX1_tidy 7 = .ok (.istore_n 2, 1) := by decide +kernel
theorem dX1_tidy_8 : decode cX1_tidy 8 = .ok (.iload_n 1, 1) := by decide +kernel
theorem dX1_tidy_9 : decode cX1_tidy 9 = .ok (.iconst 1, 1) := by decide +kernel
theorem dX1_tidy_10 : decode cX1_tidy 10 = .ok (.if_icmp .ne 41, 3) := by decide +kernel
theorem dX1_tidy_13 : decode cX1_tidy 13 = .ok (.aload_n 0, 1) := by decide +kernel
theorem dX1_tidy_14 : decode cX1_tidy 14 = .ok (.getfield 15, 3) := by decide +kernel
theorem dX1_tidy_17 : decode cX1_tidy 17 = .ok (.iconst 2, 1) := by decide +kernel
theorem dX1_tidy_18 : decode cX1_tidy 18 = .ok (.invokevirtual 80, 3) := by decide +kernel
theorem dX1_tidy_21 : decode cX1_tidy 21 = .ok (.ifCond .eq 30, 3) := by decide +kernel
theorem dX1_tidy_24 : decode cX1_tidy 24 = .ok (.aload_n 0, 1) := by decide +kernel
theorem dX1_tidy_25 : decode cX1_tidy 25 = .ok (.getfield 22, 3) := by decide +kernel
theorem dX1_tidy_28 : decode cX1_tidy 28 = .ok (.ldc 98, 2) := by decide +kernel
theorem dX1_tidy_30 : decode cX1_tidy 30 = .ok (.invokevirtual 70, 3) := by decide +kernel
theorem dX1_tidy_33 : decode cX1_tidy 33 = .ok (.aload_n 0, 1) := by decide +kernel
theorem dX1_tidy_34 : decode cX1_tidy 34 = .ok (.aload_n 0, 1) := by decide +kernel
theorem dX1_tidy_35 : decode cX1_tidy 35 = .ok (.iconst 1, 1) := by decide +kernel
theorem dX1_tidy_36 : decode cX1_tidy 36 = .ok (.iconst 2, 1) := by decide +kernel
theorem dX1_tidy_37 : decode cX1_tidy 37 = .ok (.invokevirtual 48, 3) := by decide +kernel
theorem dX1_tidy_40 : decode cX1_tidy 40 = .ok (.iconst 2, 1) := by decide +kernel
theorem dX1_tidy_41 : decode cX1_tidy 41 = .ok (.aload_n 0, 1) := by decide +kernel
theorem dX1_tidy_42 : decode cX1_tidy 42 = .ok (.getfield 22, 3) := by decide +kernel
theorem dX1_tidy_45 : decode cX1_tidy 45 = .ok (.invokevirtual 74, 3) := by decide +kernel
theorem dX1_tidy_48 : decode cX1_tidy 48 = .ok (.iinc 2 1, 3) := by decide +kernel
theorem dX1_tidy_51 : decode cX1_tidy 51 = .ok (.aload_n 0, 1) := by decide +kernel
theorem dX1_tidy_52 : decode cX1_tidy 52 = .ok (.iload_n 1, 1) := by decide +kernel
theorem dX1_tidy_53 : decode cX1_tidy 53 = .ok (.invokevirtual 45, 3) := by decide +kernel
theorem dX1_tidy_56 : decode cX1_tidy 56 = .ok (.istore_n 3, 1) := by decide +kernel
theorem dX1_tidy_57 : decode cX1_tidy 57 = .ok (.iload_n 2, 1) := by decide +kernel
theorem dX1_tidy_58 : decode cX1_tidy 58 = .ok (.istore 4, 2) := by decide +kernel
theorem dX1_tidy_60 : decode cX1_tidy 60 = .ok (.iload 4, 2) := by decide +kernel
theorem dX1_tidy_62 : decode cX1_tidy 62 = .ok (.iload_n 3, 1) := by decide +kernel
theorem dX1_tidy_63 : decode cX1_tidy 63 = .ok (.if_icmp .ge 34, 3) := by decide +kernel
theorem dX1_tidy_66 : decode cX1_tidy 66 = .ok (.aload_n 0, 1) := by decide +kernel
theorem dX1_tidy_67 : decode cX1_tidy 67 = .ok (.iload_n 1, 1) := by decide +kernel
theorem dX1_tidy_68 : decode cX1_tidy 68 = .ok (.iload 4, 2) := by decide +kernel
theorem dX1_tidy_70 : decode cX1_tidy 70 = .ok (.invokevirtual 48, 3) := by decide +kernel
theorem dX1_tidy_73 : decode cX1_tidy 73 = .ok (.istore 5, 2) := by decide +kernel
theorem dX1_tidy_75 : decode cX1_tidy 75 = .ok (.aload_n 0, 1) := by decide +kernel
theorem dX1_tidy_76 : decode cX1_tidy 76 = .ok (.iload_n 1, 1) := by decide +kernel
theorem dX1_tidy_77 : decode cX1_tidy 77 = .ok (.iload 5, 2) := by decide +kernel
theorem dX1_tidy_79 : decode cX1_tidy 79 = .ok (.invokevirtual 100, 3) := by decide +kernel
theorem dX1_tidy_82 : decode cX1_tidy 82 = .ok (.ifCond .ne 9, 3) := by decide +kernel
theorem dX1_tidy_85 : decode cX1_tidy 85 = .ok (.aload_n 0, 1) := by decide +kernel
theorem dX1_tidy_86 : decode cX1_tidy 86 = .ok (.iload 5, 2) := by decide +kernel
theorem dX1_tidy_88 : decode cX1_tidy 88 = .ok (.invokevirtual 104, 3) := by decide +kernel
theorem dX1_tidy_91 : decode cX1_tidy 91 = .ok (.iinc 4 1, 3) := by decide +kernel
theorem dX1_tidy_94 : decode cX1_tidy 94 = .ok (.goto (-34), 3) := by decide +kernel
theorem dX1_tidy_97 : decode cX1_tidy 97 = .ok (.return_, 1) := by decide +kernel
theorem dX1_isValid_0 : decode cX1_isValid 0 = .ok (.aload_n 0, 1) := by decide +kernel
theorem dX1_isValid_1 : decode cX1_isValid 1 = .ok (.getfield 9, 3) := by decide +kernel
theorem dX1_isValid_4 : decode cX1_isValid 4 = .ok (.iload_n 2, 1) := by decide +kernel
theorem dX1_isValid_5 : decode cX1_isValid 5 = .ok (.invokevirtual 55, 3) := by decide +kernel
theorem dX1_isValid_8 : decode cX1_isValid 8 = .ok (.istore_n 3, 1) := by decide +kernel
theorem dX1_isValid_9 : decode cX1_isValid 9 = .ok (.aload_n 0, 1) := by decide +kernel
theorem dX1_isValid_10 : decode cX1_isValid 10 = .ok (.getfield 9, 3) := by decide +kernel
theorem dX1_isValid_13 : decode cX1_isValid 13 = .ok (.iload_n 2, 1) := by decide +kernel
theorem dX1_isValid_14 : decode cX1_isValid 14 = .ok (.iconst 1, 1) := by decide +kernel
theorem dX1_isValid_15 : decode cX1_isValid 15 = .ok (.iadd, 1) := by decide +kernel
theorem dX1_isValid_16 : decode cX1_isValid 16 = .ok (.invokevirtual 55, 3) := by decide +kernel
theorem dX1_isValid_19 : decode cX1_isValid 19 = .ok (.istore 4, 2) := by decide +kernel
theorem dX1_isValid_21 : decode cX1_isValid 21 = .ok (.iload_n 3, 1) := by decide +kernel
theorem dX1_isValid_22 : decode cX1_isValid 22 = .ok (.iconst 3, 1) := by decide +kernel
theorem dX1_isValid_23 : decode cX1_isValid 23 = .ok (.if_icmp .lt 27, 3) := by decide +kernel
theorem dX1_isValid_26 : decode cX1_isValid 26 = .ok (.aload_n 0, 1) := by decide +kernel
theorem dX1_isValid_27 : decode cX1_isValid 27 = .ok (.getfield 15, 3) := by decide +kernel
theorem dX1_isValid_30 : decode cX1_isValid 30 = .ok (.iload_n 3, 1) := by decide +kernel
theorem dX1_isValid_31 : decode cX1_isValid 31 = .ok (.invokevirtual 80, 3) := by decide +kernel
theorem dX1_isValid_34 : decode cX1_isValid 34 = .ok (.ifCond .eq 16, 3) := by decide +kernel
theorem dX1_isValid_37 : decode cX1_isValid 37 = .ok (.iload 4, 2) := by decide +kernel
theorem dX1_isValid_39 : decode cX1_isValid 39 = .ok (.iconst 1, 1) := by decide +kernel
theorem dX1_isValid_40 : decode cX1_isValid 40 = .ok (.if_icmp .lt 10, 3) := by decide +kernel
theorem dX1_isValid_43 : decode cX1_isValid 43 = .ok (.iload 4, 2) := by decide +kernel
theorem dX1_isValid_45 : decode cX1_isValid 45 = .ok (.bipush 14, 2) := by decide +kernel
theorem dX1_isValid_47 : decode cX1_isValid 47 = .ok (.if_icmp .le 5, 3) := by decide +kernel
theorem dX1_isValid_50 : decode cX1_isValid 50 = .ok (.iconst 0, 1) := by decide +kernel
theorem dX1_isValid_51 : decode cX1_isValid 51 = .ok (.ireturn, 1) := by decide +kernel
theorem dX1_isValid_52 : decode cX1_isValid 52 = .ok (.aload_n 0, 1) := by decide +kernel
theorem dX1_isValid_53 : decode cX1_isValid 53 = .ok (.getfield 22, 3) := by decide +kernel
theorem dX1_isValid_56 : decode cX1_isValid 56 = .ok (.aload_n 0, 1) := by decide +kernel
theorem dX1_isValid_57 : decode cX1_isValid 57 = .ok (.getfield 9, 3) := by decide +kernel
theorem dX1_isValid_60 : decode cX1_isValid 60 = .ok (.iload_n 2, 1) := by decide +kernel
theorem dX1_isValid_61 : decode cX1_isValid 61 = .ok (.iconst 2, 1) := by decide +kernel
theorem dX1_isValid_62 : decode cX1_isValid 62 = .ok (.iadd, 1) := by decide +kernel
theorem dX1_isValid_63 : decode cX1_isValid 63 = .ok (.iload 4, 2) := by decide +kernel
theorem dX1_isValid_65 : decode cX1_isValid 65 = .ok (.invokevirtual 107, 3) := by decide +kernel
theorem dX1_isValid_68 : decode cX1_isValid 68 = .ok (.aload_n 0, 1) := by decide +kernel
theorem dX1_isValid_69 : decode cX1_isValid 69 = .ok (.getfield 9, 3) := by decide +kernel
theorem dX1_isValid_72 : decode cX1_isValid 72 = .ok (.iload_n 2, 1) := by decide +kernel
theorem dX1_isValid_73 : decode cX1_isValid 73 = .ok (.iconst 2, 1) := by decide +kernel
theorem dX1_isValid_74 : decode cX1_isValid 74 = .ok (.iadd, 1) := by decide +kernel
theorem dX1_isValid_75 : decode cX1_isValid 75 = .ok (.iload 4, 2) := by decide +kernel
theorem dX1_isValid_77 : decode cX1_isValid 77 = .ok (.iadd, 1) := by decide +kernel
theorem dX1_isValid_78 : decode cX1_isValid 78 = .ok (.bipush 14, 2) := by decide +kernel
theorem dX1_isValid_80 : decode cX1_isValid 80 = .ok (.iload 4, 2) := by decide +kernel
theorem dX1_isValid_82 : decode cX1_isValid 82 = .ok (.isub, 1) := by decide +kernel
theorem dX1_isValid_83 : decode cX1_isValid 83 = .ok (.invokevirtual 111, 3) := by decide +kernel
theorem dX1_isValid_86 : decode cX1_isValid 86 = .ok (.ifCond .eq 30, 3) := by decide +kernel
theorem dX1_isValid_89 : decode cX1_isValid 89 = .ok (.aload_n 0, 1) := by decide +kernel
theorem dX1_isValid_90 : decode cX1_isValid 90 = .ok (.getfield 22, 3) := by decide +kernel
theorem dX1_isValid_93 : decode cX1_isValid 93 = .ok (.invokevirtual 114, 3) := by decide +kernel
theorem dX1_isValid_96 : decode cX1_isValid 96 = .ok (.ifCond .eq 20, 3) := by decide +kernel
theorem dX1_isValid_99 : decode cX1_isValid 99 = .ok (.aload_n 0, 1) := by decide +kernel
theorem dX1_isValid_100 : decode cX1_isValid 100 = .ok (.iload_n 1, 1) := by decide +kernel
theorem dX1_isValid_101 : decode cX1_isValid 101 = .ok (.aload_n 0, 1) := by decide +kernel
theorem dX1_isValid_102 : decode cX1_isValid 102 = .ok (.getfield 22, 3) := by decide +kernel
theorem dX1_isValid_105 : decode cX1_isValid 105 = .ok (.invokevirtual 118, 3) := by decide +kernel
theorem dX1_isValid_108 : decode cX1_isValid 108 = .ok (.iload_n 2, 1) := by decide +kernel
theorem dX1_isValid_109 : decode cX1_isValid 109 = .ok (.if_icmp .ne 7, 3) := by decide +kernel
theorem dX1_isValid_112 : decode cX1_isValid 112 = .ok (.iconst 1, 1) := by decide +kernel
theorem dX1_isValid_113 : decode cX1_isValid 113 = .ok (.goto 4, 3) := by decide +kernel
theorem dX1_isValid_116 : decode cX1_isValid 116 = .ok (.iconst 0, 1) := by decide +kernel
theorem dX1_isValid_117 : decode cX1_isValid 117 = .ok (.ireturn, 1) := by decide +kernel
theorem dX1_wipeEntriesOf_0 : decode cX1_wipeEntriesOf 0 = .ok (.iconst 1, 1) := by decide +kernel
theorem dX1_wipeEntriesOf_1 : decode cX1_wipeEntriesOf 1 = .ok (.istore_n 2, 1) := by decide +kernel
theorem dX1_wipeEntriesOf_2 : decode cX1_wipeEntriesOf 2 = .ok (.iload_n 2, 1) := by decide +kernel
theorem dX1_wipeEntriesOf_3 : decode cX1_wipeEntriesOf 3 = .ok (.bipush 32, 2) := by decide +kernel
theorem dX1_wipeEntriesOf_5 : decode cX1_wipeEntriesOf 5 = .ok (.if_icmp .ge 74, 3) := by decide +kernel
theorem dX1_wipeEntriesOf_8 : decode cX1_wipeEntriesOf 8 = .ok (.aload_n 0, 1) := by decide +kernel
theorem dX1_wipeEntriesOf_9 : decode cX1_wipeEntriesOf 9 = .ok (.getfield 15, 3) := by decide +kernel
theorem dX1_wipeEntriesOf_12 : decode cX1_wipeEntriesOf 12 = .ok (.iload_n 2, 1) := by decide +kernel
theorem dX1_wipeEntriesOf_13 : decode cX1_wipeEntriesOf 13 = .ok (.invokevirtual 80, 3) := by decide +kernel
theorem dX1_wipeEntriesOf_16 : decode cX1_wipeEntriesOf 16 = .ok (.iconst 2, 1) := by decide +kernel
theorem dX1_wipeEntriesOf_17 : decode cX1_wipeEntriesOf 17 = .ok (.if_icmp .ne 11, 3) := by decide +kernel
theorem dX1_wipeEntriesOf_20 : decode cX1_wipeEntriesOf 20 = .ok (.aload_n 0, 1) := by decide +kernel
theorem dX1_wipeEntriesOf_21 : decode cX1_wipeEntriesOf 21 = .ok (.iload_n 2, 1) := by decide +kernel
theorem dX1_wipeEntriesOf_22 : decode cX1_wipeEntriesOf 22 = .ok (.invokevirtual 45, 3) := by decide +kernel
theorem dX1_wipeEntriesOf_25 : decode cX1_wipeEntriesOf 25 = .ok (.goto 4, 3) := by decide +kernel
theorem dX1_wipeEntriesOf_28 : decode cX1_wipeEntriesOf 28 = .ok (.iconst 0, 1) := by decide +kernel
theorem dX1_wipeEntriesOf_29 : decode cX1_wipeEntriesOf 29 = .ok (.istore_n 3, 1) := by decide +kernel
theorem dX1_wipeEntriesOf_30 : decode cX1_wipeEntriesOf 30 = .ok (.iconst 2, 1) := by decide +kernel
theorem dX1_wipeEntriesOf_31 : decode cX1_wipeEntriesOf 31 = .ok (.istore 4, 2) := by decide +kernel
theorem dX1_wipeEntriesOf_33 : decode cX1_wipeEntriesOf 33 = .ok (.iload 4, 2) := by decide +kernel
theorem dX1_wipeEntriesOf_35 : decode cX1_wipeEntriesOf 35 = .ok (.iload_n 3, 1) := by decide +kernel
theorem dX1_wipeEntriesOf_36 : decode cX1_wipeEntriesOf 36 = .ok (.if_icmp .ge 37, 3) := by decide +kernel
theorem dX1_wipeEntriesOf_39 : decode cX1_wipeEntriesOf 39 = .ok (.aload_n 0, 1) := by decide +kernel
theorem dX1_wipeEntriesOf_40 : decode cX1_wipeEntriesOf 40 = .ok (.iload_n 2, 1) := by decide +kernel
theorem dX1_wipeEntriesOf_41 : decode cX1_wipeEntriesOf 41 = .ok (.iload 4, 2) := by decide +kernel
theorem dX1_wipeEntriesOf_43 : decode cX1_wipeEntriesOf 43 = .ok (.invokevirtual 48, 3) := by decide +kernel
theorem dX1_wipeEntriesOf_46 : decode cX1_wipeEntriesOf 46 = .ok (.istore 5, 2) := by decide +kernel
theorem dX1_wipeEntriesOf_48 : decode cX1_wipeEntriesOf 48 = .ok (.aload_n 0, 1) := by decide +kernel
theorem dX1_wipeEntriesOf_49 : decode cX1_wipeEntriesOf 49 = .ok (.getfield 9, 3) := by decide +kernel
theorem dX1_wipeEntriesOf_52 : decode cX1_wipeEntriesOf 52 = .ok (.iload 5, 2) := by decide +kernel
theorem dX1_wipeEntriesOf_54 : decode cX1_wipeEntriesOf 54 = .ok (.invokevirtual 55, 3) := by decide +kernel
theorem dX1_wipeEntriesOf_57 : decode cX1_wipeEntriesOf 57 = .ok (.iload_n 1, 1) := by decide +kernel
theorem dX1_wipeEntriesOf_58 : decode cX1_wipeEntriesOf 58 = .ok (.if_icmp .ne 9, 3) := by decide +kernel
theorem dX1_wipeEntriesOf_61 : decode cX1_wipeEntriesOf 61 = .ok (.aload_n 0, 1) := by decide +kernel
theorem dX1_wipeEntriesOf_62 : decode cX1_wipeEntriesOf 62 = .ok (.iload 5, 2) := by decide +kernel
theorem dX1_wipeEntriesOf_64 : decode cX1_wipeEntriesOf 64 = .ok (.invokevirtual 104, 3) := by decide +kernel
theorem dX1_wipeEntriesOf_67 : decode cX1_wipeEntriesOf 67 = .ok (.iinc 4 1, 3) := by decide +kernel
theorem dX1_wipeEntriesOf_70 : decode cX1_wipeEntriesOf 70 = .ok (.goto (-37), 3) := by decide +kernel
theorem dX1_wipeEntriesOf_73 : decode cX1_wipeEntriesOf 73 = .ok (.iinc 2 1, 3) := by decide +kernel
theorem dX1_wipeEntriesOf_76 : decode cX1_wipeEntriesOf 76 = .ok (.goto (-74), 3) := by decide +kernel
theorem dX1_wipeEntriesOf_79 : decode cX1_wipeEntriesOf 79 = .ok (.return_, 1) := by decide +kernel
theorem dX1_countLinks_0 : decode cX1_countLinks 0 = .ok (.iconst 1, 1) := by decide +kernel
theorem dX1_countLinks_1 : decode cX1_countLinks 1 = .ok (.istore_n 1, 1) := by decide +kernel
theorem dX1_countLinks_2 : decode cX1_countLinks 2 = .ok (.iload_n 1, 1) := by decide +kernel
theorem dX1_countLinks_3 : decode cX1_countLinks 3 = .ok (.bipush 32, 2) := by decide +kernel
theorem dX1_countLinks_5 : decode cX1_countLinks 5 = .ok (.if_icmp .ge 34, 3) := by decide +kernel
theorem dX1_countLinks_8 : decode cX1_countLinks 8 = .ok (.aload_n 0, 1) := by decide +kernel
theorem dX1_countLinks_9 : decode cX1_countLinks 9 = .ok (.getfield 15, 3) := by decide +kernel
theorem dX1_countLinks_12 : decode cX1_countLinks 12 = .ok (.iload_n 1, 1) := by decide +kernel
theorem dX1_countLinks_13 : decode cX1_countLinks 13 = .ok (.aload_n 0, 1) := by decide +kernel
theorem dX1_countLinks_14 : decode cX1_countLinks 14 = .ok (.getfield 15, 3) := by decide +kernel
theorem dX1_countLinks_17 : decode cX1_countLinks 17 = .ok (.iload_n 1, 1) := by decide +kernel
theorem dX1_countLinks_18 : decode cX1_countLinks 18 = .ok (.invokevirtual 80, 3) := by decide +kernel
theorem dX1_countLinks_21 : decode cX1_countLinks 21 = .ok (.iconst 2, 1) := by decide +kernel
theorem dX1_countLinks_22 : decode cX1_countLinks 22 = .ok (.if_icmp .ne 7, 3) := by decide +kernel
theorem dX1_countLinks_25 : decode cX1_countLinks 25 = .ok (.iconst 2, 1) := by decide +kernel
theorem dX1_countLinks_26 : decode cX1_countLinks 26 = .ok (.goto 4, 3) := by decide +kernel
theorem dX1_countLinks_29 : decode cX1_countLinks 29 = .ok (.iconst 0, 1) := by decide +kernel
theorem dX1_countLinks_30 : decode cX1_countLinks 30 = .ok (.invokevirtual 122, 3) := by decide +kernel
theorem dX1_countLinks_33 : decode cX1_countLinks 33 = .ok (.iinc 1 1, 3) := by decide +kernel
theorem dX1_countLinks_36 : decode cX1_countLinks 36 = .ok (.goto (-34), 3) := by decide +kernel
theorem dX1_countLinks_39 : decode cX1_countLinks 39 = .ok (.iconst 1, 1) := by decide +kernel
theorem dX1_countLinks_40 : decode cX1_countLinks 40 = .ok (.istore_n 1, 1) := by decide +kernel
theorem dX1_countLinks_41 : decode cX1_countLinks 41 = .ok (.iload_n 1, 1) := by decide +kernel
theorem dX1_countLinks_42 : decode cX1_countLinks 42 = .ok (.bipush 32, 2) := by decide +kernel
theorem dX1_countLinks_44 : decode cX1_countLinks 44 = .ok (.if_icmp .ge 62, 3) := by decide +kernel
theorem dX1_countLinks_47 : decode cX1_countLinks 47 = .ok (.aload_n 0, 1) := by decide +kernel
theorem dX1_countLinks_48 : decode cX1_countLinks 48 = .ok (.getfield 15, 3) := by decide +kernel
theorem dX1_countLinks_51 : decode cX1_countLinks 51 = .ok (.iload_n 1, 1) := by decide +kernel
theorem dX1_countLinks_52 : decode cX1_countLinks 52 = .ok (.invokevirtual 80, 3) := by decide +kernel
theorem dX1_countLinks_55 : decode cX1_countLinks 55 = .ok (.iconst 2, 1) := by decide +kernel
theorem dX1_countLinks_56 : decode cX1_countLinks 56 = .ok (.if_icmp .ne 11, 3) := by decide +kernel
theorem dX1_countLinks_59 : decode cX1_countLinks 59 = .ok (.aload_n 0, 1) := by decide +kernel
theorem dX1_countLinks_60 : decode cX1_countLinks 60 = .ok (.iload_n 1, 1) := by decide +kernel
theorem dX1_countLinks_61 : decode cX1_countLinks 61 = .ok (.invokevirtual 45, 3) := by decide +kernel
theorem dX1_countLinks_64 : decode cX1_countLinks 64 = .ok (.goto 4, 3) := by decide +kernel
theorem dX1_countLinks_67 : decode cX1_countLinks 67 = .ok (.iconst 0, 1) := by decide +kernel
theorem dX1_countLinks_68 : decode cX1_countLinks 68 = .ok (.istore_n 2, 1) := by decide +kernel
theorem dX1_countLinks_69 : decode cX1_countLinks 69 = .ok (.iconst 2, 1) := by decide +kernel
theorem dX1_countLinks_70 : decode cX1_countLinks 70 = .ok (.istore_n 3, 1) := by decide +kernel
theorem dX1_countLinks_71 : decode cX1_countLinks 71 = .ok (.iload_n 3, 1) := by decide +kernel
theorem dX1_countLinks_72 : decode cX1_countLinks 72 = .ok (.iload_n 2, 1) := by decide +kernel
theorem dX1_countLinks_73 : decode cX1_countLinks 73 = .ok (.if_icmp .ge 27, 3) := by decide +kernel
theorem dX1_countLinks_76 : decode cX1_countLinks 76 = .ok (.aload_n 0, 1) := by decide +kernel
theorem dX1_countLinks_77 : decode cX1_countLinks 77 = .ok (.iload_n 1, 1) := by decide +kernel
theorem dX1_countLinks_78 : decode cX1_countLinks 78 = .ok (.aload_n 0, 1) := by decide +kernel
theorem dX1_countLinks_79 : decode cX1_countLinks 79 = .ok (.getfield 9, 3) := by decide +kernel
theorem dX1_countLinks_82 : decode cX1_countLinks 82 = .ok (.aload_n 0, 1) := by decide +kernel
theorem dX1_countLinks_83 : decode cX1_countLinks 83 = .ok (.iload_n 1, 1) := by decide +kernel
theorem dX1_countLinks_84 : decode cX1_countLinks 84 = .ok (.iload_n 3, 1) := by decide +kernel
theorem dX1_countLinks_85 : decode cX1_countLinks 85 = .ok (.invokevirtual 48, 3) := by decide +kernel
theorem dX1_countLinks_88 : decode cX1_countLinks 88 = .ok (.invokevirtual 55, 3) := by decide +kernel
theorem dX1_countLinks_91 : decode cX1_countLinks 91 = .ok (.invokevirtual 125, 3) := by decide +kernel
theorem dX1_countLinks_94 : decode cX1_countLinks 94 = .ok (.iinc 3 1, 3) := by decide +kernel
theorem dX1_countLinks_97 : decode cX1_countLinks 97 = .ok (.goto (-26), 3) := by decide +kernel
theorem dX1_countLinks_100 : decode cX1_countLinks 100 = .ok (.iinc 1 1, 3) := by decide +kernel
theorem dX1_countLinks_103 : decode cX1_countLinks 103 = .ok (.goto (-62), 3) := by decide +kernel
theorem dX1_countLinks_106 : decode cX1_countLinks 106 = .ok (.return_, 1) := by decide +kernel
theorem dX1_countLink_0 : decode cX1_countLink 0 = .ok (.aload_n 0, 1) := by decide +kernel
theorem dX1_countLink_1 : decode cX1_countLink 1 = .ok (.getfield 15, 3) := by decide +kernel
theorem dX1_countLink_4 : decode cX1_countLink 4 = .ok (.iload_n 2, 1) := by decide +kernel
theorem dX1_countLink_5 : decode cX1_countLink 5 = .ok (.invokevirtual 80, 3) := by decide +kernel
theorem dX1_countLink_8 : decode cX1_countLink 8 = .ok (.istore_n 3, 1) := by decide +kernel
theorem dX1_countLink_9 : decode cX1_countLink 9 = .ok (.iload_n 3, 1) := by decide +kernel
theorem dX1_countLink_10 : decode cX1_countLink 10 = .ok (.ifCond .eq 35, 3) := by decide +kernel
theorem dX1_countLink_13 : decode cX1_countLink 13 = .ok (.iload_n 3, 1) := by decide +kernel
theorem dX1_countLink_14 : decode cX1_countLink 14 = .ok (.iconst 2, 1) := by decide +kernel
theorem dX1_countLink_15 : decode cX1_countLink 15 = .ok (.if_icmp .ne 7, 3) := by decide +kernel
theorem dX1_countLink_18 : decode cX1_countLink 18 = .ok (.iload_n 1, 1) := by decide +kernel
theorem dX1_countLink_19 : decode cX1_countLink 19 = .ok (.goto 4, 3) := by decide +kernel
theorem dX1_countLink_22 : decode cX1_countLink 22 = .ok (.iload_n 2, 1) := by decide +kernel
theorem dX1_countLink_23 : decode cX1_countLink 23 = .ok (.istore 4, 2) := by decide +kernel
theorem dX1_countLink_25 : decode cX1_countLink 25 = .ok (.aload_n 0, 1) := by decide +kernel
theorem dX1_countLink_26 : decode cX1_countLink 26 = .ok (.getfield 15, 3) := by decide +kernel
theorem dX1_countLink_29 : decode cX1_countLink 29 = .ok (.iload 4, 2) := by decide +kernel
theorem dX1_countLink_31 : decode cX1_countLink 31 = .ok (.aload_n 0, 1) := by decide +kernel
theorem dX1_countLink_32 : decode cX1_countLink 32 = .ok (.getfield 15, 3) := by decide +kernel
theorem dX1_countLink_35 : decode cX1_countLink 35 = .ok (.iload 4, 2) := by decide +kernel
theorem dX1_countLink_37 : decode cX1_countLink 37 = .ok (.invokevirtual 128, 3) := by decide +kernel
theorem dX1_countLink_40 : decode cX1_countLink 40 = .ok (.iconst 1, 1) := by decide +kernel
theorem dX1_countLink_41 : decode cX1_countLink 41 = .ok (.iadd, 1) := by decide +kernel
theorem dX1_countLink_42 : decode cX1_countLink 42 = .ok (.invokevirtual 122, 3) := by decide +kernel
theorem dX1_countLink_45 : decode cX1_countLink 45 = .ok (.return_, 1) := by decide +kernel
theorem dX2_init_0 : decode cX2_init 0 = .ok (.aload_n 0, 1) := by decide +kernel
theorem dX2_init_1 : decode cX2_init 1 = .ok (.invokespecial 3, 3) := by decide +kernel
theorem dX2_init_4 : decode cX2_init 4 = .ok (.aload_n 0, 1) := by decide +kernel
theorem dX2_init_5 : decode cX2_init 5 = .ok (.sipush 4096, 3) := by decide +kernel
theorem dX2_init_8 : decode cX2_init 8 = .ok (.newarray .int, 2) := by decide +kernel
theorem dX2_init_10 : decode cX2_init 10 = .ok (.putfield 9, 3) := by decide +kernel
theorem dX2_init_13 : decode cX2_init 13 = .ok (.return_, 1) := by decide +kernel
theorem dX2_at_0 : decode cX2_at 0 = .ok (.iload_n 1, 1) := by decide +kernel
theorem dX2_at_1 : decode cX2_at 1 = .ok (.ifCond .lt 19, 3) := by decide +kernel
theorem dX2_at_4 : decode cX2_at 4 = .ok (.iload_n 1, 1) := by decide +kernel
theorem dX2_at_5 : decode cX2_at 5 = .ok (.sipush 4096, 3) := by decide +kernel
theorem dX2_at_8 : decode cX2_at 8 = .ok (.if_icmp .ge 12, 3) := by decide +kernel
theorem dX2_at_11 : decode cX2_at 11 = .ok (.aload_n 0, 1) := by decide +kernel
theorem dX2_at_12 : decode cX2_at 12 = .ok (.getfield 9, 3) := by decide +kernel
theorem dX2_at_15 : decode cX2_at 15 = .ok (.iload_n 1, 1) := by decide +kernel
theorem dX2_at_16 : decode cX2_at 16 = .ok (.iaload, 1) := by decide +kernel
theorem dX2_at_17 : decode cX2_at 17 = .ok (.goto 4, 3) := by decide +kernel
theorem dX2_at_20 : decode cX2_at 20 = .ok (.iconst 0, 1) := by decide +kernel
theorem dX2_at_21 : decode cX2_at 21 = .ok (.ireturn, 1) := by decide +kernel
theorem dX2_set_0 : decode cX2_set 0 = .ok (.iload_n 1, 1) := by decide +kernel
theorem dX2_set_1 : decode cX2_set 1 = .ok (.ifCond .lt 21, 3) := by decide +kernel
theorem dX2_set_4 : decode cX2_set 4 = .ok (.iload_n 1, 1) := by decide +kernel
theorem dX2_set_5 : decode cX2_set 5 = .ok (.sipush 4096, 3) := by decide +kernel
theorem dX2_set_8 : decode cX2_set 8 = .ok (.if_icmp .ge 14, 3) := by decide +kernel
theorem dX2_set_11 : decode cX2_set 11 = .ok (.aload_n 0, 1) := by decide +kernel
theorem dX2_set_12 : decode cX2_set 12 = .ok (.getfield 9, 3) := by decide +kernel
theorem dX2_set_15 : decode cX2_set 15 = .ok (.iload_n 1, 1) := by decide +kernel
theorem dX2_set_16 : decode cX2_set 16 = .ok (.iload_n 2, 1) := by decide +kernel
theorem dX2_set_17 : decode cX2_set 17 = .ok (.sipush 255, 3) := by decide +kernel
theorem dX2_set_20 : decode cX2_set 20 = .ok (.iand, 1) := by decide +kernel
theorem dX2_set_21 : decode cX2_set 21 = .ok (.iastore, 1) := by decide +kernel
theorem dX2_set_22 : decode cX2_set 22 = .ok (.return_, 1) := by decide +kernel
theorem dX2_pairAt_0 : decode cX2_pairAt 0 = .ok (.iload_n 1, 1) := by decide +kernel
theorem dX2_pairAt_1 : decode cX2_pairAt 1 = .ok (.ifCond .lt 32, 3) := by decide +kernel
theorem dX2_pairAt_4 : decode cX2_pairAt 4 = .ok (.iload_n 1, 1) := by decide +kernel
theorem dX2_pairAt_5 : decode cX2_pairAt 5 = .ok (.sipush 4095, 3) := by decide +kernel
theorem dX2_pairAt_8 : decode cX2_pairAt 8 = .ok (.if_icmp .ge 25, 3) := by decide +kernel
theorem dX2_pairAt_11 : decode cX2_pairAt 11 = .ok (.aload_n 0, 1) := by decide +kernel
theorem dX2_pairAt_12 : decode cX2_pairAt 12 = .ok (.getfield 9, 3) := by decide +kernel
theorem dX2_pairAt_15 : decode cX2_pairAt 15 = .ok (.iload_n 1, 1) := by decide +kernel
theorem dX2_pairAt_16 : decode cX2_pairAt 16 = .ok (.iaload, 1) := by decide +kernel
theorem dX2_pairAt_17 : decode cX2_pairAt 17 = .ok (.sipush 256, 3) := by decide +kernel
theorem dX2_pairAt_20 : decode cX2_pairAt 20 = .ok (.imul, 1) := by decide +kernel
theorem dX2_pairAt_21 : decode cX2_pairAt 21 = .ok (.aload_n 0, 1) := by decide +kernel
theorem dX2_pairAt_22 : decode cX2_pairAt 22 = .ok (.getfield 9, 3) := by decide +kernel
theorem dX2_pairAt_25 : decode cX2_pairAt 25 = .ok (.iload_n 1, 1) := by decide +kernel
theorem dX2_pairAt_26 : decode cX2_pairAt 26 = .ok (.iconst 1, 1) := by decide +kernel
theorem dX2_pairAt_27 : decode cX2_pairAt 27 = .ok (.iadd, 1) := by decide +kernel
theorem dX2_pairAt_28 : decode cX2_pairAt 28 = .ok (.iaload, 1) := by decide +kernel
theorem dX2_pairAt_29 : decode cX2_pairAt 29 = .ok (.iadd, 1) := by decide +kernel
theorem dX2_pairAt_30 : decode cX2_pairAt 30 = .ok (.goto 4, 3) := by decide +kernel
theorem dX2_pairAt_33 : decode cX2_pairAt 33 = .ok (.iconst 0, 1) := by decide +kernel
theorem dX2_pairAt_34 : decode cX2_pairAt 34 = .ok (.ireturn, 1) := by decide +kernel
theorem dX2_setPair_0 : decode cX2_setPair 0 = .ok (.iload_n 1, 1) := by decide +kernel
theorem dX2_setPair_1 : decode cX2_setPair 1 = .ok (.ifCond .lt 37, 3) := by decide +kernel
theorem dX2_setPair_4 : decode cX2_setPair 4 = .ok (.iload_n 1, 1) := by decide +kernel
theorem dX2_setPair_5 : decode cX2_setPair 5 = .ok (.sipush 4095, 3) := by decide +kernel
theorem dX2_setPair_8 : decode cX2_setPair 8 = .ok (.if_icmp .ge 30, 3) := by decide +kernel
theorem dX2_setPair_11 : decode cX2_setPair 11 = .ok (.aload_n 0, 1) := by decide +kernel
theorem dX2_setPair_12 : decode cX2_setPair 12 = .ok (.getfield 9, 3) := by decide +kernel
theorem dX2_setPair_15 : decode cX2_setPair 15 = .ok (.iload_n 1, 1) := by decide +kernel
theorem dX2_setPair_16 : decode cX2_setPair 16 = .ok (.iload_n 2, 1) := by decide +kernel
theorem dX2_setPair_17 : decode cX2_setPair 17 = .ok (.bipush 8, 2) := by decide +kernel
theorem dX2_setPair_19 : decode cX2_setPair 19 = .ok (.ishr, 1) := by decide +kernel
theorem dX2_setPair_20 : decode cX2_setPair 20 = .ok (.sipush 255, 3) := by decide +kernel
theorem dX2_setPair_23 : decode cX2_setPair 23 = .ok (.iand, 1) := by decide +kernel
theorem dX2_setPair_24 : decode cX2_setPair 24 = .ok (.iastore, 1) := by decide +kernel
theorem dX2_setPair_25 : decode cX2_setPair 25 = .ok (.aload_n 0, 1) := by decide +kernel
theorem dX2_setPair_26 : decode cX2_setPair 26 = .ok (.getfield 9, 3) := by decide +kernel
theorem dX2_setPair_29 : decode cX2_setPair 29 = .ok (.iload_n 1, 1) := by decide +kernel
theorem dX2_setPair_30 : decode cX2_setPair 30 = .ok (.iconst 1, 1) := by decide +kernel
theorem dX2_setPair_31 : decode cX2_setPair 31 = .ok (.iadd, 1) := by decide +kernel
theorem dX2_setPair_32 : decode cX2_setPair 32 = .ok (.iload_n 2, 1) := by decide +kernel
theorem dX2_setPair_33 : decode cX2_setPair 33 = .ok (.sipush 255, 3) := by decide +kernel
theorem dX2_setPair_36 : decode cX2_setPair 36 = .ok (.iand, 1) := by decide +kernel
theorem dX2_setPair_37 : decode cX2_setPair 37 = .ok (.iastore, 1) := by decide +kernel
theorem dX2_setPair_38 : decode cX2_setPair 38 = .ok (.return_, 1) := by decide +kernel
theorem dX2_hasText_0 : decode cX2_hasText 0 = .ok (.iconst 0, 1) := by decide +kernel
theorem dX2_hasText_1 : decode cX2_hasText 1 = .ok (.istore_n 3, 1) := by decide +kernel
theorem dX2_hasText_2 : decode cX2_hasText 2 = .ok (.iload_n 3, 1) := by decide +kernel
theorem dX2_hasText_3 : decode cX2_hasText 3 = .ok (.aload_n 2, 1) := by decide +kernel
theorem dX2_hasText_4 : decode cX2_hasText 4 = .ok (.invokevirtual 15, 3) := by decide +kernel
theorem dX2_hasText_7 : decode cX2_hasText 7 = .ok (.if_icmp .ge 26, 3) := by decide +kernel
theorem dX2_hasText_10 : decode cX2_hasText 10 = .ok (.aload_n 0, 1) := by decide +kernel
theorem dX2_hasText_11 : decode cX2_hasText 11 = .ok (.iload_n 1, 1) := by decide +kernel
theorem dX2_hasText_12 : decode cX2_hasText 12 = .ok (.iload_n 3, 1) := by decide +kernel
theorem dX2_hasText_13 : decode cX2_hasText 13 = .ok (.iadd, 1) := by decide +kernel
theorem dX2_hasText_14 : decode cX2_hasText 14 = .ok (.invokevirtual 21, 3) := by decide +kernel
theorem dX2_hasText_17 : decode cX2_hasText 17 = .ok (.aload_n 2, 1) := by decide +kernel
theorem dX2_hasText_18 : decode cX2_hasText 18 = .ok (.iload_n 3, 1) := by decide +kernel
theorem dX2_hasText_19 : decode cX2_hasText 19 = .ok (.invokevirtual 25, 3) := by decide +kernel
theorem dX2_hasText_22 : decode cX2_hasText 22 = .ok (.if_icmp .eq 5, 3) := by decide +kernel
theorem dX2_hasText_25 : decode cX2_hasText 25 = .ok (.iconst 0, 1) := by decide +kernel
theorem dX2_hasText_26 : decode cX2_hasText 26 = .ok (.ireturn, 1) := by decide +kernel
theorem dX2_hasText_27 : decode cX2_hasText 27 = .ok (.iinc 3 1, 3) := by decide +kernel
theorem dX2_hasText_30 : decode cX2_hasText 30 = .ok (.goto (-28), 3) := by decide +kernel
theorem dX2_hasText_33 : decode cX2_hasText 33 = .ok (.iconst 1, 1) := by decide +kernel
theorem dX2_hasText_34 : decode cX2_hasText 34 = .ok (.ireturn, 1) := by decide +kernel
theorem dX2_setText_0 : decode cX2_setText 0 = .ok (.iconst 0, 1) := by decide +kernel
theorem dX2_setText_1 : decode cX2_setText 1 = .ok (.istore_n 3, 1) := by decide +kernel
theorem dX2_setText_2 : decode cX2_setText 2 = .ok (.iload_n 3, 1) := by decide +kernel
theorem dX2_setText_3 : decode cX2_setText 3 = .ok (.aload_n 2, 1) := by decide +kernel
theorem dX2_setText_4 : decode cX2_setText 4 = .ok (.invokevirtual 15, 3) := by decide +kernel
theorem dX2_setText_7 : decode cX2_setText 7 = .ok (.if_icmp .ge 21, 3) := by decide +kernel
theorem dX2_setText_10 : decode cX2_setText 10 = .ok (.aload_n 0, 1) := by decide +kernel
theorem dX2_setText_11 : decode cX2_setText 11 = .ok (.iload_n 1, 1) := by decide +kernel
theorem dX2_setText_12 : decode cX2_setText 12 = .ok (.iload_n 3, 1) := by decide +kernel
theorem dX2_setText_13 : decode cX2_setText 13 = .ok (.iadd, 1) := by decide +kernel
theorem dX2_setText_14 : decode cX2_setText 14 = .ok (.aload_n 2, 1) := by decide +kernel
theorem dX2_setText_15 : decode cX2_setText 15 = .ok (.iload_n 3, 1) := by decide +kernel
theorem dX2_setText_16 : decode cX2_setText 16 = .ok (.invokevirtual 25, 3) := by decide +kernel
theorem dX2_setText_19 : decode cX2_setText 19 = .ok (.invokevirtual 29, 3) := by decide +kernel
theorem dX2_setText_22 : decode cX2_setText 22 = .ok (.iinc 3 1, 3) := by decide +kernel
theorem dX2_setText_25 : decode cX2_setText 25 = .ok (.goto (-23), 3) := by decide +kernel
theorem dX2_setText_28 : decode cX2_setText 28 = .ok (.return_, 1) := by decide +kernel
theorem dX2_wipe_0 : decode cX2_wipe 0 = .ok (.iload_n 1, 1) := by decide +kernel
theorem dX2_wipe_1 : decode cX2_wipe 1 = .ok (.iload_n 2, 1) := by decide +kernel
theorem dX2_wipe_2 : decode cX2_wipe 2 = .ok (.invokestatic 33, 3) := by decide +kernel
theorem dX2_wipe_5 : decode cX2_wipe 5 = .ok (.ifCond .eq 15, 3) := by decide +kernel
theorem dX2_wipe_8 : decode cX2_wipe 8 = .ok (.aload_n 0, 1) := by decide +kernel
theorem dX2_wipe_9 : decode cX2_wipe 9 = .ok (.getfield 9, 3) := by decide +kernel
theorem dX2_wipe_12 : decode cX2_wipe 12 = .ok (.iload_n 1, 1) := by decide +kernel
theorem dX2_wipe_13 : decode cX2_wipe 13 = .ok (.iload_n 1, 1) := by decide +kernel
theorem dX2_wipe_14 : decode cX2_wipe 14 = .ok (.iload_n 2, 1) := by decide +kernel
theorem dX2_wipe_15 : decode cX2_wipe 15 = .ok (.iadd, 1) := by decide +kernel
theorem dX2_wipe_16 : decode cX2_wipe 16 = .ok (.iconst 0, 1) := by decide +kernel
theorem dX2_wipe_17 : decode cX2_wipe 17 = .ok (.invokestatic 37, 3) := by decide +kernel
theorem dX2_wipe_20 : decode cX2_wipe 20 = .ok (.return_, 1) := by decide +kernel
theorem dX2_isBlank_0 : decode cX2_isBlank 0 = .ok (.iload_n 1, 1) := by decide +kernel
theorem dX2_isBlank_1 : decode cX2_isBlank 1 = .ok (.iload_n 2, 1) := by decide +kernel
theorem dX2_isBlank_2 : decode cX2_isBlank 2 = .ok (.invokestatic 33, 3) := by decide +kernel
theorem dX2_isBlank_5 : decode cX2_isBlank 5 = .ok (.ifCond .ne 5, 3) := by decide +kernel
theorem dX2_isBlank_8 : decode cX2_isBlank 8 = .ok (.iconst 1, 1) := by decide +kernel
theorem dX2_isBlank_9 : decode cX2_isBlank 9 = .ok (.ireturn, 1) := by decide +kernel
theorem dX2_isBlank_10 : decode cX2_isBlank 10 = .ok (.iload_n 1, 1) := by decide +kernel
theorem dX2_isBlank_11 : decode cX2_isBlank 11 = .ok (.istore_n 3, 1) := by decide +kernel
theorem dX2_isBlank_12 : decode cX2_isBlank 12 = .ok (.iload_n 3, 1) := by decide +kernel
theorem dX2_isBlank_13 : decode cX2_isBlank 13 = .ok (.iload_n 1, 1) := by decide +kernel
theorem dX2_isBlank_14 : decode cX2_isBlank 14 = .ok (.iload_n 2, 1) := by decide +kernel
theorem dX2_isBlank_15 : decode cX2_isBlank 15 = .ok (.iadd, 1) := by decide +kernel
theorem dX2_isBlank_16 : decode cX2_isBlank 16 = .ok (.if_icmp .ge 20, 3) := by decide +kernel
theorem dX2_isBlank_19 : decode cX2_isBlank 19 = .ok (.aload_n 0, 1) := by decide +kernel
theorem dX2_isBlank_20 : decode cX2_isBlank 20 = .ok (.getfield 9, 3) := by decide +kernel
theorem dX2_isBlank_23 : decode cX2_isBlank 23 = .ok (.iload_n 3, 1) := by decide +kernel
theorem dX2_isBlank_24 : decode cX2_isBlank 24 = .ok (.iaload, 1) := by decide +kernel
theorem dX2_isBlank_25 : decode cX2_isBlank 25 = .ok (.ifCond .eq 5, 3) := by decide +kernel
theorem dX2_isBlank_28 : decode cX2_isBlank 28 = .ok (.iconst 0, 1) := by decide +kernel
theorem dX2_isBlank_29 : decode cX2_isBlank 29 = .ok (.ireturn, 1) := by decide +kernel
theorem dX2_isBlank_30 : decode cX2_isBlank 30 = .ok (.iinc 3 1, 3) := by decide +kernel
theorem dX2_isBlank_33 : decode cX2_isBlank 33 = .ok (.goto (-21), 3) := by decide +kernel
theorem dX2_isBlank_36 : decode cX2_isBlank 36 = .ok (.iconst 1, 1) := by decide +kernel
theorem dX2_isBlank_37 : decode cX2_isBlank 37 = .ok (.ireturn, 1) := by decide +kernel
theorem dX2_sum_0 : decode cX2_sum 0 = .ok (.iconst 0, 1) := by decide +kernel
theorem dX2_sum_1 : decode cX2_sum 1 = .ok (.istore_n 3, 1) := by decide +kernel
theorem dX2_sum_2 : decode cX2_sum 2 = .ok (.iload_n 1, 1) := by decide +kernel
theorem dX2_sum_3 : decode cX2_sum 3 = .ok (.iload_n 2, 1) := by decide +kernel
theorem dX2_sum_4 : decode cX2_sum 4 = .ok (.invokestatic 33, 3) := by decide +kernel
theorem dX2_sum_7 : decode cX2_sum 7 = .ok (.ifCond .eq 30, 3) := by decide +kernel
theorem dX2_sum_10 : decode cX2_sum 10 = .ok (.iload_n 1, 1) := by decide +kernel
theorem dX2_sum_11 : decode cX2_sum 11 = .ok (.istore 4, 2) := by decide +kernel
theorem dX2_sum_13 : decode cX2_sum 13 = .ok (.iload 4, 2) := by decide +kernel
theorem dX2_sum_15 : decode cX2_sum 15 = .ok (.iload_n 1, 1) := by decide +kernel
theorem dX2_sum_16 : decode cX2_sum 16 = .ok (.iload_n 2, 1) := by decide +kernel
theorem dX2_sum_17 : decode cX2_sum 17 = .ok (.iadd, 1) := by decide +kernel
theorem dX2_sum_18 : decode cX2_sum 18 = .ok (.if_icmp .ge 19, 3) := by decide +kernel
theorem dX2_sum_21 : decode cX2_sum 21 = .ok (.iload_n 3, 1) := by decide +kernel
theorem dX2_sum_22 : decode cX2_sum 22 = .ok (.aload_n 0, 1) := by decide +kernel
theorem dX2_sum_23 : decode cX2_sum 23 = .ok (.getfield 9, 3) := by decide +kernel
theorem dX2_sum_26 : decode cX2_sum 26 = .ok (.iload 4, 2) := by decide +kernel
theorem dX2_sum_28 : decode cX2_sum 28 = .ok (.iaload, 1) := by decide +kernel
theorem dX2_sum_29 : decode cX2_sum 29 = .ok (.iadd, 1) := by decide +kernel
theorem dX2_sum_30 : decode cX2_sum 30 = .ok (.istore_n 3, 1) := by decide +kernel
theorem dX2_sum_31 : decode cX2_sum 31 = .ok (.iinc 4 1, 3) := by decide +kernel
theorem dX2_sum_34 : decode cX2_sum 34 = .ok (.goto (-21), 3) := by decide +kernel
theorem dX2_sum_37 : decode cX2_sum 37 = .ok (.iload_n 3, 1) := by decide +kernel
theorem dX2_sum_38 : decode cX2_sum 38 = .ok (.ldc 43, 2) := by decide +kernel
theorem dX2_sum_40 : decode cX2_sum 40 = .ok (.iand, 1) := by decide +kernel
theorem dX2_sum_41 : decode cX2_sum 41 = .ok (.ireturn, 1) := by decide +kernel
theorem dX2_isRange_0 : decode cX2_isRange 0 = .ok (.iload_n 0, 1) := by decide +kernel
theorem dX2_isRange_1 : decode cX2_isRange 1 = .ok (.ifCond .lt 27, 3) := by decide +kernel
theorem dX2_isRange_4 : decode cX2_isRange 4 = .ok (.iload_n 0, 1) := by decide +kernel
theorem dX2_isRange_5 : decode cX2_isRange 5 = .ok (.sipush 4096, 3) := by decide +kernel
theorem dX2_isRange_8 : decode cX2_isRange 8 = .ok (.if_icmp .gt 20, 3) := by decide +kernel
theorem dX2_isRange_11 : decode cX2_isRange 11 = .ok (.iload_n 1, 1) := by decide +kernel
theorem dX2_isRange_12 : decode cX2_isRange 12 = .ok (.ifCond .lt 16, 3) := by decide +kernel
theorem dX2_isRange_15 : decode cX2_isRange 15 = .ok (.iload_n 1, 1) := by decide +kernel
theorem dX2_isRange_16 : decode cX2_isRange 16 = .ok (.sipush 4096, 3) := by decide +kernel
theorem dX2_isRange_19 : decode cX2_isRange 19 = .ok (.iload_n 0, 1) := by decide +kernel
theorem dX2_isRange_20 : decode cX2_isRange 20 = .ok (.isub, 1) := by decide +kernel
theorem dX2_isRange_21 : decode cX2_isRange 21 = .ok (.if_icmp .gt 7, 3) := by decide +kernel
theorem dX2_isRange_24 : decode cX2_isRange 24 = .ok (.iconst 1, 1) := by decide +kernel
theorem dX2_isRange_25 : decode cX2_isRange 25 = .ok (.goto 4, 3) := by decide +kernel
theorem dX2_isRange_28 : decode cX2_isRange 28 = .ok (.iconst 0, 1) := by decide +kernel
theorem dX2_isRange_29 : decode cX2_isRange 29 = .ok (.ireturn, 1) := by decide +kernel
theorem dX2_copyBlock_0 : decode cX2_copyBlock 0 = .ok (.iload_n 1, 1) := by decide +kernel
theorem dX2_copyBlock_1 : decode cX2_copyBlock 1 = .ok (.ifCond .lt 40, 3) := by decide +kernel
theorem dX2_copyBlock_4 : decode cX2_copyBlock 4 = .ok (.iload_n 1, 1) := by decide +kernel
theorem dX2_copyBlock_5 : decode cX2_copyBlock 5 = .ok (.bipush 64, 2) := by decide +kernel
theorem dX2_copyBlock_7 : decode cX2_copyBlock 7 = .ok (.if_icmp .ge 34, 3) := by decide +kernel
theorem dX2_copyBlock_10 : decode cX2_copyBlock 10 = .ok (.iload_n 3, 1) := by decide +kernel
theorem dX2_copyBlock_11 : decode cX2_copyBlock 11 = .ok (.ifCond .lt 30, 3) := by decide +kernel
theorem dX2_copyBlock_14 : decode cX2_copyBlock 14 = .ok (.iload_n 3, 1) := by decide +kernel
theorem dX2_copyBlock_15 : decode cX2_copyBlock 15 = .ok (.bipush 64, 2) := by decide +kernel
theorem dX2_copyBlock_17 : decode cX2_copyBlock 17 = .ok (.if_icmp .ge 24, 3) := by decide +kernel
theorem dX2_copyBlock_20 : decode cX2_copyBlock 20 = .ok (.aload_n 2, 1) := by decide +kernel
theorem dX2_copyBlock_21 : decode cX2_copyBlock 21 = .ok (.getfield 9, 3) := by decide +kernel
theorem dX2_copyBlock_24 : decode cX2_copyBlock 24 = .ok (.iload_n 1, 1) := by decide +kernel
theorem dX2_copyBlock_25 : decode cX2_copyBlock 25 = .ok (.bipush 64, 2) := by decide +kernel
theorem dX2_copyBlock_27 : decode cX2_copyBlock 27 = .ok (.imul, 1) := by decide +kernel
theorem dX2_copyBlock_28 : decode cX2_copyBlock 28 = .ok (.aload_n 0, 1) := by decide +kernel
theorem dX2_copyBlock_29 : decode cX2_copyBlock 29 = .ok (.getfield 9, 3) := by decide +kernel
theorem dX2_copyBlock_32 : decode cX2_copyBlock 32 = .ok (.iload_n 3, 1) := by decide +kernel
theorem dX2_copyBlock_33 : decode cX2_copyBlock 33 = .ok (.bipush 64, 2) := by decide +kernel
theorem dX2_copyBlock_35 : decode cX2_copyBlock 35 = .ok (.imul, 1) := by decide +kernel
theorem dX2_copyBlock_36 : decode cX2_copyBlock 36 = .ok (.bipush 64, 2) := by decide +kernel
theorem dX2_copyBlock_38 : decode cX2_copyBlock 38 = .ok (.invokestatic 44, 3) := by decide +kernel
theorem dX2_copyBlock_41 : decode cX2_copyBlock 41 = .ok (.return_, 1) := by decide +kernel
theorem dX2_copyAll_0 : decode cX2_copyAll 0 = .ok (.aload_n 1, 1) := by decide +kernel
theorem dX2_copyAll_1 : decode cX2_copyAll 1 = .ok (.getfield 9, 3) := by decide +kernel
theorem dX2_copyAll_4 : decode cX2_copyAll 4 = .ok (.iconst 0, 1) := by decide +kernel
theorem dX2_copyAll_5 : decode cX2_copyAll 5 = .ok (.aload_n 0, 1) := by decide +kernel
theorem dX2_copyAll_6 : decode cX2_copyAll 6 = .ok (.getfield 9, 3) := by decide +kernel
theorem dX2_copyAll_9 : decode cX2_copyAll 9 = .ok (.iconst 0, 1) := by decide +kernel
theorem dX2_copyAll_10 : decode cX2_copyAll 10 = .ok (.sipush 4096, 3) := by decide +kernel
theorem dX2_copyAll_13 : decode cX2_copyAll 13 = .ok (.invokestatic 44, 3) := by decide +kernel
theorem dX2_copyAll_16 : decode cX2_copyAll 16 = .ok (.return_, 1) := by decide +kernel
theorem dX2_sameBlock_0 : decode cX2_sameBlock 0 = .ok (.iload_n 1, 1) := by decide +kernel
theorem dX2_sameBlock_1 : decode cX2_sameBlock 1 = .ok (.ifCond .lt 9, 3) := by decide +kernel
theorem dX2_sameBlock_4 : decode cX2_sameBlock 4 = .ok (.iload_n 1, 1) := by decide +kernel
theorem dX2_sameBlock_5 : decode cX2_sameBlock 5 = .ok (.bipush 64, 2) := by decide +kernel
theorem dX2_sameBlock_7 : decode cX2_sameBlock 7 = .ok (.if_icmp .lt 5, 3) := by decide +kernel
theorem dX2_sameBlock_10 : decode cX2_sameBlock 10 = .ok (.iconst 1, 1) := by decide +kernel
theorem dX2_sameBlock_11 : decode cX2_sameBlock 11 = .ok (.ireturn, 1) := by decide +kernel
theorem dX2_sameBlock_12 : decode cX2_sameBlock 12 = .ok (.iload_n 1, 1) := by decide +kernel
theorem dX2_sameBlock_13 : decode cX2_sameBlock 13 = .ok (.bipush 64, 2) := by decide +kernel
theorem dX2_sameBlock_15 : decode cX2_sameBlock 15 = .ok (.imul, 1) := by decide +kernel
theorem dX2_sameBlock_16 : decode cX2_sameBlock 16 = .ok (.istore_n 3, 1) := by decide +kernel
theorem dX2_sameBlock_17 : decode cX2_sameBlock 17 = .ok (.iload_n 3, 1) := by decide +kernel
theorem dX2_sameBlock_18 : decode cX2_sameBlock 18 = .ok (.istore 4, 2) := by decide +kernel
theorem dX2_sameBlock_20 : decode cX2_sameBlock 20 = .ok (.iload 4, 2) := by decide +kernel
theorem dX2_sameBlock_22 : decode cX2_sameBlock 22 = .ok (.iload_n 3, 1) := by decide +kernel
theorem dX2_sameBlock_23 : decode cX2_sameBlock 23 = .ok (.bipush 64, 2) := by decide +kernel
theorem dX2_sameBlock_25 : decode cX2_sameBlock 25 = .ok (.iadd, 1) := by decide +kernel
theorem dX2_sameBlock_26 : decode cX2_sameBlock 26 = .ok (.if_icmp .ge 28, 3) := by decide +kernel
theorem dX2_sameBlock_29 : decode cX2_sameBlock 29 = .ok (.aload_n 0, 1) := by decide +kernel
theorem dX2_sameBlock_30 : decode cX2_sameBlock 30 = .ok (.getfield 9, 3) := by decide +kernel
theorem dX2_sameBlock_33 : decode cX2_sameBlock 33 = .ok (.iload 4, 2) := by decide +kernel
theorem dX2_sameBlock_35 : decode cX2_sameBlock 35 = .ok (.iaload, 1) := by decide +kernel
theorem dX2_sameBlock_36 : decode cX2_sameBlock 36 = .ok (.aload_n 2, 1) := by decide +kernel
theorem dX2_sameBlock_37 : decode cX2_sameBlock 37 = .ok (.getfield 9, 3) := by decide +kernel
theorem dX2_sameBlock_40 : decode cX2_sameBlock 40 = .ok (.iload 4, 2) := by decide +kernel
theorem dX2_sameBlock_42 : decode cX2_sameBlock 42 = .ok (.iaload, 1) := by decide +kernel
theorem dX2_sameBlock_43 : decode cX2_sameBlock 43 = .ok (.if_icmp .eq 5, 3) := by decide +kernel
theorem dX2_sameBlock_46 : decode cX2_sameBlock 46 = .ok (.iconst 0, 1) := by decide +kernel
theorem dX2_sameBlock_47 : decode cX2_sameBlock 47 = .ok (.ireturn, 1) := by decide +kernel
theorem dX2_sameBlock_48 : decode cX2_sameBlock 48 = .ok (.iinc 4 1, 3) := by decide +kernel
theorem dX2_sameBlock_51 : decode cX2_sameBlock 51 = .ok (.goto (-31), 3) := by decide +kernel
theorem dX2_sameBlock_54 : decode cX2_sameBlock 54 = .ok (.iconst 1, 1) := by decide +kernel
theorem dX2_sameBlock_55 : decode cX2_sameBlock 55 = .ok (.ireturn, 1) := by decide +kernel
theorem dX3_init_0 : decode cX3_init 0 = .ok (.aload_n 0, 1) := by decide +kernel
theorem dX3_init_1 : decode cX3_init 1 = .ok (.invokespecial 3, 3) := by decide +kernel
theorem dX3_init_4 : decode cX3_init 4 = .ok (.aload_n 0, 1) := by decide +kernel
theorem dX3_init_5 : decode cX3_init 5 = .ok (.aload_n 1, 1) := by decide +kernel
theorem dX3_init_6 : decode cX3_init 6 = .ok (.putfield 9, 3) := by decide +kernel
theorem dX3_init_9 : decode cX3_init 9 = .ok (.aload_n 0, 1) := by decide +kernel
theorem dX3_init_10 : decode cX3_init 10 = .ok (.aload_n 2, 1) := by decide +kernel
theorem dX3_init_11 : decode cX3_init 11 = .ok (.putfield 15, 3) := by decide +kernel
theorem dX3_init_14 : decode cX3_init 14 = .ok (.aload_n 0, 1) := by decide +kernel
theorem dX3_init_15 : decode cX3_init 15 = .ok (.aload_n 3, 1) := by decide +kernel
theorem dX3_init_16 : decode cX3_init 16 = .ok (.putfield 19, 3) := by decide +kernel
theorem dX3_init_19 : decode cX3_init 19 = .ok (.return_, 1) := by decide +kernel
theorem dX3_keepSound_0 : decode cX3_keepSound 0 = .ok (.aload_n 0, 1) := by decide +kernel
theorem dX3_keepSound_1 : decode cX3_keepSound 1 = .ok (.getfield 15, 3) := by decide +kernel
theorem dX3_keepSound_4 : decode cX3_keepSound 4 = .ok (.invokevirtual 23, 3) := by decide +kernel
theorem dX3_keepSound_7 : decode cX3_keepSound 7 = .ok (.aload_n 0, 1) := by decide +kernel
theorem dX3_keepSound_8 : decode cX3_keepSound 8 = .ok (.getfield 15, 3) := by decide +kernel
theorem dX3_keepSound_11 : decode cX3_keepSound 11 = .ok (.iconst 0, 1) := by decide +kernel
theorem dX3_keepSound_12 : decode cX3_keepSound 12 = .ok (.invokevirtual 28, 3) := by decide +kernel
theorem dX3_keepSound_15 : decode cX3_keepSound 15 = .ok (.iconst 1, 1) := by decide +kernel
theorem dX3_keepSound_16 : decode cX3_keepSound 16 = .ok (.istore_n 1, 1) := by decide +kernel
theorem dX3_keepSound_17 : decode cX3_keepSound 17 = .ok (.iload_n 1, 1) := by decide +kernel
theorem dX3_keepSound_18 : decode cX3_keepSound 18 = .ok (.bipush 32, 2) := by decide +kernel
theorem dX3_keepSound_20 : decode cX3_keepSound 20 = .ok (.if_icmp .ge 62, 3) := by decide +kernel
theorem dX3_keepSound_23 : decode cX3_keepSound 23 = .ok (.aload_n 0, 1) := by decide +kernel
theorem dX3_keepSound_24 : decode cX3_keepSound 24 = .ok (.iload_n 1, 1) := by decide +kernel
theorem dX3_keepSound_25 : decode cX3_keepSound 25 = .ok (.invokevirtual 32, 3) := by decide +kernel
theorem dX3_keepSound_28 : decode cX3_keepSound 28 = .ok (.ifCond .eq 34, 3) := by decide +kernel
theorem dX3_keepSound_31 : decode cX3_keepSound 31 = .ok (.aload_n 0, 1) := by decide +kernel
theorem dX3_keepSound_32 : decode cX3_keepSound 32 = .ok (.iload_n 1, 1) := by decide +kernel
theorem dX3_keepSound_33 : decode cX3_keepSound 33 = .ok (.invokevirtual 36, 3) := by decide +kernel
theorem dX3_keepSound_36 : decode cX3_keepSound 36 = .ok (.ifCond .eq 26, 3) := by decide +kernel
theorem dX3_keepSound_39 : decode cX3_keepSound 39 = .ok (.aload_n 0, 1) := by decide +kernel
theorem dX3_keepSound_40 : decode cX3_keepSound 40 = .ok (.iload_n 1, 1) := by decide +kernel
theorem dX3_keepSound_41 : decode cX3_keepSound 41 = .ok (.invokevirtual 39, 3) := by decide +kernel
theorem dX3_keepSound_44 : decode cX3_keepSound 44 = .ok (.ifCond .eq 18, 3) := by decide +kernel
theorem dX3_keepSound_47 : decode cX3_keepSound 47 = .ok (.aload_n 0, 1) := by decide +kernel
theorem dX3_keepSound_48 : decode cX3_keepSound 48 = .ok (.getfield 15, 3) := by decide +kernel
theorem dX3_keepSound_51 : decode cX3_keepSound 51 = .ok (.iload_n 1, 1) := by decide +kernel
theorem dX3_keepSound_52 : decode cX3_keepSound 52 = .ok (.invokevirtual 42, 3) := by decide +kernel
theorem dX3_keepSound_55 : decode cX3_keepSound 55 = .ok (.ifCond .eq 7, 3) := by decide +kernel
theorem dX3_keepSound_58 : decode cX3_keepSound 58 = .ok (.iconst 1, 1) := by decide +kernel
theorem dX3_keepSound_59 : decode cX3_keepSound 59 = .ok (.goto 4, 3) := by decide +kernel
theorem dX3_keepSound_62 : decode cX3_keepSound 62 = .ok (.iconst 0, 1) := by decide +kernel
theorem dX3_keepSound_63 : decode cX3_keepSound 63 = .ok (.istore_n 2, 1) := by decide +kernel
theorem dX3_keepSound_64 : decode cX3_keepSound 64 = .ok (.iload_n 2, 1) := by decide +kernel
theorem dX3_keepSound_65 : decode cX3_keepSound 65 = .ok (.ifCond .ne 11, 3) := by decide +kernel
theorem dX3_keepSound_68 : decode cX3_keepSound 68 = .ok (.aload_n 0, 1) := by decide +kernel
theorem dX3_keepSound_69 : decode cX3_keepSound 69 = .ok (.getfield 15, 3) := by decide +kernel
theorem dX3_keepSound_72 : decode cX3_keepSound 72 = .ok (.iload_n 1, 1) := by decide +kernel
theorem dX3_keepSound_73 : decode cX3_keepSound 73 = .ok (.invokevirtual 28, 3) := by decide +kernel
theorem dX3_keepSound_76 : decode cX3_keepSound 76 = .ok (.iinc 1 1, 3) := by decide +kernel
theorem dX3_keepSound_79 : decode cX3_keepSound 79 = .ok (.goto (-62), 3) := by decide +kernel
theorem dX3_keepSound_82 : decode cX3_keepSound 82 = .ok (.return_, 1) := by decide +kernel
theorem dX3_hasSoundHead_0 : decode cX3_hasSoundHead 0 = .ok (.aload_n 0, 1) := by decide +kernel
theorem dX3_hasSoundHead_1 : decode cX3_hasSoundHead 1 = .ok (.getfield 15, 3) := by decide +kernel
theorem dX3_hasSoundHead_4 : decode cX3_hasSoundHead 4 = .ok (.iload_n 1, 1) := by decide +kernel
