theorem dX7_writeMaps_59 : decode cX7_writeMaps 59 = .ok (.iload_n 2, 1) := by decide +kernel
theorem dX7_writeMaps_60 : decode cX7_writeMaps 60 = .ok (.bipush 32, 2) := by decide +kernel
theorem dX7_writeMaps_62 : decode cX7_writeMaps 62 = .ok (.if_icmp .ge 33, 3) := by decide +kernel
theorem dX7_writeMaps_65 : decode cX7_writeMaps 65 = .ok (.iload_n 2, 1) := by decide +kernel
theorem dX7_writeMaps_66 : decode cX7_writeMaps 66 = .ok (.ifCond .eq 14, 3) := by decide +kernel
theorem dX7_writeMaps_69 : decode cX7_writeMaps 69 = .ok (.aload_n 0, 1) := by decide +kernel
theorem dX7_writeMaps_70 : decode cX7_writeMaps 70 = .ok (.getfield 18, 3) := by decide +kernel
theorem dX7_writeMaps_73 : decode cX7_writeMaps 73 = .ok (.iload_n 2, 1) := by decide +kernel
theorem dX7_writeMaps_74 : decode cX7_writeMaps 74 = .ok (.invokevirtual 66, 3) := by decide +kernel
theorem dX7_writeMaps_77 : decode cX7_writeMaps 77 = .ok (.ifCond .eq 12, 3) := by decide +kernel
theorem dX7_writeMaps_80 : decode cX7_writeMaps 80 = .ok (.aload_n 0, 1) := by decide +kernel
theorem dX7_writeMaps_81 : decode cX7_writeMaps 81 = .ok (.iload_n 1, 1) := by decide +kernel
theorem dX7_writeMaps_82 : decode cX7_writeMaps 82 = .ok (.bipush 8, 2) := by decide +kernel
theorem dX7_writeMaps_84 : decode cX7_writeMaps 84 = .ok (.iadd, 1) := by decide +kernel
theorem dX7_writeMaps_85 : decode cX7_writeMaps 85 = .ok (.iload_n 2, 1) := by decide +kernel
theorem dX7_writeMaps_86 : decode cX7_writeMaps 86 = .ok (.invokevirtual 118, 3) := by decide +kernel
theorem dX7_writeMaps_89 : decode cX7_writeMaps 89 = .ok (.iinc 2 1, 3) := by decide +kernel
theorem dX7_writeMaps_92 : decode cX7_writeMaps 92 = .ok (.goto (-33), 3) := by decide +kernel
theorem dX7_writeMaps_95 : decode cX7_writeMaps 95 = .ok (.return_, 1) := by decide +kernel
theorem dX7_markUsed_0 : decode cX7_markUsed 0 = .ok (.iload_n 1, 1) := by decide +kernel
theorem dX7_markUsed_1 : decode cX7_markUsed 1 = .ok (.iload_n 2, 1) := by decide +kernel
theorem dX7_markUsed_2 : decode cX7_markUsed 2 = .ok (.bipush 8, 2) := by decide +kernel
theorem dX7_markUsed_4 : decode cX7_markUsed 4 = .ok (.idiv, 1) := by decide +kernel
theorem dX7_markUsed_5 : decode cX7_markUsed 5 = .ok (.iadd, 1) := by decide +kernel
theorem dX7_markUsed_6 : decode cX7_markUsed 6 = .ok (.istore_n 3, 1) := by decide +kernel
theorem dX7_markUsed_7 : decode cX7_markUsed 7 = .ok (.aload_n 0, 1) := by decide +kernel
theorem dX7_markUsed_8 : decode cX7_markUsed 8 = .ok (.getfield 15, 3) := by decide +kernel
theorem dX7_markUsed_11 : decode cX7_markUsed 11 = .ok (.iload_n 3, 1) := by decide +kernel
theorem dX7_markUsed_12 : decode cX7_markUsed 12 = .ok (.aload_n 0, 1) := by decide +kernel
theorem dX7_markUsed_13 : decode cX7_markUsed 13 = .ok (.getfield 15, 3) := by decide +kernel
theorem dX7_markUsed_16 : decode cX7_markUsed 16 = .ok (.iload_n 3, 1) := by decide +kernel
theorem dX7_markUsed_17 : decode cX7_markUsed 17 = .ok (.invokevirtual 121, 3) := by decide +kernel
theorem dX7_markUsed_20 : decode cX7_markUsed 20 = .ok (.sipush 128, 3) := by decide +kernel
theorem dX7_markUsed_23 : decode cX7_markUsed 23 = .ok (.iload_n 2, 1) := by decide +kernel
theorem dX7_markUsed_24 : decode cX7_markUsed 24 = .ok (.bipush 8, 2) := by decide +kernel
theorem dX7_markUsed_26 : decode cX7_markUsed 26 = .ok (.irem, 1) := by decide +kernel
theorem dX7_markUsed_27 : decode cX7_markUsed 27 = .ok (.ishr, 1) := by decide +kernel
theorem dX7_markUsed_28 : decode cX7_markUsed 28 = .ok (.ior, 1) := by decide +kernel
theorem dX7_markUsed_29 : decode cX7_markUsed 29 = .ok (.invokevirtual 124, 3) := by decide +kernel
theorem dX7_markUsed_32 : decode cX7_markUsed 32 = .ok (.return_, 1) := by decide +kernel
theorem dX7_countDiffering_0 : decode cX7_countDiffering 0 = .ok (.iconst 0, 1) := by decide +kernel
theorem dX7_countDiffering_1 : decode cX7_countDiffering 1 = .ok (.istore_n 1, 1) := by decide +kernel
theorem dX7_countDiffering_2 : decode cX7_countDiffering 2 = .ok (.iconst 0, 1) := by decide +kernel
theorem dX7_countDiffering_3 : decode cX7_countDiffering 3 = .ok (.istore_n 2, 1) := by decide +kernel
theorem dX7_countDiffering_4 : decode cX7_countDiffering 4 = .ok (.iload_n 2, 1) := by decide +kernel
theorem dX7_countDiffering_5 : decode cX7_countDiffering 5 = .ok (.bipush 64, 2) := by decide +kernel
theorem dX7_countDiffering_7 : decode cX7_countDiffering 7 = .ok (.if_icmp .ge 27, 3) := by decide +kernel
theorem dX7_countDiffering_10 : decode cX7_countDiffering 10 = .ok (.aload_n 0, 1) := by decide +kernel
theorem dX7_countDiffering_11 : decode cX7_countDiffering 11 = .ok (.getfield 15, 3) := by decide +kernel
theorem dX7_countDiffering_14 : decode cX7_countDiffering 14 = .ok (.iload_n 2, 1) := by decide +kernel
theorem dX7_countDiffering_15 : decode cX7_countDiffering 15 = .ok (.aload_n 0, 1) := by decide +kernel
theorem dX7_countDiffering_16 : decode cX7_countDiffering 16 = .ok (.getfield 9, 3) := by decide +kernel
theorem dX7_countDiffering_19 : decode cX7_countDiffering 19 = .ok (.invokevirtual 127, 3) := by decide +kernel
theorem dX7_countDiffering_22 : decode cX7_countDiffering 22 = .ok (.ifCond .ne 6, 3) := by decide +kernel
theorem dX7_countDiffering_25 : decode cX7_countDiffering 25 = .ok (.iinc 1 1, 3) := by decide +kernel
theorem dX7_countDiffering_28 : decode cX7_countDiffering 28 = .ok (.iinc 2 1, 3) := by decide +kernel
theorem dX7_countDiffering_31 : decode cX7_countDiffering 31 = .ok (.goto (-27), 3) := by decide +kernel
theorem dX7_countDiffering_34 : decode cX7_countDiffering 34 = .ok (.iload_n 1, 1) := by decide +kernel
theorem dX7_countDiffering_35 : decode cX7_countDiffering 35 = .ok (.ireturn, 1) := by decide +kernel
theorem dX7_writeBlocks_0 : decode cX7_writeBlocks 0 = .ok (.iconst 0, 1) := by decide +kernel
theorem dX7_writeBlocks_1 : decode cX7_writeBlocks 1 = .ok (.istore_n 2, 1) := by decide +kernel
theorem dX7_writeBlocks_2 : decode cX7_writeBlocks 2 = .ok (.iconst 0, 1) := by decide +kernel
theorem dX7_writeBlocks_3 : decode cX7_writeBlocks 3 = .ok (.istore_n 3, 1) := by decide +kernel
theorem dX7_writeBlocks_4 : decode cX7_writeBlocks 4 = .ok (.iload_n 3, 1) := by decide +kernel
theorem dX7_writeBlocks_5 : decode cX7_writeBlocks 5 = .ok (.bipush 64, 2) := by decide +kernel
theorem dX7_writeBlocks_7 : decode cX7_writeBlocks 7 = .ok (.if_icmp .ge 45, 3) := by decide +kernel
theorem dX7_writeBlocks_10 : decode cX7_writeBlocks 10 = .ok (.iload_n 2, 1) := by decide +kernel
theorem dX7_writeBlocks_11 : decode cX7_writeBlocks 11 = .ok (.iload_n 1, 1) := by decide +kernel
theorem dX7_writeBlocks_12 : decode cX7_writeBlocks 12 = .ok (.if_icmp .ge 40, 3) := by decide +kernel
theorem dX7_writeBlocks_15 : decode cX7_writeBlocks 15 = .ok (.aload_n 0, 1) := by decide +kernel
theorem dX7_writeBlocks_16 : decode cX7_writeBlocks 16 = .ok (.getfield 15, 3) := by decide +kernel
theorem dX7_writeBlocks_19 : decode cX7_writeBlocks 19 = .ok (.iload_n 3, 1) := by decide +kernel
theorem dX7_writeBlocks_20 : decode cX7_writeBlocks 20 = .ok (.aload_n 0, 1) := by decide +kernel
theorem dX7_writeBlocks_21 : decode cX7_writeBlocks 21 = .ok (.getfield 9, 3) := by decide +kernel
theorem dX7_writeBlocks_24 : decode cX7_writeBlocks 24 = .ok (.invokevirtual 127, 3) := by decide +kernel
theorem dX7_writeBlocks_27 : decode cX7_writeBlocks 27 = .ok (.ifCond .ne 19, 3) := by decide +kernel
theorem dX7_writeBlocks_30 : decode cX7_writeBlocks 30 = .ok (.aload_n 0, 1) := by decide +kernel
theorem dX7_writeBlocks_31 : decode cX7_writeBlocks 31 = .ok (.getfield 9, 3) := by decide +kernel
theorem dX7_writeBlocks_34 : decode cX7_writeBlocks 34 = .ok (.iload_n 3, 1) := by decide +kernel
theorem dX7_writeBlocks_35 : decode cX7_writeBlocks 35 = .ok (.aload_n 0, 1) := by decide +kernel
theorem dX7_writeBlocks_36 : decode cX7_writeBlocks 36 = .ok (.getfield 15, 3) := by decide +kernel
theorem dX7_writeBlocks_39 : decode cX7_writeBlocks 39 = .ok (.iload_n 3, 1) := by decide +kernel
theorem dX7_writeBlocks_40 : decode cX7_writeBlocks 40 = .ok (.invokevirtual 131, 3) := by decide +kernel
theorem dX7_writeBlocks_43 : decode cX7_writeBlocks 43 = .ok (.iinc 2 1, 3) := by decide +kernel
theorem dX7_writeBlocks_46 : decode cX7_writeBlocks 46 = .ok (.iinc 3 1, 3) := by decide +kernel
theorem dX7_writeBlocks_49 : decode cX7_writeBlocks 49 = .ok (.goto (-45), 3) := by decide +kernel
theorem dX7_writeBlocks_52 : decode cX7_writeBlocks 52 = .ok (.iload_n 2, 1) := by decide +kernel
theorem dX7_writeBlocks_53 : decode cX7_writeBlocks 53 = .ok (.ireturn, 1) := by decide +kernel
theorem dX7_keepPlan_0 : decode cX7_keepPlan 0 = .ok (.aload_n 0, 1) := by decide +kernel
theorem dX7_keepPlan_1 : decode cX7_keepPlan 1 = .ok (.invokevirtual 80, 3) := by decide +kernel
theorem dX7_keepPlan_4 : decode cX7_keepPlan 4 = .ok (.aload_n 0, 1) := by decide +kernel
theorem dX7_keepPlan_5 : decode cX7_keepPlan 5 = .ok (.getfield 9, 3) := by decide +kernel
theorem dX7_keepPlan_8 : decode cX7_keepPlan 8 = .ok (.aload_n 0, 1) := by decide +kernel
theorem dX7_keepPlan_9 : decode cX7_keepPlan 9 = .ok (.getfield 15, 3) := by decide +kernel
theorem dX7_keepPlan_12 : decode cX7_keepPlan 12 = .ok (.invokevirtual 48, 3) := by decide +kernel
theorem dX7_keepPlan_15 : decode cX7_keepPlan 15 = .ok (.return_, 1) := by decide +kernel
theorem dX8_isGood_0 : decode cX8_isGood 0 = .ok (.iload_n 1, 1) := by decide +kernel
theorem dX8_isGood_1 : decode cX8_isGood 1 = .ok (.bipush 64, 2) := by decide +kernel
theorem dX8_isGood_3 : decode cX8_isGood 3 = .ok (.imul, 1) := by decide +kernel
theorem dX8_isGood_4 : decode cX8_isGood 4 = .ok (.istore_n 2, 1) := by decide +kernel
theorem dX8_isGood_5 : decode cX8_isGood 5 = .ok (.aload_n 0, 1) := by decide +kernel
theorem dX8_isGood_6 : decode cX8_isGood 6 = .ok (.iload_n 2, 1) := by decide +kernel
theorem dX8_isGood_7 : decode cX8_isGood 7 = .ok (.ldc 11, 2) := by decide +kernel
theorem dX8_isGood_9 : decode cX8_isGood 9 = .ok (.invokevirtual 13, 3) := by decide +kernel
theorem dX8_isGood_12 : decode cX8_isGood 12 = .ok (.ifCond .eq 25, 3) := by decide +kernel
theorem dX8_isGood_15 : decode cX8_isGood 15 = .ok (.aload_n 0, 1) := by decide +kernel
theorem dX8_isGood_16 : decode cX8_isGood 16 = .ok (.iload_n 2, 1) := by decide +kernel
theorem dX8_isGood_17 : decode cX8_isGood 17 = .ok (.bipush 62, 2) := by decide +kernel
theorem dX8_isGood_19 : decode cX8_isGood 19 = .ok (.iadd, 1) := by decide +kernel
theorem dX8_isGood_20 : decode cX8_isGood 20 = .ok (.invokevirtual 19, 3) := by decide +kernel
theorem dX8_isGood_23 : decode cX8_isGood 23 = .ok (.aload_n 0, 1) := by decide +kernel
theorem dX8_isGood_24 : decode cX8_isGood 24 = .ok (.iload_n 2, 1) := by decide +kernel
theorem dX8_isGood_25 : decode cX8_isGood 25 = .ok (.bipush 62, 2) := by decide +kernel
theorem dX8_isGood_27 : decode cX8_isGood 27 = .ok (.invokevirtual 23, 3) := by decide +kernel
theorem dX8_isGood_30 : decode cX8_isGood 30 = .ok (.if_icmp .ne 7, 3) := by decide +kernel
theorem dX8_isGood_33 : decode cX8_isGood 33 = .ok (.iconst 1, 1) := by decide +kernel
theorem dX8_isGood_34 : decode cX8_isGood 34 = .ok (.goto 4, 3) := by decide +kernel
theorem dX8_isGood_37 : decode cX8_isGood 37 = .ok (.iconst 0, 1) := by decide +kernel
theorem dX8_isGood_38 : decode cX8_isGood 38 = .ok (.ireturn, 1) := by decide +kernel
theorem dX8_write_0 : decode cX8_write 0 = .ok (.iload_n 1, 1) := by decide +kernel
theorem dX8_write_1 : decode cX8_write 1 = .ok (.bipush 64, 2) := by decide +kernel
theorem dX8_write_3 : decode cX8_write 3 = .ok (.imul, 1) := by decide +kernel
theorem dX8_write_4 : decode cX8_write 4 = .ok (.istore 4, 2) := by decide +kernel
theorem dX8_write_6 : decode cX8_write 6 = .ok (.aload_n 0, 1) := by decide +kernel
theorem dX8_write_7 : decode cX8_write 7 = .ok (.iload 4, 2) := by decide +kernel
theorem dX8_write_9 : decode cX8_write 9 = .ok (.bipush 64, 2) := by decide +kernel
theorem dX8_write_11 : decode cX8_write 11 = .ok (.invokevirtual 27, 3) := by decide +kernel
theorem dX8_write_14 : decode cX8_write 14 = .ok (.aload_n 0, 1) := by decide +kernel
theorem dX8_write_15 : decode cX8_write 15 = .ok (.iload 4, 2) := by decide +kernel
theorem dX8_write_17 : decode cX8_write 17 = .ok (.ldc 11, 2) := by decide +kernel
theorem dX8_write_19 : decode cX8_write 19 = .ok (.invokevirtual 31, 3) := by decide +kernel
theorem dX8_write_22 : decode cX8_write 22 = .ok (.aload_n 0, 1) := by decide +kernel
theorem dX8_write_23 : decode cX8_write 23 = .ok (.iload 4, 2) := by decide +kernel
theorem dX8_write_25 : decode cX8_write 25 = .ok (.iconst 4, 1) := by decide +kernel
theorem dX8_write_26 : decode cX8_write 26 = .ok (.iadd, 1) := by decide +kernel
theorem dX8_write_27 : decode cX8_write 27 = .ok (.iload_n 2, 1) := by decide +kernel
theorem dX8_write_28 : decode cX8_write 28 = .ok (.invokevirtual 35, 3) := by decide +kernel
theorem dX8_write_31 : decode cX8_write 31 = .ok (.aload_n 0, 1) := by decide +kernel
theorem dX8_write_32 : decode cX8_write 32 = .ok (.iload 4, 2) := by decide +kernel
theorem dX8_write_34 : decode cX8_write 34 = .ok (.bipush 6, 2) := by decide +kernel
theorem dX8_write_36 : decode cX8_write 36 = .ok (.iadd, 1) := by decide +kernel
theorem dX8_write_37 : decode cX8_write 37 = .ok (.iload_n 3, 1) := by decide +kernel
theorem dX8_write_38 : decode cX8_write 38 = .ok (.invokevirtual 35, 3) := by decide +kernel
theorem dX8_write_41 : decode cX8_write 41 = .ok (.aload_n 0, 1) := by decide +kernel
theorem dX8_write_42 : decode cX8_write 42 = .ok (.iload_n 1, 1) := by decide +kernel
theorem dX8_write_43 : decode cX8_write 43 = .ok (.invokestatic 38, 3) := by decide +kernel
theorem dX8_write_46 : decode cX8_write 46 = .ok (.return_, 1) := by decide +kernel
theorem dX8_writeSum_0 : decode cX8_writeSum 0 = .ok (.iload_n 1, 1) := by decide +kernel
theorem dX8_writeSum_1 : decode cX8_writeSum 1 = .ok (.bipush 64, 2) := by decide +kernel
theorem dX8_writeSum_3 : decode cX8_writeSum 3 = .ok (.imul, 1) := by decide +kernel
theorem dX8_writeSum_4 : decode cX8_writeSum 4 = .ok (.istore_n 2, 1) := by decide +kernel
theorem dX8_writeSum_5 : decode cX8_writeSum 5 = .ok (.aload_n 0, 1) := by decide +kernel
theorem dX8_writeSum_6 : decode cX8_writeSum 6 = .ok (.iload_n 2, 1) := by decide +kernel
theorem dX8_writeSum_7 : decode cX8_writeSum 7 = .ok (.bipush 62, 2) := by decide +kernel
theorem dX8_writeSum_9 : decode cX8_writeSum 9 = .ok (.iadd, 1) := by decide +kernel
theorem dX8_writeSum_10 : decode cX8_writeSum 10 = .ok (.aload_n 0, 1) := by decide +kernel
theorem dX8_writeSum_11 : decode cX8_writeSum 11 = .ok (.iload_n 2, 1) := by decide +kernel
theorem dX8_writeSum_12 : decode cX8_writeSum 12 = .ok (.bipush 62, 2) := by decide +kernel
theorem dX8_writeSum_14 : decode cX8_writeSum 14 = .ok (.invokevirtual 23, 3) := by decide +kernel
theorem dX8_writeSum_17 : decode cX8_writeSum 17 = .ok (.invokevirtual 35, 3) := by decide +kernel
theorem dX8_writeSum_20 : decode cX8_writeSum 20 = .ok (.return_, 1) := by decide +kernel
theorem dX9_init_0 : decode cX9_init 0 = .ok (.aload_n 0, 1) := by decide +kernel
theorem dX9_init_1 : decode cX9_init 1 = .ok (.invokespecial 3, 3) := by decide +kernel
theorem dX9_init_4 : decode cX9_init 4 = .ok (.aload_n 0, 1) := by decide +kernel
theorem dX9_init_5 : decode cX9_init 5 = .ok (.aload_n 1, 1) := by decide +kernel
theorem dX9_init_6 : decode cX9_init 6 = .ok (.putfield 9, 3) := by decide +kernel
theorem dX9_init_9 : decode cX9_init 9 = .ok (.aload_n 0, 1) := by decide +kernel
theorem dX9_init_10 : decode cX9_init 10 = .ok (.aload_n 2, 1) := by decide +kernel
theorem dX9_init_11 : decode cX9_init 11 = .ok (.putfield 15, 3) := by decide +kernel
theorem dX9_init_14 : decode cX9_init 14 = .ok (.aload_n 0, 1) := by decide +kernel
theorem dX9_init_15 : decode cX9_init 15 = .ok (.aload_n 3, 1) := by decide +kernel
theorem dX9_init_16 : decode cX9_init 16 = .ok (.putfield 19, 3) := by decide +kernel
theorem dX9_init_19 : decode cX9_init 19 = .ok (.return_, 1) := by decide +kernel
theorem dX9_create_0 : decode cX9_create 0 = .ok (.aload_n 0, 1) := by decide +kernel
theorem dX9_create_1 : decode cX9_create 1 = .ok (.getfield 15, 3) := by decide +kernel
theorem dX9_create_4 : decode cX9_create 4 = .ok (.invokevirtual 23, 3) := by decide +kernel
theorem dX9_create_7 : decode cX9_create 7 = .ok (.istore 4, 2) := by decide +kernel
theorem dX9_create_9 : decode cX9_create 9 = .ok (.iload 4, 2) := by decide +kernel
theorem dX9_create_11 : decode cX9_create 11 = .ok (.iconst (-1), 1) := by decide +kernel
theorem dX9_create_12 : decode cX9_create 12 = .ok (.if_icmp .eq 12, 3) := by decide +kernel
theorem dX9_create_15 : decode cX9_create 15 = .ok (.aload_n 0, 1) := by decide +kernel
theorem dX9_create_16 : decode cX9_create 16 = .ok (.iload_n 1, 1) := by decide +kernel
theorem dX9_create_17 : decode cX9_create 17 = .ok (.aload_n 2, 1) := by decide +kernel
theorem dX9_create_18 : decode cX9_create 18 = .ok (.invokevirtual 29, 3) := by decide +kernel
theorem dX9_create_21 : decode cX9_create 21 = .ok (.ifCond .ne 5, 3) := by decide +kernel
theorem dX9_create_24 : decode cX9_create 24 = .ok (.iconst (-1), 1) := by decide +kernel
theorem dX9_create_25 : decode cX9_create 25 = .ok (.ireturn, 1) := by decide +kernel
theorem dX9_create_26 : decode cX9_create 26 = .ok (.iload_n 3, 1) := by decide +kernel
theorem dX9_create_27 : decode cX9_create 27 = .ok (.iconst 1, 1) := by decide +kernel
theorem dX9_create_28 : decode cX9_create 28 = .ok (.if_icmp .ne 16, 3) := by decide +kernel
theorem dX9_create_31 : decode cX9_create 31 = .ok (.aload_n 0, 1) := by decide +kernel
theorem dX9_create_32 : decode cX9_create 32 = .ok (.getfield 15, 3) := by decide +kernel
theorem dX9_create_35 : decode cX9_create 35 = .ok (.iload 4, 2) := by decide +kernel
theorem dX9_create_37 : decode cX9_create 37 = .ok (.iconst 1, 1) := by decide +kernel
theorem dX9_create_38 : decode cX9_create 38 = .ok (.invokevirtual 33, 3) := by decide +kernel
theorem dX9_create_41 : decode cX9_create 41 = .ok (.goto 18, 3) := by decide +kernel
theorem dX9_create_44 : decode cX9_create 44 = .ok (.aload_n 0, 1) := by decide +kernel
theorem dX9_create_45 : decode cX9_create 45 = .ok (.getfield 19, 3) := by decide +kernel
theorem dX9_create_48 : decode cX9_create 48 = .ok (.iload 4, 2) := by decide +kernel
theorem dX9_create_50 : decode cX9_create 50 = .ok (.iload_n 1, 1) := by decide +kernel
theorem dX9_create_51 : decode cX9_create 51 = .ok (.invokevirtual 37, 3) := by decide +kernel
theorem dX9_create_54 : decode cX9_create 54 = .ok (.ifCond .ne 5, 3) := by decide +kernel
theorem dX9_create_57 : decode cX9_create 57 = .ok (.iconst (-1), 1) := by decide +kernel
theorem dX9_create_58 : decode cX9_create 58 = .ok (.ireturn, 1) := by decide +kernel
theorem dX9_create_59 : decode cX9_create 59 = .ok (.aload_n 0, 1) := by decide +kernel
theorem dX9_create_60 : decode cX9_create 60 = .ok (.iload_n 1, 1) := by decide +kernel
theorem dX9_create_61 : decode cX9_create 61 = .ok (.aload_n 2, 1) := by decide +kernel
theorem dX9_create_62 : decode cX9_create 62 = .ok (.iload 4, 2) := by decide +kernel
theorem dX9_create_64 : decode cX9_create 64 = .ok (.invokevirtual 42, 3) := by decide +kernel
theorem dX9_create_67 : decode cX9_create 67 = .ok (.ifCond .eq 8, 3) := by decide +kernel
theorem dX9_create_70 : decode cX9_create 70 = .ok (.iload 4, 2) := by decide +kernel
theorem dX9_create_72 : decode cX9_create 72 = .ok (.goto 4, 3) := by decide +kernel
theorem dX9_create_75 : decode cX9_create 75 = .ok (.iconst (-1), 1) := by decide +kernel
theorem dX9_create_76 : decode cX9_create 76 = .ok (.ireturn, 1) := by decide +kernel
theorem dX9_addEntry_0 : decode cX9_addEntry 0 = .ok (.aload_n 0, 1) := by decide +kernel
theorem dX9_addEntry_1 : decode cX9_addEntry 1 = .ok (.getfield 15, 3) := by decide +kernel
theorem dX9_addEntry_4 : decode cX9_addEntry 4 = .ok (.iload_n 3, 1) := by decide +kernel
theorem dX9_addEntry_5 : decode cX9_addEntry 5 = .ok (.invokevirtual 46, 3) := by decide +kernel
theorem dX9_addEntry_8 : decode cX9_addEntry 8 = .ok (.iconst 1, 1) := by decide +kernel
theorem dX9_addEntry_9 : decode cX9_addEntry 9 = .ok (.if_icmp .ne 26, 3) := by decide +kernel
theorem dX9_addEntry_12 : decode cX9_addEntry 12 = .ok (.aload_n 0, 1) := by decide +kernel
theorem dX9_addEntry_13 : decode cX9_addEntry 13 = .ok (.iload_n 1, 1) := by decide +kernel
theorem dX9_addEntry_14 : decode cX9_addEntry 14 = .ok (.aload_n 2, 1) := by decide +kernel
theorem dX9_addEntry_15 : decode cX9_addEntry 15 = .ok (.invokevirtual 29, 3) := by decide +kernel
theorem dX9_addEntry_18 : decode cX9_addEntry 18 = .ok (.ifCond .eq 17, 3) := by decide +kernel
theorem dX9_addEntry_21 : decode cX9_addEntry 21 = .ok (.aload_n 0, 1) := by decide +kernel
theorem dX9_addEntry_22 : decode cX9_addEntry 22 = .ok (.iload_n 1, 1) := by decide +kernel
theorem dX9_addEntry_23 : decode cX9_addEntry 23 = .ok (.aload_n 2, 1) := by decide +kernel
theorem dX9_addEntry_24 : decode cX9_addEntry 24 = .ok (.iload_n 3, 1) := by decide +kernel
theorem dX9_addEntry_25 : decode cX9_addEntry 25 = .ok (.invokevirtual 42, 3) := by decide +kernel
theorem dX9_addEntry_28 : decode cX9_addEntry 28 = .ok (.ifCond .eq 7, 3) := by decide +kernel
theorem dX9_addEntry_31 : decode cX9_addEntry 31 = .ok (.iconst 1, 1) := by decide +kernel
theorem dX9_addEntry_32 : decode cX9_addEntry 32 = .ok (.goto 4, 3) := by decide +kernel
theorem dX9_addEntry_35 : decode cX9_addEntry 35 = .ok (.iconst 0, 1) := by decide +kernel
theorem dX9_addEntry_36 : decode cX9_addEntry 36 = .ok (.ireturn, 1) := by decide +kernel
theorem dX9_mayEnter_0 : decode cX9_mayEnter 0 = .ok (.aload_n 0, 1) := by decide +kernel
theorem dX9_mayEnter_1 : decode cX9_mayEnter 1 = .ok (.getfield 15, 3) := by decide +kernel
theorem dX9_mayEnter_4 : decode cX9_mayEnter 4 = .ok (.iload_n 1, 1) := by decide +kernel
theorem dX9_mayEnter_5 : decode cX9_mayEnter 5 = .ok (.invokevirtual 46, 3) := by decide +kernel
theorem dX9_mayEnter_8 : decode cX9_mayEnter 8 = .ok (.iconst 2, 1) := by decide +kernel
theorem dX9_mayEnter_9 : decode cX9_mayEnter 9 = .ok (.if_icmp .ne 27, 3) := by decide +kernel
theorem dX9_mayEnter_12 : decode cX9_mayEnter 12 = .ok (.aload_n 2, 1) := by decide +kernel
theorem dX9_mayEnter_13 : decode cX9_mayEnter 13 = .ok (.invokevirtual 50, 3) := by decide +kernel
theorem dX9_mayEnter_16 : decode cX9_mayEnter 16 = .ok (.ifCond .eq 20, 3) := by decide +kernel
theorem dX9_mayEnter_19 : decode cX9_mayEnter 19 = .ok (.aload_n 0, 1) := by decide +kernel
theorem dX9_mayEnter_20 : decode cX9_mayEnter 20 = .ok (.getfield 19, 3) := by decide +kernel
theorem dX9_mayEnter_23 : decode cX9_mayEnter 23 = .ok (.iload_n 1, 1) := by decide +kernel
theorem dX9_mayEnter_24 : decode cX9_mayEnter 24 = .ok (.aload_n 2, 1) := by decide +kernel
theorem dX9_mayEnter_25 : decode cX9_mayEnter 25 = .ok (.invokevirtual 56, 3) := by decide +kernel
theorem dX9_mayEnter_28 : decode cX9_mayEnter 28 = .ok (.iconst (-1), 1) := by decide +kernel
theorem dX9_mayEnter_29 : decode cX9_mayEnter 29 = .ok (.if_icmp .ne 7, 3) := by decide +kernel
theorem dX9_mayEnter_32 : decode cX9_mayEnter 32 = .ok (.iconst 1, 1) := by decide +kernel
theorem dX9_mayEnter_33 : decode cX9_mayEnter 33 = .ok (.goto 4, 3) := by decide +kernel
theorem dX9_mayEnter_36 : decode cX9_mayEnter 36 = .ok (.iconst 0, 1) := by decide +kernel
theorem dX9_mayEnter_37 : decode cX9_mayEnter 37 = .ok (.ireturn, 1) := by decide +kernel
theorem dX9_enter_0 : decode cX9_enter 0 = .ok (.aload_n 0, 1) := by decide +kernel
theorem dX9_enter_1 : decode cX9_enter 1 = .ok (.getfield 19, 3) := by decide +kernel
theorem dX9_enter_4 : decode cX9_enter 4 = .ok (.iload_n 1, 1) := by decide +kernel
theorem dX9_enter_5 : decode cX9_enter 5 = .ok (.invokevirtual 60, 3) := by decide +kernel
theorem dX9_enter_8 : decode cX9_enter 8 = .ok (.istore 4, 2) := by decide +kernel
theorem dX9_enter_10 : decode cX9_enter 10 = .ok (.iload 4, 2) := by decide +kernel
theorem dX9_enter_12 : decode cX9_enter 12 = .ok (.iconst (-1), 1) := by decide +kernel
theorem dX9_enter_13 : decode cX9_enter 13 = .ok (.if_icmp .ne 5, 3) := by decide +kernel
theorem dX9_enter_16 : decode cX9_enter 16 = .ok (.iconst 0, 1) := by decide +kernel
theorem dX9_enter_17 : decode cX9_enter 17 = .ok (.ireturn, 1) := by decide +kernel
theorem dX9_enter_18 : decode cX9_enter 18 = .ok (.aload_n 0, 1) := by decide +kernel
theorem dX9_enter_19 : decode cX9_enter 19 = .ok (.getfield 19, 3) := by decide +kernel
theorem dX9_enter_22 : decode cX9_enter 22 = .ok (.iload 4, 2) := by decide +kernel
theorem dX9_enter_24 : decode cX9_enter 24 = .ok (.iload_n 3, 1) := by decide +kernel
theorem dX9_enter_25 : decode cX9_enter 25 = .ok (.aload_n 2, 1) := by decide +kernel
theorem dX9_enter_26 : decode cX9_enter 26 = .ok (.invokevirtual 63, 3) := by decide +kernel
theorem dX9_enter_29 : decode cX9_enter 29 = .ok (.iconst 1, 1) := by decide +kernel
theorem dX9_enter_30 : decode cX9_enter 30 = .ok (.ireturn, 1) := by decide +kernel
theorem dX9_lengthen_0 : decode cX9_lengthen 0 = .ok (.aload_n 0, 1) := by decide +kernel
theorem dX9_lengthen_1 : decode cX9_lengthen 1 = .ok (.getfield 15, 3) := by decide +kernel
theorem dX9_lengthen_4 : decode cX9_lengthen 4 = .ok (.iload_n 1, 1) := by decide +kernel
theorem dX9_lengthen_5 : decode cX9_lengthen 5 = .ok (.invokevirtual 67, 3) := by decide +kernel
theorem dX9_lengthen_8 : decode cX9_lengthen 8 = .ok (.istore_n 3, 1) := by decide +kernel
theorem dX9_lengthen_9 : decode cX9_lengthen 9 = .ok (.aload_n 0, 1) := by decide +kernel
theorem dX9_lengthen_10 : decode cX9_lengthen 10 = .ok (.getfield 15, 3) := by decide +kernel
theorem dX9_lengthen_13 : decode cX9_lengthen 13 = .ok (.iload_n 1, 1) := by decide +kernel
theorem dX9_lengthen_14 : decode cX9_lengthen 14 = .ok (.invokevirtual 46, 3) := by decide +kernel
theorem dX9_lengthen_17 : decode cX9_lengthen 17 = .ok (.iconst 1, 1) := by decide +kernel
theorem dX9_lengthen_18 : decode cX9_lengthen 18 = .ok (.if_icmp .ne 22, 3) := by decide +kernel
theorem dX9_lengthen_21 : decode cX9_lengthen 21 = .ok (.iload_n 3, 1) := by decide +kernel
theorem dX9_lengthen_22 : decode cX9_lengthen 22 = .ok (.bipush 64, 2) := by decide +kernel
theorem dX9_lengthen_24 : decode cX9_lengthen 24 = .ok (.irem, 1) := by decide +kernel
theorem dX9_lengthen_25 : decode cX9_lengthen 25 = .ok (.ifCond .ne 17, 3) := by decide +kernel
theorem dX9_lengthen_28 : decode cX9_lengthen 28 = .ok (.aload_n 0, 1) := by decide +kernel
theorem dX9_lengthen_29 : decode cX9_lengthen 29 = .ok (.getfield 15, 3) := by decide +kernel
theorem dX9_lengthen_32 : decode cX9_lengthen 32 = .ok (.iload_n 1, 1) := by decide +kernel
theorem dX9_lengthen_33 : decode cX9_lengthen 33 = .ok (.invokevirtual 70, 3) := by decide +kernel
theorem dX9_lengthen_36 : decode cX9_lengthen 36 = .ok (.iconst (-1), 1) := by decide +kernel
theorem dX9_lengthen_37 : decode cX9_lengthen 37 = .ok (.if_icmp .ne 5, 3) := by decide +kernel
theorem dX9_lengthen_40 : decode cX9_lengthen 40 = .ok (.iconst 0, 1) := by decide +kernel
theorem dX9_lengthen_41 : decode cX9_lengthen 41 = .ok (.ireturn, 1) := by decide +kernel
theorem dX9_lengthen_42 : decode cX9_lengthen 42 = .ok (.aload_n 0, 1) := by decide +kernel
theorem dX9_lengthen_43 : decode cX9_lengthen 43 = .ok (.getfield 9, 3) := by decide +kernel
theorem dX9_lengthen_46 : decode cX9_lengthen 46 = .ok (.aload_n 0, 1) := by decide +kernel
theorem dX9_lengthen_47 : decode cX9_lengthen 47 = .ok (.getfield 15, 3) := by decide +kernel
theorem dX9_lengthen_50 : decode cX9_lengthen 50 = .ok (.iload_n 1, 1) := by decide +kernel
theorem dX9_lengthen_51 : decode cX9_lengthen 51 = .ok (.iload_n 3, 1) := by decide +kernel
theorem dX9_lengthen_52 : decode cX9_lengthen 52 = .ok (.invokevirtual 73, 3) := by decide +kernel
theorem dX9_lengthen_55 : decode cX9_lengthen 55 = .ok (.iload_n 2, 1) := by decide +kernel
theorem dX9_lengthen_56 : decode cX9_lengthen 56 = .ok (.invokevirtual 77, 3) := by decide +kernel
theorem dX9_lengthen_59 : decode cX9_lengthen 59 = .ok (.aload_n 0, 1) := by decide +kernel
theorem dX9_lengthen_60 : decode cX9_lengthen 60 = .ok (.getfield 15, 3) := by decide +kernel
theorem dX9_lengthen_63 : decode cX9_lengthen 63 = .ok (.iload_n 1, 1) := by decide +kernel
theorem dX9_lengthen_64 : decode cX9_lengthen 64 = .ok (.iload_n 3, 1) := by decide +kernel
theorem dX9_lengthen_65 : decode cX9_lengthen 65 = .ok (.iconst 1, 1) := by decide +kernel
theorem dX9_lengthen_66 : decode cX9_lengthen 66 = .ok (.iadd, 1) := by decide +kernel
theorem dX9_lengthen_67 : decode cX9_lengthen 67 = .ok (.invokevirtual 82, 3) := by decide +kernel
theorem dX9_lengthen_70 : decode cX9_lengthen 70 = .ok (.iconst 1, 1) := by decide +kernel
theorem dX9_lengthen_71 : decode cX9_lengthen 71 = .ok (.ireturn, 1) := by decide +kernel
theorem dX9_removeEntry_0 : decode cX9_removeEntry 0 = .ok (.aload_n 0, 1) := by decide +kernel
theorem dX9_removeEntry_1 : decode cX9_removeEntry 1 = .ok (.getfield 15, 3) := by decide +kernel
theorem dX9_removeEntry_4 : decode cX9_removeEntry 4 = .ok (.iload_n 1, 1) := by decide +kernel
theorem dX9_removeEntry_5 : decode cX9_removeEntry 5 = .ok (.invokevirtual 46, 3) := by decide +kernel
theorem dX9_removeEntry_8 : decode cX9_removeEntry 8 = .ok (.iconst 2, 1) := by decide +kernel
theorem dX9_removeEntry_9 : decode cX9_removeEntry 9 = .ok (.if_icmp .ne 15, 3) := by decide +kernel
theorem dX9_removeEntry_12 : decode cX9_removeEntry 12 = .ok (.aload_n 0, 1) := by decide +kernel
theorem dX9_removeEntry_13 : decode cX9_removeEntry 13 = .ok (.getfield 19, 3) := by decide +kernel
theorem dX9_removeEntry_16 : decode cX9_removeEntry 16 = .ok (.iload_n 1, 1) := by decide +kernel
theorem dX9_removeEntry_17 : decode cX9_removeEntry 17 = .ok (.aload_n 2, 1) := by decide +kernel
theorem dX9_removeEntry_18 : decode cX9_removeEntry 18 = .ok (.invokevirtual 56, 3) := by decide +kernel
theorem dX9_removeEntry_21 : decode cX9_removeEntry 21 = .ok (.goto 4, 3) := by decide +kernel
theorem dX9_removeEntry_24 : decode cX9_removeEntry 24 = .ok (.iconst (-1), 1) := by decide +kernel
theorem dX9_removeEntry_25 : decode cX9_removeEntry 25 = .ok (.istore_n 3, 1) := by decide +kernel
theorem dX9_removeEntry_26 : decode cX9_removeEntry 26 = .ok (.iload_n 3, 1) := by decide +kernel
theorem dX9_removeEntry_27 : decode cX9_removeEntry 27 = .ok (.iconst (-1), 1) := by decide +kernel
theorem dX9_removeEntry_28 : decode cX9_removeEntry 28 = .ok (.if_icmp .ne 5, 3) := by decide +kernel
theorem dX9_removeEntry_31 : decode cX9_removeEntry 31 = .ok (.iconst 0, 1) := by decide +kernel
theorem dX9_removeEntry_32 : decode cX9_removeEntry 32 = .ok (.ireturn, 1) := by decide +kernel
theorem dX9_removeEntry_33 : decode cX9_removeEntry 33 = .ok (.aload_n 0, 1) := by decide +kernel
theorem dX9_removeEntry_34 : decode cX9_removeEntry 34 = .ok (.getfield 9, 3) := by decide +kernel
theorem dX9_removeEntry_37 : decode cX9_removeEntry 37 = .ok (.iload_n 3, 1) := by decide +kernel
theorem dX9_removeEntry_38 : decode cX9_removeEntry 38 = .ok (.invokevirtual 85, 3) := by decide +kernel
theorem dX9_removeEntry_41 : decode cX9_removeEntry 41 = .ok (.istore 4, 2) := by decide +kernel
theorem dX9_removeEntry_43 : decode cX9_removeEntry 43 = .ok (.aload_n 0, 1) := by decide +kernel
theorem dX9_removeEntry_44 : decode cX9_removeEntry 44 = .ok (.getfield 15, 3) := by decide +kernel
theorem dX9_removeEntry_47 : decode cX9_removeEntry 47 = .ok (.iload 4, 2) := by decide +kernel
theorem dX9_removeEntry_49 : decode cX9_removeEntry 49 = .ok (.invokevirtual 46, 3) := by decide +kernel
theorem dX9_removeEntry_52 : decode cX9_removeEntry 52 = .ok (.iconst 1, 1) := by decide +kernel
theorem dX9_removeEntry_53 : decode cX9_removeEntry 53 = .ok (.if_icmp .ne 7, 3) := by decide +kernel
theorem dX9_removeEntry_56 : decode cX9_removeEntry 56 = .ok (.iconst 1, 1) := by decide +kernel
theorem dX9_removeEntry_57 : decode cX9_removeEntry 57 = .ok (.goto 4, 3) := by decide +kernel
theorem dX9_removeEntry_60 : decode cX9_removeEntry 60 = .ok (.iconst 0, 1) := by decide +kernel
theorem dX9_removeEntry_61 : decode cX9_removeEntry 61 = .ok (.istore 5, 2) := by decide +kernel
theorem dX9_removeEntry_63 : decode cX9_removeEntry 63 = .ok (.iload 5, 2) := by decide +kernel
theorem dX9_removeEntry_65 : decode cX9_removeEntry 65 = .ok (.ifCond .ne 17, 3) := by decide +kernel
theorem dX9_removeEntry_68 : decode cX9_removeEntry 68 = .ok (.aload_n 0, 1) := by decide +kernel
theorem dX9_removeEntry_69 : decode cX9_removeEntry 69 = .ok (.getfield 19, 3) := by decide +kernel
theorem dX9_removeEntry_72 : decode cX9_removeEntry 72 = .ok (.iload 4, 2) := by decide +kernel
theorem dX9_removeEntry_74 : decode cX9_removeEntry 74 = .ok (.invokevirtual 88, 3) := by decide +kernel
theorem dX9_removeEntry_77 : decode cX9_removeEntry 77 = .ok (.ifCond .ne 5, 3) := by decide +kernel
theorem dX9_removeEntry_80 : decode cX9_removeEntry 80 = .ok (.iconst 0, 1) := by decide +kernel
theorem dX9_removeEntry_81 : decode cX9_removeEntry 81 = .ok (.ireturn, 1) := by decide +kernel
theorem dX9_removeEntry_82 : decode cX9_removeEntry 82 = .ok (.aload_n 0, 1) := by decide +kernel
theorem dX9_removeEntry_83 : decode cX9_removeEntry 83 = .ok (.getfield 19, 3) := by decide +kernel
theorem dX9_removeEntry_86 : decode cX9_removeEntry 86 = .ok (.iload_n 3, 1) := by decide +kernel
theorem dX9_removeEntry_87 : decode cX9_removeEntry 87 = .ok (.invokevirtual 92, 3) := by decide +kernel
theorem dX9_removeEntry_90 : decode cX9_removeEntry 90 = .ok (.iload 5, 2) := by decide +kernel
theorem dX9_removeEntry_92 : decode cX9_removeEntry 92 = .ok (.ifCond .eq 16, 3) := by decide +kernel
theorem dX9_removeEntry_95 : decode cX9_removeEntry 95 = .ok (.aload_n 0, 1) := by decide +kernel
theorem dX9_removeEntry_96 : decode cX9_removeEntry 96 = .ok (.getfield 15, 3) := by decide +kernel
theorem dX9_removeEntry_99 : decode cX9_removeEntry 99 = .ok (.iload 4, 2) := by decide +kernel
theorem dX9_removeEntry_101 : decode cX9_removeEntry 101 = .ok (.invokevirtual 96, 3) := by decide +kernel
theorem dX9_removeEntry_104 : decode cX9_removeEntry 104 = .ok (.iconst 1, 1) := by decide +kernel
theorem dX9_removeEntry_105 : decode cX9_removeEntry 105 = .ok (.if_icmp .ne 12, 3) := by decide +kernel
theorem dX9_removeEntry_108 : decode cX9_removeEntry 108 = .ok (.aload_n 0, 1) := by decide +kernel
theorem dX9_removeEntry_109 : decode cX9_removeEntry 109 = .ok (.getfield 15, 3) := by decide +kernel
theorem dX9_removeEntry_112 : decode cX9_removeEntry 112 = .ok (.iload 4, 2) := by decide +kernel
theorem dX9_removeEntry_114 : decode cX9_removeEntry 114 = .ok (.invokevirtual 99, 3) := by decide +kernel
theorem dX9_removeEntry_117 : decode cX9_removeEntry 117 = .ok (.iconst 1, 1) := by decide +kernel
theorem dX9_removeEntry_118 : decode cX9_removeEntry 118 = .ok (.ireturn, 1) := by decide +kernel
theorem dX10_init_0 : decode cX10_init 0 = .ok (.aload_n 0, 1) := by decide +kernel
theorem dX10_init_1 : decode cX10_init 1 = .ok (.invokespecial 1, 3) := by decide +kernel
theorem dX10_init_4 : decode cX10_init 4 = .ok (.new 7, 3) := by decide +kernel
theorem dX10_init_7 : decode cX10_init 7 = .ok (.dup, 1) := by decide +kernel
theorem dX10_init_8 : decode cX10_init 8 = .ok (.invokespecial 9, 3) := by decide +kernel
theorem dX10_init_11 : decode cX10_init 11 = .ok (.astore_n 1, 1) := by decide +kernel
theorem dX10_init_12 : decode cX10_init 12 = .ok (.new 10, 3) := by decide +kernel
theorem dX10_init_15 : decode cX10_init 15 = .ok (.dup, 1) := by decide +kernel
theorem dX10_init_16 : decode cX10_init 16 = .ok (.aload_n 1, 1) := by decide +kernel
theorem dX10_init_17 : decode cX10_init 17 = .ok (.invokespecial 12, 3) := by decide +kernel
theorem dX10_init_20 : decode cX10_init 20 = .ok (.astore_n 2, 1) := by decide +kernel
theorem dX10_init_21 : decode cX10_init 21 = .ok (.new 7, 3) := by decide +kernel
theorem dX10_init_24 : decode cX10_init 24 = .ok (.dup, 1) := by decide +kernel
theorem dX10_init_25 : decode cX10_init 25 = .ok (.invokespecial 9, 3) := by decide +kernel
theorem dX10_init_28 : decode cX10_init 28 = .ok (.astore_n 3, 1) := by decide +kernel
theorem dX10_init_29 : decode cX10_init 29 = .ok (.new 10, 3) := by decide +kernel
theorem dX10_init_32 : decode cX10_init 32 = .ok (.dup, 1) := by decide +kernel
theorem dX10_init_33 : decode cX10_init 33 = .ok (.aload_n 3, 1) := by decide +kernel
theorem dX10_init_34 : decode cX10_init 34 = .ok (.invokespecial 12, 3) := by decide +kernel
theorem dX10_init_37 : decode cX10_init 37 = .ok (.astore 4, 2) := by decide +kernel
theorem dX10_init_39 : decode cX10_init 39 = .ok (.new 15, 3) := by decide +kernel
theorem dX10_init_42 : decode cX10_init 42 = .ok (.dup, 1) := by decide +kernel
theorem dX10_init_43 : decode cX10_init 43 = .ok (.aload_n 3, 1) := by decide +kernel
theorem dX10_init_44 : decode cX10_init 44 = .ok (.aload 4, 2) := by decide +kernel
theorem dX10_init_46 : decode cX10_init 46 = .ok (.invokespecial 17, 3) := by decide +kernel
theorem dX10_init_49 : decode cX10_init 49 = .ok (.astore 5, 2) := by decide +kernel
theorem dX10_init_51 : decode cX10_init 51 = .ok (.aload_n 0, 1) := by decide +kernel
theorem dX10_init_52 : decode cX10_init 52 = .ok (.aload_n 1, 1) := by decide +kernel
theorem dX10_init_53 : decode cX10_init 53 = .ok (.putfield 20, 3) := by decide +kernel
theorem dX10_init_56 : decode cX10_init 56 = .ok (.aload_n 0, 1) := by decide +kernel
theorem dX10_init_57 : decode cX10_init 57 = .ok (.aload_n 2, 1) := by decide +kernel
theorem dX10_init_58 : decode cX10_init 58 = .ok (.putfield 26, 3) := by decide +kernel
theorem dX10_init_61 : decode cX10_init 61 = .ok (.aload_n 0, 1) := by decide +kernel
theorem dX10_init_62 : decode cX10_init 62 = .ok (.new 15, 3) := by decide +kernel
theorem dX10_init_65 : decode cX10_init 65 = .ok (.dup, 1) := by decide +kernel
theorem dX10_init_66 : decode cX10_init 66 = .ok (.aload_n 1, 1) := by decide +kernel
theorem dX10_init_67 : decode cX10_init 67 = .ok (.aload_n 2, 1) := by decide +kernel
theorem dX10_init_68 : decode cX10_init 68 = .ok (.invokespecial 17, 3) := by decide +kernel
theorem dX10_init_71 : decode cX10_init 71 = .ok (.putfield 30, 3) := by decide +kernel
theorem dX10_init_74 : decode cX10_init 74 = .ok (.aload_n 0, 1) := by decide +kernel
theorem dX10_init_75 : decode cX10_init 75 = .ok (.new 34, 3) := by decide +kernel
theorem dX10_init_78 : decode cX10_init 78 = .ok (.dup, 1) := by decide +kernel
theorem dX10_init_79 : decode cX10_init 79 = .ok (.aload_n 1, 1) := by decide +kernel
theorem dX10_init_80 : decode cX10_init 80 = .ok (.aload_n 3, 1) := by decide +kernel
theorem dX10_init_81 : decode cX10_init 81 = .ok (.aload 4, 2) := by decide +kernel
theorem dX10_init_83 : decode cX10_init 83 = .ok (.aload 5, 2) := by decide +kernel
theorem dX10_init_85 : decode cX10_init 85 = .ok (.invokespecial 36, 3) := by decide +kernel
theorem dX10_init_88 : decode cX10_init 88 = .ok (.putfield 39, 3) := by decide +kernel
theorem dX10_init_91 : decode cX10_init 91 = .ok (.aload_n 0, 1) := by decide +kernel
theorem dX10_init_92 : decode cX10_init 92 = .ok (.new 43, 3) := by decide +kernel
theorem dX10_init_95 : decode cX10_init 95 = .ok (.dup, 1) := by decide +kernel
theorem dX10_init_96 : decode cX10_init 96 = .ok (.aload_n 3, 1) := by decide +kernel
theorem dX10_init_97 : decode cX10_init 97 = .ok (.aload 4, 2) := by decide +kernel
theorem dX10_init_99 : decode cX10_init 99 = .ok (.aload 5, 2) := by decide +kernel
theorem dX10_init_101 : decode cX10_init 101 = .ok (.invokespecial 45, 3) := by decide +kernel
theorem dX10_init_104 : decode cX10_init 104 = .ok (.putfield 48, 3) := by decide +kernel
theorem dX10_init_107 : decode cX10_init 107 = .ok (.aload_n 0, 1) := by decide +kernel
theorem dX10_init_108 : decode cX10_init 108 = .ok (.new 52, 3) := by decide +kernel
theorem dX10_init_111 : decode cX10_init 111 = .ok (.dup, 1) := by decide +kernel
theorem dX10_init_112 : decode cX10_init 112 = .ok (.invokespecial 54, 3) := by decide +kernel
theorem dX10_init_115 : decode cX10_init 115 = .ok (.putfield 55, 3) := by decide +kernel
theorem dX10_init_118 : decode cX10_init 118 = .ok (.return_, 1) := by decide +kernel
theorem dX10_format_0 : decode cX10_format 0 = .ok (.aload_n 0, 1) := by decide +kernel
theorem dX10_format_1 : decode cX10_format 1 = .ok (.getfield 20, 3) := by decide +kernel
theorem dX10_format_4 : decode cX10_format 4 = .ok (.iconst 0, 1) := by decide +kernel
theorem dX10_format_5 : decode cX10_format 5 = .ok (.sipush 4096, 3) := by decide +kernel
theorem dX10_format_8 : decode cX10_format 8 = .ok (.invokevirtual 59, 3) := by decide +kernel
theorem dX10_format_11 : decode cX10_format 11 = .ok (.aload_n 0, 1) := by decide +kernel
theorem dX10_format_12 : decode cX10_format 12 = .ok (.getfield 20, 3) := by decide +kernel
theorem dX10_format_15 : decode cX10_format 15 = .ok (.iconst 0, 1) := by decide +kernel
theorem dX10_format_16 : decode cX10_format 16 = .ok (.iconst 0, 1) := by decide +kernel
theorem dX10_format_17 : decode cX10_format 17 = .ok (.iconst 0, 1) := by decide +kernel
theorem dX10_format_18 : decode cX10_format 18 = .ok (.invokestatic 63, 3) := by decide +kernel
theorem dX10_format_21 : decode cX10_format 21 = .ok (.aload_n 0, 1) := by decide +kernel
theorem dX10_format_22 : decode cX10_format 22 = .ok (.getfield 39, 3) := by decide +kernel
theorem dX10_format_25 : decode cX10_format 25 = .ok (.invokevirtual 69, 3) := by decide +kernel
theorem dX10_format_28 : decode cX10_format 28 = .ok (.pop, 1) := by decide +kernel
theorem dX10_format_29 : decode cX10_format 29 = .ok (.aload_n 0, 1) := by decide +kernel
theorem dX10_format_30 : decode cX10_format 30 = .ok (.getfield 39, 3) := by decide +kernel
theorem dX10_format_33 : decode cX10_format 33 = .ok (.bipush 64, 2) := by decide +kernel
theorem dX10_format_35 : decode cX10_format 35 = .ok (.invokevirtual 73, 3) := by decide +kernel
theorem dX10_format_38 : decode cX10_format 38 = .ok (.ireturn, 1) := by decide +kernel
theorem dX10_poke_0 : decode cX10_poke 0 = .ok (.iload_n 1, 1) := by decide +kernel
theorem dX10_poke_1 : decode cX10_poke 1 = .ok (.invokestatic 77, 3) := by decide +kernel
theorem dX10_poke_4 : decode cX10_poke 4 = .ok (.ifCond .eq 10, 3) := by decide +kernel
theorem dX10_poke_7 : decode cX10_poke 7 = .ok (.iload_n 2, 1) := by decide +kernel
theorem dX10_poke_8 : decode cX10_poke 8 = .ok (.invokestatic 81, 3) := by decide +kernel
theorem dX10_poke_11 : decode cX10_poke 11 = .ok (.ifCond .ne 5, 3) := by decide +kernel
theorem dX10_poke_14 : decode cX10_poke 14 = .ok (.iconst 0, 1) := by decide +kernel
theorem dX10_poke_15 : decode cX10_poke 15 = .ok (.ireturn, 1) := by decide +kernel
theorem dX10_poke_16 : decode cX10_poke 16 = .ok (.aload_n 0, 1) := by decide +kernel
theorem dX10_poke_17 : decode cX10_poke 17 = .ok (.getfield 20, 3) := by decide +kernel
theorem dX10_poke_20 : decode cX10_poke 20 = .ok (.iload_n 1, 1) := by decide +kernel
theorem dX10_poke_21 : decode cX10_poke 21 = .ok (.iload_n 2, 1) := by decide +kernel
theorem dX10_poke_22 : decode cX10_poke 22 = .ok (.invokevirtual 84, 3) := by decide +kernel
theorem dX10_poke_25 : decode cX10_poke 25 = .ok (.iconst 1, 1) := by decide +kernel
theorem dX10_poke_26 : decode cX10_poke 26 = .ok (.ireturn, 1) := by decide +kernel
theorem dX10_peek_0 : decode cX10_peek 0 = .ok (.iload_n 1, 1) := by decide +kernel
theorem dX10_peek_1 : decode cX10_peek 1 = .ok (.invokestatic 77, 3) := by decide +kernel
theorem dX10_peek_4 : decode cX10_peek 4 = .ok (.ifCond .eq 14, 3) := by decide +kernel
theorem dX10_peek_7 : decode cX10_peek 7 = .ok (.aload_n 0, 1) := by decide +kernel
theorem dX10_peek_8 : decode cX10_peek 8 = .ok (.getfield 20, 3) := by decide +kernel
theorem dX10_peek_11 : decode cX10_peek 11 = .ok (.iload_n 1, 1) := by decide +kernel
theorem dX10_peek_12 : decode cX10_peek 12 = .ok (.invokevirtual 87, 3) := by decide +kernel
theorem dX10_peek_15 : decode cX10_peek 15 = .ok (.goto 4, 3) := by decide +kernel
theorem dX10_peek_18 : decode cX10_peek 18 = .ok (.iconst (-1), 1) := by decide +kernel
theorem dX10_peek_19 : decode cX10_peek 19 = .ok (.ireturn, 1) := by decide +kernel
theorem dX10_seal_0 : decode cX10_seal 0 = .ok (.iload_n 1, 1) := by decide +kernel
theorem dX10_seal_1 : decode cX10_seal 1 = .ok (.ifCond .lt 9, 3) := by decide +kernel
theorem dX10_seal_4 : decode cX10_seal 4 = .ok (.iload_n 1, 1) := by decide +kernel
theorem dX10_seal_5 : decode cX10_seal 5 = .ok (.bipush 35, 2) := by decide +kernel
theorem dX10_seal_7 : decode cX10_seal 7 = .ok (.if_icmp .lt 5, 3) := by decide +kernel
theorem dX10_seal_10 : decode cX10_seal 10 = .ok (.iconst 0, 1) := by decide +kernel
theorem dX10_seal_11 : decode cX10_seal 11 = .ok (.ireturn, 1) := by decide +kernel
theorem dX10_seal_12 : decode cX10_seal 12 = .ok (.iload_n 1, 1) := by decide +kernel
theorem dX10_seal_13 : decode cX10_seal 13 = .ok (.ifCond .ne 14, 3) := by decide +kernel
theorem dX10_seal_16 : decode cX10_seal 16 = .ok (.aload_n 0, 1) := by decide +kernel
theorem dX10_seal_17 : decode cX10_seal 17 = .ok (.getfield 20, 3) := by decide +kernel
theorem dX10_seal_20 : decode cX10_seal 20 = .ok (.iconst 0, 1) := by decide +kernel
theorem dX10_seal_21 : decode cX10_seal 21 = .ok (.invokestatic 90, 3) := by decide +kernel
theorem dX10_seal_24 : decode cX10_seal 24 = .ok (.goto 45, 3) := by decide +kernel
theorem dX10_seal_27 : decode cX10_seal 27 = .ok (.iload_n 1, 1) := by decide +kernel
theorem dX10_seal_28 : decode cX10_seal 28 = .ok (.iconst 1, 1) := by decide +kernel
theorem dX10_seal_29 : decode cX10_seal 29 = .ok (.if_icmp .ne 15, 3) := by decide +kernel
theorem dX10_seal_32 : decode cX10_seal 32 = .ok (.aload_n 0, 1) := by decide +kernel
theorem dX10_seal_33 : decode cX10_seal 33 = .ok (.getfield 20, 3) := by decide +kernel
theorem dX10_seal_36 : decode cX10_seal 36 = .ok (.bipush 63, 2) := by decide +kernel
theorem dX10_seal_38 : decode cX10_seal 38 = .ok (.invokestatic 90, 3) := by decide +kernel
theorem dX10_seal_41 : decode cX10_seal 41 = .ok (.goto 28, 3) := by decide +kernel
theorem dX10_seal_44 : decode cX10_seal 44 = .ok (.iload_n 1, 1) := by decide +kernel
theorem dX10_seal_45 : decode cX10_seal 45 = .ok (.iconst 2, 1) := by decide +kernel
theorem dX10_seal_46 : decode cX10_seal 46 = .ok (.if_icmp .ne 13, 3) := by decide +kernel
theorem dX10_seal_49 : decode cX10_seal 49 = .ok (.aload_n 0, 1) := by decide +kernel
theorem dX10_seal_50 : decode cX10_seal 50 = .ok (.getfield 20, 3) := by decide +kernel
theorem dX10_seal_53 : decode cX10_seal 53 = .ok (.invokestatic 94, 3) := by decide +kernel
theorem dX10_seal_56 : decode cX10_seal 56 = .ok (.goto 13, 3) := by decide +kernel
theorem dX10_seal_59 : decode cX10_seal 59 = .ok (.aload_n 0, 1) := by decide +kernel
theorem dX10_seal_60 : decode cX10_seal 60 = .ok (.getfield 26, 3) := by decide +kernel
theorem dX10_seal_63 : decode cX10_seal 63 = .ok (.iload_n 1, 1) := by decide +kernel
theorem dX10_seal_64 : decode cX10_seal 64 = .ok (.iconst 3, 1) := by decide +kernel
theorem dX10_seal_65 : decode cX10_seal 65 = .ok (.isub, 1) := by decide +kernel
theorem dX10_seal_66 : decode cX10_seal 66 = .ok (.invokevirtual 98, 3) := by decide +kernel
theorem dX10_seal_69 : decode cX10_seal 69 = .ok (.iconst 1, 1) := by decide +kernel
theorem dX10_seal_70 : decode cX10_seal 70 = .ok (.ireturn, 1) := by decide +kernel
theorem dX10_commit_0 : decode cX10_commit 0 = .ok (.iload_n 3, 1) := by decide +kernel
theorem dX10_commit_1 : decode cX10_commit 1 = .ok (.iconst 1, 1) := by decide +kernel
theorem dX10_commit_2 : decode cX10_commit 2 = .ok (.if_icmp .lt 8, 3) := by decide +kernel
theorem dX10_commit_5 : decode cX10_commit 5 = .ok (.iload_n 3, 1) := by decide +kernel
theorem dX10_commit_6 : decode cX10_commit 6 = .ok (.iconst 5, 1) := by decide +kernel
theorem dX10_commit_7 : decode cX10_commit 7 = .ok (.if_icmp .le 5, 3) := by decide +kernel
theorem dX10_commit_10 : decode cX10_commit 10 = .ok (.iconst 0, 1) := by decide +kernel
theorem dX10_commit_11 : decode cX10_commit 11 = .ok (.ireturn, 1) := by decide +kernel
theorem dX10_commit_12 : decode cX10_commit 12 = .ok (.aload_n 0, 1) := by decide +kernel
theorem dX10_commit_13 : decode cX10_commit 13 = .ok (.getfield 20, 3) := by decide +kernel
theorem dX10_commit_16 : decode cX10_commit 16 = .ok (.lload_n 1, 1) := by decide +kernel
theorem dX10_commit_17 : decode cX10_commit 17 = .ok (.iload_n 3, 1) := by decide +kernel
theorem dX10_commit_18 : decode cX10_commit 18 = .ok (.invokestatic 101, 3) := by decide +kernel
theorem dX10_commit_21 : decode cX10_commit 21 = .ok (.iconst 1, 1) := by decide +kernel
theorem dX10_commit_22 : decode cX10_commit 22 = .ok (.ireturn, 1) := by decide +kernel
theorem dX10_check_0 : decode cX10_check 0 = .ok (.aload_n 0, 1) := by decide +kernel
theorem dX10_check_1 : decode cX10_check 1 = .ok (.getfield 39, 3) := by decide +kernel
theorem dX10_check_4 : decode cX10_check 4 = .ok (.invokevirtual 69, 3) := by decide +kernel
theorem dX10_check_7 : decode cX10_check 7 = .ok (.ireturn, 1) := by decide +kernel
theorem dX10_repair_0 : decode cX10_repair 0 = .ok (.iload_n 1, 1) := by decide +kernel
theorem dX10_repair_1 : decode cX10_repair 1 = .ok (.iconst (-1), 1) := by decide +kernel
theorem dX10_repair_2 : decode cX10_repair 2 = .ok (.if_icmp .lt 20, 3) := by decide +kernel
theorem dX10_repair_5 : decode cX10_repair 5 = .ok (.iload_n 1, 1) := by decide +kernel
theorem dX10_repair_6 : decode cX10_repair 6 = .ok (.bipush 64, 2) := by decide +kernel
theorem dX10_repair_8 : decode cX10_repair 8 = .ok (.if_icmp .gt 14, 3) := by decide +kernel
theorem dX10_repair_11 : decode cX10_repair 11 = .ok (.aload_n 0, 1) := by decide +kernel
theorem dX10_repair_12 : decode cX10_repair 12 = .ok (.getfield 39, 3) := by decide +kernel
theorem dX10_repair_15 : decode cX10_repair 15 = .ok (.invokevirtual 69, 3) := by decide +kernel
theorem dX10_repair_18 : decode cX10_repair 18 = .ok (.iconst (-1), 1) := by decide +kernel
theorem dX10_repair_19 : decode cX10_repair 19 = .ok (.if_icmp .ne 5, 3) := by decide +kernel
theorem dX10_repair_22 : decode cX10_repair 22 = .ok (.iconst (-1), 1) := by decide +kernel
theorem dX10_repair_23 : decode cX10_repair 23 = .ok (.ireturn, 1) := by decide +kernel
theorem dX10_repair_24 : decode cX10_repair 24 = .ok (.aload_n 0, 1) := by decide +kernel
theorem dX10_repair_25 : decode cX10_repair 25 = .ok (.getfield 39, 3) := by decide +kernel
theorem dX10_repair_28 : decode cX10_repair 28 = .ok (.iload_n 1, 1) := by decide +kernel
theorem dX10_repair_29 : decode cX10_repair 29 = .ok (.iconst (-1), 1) := by decide +kernel
theorem dX10_repair_30 : decode cX10_repair 30 = .ok (.if_icmp .ne 8, 3) := by decide +kernel
theorem dX10_repair_33 : decode cX10_repair 33 = .ok (.bipush 64, 2) := by decide +kernel
theorem dX10_repair_35 : decode cX10_repair 35 = .ok (.goto 4, 3) := by decide +kernel
theorem dX10_repair_38 : decode cX10_repair 38 = .ok (.iload_n 1, 1) := by decide +kernel
theorem dX10_repair_39 : decode cX10_repair 39 = .ok (.invokevirtual 73, 3) := by decide +kernel
theorem dX10_repair_42 : decode cX10_repair 42 = .ok (.ireturn, 1) := by decide +kernel
theorem dX10_inode_0 : decode cX10_inode 0 = .ok (.iload_n 1, 1) := by decide +kernel
theorem dX10_inode_1 : decode cX10_inode 1 = .ok (.invokestatic 104, 3) := by decide +kernel
theorem dX10_inode_4 : decode cX10_inode 4 = .ok (.ifCond .ne 5, 3) := by decide +kernel
theorem dX10_inode_7 : decode cX10_inode 7 = .ok (.iconst (-1), 1) := by decide +kernel
theorem dX10_inode_8 : decode cX10_inode 8 = .ok (.ireturn, 1) := by decide +kernel
theorem dX10_inode_9 : decode cX10_inode 9 = .ok (.iload_n 2, 1) := by decide +kernel
theorem dX10_inode_10 : decode cX10_inode 10 = .ok (.tableswitch 53 0 2 #[26, 35, 44], 26) := by decide +kernel
theorem dX10_inode_36 : decode cX10_inode 36 = .ok (.aload_n 0, 1) := by decide +kernel
theorem dX10_inode_37 : decode cX10_inode 37 = .ok (.getfield 26, 3) := by decide +kernel
theorem dX10_inode_40 : decode cX10_inode 40 = .ok (.iload_n 1, 1) := by decide +kernel
theorem dX10_inode_41 : decode cX10_inode 41 = .ok (.invokevirtual 107, 3) := by decide +kernel
theorem dX10_inode_44 : decode cX10_inode 44 = .ok (.ireturn, 1) := by decide +kernel
theorem dX10_inode_45 : decode cX10_inode 45 = .ok (.aload_n 0, 1) := by decide +kernel
theorem dX10_inode_46 : decode cX10_inode 46 = .ok (.getfield 26, 3) := by decide +kernel
theorem dX10_inode_49 : decode cX10_inode 49 = .ok (.iload_n 1, 1) := by decide +kernel
theorem dX10_inode_50 : decode cX10_inode 50 = .ok (.invokevirtual 110, 3) := by decide +kernel
theorem dX10_inode_53 : decode cX10_inode 53 = .ok (.ireturn, 1) := by decide +kernel
theorem dX10_inode_54 : decode cX10_inode 54 = .ok (.aload_n 0, 1) := by decide +kernel
theorem dX10_inode_55 : decode cX10_inode 55 = .ok (.getfield 26, 3) := by decide +kernel
theorem dX10_inode_58 : decode cX10_inode 58 = .ok (.iload_n 1, 1) := by decide +kernel
theorem dX10_inode_59 : decode cX10_inode 59 = .ok (.invokevirtual 113, 3) := by decide +kernel
theorem dX10_inode_62 : decode cX10_inode 62 = .ok (.ireturn, 1) := by decide +kernel
theorem dX10_inode_63 : decode cX10_inode 63 = .ok (.iconst (-1), 1) := by decide +kernel
theorem dX10_inode_64 : decode cX10_inode 64 = .ok (.ireturn, 1) := by decide +kernel
theorem dX10_read_0 : decode cX10_read 0 = .ok (.iload_n 2, 1) := by decide +kernel
theorem dX10_read_1 : decode cX10_read 1 = .ok (.ifCond .lt 15, 3) := by decide +kernel
theorem dX10_read_4 : decode cX10_read 4 = .ok (.iload_n 2, 1) := by decide +kernel
theorem dX10_read_5 : decode cX10_read 5 = .ok (.aload_n 0, 1) := by decide +kernel
theorem dX10_read_6 : decode cX10_read 6 = .ok (.getfield 26, 3) := by decide +kernel
theorem dX10_read_9 : decode cX10_read 9 = .ok (.iload_n 1, 1) := by decide +kernel
theorem dX10_read_10 : decode cX10_read 10 = .ok (.invokevirtual 113, 3) := by decide +kernel
theorem dX10_read_13 : decode cX10_read 13 = .ok (.if_icmp .lt 5, 3) := by decide +kernel
theorem dX10_read_16 : decode cX10_read 16 = .ok (.iconst (-1), 1) := by decide +kernel
theorem dX10_read_17 : decode cX10_read 17 = .ok (.ireturn, 1) := by decide +kernel
theorem dX10_read_18 : decode cX10_read 18 = .ok (.aload_n 0, 1) := by decide +kernel
theorem dX10_read_19 : decode cX10_read 19 = .ok (.getfield 26, 3) := by decide +kernel
theorem dX10_read_22 : decode cX10_read 22 = .ok (.iload_n 1, 1) := by decide +kernel
theorem dX10_read_23 : decode cX10_read 23 = .ok (.iload_n 2, 1) := by decide +kernel
theorem dX10_read_24 : decode cX10_read 24 = .ok (.invokevirtual 116, 3) := by decide +kernel
theorem dX10_read_27 : decode cX10_read 27 = .ok (.istore_n 3, 1) := by decide +kernel
theorem dX10_read_28 : decode cX10_read 28 = .ok (.iload_n 3, 1) := by decide +kernel
theorem dX10_read_29 : decode cX10_read 29 = .ok (.iconst (-1), 1) := by decide +kernel
theorem dX10_read_30 : decode cX10_read 30 = .ok (.if_icmp .ne 7, 3) := by decide +kernel
theorem dX10_read_33 : decode cX10_read 33 = .ok (.iconst (-1), 1) := by decide +kernel
theorem dX10_read_34 : decode cX10_read 34 = .ok (.goto 11, 3) := by decide +kernel
theorem dX10_read_37 : decode cX10_read 37 = .ok (.aload_n 0, 1) := by decide +kernel
theorem dX10_read_38 : decode cX10_read 38 = .ok (.getfield 20, 3) := by decide +kernel
theorem dX10_read_41 : decode cX10_read 41 = .ok (.iload_n 3, 1) := by decide +kernel
theorem dX10_read_42 : decode cX10_read 42 = .ok (.invokevirtual 87, 3) := by decide +kernel
theorem dX10_read_45 : decode cX10_read 45 = .ok (.ireturn, 1) := by decide +kernel
theorem dX10_find_0 : decode cX10_find 0 = .ok (.aload_n 0, 1) := by decide +kernel
theorem dX10_find_1 : decode cX10_find 1 = .ok (.getfield 55, 3) := by decide +kernel
theorem dX10_find_4 : decode cX10_find 4 = .ok (.lload_n 2, 1) := by decide +kernel
theorem dX10_find_5 : decode cX10_find 5 = .ok (.invokevirtual 120, 3) := by decide +kernel
theorem dX10_find_8 : decode cX10_find 8 = .ok (.aload_n 0, 1) := by decide +kernel
theorem dX10_find_9 : decode cX10_find 9 = .ok (.getfield 30, 3) := by decide +kernel
theorem dX10_find_12 : decode cX10_find 12 = .ok (.iload_n 1, 1) := by decide +kernel
theorem dX10_find_13 : decode cX10_find 13 = .ok (.aload_n 0, 1) := by decide +kernel
theorem dX10_find_14 : decode cX10_find 14 = .ok (.getfield 55, 3) := by decide +kernel
theorem dX10_find_17 : decode cX10_find 17 = .ok (.invokevirtual 124, 3) := by decide +kernel
theorem dX10_find_20 : decode cX10_find 20 = .ok (.istore 4, 2) := by decide +kernel
theorem dX10_find_22 : decode cX10_find 22 = .ok (.iload 4, 2) := by decide +kernel
theorem dX10_find_24 : decode cX10_find 24 = .ok (.iconst (-1), 1) := by decide +kernel
theorem dX10_find_25 : decode cX10_find 25 = .ok (.if_icmp .ne 7, 3) := by decide +kernel
theorem dX10_find_28 : decode cX10_find 28 = .ok (.iconst (-1), 1) := by decide +kernel
theorem dX10_find_29 : decode cX10_find 29 = .ok (.goto 12, 3) := by decide +kernel
theorem dX10_find_32 : decode cX10_find 32 = .ok (.aload_n 0, 1) := by decide +kernel
theorem dX10_find_33 : decode cX10_find 33 = .ok (.getfield 20, 3) := by decide +kernel
theorem dX10_find_36 : decode cX10_find 36 = .ok (.iload 4, 2) := by decide +kernel
theorem dX10_find_38 : decode cX10_find 38 = .ok (.invokevirtual 87, 3) := by decide +kernel
theorem dX10_find_41 : decode cX10_find 41 = .ok (.ireturn, 1) := by decide +kernel
theorem dX10_make_0 : decode cX10_make 0 = .ok (.iload 4, 2) := by decide +kernel
theorem dX10_make_2 : decode cX10_make 2 = .ok (.iconst 1, 1) := by decide +kernel
theorem dX10_make_3 : decode cX10_make 3 = .ok (.if_icmp .eq 9, 3) := by decide +kernel
theorem dX10_make_6 : decode cX10_make 6 = .ok (.iload 4, 2) := by decide +kernel
theorem dX10_make_8 : decode cX10_make 8 = .ok (.iconst 2, 1) := by decide +kernel
theorem dX10_make_9 : decode cX10_make 9 = .ok (.if_icmp .ne 13, 3) := by decide +kernel
theorem dX10_make_12 : decode cX10_make 12 = .ok (.aload_n 0, 1) := by decide +kernel
theorem dX10_make_13 : decode cX10_make 13 = .ok (.getfield 39, 3) := by decide +kernel
theorem dX10_make_16 : decode cX10_make 16 = .ok (.invokevirtual 69, 3) := by decide +kernel
theorem dX10_make_19 : decode cX10_make 19 = .ok (.ifCond .eq 5, 3) := by decide +kernel
theorem dX10_make_22 : decode cX10_make 22 = .ok (.iconst (-1), 1) := by decide +kernel
theorem dX10_make_23 : decode cX10_make 23 = .ok (.ireturn, 1) := by decide +kernel
theorem dX10_make_24 : decode cX10_make 24 = .ok (.aload_n 0, 1) := by decide +kernel
theorem dX10_make_25 : decode cX10_make 25 = .ok (.getfield 55, 3) := by decide +kernel
theorem dX10_make_28 : decode cX10_make 28 = .ok (.lload_n 2, 1) := by decide +kernel
theorem dX10_make_29 : decode cX10_make 29 = .ok (.invokevirtual 120, 3) := by decide +kernel
theorem dX10_make_32 : decode cX10_make 32 = .ok (.aload_n 0, 1) := by decide +kernel
theorem dX10_make_33 : decode cX10_make 33 = .ok (.getfield 48, 3) := by decide +kernel
theorem dX10_make_36 : decode cX10_make 36 = .ok (.iload_n 1, 1) := by decide +kernel
theorem dX10_make_37 : decode cX10_make 37 = .ok (.aload_n 0, 1) := by decide +kernel
theorem dX10_make_38 : decode cX10_make 38 = .ok (.getfield 55, 3) := by decide +kernel
theorem dX10_make_41 : decode cX10_make 41 = .ok (.iload 4, 2) := by decide +kernel
theorem dX10_make_43 : decode cX10_make 43 = .ok (.invokevirtual 128, 3) := by decide +kernel
theorem dX10_make_46 : decode cX10_make 46 = .ok (.istore 5, 2) := by decide +kernel
theorem dX10_make_48 : decode cX10_make 48 = .ok (.iload 5, 2) := by decide +kernel
theorem dX10_make_50 : decode cX10_make 50 = .ok (.iconst (-1), 1) := by decide +kernel
theorem dX10_make_51 : decode cX10_make 51 = .ok (.if_icmp .eq 10, 3) := by decide +kernel
theorem dX10_make_54 : decode cX10_make 54 = .ok (.aload_n 0, 1) := by decide +kernel
theorem dX10_make_55 : decode cX10_make 55 = .ok (.getfield 39, 3) := by decide +kernel
theorem dX10_make_58 : decode cX10_make 58 = .ok (.invokevirtual 132, 3) := by decide +kernel
theorem dX10_make_61 : decode cX10_make 61 = .ok (.iload 5, 2) := by decide +kernel
theorem dX10_make_63 : decode cX10_make 63 = .ok (.ireturn, 1) := by decide +kernel
theorem dX10_append_0 : decode cX10_append 0 = .ok (.iload_n 2, 1) := by decide +kernel
theorem dX10_append_1 : decode cX10_append 1 = .ok (.invokestatic 81, 3) := by decide +kernel
theorem dX10_append_4 : decode cX10_append 4 = .ok (.ifCond .eq 29, 3) := by decide +kernel
theorem dX10_append_7 : decode cX10_append 7 = .ok (.aload_n 0, 1) := by decide +kernel
theorem dX10_append_8 : decode cX10_append 8 = .ok (.getfield 39, 3) := by decide +kernel
theorem dX10_append_11 : decode cX10_append 11 = .ok (.invokevirtual 69, 3) := by decide +kernel
theorem dX10_append_14 : decode cX10_append 14 = .ok (.ifCond .ne 19, 3) := by decide +kernel
theorem dX10_append_17 : decode cX10_append 17 = .ok (.aload_n 0, 1) := by decide +kernel
theorem dX10_append_18 : decode cX10_append 18 = .ok (.getfield 48, 3) := by decide +kernel
theorem dX10_append_21 : decode cX10_append 21 = .ok (.iload_n 1, 1) := by decide +kernel
theorem dX10_append_22 : decode cX10_append 22 = .ok (.iload_n 2, 1) := by decide +kernel
theorem dX10_append_23 : decode cX10_append 23 = .ok (.invokevirtual 135, 3) := by decide +kernel
theorem dX10_append_26 : decode cX10_append 26 = .ok (.ifCond .eq 7, 3) := by decide +kernel
theorem dX10_append_29 : decode cX10_append 29 = .ok (.iconst 1, 1) := by decide +kernel
theorem dX10_append_30 : decode cX10_append 30 = .ok (.goto 4, 3) := by decide +kernel
theorem dX10_append_33 : decode cX10_append 33 = .ok (.iconst 0, 1) := by decide +kernel
theorem dX10_append_34 : decode cX10_append 34 = .ok (.istore_n 3, 1) := by decide +kernel
theorem dX10_append_35 : decode cX10_append 35 = .ok (.iload_n 3, 1) := by decide +kernel
theorem dX10_append_36 : decode cX10_append 36 = .ok (.ifCond .eq 10, 3) := by decide +kernel
theorem dX10_append_39 : decode cX10_append 39 = .ok (.aload_n 0, 1) := by decide +kernel
theorem dX10_append_40 : decode cX10_append 40 = .ok (.getfield 39, 3) := by decide +kernel
theorem dX10_append_43 : decode cX10_append 43 = .ok (.invokevirtual 132, 3) := by decide +kernel
theorem dX10_append_46 : decode cX10_append 46 = .ok (.iload_n 3, 1) := by decide +kernel
theorem dX10_append_47 : decode cX10_append 47 = .ok (.ireturn, 1) := by decide +kernel
theorem dX10_link_0 : decode cX10_link 0 = .ok (.aload_n 0, 1) := by decide +kernel
theorem dX10_link_1 : decode cX10_link 1 = .ok (.getfield 55, 3) := by decide +kernel
theorem dX10_link_4 : decode cX10_link 4 = .ok (.lload_n 2, 1) := by decide +kernel
theorem dX10_link_5 : decode cX10_link 5 = .ok (.invokevirtual 120, 3) := by decide +kernel
theorem dX10_link_8 : decode cX10_link 8 = .ok (.aload_n 0, 1) := by decide +kernel
theorem dX10_link_9 : decode cX10_link 9 = .ok (.getfield 39, 3) := by decide +kernel
theorem dX10_link_12 : decode cX10_link 12 = .ok (.invokevirtual 69, 3) := by decide +kernel
theorem dX10_link_15 : decode cX10_link 15 = .ok (.ifCond .ne 24, 3) := by decide +kernel
theorem dX10_link_18 : decode cX10_link 18 = .ok (.aload_n 0, 1) := by decide +kernel
theorem dX10_link_19 : decode cX10_link 19 = .ok (.getfield 48, 3) := by decide +kernel
theorem dX10_link_22 : decode cX10_link 22 = .ok (.iload_n 1, 1) := by decide +kernel
theorem dX10_link_23 : decode cX10_link 23 = .ok (.aload_n 0, 1) := by decide +kernel
theorem dX10_link_24 : decode cX10_link 24 = .ok (.getfield 55, 3) := by decide +kernel
theorem dX10_link_27 : decode cX10_link 27 = .ok (.iload 4, 2) := by decide +kernel
theorem dX10_link_29 : decode cX10_link 29 = .ok (.invokevirtual 139, 3) := by decide +kernel
theorem dX10_link_32 : decode cX10_link 32 = .ok (.ifCond .eq 7, 3) := by decide +kernel
theorem dX10_link_35 : decode cX10_link 35 = .ok (.iconst 1, 1) := by decide +kernel
theorem dX10_link_36 : decode cX10_link 36 = .ok (.goto 4, 3) := by decide +kernel
theorem dX10_link_39 : decode cX10_link 39 = .ok (.iconst 0, 1) := by decide +kernel
theorem dX10_link_40 : decode cX10_link 40 = .ok (.istore 5, 2) := by decide +kernel
theorem dX10_link_42 : decode cX10_link 42 = .ok (.iload 5, 2) := by decide +kernel
theorem dX10_link_44 : decode cX10_link 44 = .ok (.ifCond .eq 10, 3) := by decide +kernel
theorem dX10_link_47 : decode cX10_link 47 = .ok (.aload_n 0, 1) := by decide +kernel
theorem dX10_link_48 : decode cX10_link 48 = .ok (.getfield 39, 3) := by decide +kernel
theorem dX10_link_51 : decode cX10_link 51 = .ok (.invokevirtual 132, 3) := by decide +kernel
theorem dX10_link_54 : decode cX10_link 54 = .ok (.iload 5, 2) := by decide +kernel
theorem dX10_link_56 : decode cX10_link 56 = .ok (.ireturn, 1) := by decide +kernel
theorem dX10_unlink_0 : decode cX10_unlink 0 = .ok (.aload_n 0, 1) := by decide +kernel
theorem dX10_unlink_1 : decode cX10_unlink 1 = .ok (.getfield 55, 3) := by decide +kernel
theorem dX10_unlink_4 : decode cX10_unlink 4 = .ok (.lload_n 2, 1) := by decide +kernel
theorem dX10_unlink_5 : decode cX10_unlink 5 = .ok (.invokevirtual 120, 3) := by decide +kernel
theorem dX10_unlink_8 : decode cX10_unlink 8 = .ok (.aload_n 0, 1) := by decide +kernel
theorem dX10_unlink_9 : decode cX10_unlink 9 = .ok (.getfield 39, 3) := by decide +kernel
theorem dX10_unlink_12 : decode cX10_unlink 12 = .ok (.invokevirtual 69, 3) := by decide +kernel
theorem dX10_unlink_15 : decode cX10_unlink 15 = .ok (.ifCond .ne 22, 3) := by decide +kernel
theorem dX10_unlink_18 : decode cX10_unlink 18 = .ok (.aload_n 0, 1) := by decide +kernel
theorem dX10_unlink_19 : decode cX10_unlink 19 = .ok (.getfield 48, 3) := by decide +kernel
theorem dX10_unlink_22 : decode cX10_unlink 22 = .ok (.iload_n 1, 1) := by decide +kernel
theorem dX10_unlink_23 : decode cX10_unlink 23 = .ok (.aload_n 0, 1) := by decide +kernel
theorem dX10_unlink_24 : decode cX10_unlink 24 = .ok (.getfield 55, 3) := by decide +kernel
theorem dX10_unlink_27 : decode cX10_unlink 27 = .ok (.invokevirtual 143, 3) := by decide +kernel
theorem dX10_unlink_30 : decode cX10_unlink 30 = .ok (.ifCond .eq 7, 3) := by decide +kernel
theorem dX10_unlink_33 : decode cX10_unlink 33 = .ok (.iconst 1, 1) := by decide +kernel
theorem dX10_unlink_34 : decode cX10_unlink 34 = .ok (.goto 4, 3) := by decide +kernel
theorem dX10_unlink_37 : decode cX10_unlink 37 = .ok (.iconst 0, 1) := by decide +kernel
theorem dX10_unlink_38 : decode cX10_unlink 38 = .ok (.istore 4, 2) := by decide +kernel
theorem dX10_unlink_40 : decode cX10_unlink 40 = .ok (.iload 4, 2) := by decide +kernel
theorem dX10_unlink_42 : decode cX10_unlink 42 = .ok (.ifCond .eq 10, 3) := by decide +kernel
theorem dX10_unlink_45 : decode cX10_unlink 45 = .ok (.aload_n 0, 1) := by decide +kernel
theorem dX10_unlink_46 : decode cX10_unlink 46 = .ok (.getfield 39, 3) := by decide +kernel
theorem dX10_unlink_49 : decode cX10_unlink 49 = .ok (.invokevirtual 132, 3) := by decide +kernel
theorem dX10_unlink_52 : decode cX10_unlink 52 = .ok (.iload 4, 2) := by decide +kernel
theorem dX10_unlink_54 : decode cX10_unlink 54 = .ok (.ireturn, 1) := by decide +kernel
theorem dX10_isPlace_0 : decode cX10_isPlace 0 = .ok (.iload_n 0, 1) := by decide +kernel
theorem dX10_isPlace_1 : decode cX10_isPlace 1 = .ok (.ifCond .lt 14, 3) := by decide +kernel
theorem dX10_isPlace_4 : decode cX10_isPlace 4 = .ok (.iload_n 0, 1) := by decide +kernel
theorem dX10_isPlace_5 : decode cX10_isPlace 5 = .ok (.sipush 4096, 3) := by decide +kernel
theorem dX10_isPlace_8 : decode cX10_isPlace 8 = .ok (.if_icmp .ge 7, 3) := by decide +kernel
theorem dX10_isPlace_11 : decode cX10_isPlace 11 = .ok (.iconst 1, 1) := by decide +kernel
theorem dX10_isPlace_12 : decode cX10_isPlace 12 = .ok (.goto 4, 3) := by decide +kernel
theorem dX10_isPlace_15 : decode cX10_isPlace 15 = .ok (.iconst 0, 1) := by decide +kernel
theorem dX10_isPlace_16 : decode cX10_isPlace 16 = .ok (.ireturn, 1) := by decide +kernel
theorem dX10_isByte_0 : decode cX10_isByte 0 = .ok (.iload_n 0, 1) := by decide +kernel
theorem dX10_isByte_1 : decode cX10_isByte 1 = .ok (.ifCond .lt 14, 3) := by decide +kernel
theorem dX10_isByte_4 : decode cX10_isByte 4 = .ok (.iload_n 0, 1) := by decide +kernel
theorem dX10_isByte_5 : decode cX10_isByte 5 = .ok (.sipush 255, 3) := by decide +kernel
theorem dX10_isByte_8 : decode cX10_isByte 8 = .ok (.if_icmp .gt 7, 3) := by decide +kernel
theorem dX10_isByte_11 : decode cX10_isByte 11 = .ok (.iconst 1, 1) := by decide +kernel
theorem dX10_isByte_12 : decode cX10_isByte 12 = .ok (.goto 4, 3) := by decide +kernel
theorem dX10_isByte_15 : decode cX10_isByte 15 = .ok (.iconst 0, 1) := by decide +kernel
theorem dX10_isByte_16 : decode cX10_isByte 16 = .ok (.ireturn, 1) := by decide +kernel
theorem dX10_isDataBlock_0 : decode cX10_isDataBlock 0 = .ok (.iload_n 0, 1) := by decide +kernel
theorem dX10_isDataBlock_1 : decode cX10_isDataBlock 1 = .ok (.bipush 16, 2) := by decide +kernel
theorem dX10_isDataBlock_3 : decode cX10_isDataBlock 3 = .ok (.if_icmp .lt 13, 3) := by decide +kernel
theorem dX10_isDataBlock_6 : decode cX10_isDataBlock 6 = .ok (.iload_n 0, 1) := by decide +kernel
theorem dX10_isDataBlock_7 : decode cX10_isDataBlock 7 = .ok (.bipush 62, 2) := by decide +kernel
theorem dX10_isDataBlock_9 : decode cX10_isDataBlock 9 = .ok (.if_icmp .gt 7, 3) := by decide +kernel
theorem dX10_isDataBlock_12 : decode cX10_isDataBlock 12 = .ok (.iconst 1, 1) := by decide +kernel
theorem dX10_isDataBlock_13 : decode cX10_isDataBlock 13 = .ok (.goto 4, 3) := by decide +kernel
theorem dX10_isDataBlock_16 : decode cX10_isDataBlock 16 = .ok (.iconst 0, 1) := by decide +kernel
theorem dX10_isDataBlock_17 : decode cX10_isDataBlock 17 = .ok (.ireturn, 1) := by decide +kernel
theorem dX11_init_0 : decode cX11_init 0 = .ok (.aload_n 0, 1) := by decide +kernel
theorem dX11_init_1 : decode cX11_init 1 = .ok (.invokespecial 1, 3) := by decide +kernel
theorem dX11_init_4 : decode cX11_init 4 = .ok (.aload_n 0, 1) := by decide +kernel
theorem dX11_init_5 : decode cX11_init 5 = .ok (.sipush 4096, 3) := by decide +kernel
theorem dX11_init_8 : decode cX11_init 8 = .ok (.newarray .int, 2) := by decide +kernel
theorem dX11_init_10 : decode cX11_init 10 = .ok (.putfield 7, 3) := by decide +kernel
theorem dX11_init_13 : decode cX11_init 13 = .ok (.aload_n 0, 1) := by decide +kernel
theorem dX11_init_14 : decode cX11_init 14 = .ok (.sipush 4096, 3) := by decide +kernel
theorem dX11_init_17 : decode cX11_init 17 = .ok (.newarray .int, 2) := by decide +kernel
theorem dX11_init_19 : decode cX11_init 19 = .ok (.putfield 13, 3) := by decide +kernel
theorem dX11_init_22 : decode cX11_init 22 = .ok (.aload_n 0, 1) := by decide +kernel
theorem dX11_init_23 : decode cX11_init 23 = .ok (.bipush 64, 2) := by decide +kernel
theorem dX11_init_25 : decode cX11_init 25 = .ok (.newarray .boolean, 2) := by decide +kernel
theorem dX11_init_27 : decode cX11_init 27 = .ok (.putfield 16, 3) := by decide +kernel
theorem dX11_init_30 : decode cX11_init 30 = .ok (.aload_n 0, 1) := by decide +kernel
theorem dX11_init_31 : decode cX11_init 31 = .ok (.bipush 32, 2) := by decide +kernel
theorem dX11_init_33 : decode cX11_init 33 = .ok (.newarray .boolean, 2) := by decide +kernel
theorem dX11_init_35 : decode cX11_init 35 = .ok (.putfield 20, 3) := by decide +kernel
theorem dX11_init_38 : decode cX11_init 38 = .ok (.aload_n 0, 1) := by decide +kernel
theorem dX11_init_39 : decode cX11_init 39 = .ok (.bipush 32, 2) := by decide +kernel
theorem dX11_init_41 : decode cX11_init 41 = .ok (.newarray .int, 2) := by decide +kernel
theorem dX11_init_43 : decode cX11_init 43 = .ok (.putfield 23, 3) := by decide +kernel
theorem dX11_init_46 : decode cX11_init 46 = .ok (.aload_n 0, 1) := by decide +kernel
theorem dX11_init_47 : decode cX11_init 47 = .ok (.bipush 14, 2) := by decide +kernel
theorem dX11_init_49 : decode cX11_init 49 = .ok (.newarray .int, 2) := by decide +kernel
theorem dX11_init_51 : decode cX11_init 51 = .ok (.putfield 26, 3) := by decide +kernel
theorem dX11_init_54 : decode cX11_init 54 = .ok (.return_, 1) := by decide +kernel
theorem dX11_two_0 : decode cX11_two 0 = .ok (.aload_n 0, 1) := by decide +kernel
theorem dX11_two_1 : decode cX11_two 1 = .ok (.getfield 13, 3) := by decide +kernel
theorem dX11_two_4 : decode cX11_two 4 = .ok (.iload_n 1, 1) := by decide +kernel
theorem dX11_two_5 : decode cX11_two 5 = .ok (.iaload, 1) := by decide +kernel
theorem dX11_two_6 : decode cX11_two 6 = .ok (.sipush 256, 3) := by decide +kernel
theorem dX11_two_9 : decode cX11_two 9 = .ok (.imul, 1) := by decide +kernel
theorem dX11_two_10 : decode cX11_two 10 = .ok (.aload_n 0, 1) := by decide +kernel
theorem dX11_two_11 : decode cX11_two 11 = .ok (.getfield 13, 3) := by decide +kernel
theorem dX11_two_14 : decode cX11_two 14 = .ok (.iload_n 1, 1) := by decide +kernel
theorem dX11_two_15 : decode cX11_two 15 = .ok (.iconst 1, 1) := by decide +kernel
theorem dX11_two_16 : decode cX11_two 16 = .ok (.iadd, 1) := by decide +kernel
theorem dX11_two_17 : decode cX11_two 17 = .ok (.iaload, 1) := by decide +kernel
theorem dX11_two_18 : decode cX11_two 18 = .ok (.iadd, 1) := by decide +kernel
theorem dX11_two_19 : decode cX11_two 19 = .ok (.ireturn, 1) := by decide +kernel
theorem dX11_put_0 : decode cX11_put 0 = .ok (.aload_n 0, 1) := by decide +kernel
theorem dX11_put_1 : decode cX11_put 1 = .ok (.getfield 13, 3) := by decide +kernel
theorem dX11_put_4 : decode cX11_put 4 = .ok (.iload_n 1, 1) := by decide +kernel
theorem dX11_put_5 : decode cX11_put 5 = .ok (.iload_n 2, 1) := by decide +kernel
theorem dX11_put_6 : decode cX11_put 6 = .ok (.sipush 256, 3) := by decide +kernel
theorem dX11_put_9 : decode cX11_put 9 = .ok (.idiv, 1) := by decide +kernel
theorem dX11_put_10 : decode cX11_put 10 = .ok (.sipush 256, 3) := by decide +kernel
theorem dX11_put_13 : decode cX11_put 13 = .ok (.irem, 1) := by decide +kernel
theorem dX11_put_14 : decode cX11_put 14 = .ok (.iastore, 1) := by decide +kernel
theorem dX11_put_15 : decode cX11_put 15 = .ok (.aload_n 0, 1) := by decide +kernel
theorem dX11_put_16 : decode cX11_put 16 = .ok (.getfield 13, 3) := by decide +kernel
theorem dX11_put_19 : decode cX11_put 19 = .ok (.iload_n 1, 1) := by decide +kernel
theorem dX11_put_20 : decode cX11_put 20 = .ok (.iconst 1, 1) := by decide +kernel
theorem dX11_put_21 : decode cX11_put 21 = .ok (.iadd, 1) := by decide +kernel
theorem dX11_put_22 : decode cX11_put 22 = .ok (.iload_n 2, 1) := by decide +kernel
theorem dX11_put_23 : decode cX11_put 23 = .ok (.sipush 256, 3) := by decide +kernel
theorem dX11_put_26 : decode cX11_put 26 = .ok (.irem, 1) := by decide +kernel
theorem dX11_put_27 : decode cX11_put 27 = .ok (.iastore, 1) := by decide +kernel
theorem dX11_put_28 : decode cX11_put 28 = .ok (.return_, 1) := by decide +kernel
theorem dX11_sum_0 : decode cX11_sum 0 = .ok (.iconst 0, 1) := by decide +kernel
theorem dX11_sum_1 : decode cX11_sum 1 = .ok (.istore_n 3, 1) := by decide +kernel
theorem dX11_sum_2 : decode cX11_sum 2 = .ok (.iload_n 1, 1) := by decide +kernel
theorem dX11_sum_3 : decode cX11_sum 3 = .ok (.istore 4, 2) := by decide +kernel
theorem dX11_sum_5 : decode cX11_sum 5 = .ok (.iload 4, 2) := by decide +kernel
theorem dX11_sum_7 : decode cX11_sum 7 = .ok (.iload_n 1, 1) := by decide +kernel
theorem dX11_sum_8 : decode cX11_sum 8 = .ok (.iload_n 2, 1) := by decide +kernel
theorem dX11_sum_9 : decode cX11_sum 9 = .ok (.iadd, 1) := by decide +kernel
theorem dX11_sum_10 : decode cX11_sum 10 = .ok (.if_icmp .ge 19, 3) := by decide +kernel
theorem dX11_sum_13 : decode cX11_sum 13 = .ok (.iload_n 3, 1) := by decide +kernel
theorem dX11_sum_14 : decode cX11_sum 14 = .ok (.aload_n 0, 1) := by decide +kernel
theorem dX11_sum_15 : decode cX11_sum 15 = .ok (.getfield 13, 3) := by decide +kernel
theorem dX11_sum_18 : decode cX11_sum 18 = .ok (.iload 4, 2) := by decide +kernel
theorem dX11_sum_20 : decode cX11_sum 20 = .ok (.iaload, 1) := by decide +kernel
theorem dX11_sum_21 : decode cX11_sum 21 = .ok (.iadd, 1) := by decide +kernel
theorem dX11_sum_22 : decode cX11_sum 22 = .ok (.istore_n 3, 1) := by decide +kernel
theorem dX11_sum_23 : decode cX11_sum 23 = .ok (.iinc 4 1, 3) := by decide +kernel
theorem dX11_sum_26 : decode cX11_sum 26 = .ok (.goto (-21), 3) := by decide +kernel
theorem dX11_sum_29 : decode cX11_sum 29 = .ok (.iload_n 3, 1) := by decide +kernel
theorem dX11_sum_30 : decode cX11_sum 30 = .ok (.ldc 29, 2) := by decide +kernel
theorem dX11_sum_32 : decode cX11_sum 32 = .ok (.irem, 1) := by decide +kernel
theorem dX11_sum_33 : decode cX11_sum 33 = .ok (.ireturn, 1) := by decide +kernel
theorem dX11_clear_0 : decode cX11_clear 0 = .ok (.iload_n 1, 1) := by decide +kernel
theorem dX11_clear_1 : decode cX11_clear 1 = .ok (.istore_n 3, 1) := by decide +kernel
theorem dX11_clear_2 : decode cX11_clear 2 = .ok (.iload_n 3, 1) := by decide +kernel
theorem dX11_clear_3 : decode cX11_clear 3 = .ok (.iload_n 1, 1) := by decide +kernel
theorem dX11_clear_4 : decode cX11_clear 4 = .ok (.iload_n 2, 1) := by decide +kernel
theorem dX11_clear_5 : decode cX11_clear 5 = .ok (.iadd, 1) := by decide +kernel
theorem dX11_clear_6 : decode cX11_clear 6 = .ok (.if_icmp .ge 16, 3) := by decide +kernel
theorem dX11_clear_9 : decode cX11_clear 9 = .ok (.aload_n 0, 1) := by decide +kernel
theorem dX11_clear_10 : decode cX11_clear 10 = .ok (.getfield 13, 3) := by decide +kernel
theorem dX11_clear_13 : decode cX11_clear 13 = .ok (.iload_n 3, 1) := by decide +kernel
theorem dX11_clear_14 : decode cX11_clear 14 = .ok (.iconst 0, 1) := by decide +kernel
theorem dX11_clear_15 : decode cX11_clear 15 = .ok (.iastore, 1) := by decide +kernel
theorem dX11_clear_16 : decode cX11_clear 16 = .ok (.iinc 3 1, 3) := by decide +kernel
theorem dX11_clear_19 : decode cX11_clear 19 = .ok (.goto (-17), 3) := by decide +kernel
theorem dX11_clear_22 : decode cX11_clear 22 = .ok (.return_, 1) := by decide +kernel
theorem dX11_isClear_0 : decode cX11_isClear 0 = .ok (.iconst 1, 1) := by decide +kernel
theorem dX11_isClear_1 : decode cX11_isClear 1 = .ok (.istore_n 3, 1) := by decide +kernel
theorem dX11_isClear_2 : decode cX11_isClear 2 = .ok (.iload_n 1, 1) := by decide +kernel
theorem dX11_isClear_3 : decode cX11_isClear 3 = .ok (.istore 4, 2) := by decide +kernel
theorem dX11_isClear_5 : decode cX11_isClear 5 = .ok (.iload 4, 2) := by decide +kernel
theorem dX11_isClear_7 : decode cX11_isClear 7 = .ok (.iload_n 1, 1) := by decide +kernel
theorem dX11_isClear_8 : decode cX11_isClear 8 = .ok (.iload_n 2, 1) := by decide +kernel
theorem dX11_isClear_9 : decode cX11_isClear 9 = .ok (.iadd, 1) := by decide +kernel
theorem dX11_isClear_10 : decode cX11_isClear 10 = .ok (.if_icmp .ge 29, 3) := by decide +kernel
theorem dX11_isClear_13 : decode cX11_isClear 13 = .ok (.iload_n 3, 1) := by decide +kernel
theorem dX11_isClear_14 : decode cX11_isClear 14 = .ok (.ifCond .eq 17, 3) := by decide +kernel
theorem dX11_isClear_17 : decode cX11_isClear 17 = .ok (.aload_n 0, 1) := by decide +kernel
theorem dX11_isClear_18 : decode cX11_isClear 18 = .ok (.getfield 13, 3) := by decide +kernel
theorem dX11_isClear_21 : decode cX11_isClear 21 = .ok (.iload 4, 2) := by decide +kernel
theorem dX11_isClear_23 : decode cX11_isClear 23 = .ok (.iaload, 1) := by decide +kernel
theorem dX11_isClear_24 : decode cX11_isClear 24 = .ok (.ifCond .ne 7, 3) := by decide +kernel
theorem dX11_isClear_27 : decode cX11_isClear 27 = .ok (.iconst 1, 1) := by decide +kernel
theorem dX11_isClear_28 : decode cX11_isClear 28 = .ok (.goto 4, 3) := by decide +kernel
theorem dX11_isClear_31 : decode cX11_isClear 31 = .ok (.iconst 0, 1) := by decide +kernel
theorem dX11_isClear_32 : decode cX11_isClear 32 = .ok (.istore_n 3, 1) := by decide +kernel
theorem dX11_isClear_33 : decode cX11_isClear 33 = .ok (.iinc 4 1, 3) := by decide +kernel
theorem dX11_isClear_36 : decode cX11_isClear 36 = .ok (.goto (-31), 3) := by decide +kernel
theorem dX11_isClear_39 : decode cX11_isClear 39 = .ok (.iload_n 3, 1) := by decide +kernel
theorem dX11_isClear_40 : decode cX11_isClear 40 = .ok (.ireturn, 1) := by decide +kernel
theorem dX11_has_0 : decode cX11_has 0 = .ok (.aload_n 0, 1) := by decide +kernel
theorem dX11_has_1 : decode cX11_has 1 = .ok (.getfield 13, 3) := by decide +kernel
theorem dX11_has_4 : decode cX11_has 4 = .ok (.iload_n 1, 1) := by decide +kernel
theorem dX11_has_5 : decode cX11_has 5 = .ok (.iaload, 1) := by decide +kernel
theorem dX11_has_6 : decode cX11_has 6 = .ok (.iload_n 2, 1) := by decide +kernel
theorem dX11_has_7 : decode cX11_has 7 = .ok (.if_icmp .ne 45, 3) := by decide +kernel
theorem dX11_has_10 : decode cX11_has 10 = .ok (.aload_n 0, 1) := by decide +kernel
theorem dX11_has_11 : decode cX11_has 11 = .ok (.getfield 13, 3) := by decide +kernel
theorem dX11_has_14 : decode cX11_has 14 = .ok (.iload_n 1, 1) := by decide +kernel
theorem dX11_has_15 : decode cX11_has 15 = .ok (.iconst 1, 1) := by decide +kernel
theorem dX11_has_16 : decode cX11_has 16 = .ok (.iadd, 1) := by decide +kernel
theorem dX11_has_17 : decode cX11_has 17 = .ok (.iaload, 1) := by decide +kernel
theorem dX11_has_18 : decode cX11_has 18 = .ok (.iload_n 3, 1) := by decide +kernel
theorem dX11_has_19 : decode cX11_has 19 = .ok (.if_icmp .ne 33, 3) := by decide +kernel
theorem dX11_has_22 : decode cX11_has 22 = .ok (.aload_n 0, 1) := by decide +kernel
theorem dX11_has_23 : decode cX11_has 23 = .ok (.getfield 13, 3) := by decide +kernel
theorem dX11_has_26 : decode cX11_has 26 = .ok (.iload_n 1, 1) := by decide +kernel
theorem dX11_has_27 : decode cX11_has 27 = .ok (.iconst 2, 1) := by decide +kernel
theorem dX11_has_28 : decode cX11_has 28 = .ok (.iadd, 1) := by decide +kernel
theorem dX11_has_29 : decode cX11_has 29 = .ok (.iaload, 1) := by decide +kernel
theorem dX11_has_30 : decode cX11_has 30 = .ok (.iload 4, 2) := by decide +kernel
theorem dX11_has_32 : decode cX11_has 32 = .ok (.if_icmp .ne 20, 3) := by decide +kernel
theorem dX11_has_35 : decode cX11_has 35 = .ok (.aload_n 0, 1) := by decide +kernel
theorem dX11_has_36 : decode cX11_has 36 = .ok (.getfield 13, 3) := by decide +kernel
theorem dX11_has_39 : decode cX11_has 39 = .ok (.iload_n 1, 1) := by decide +kernel
theorem dX11_has_40 : decode cX11_has 40 = .ok (.iconst 3, 1) := by decide +kernel
theorem dX11_has_41 : decode cX11_has 41 = .ok (.iadd, 1) := by decide +kernel
theorem dX11_has_42 : decode cX11_has 42 = .ok (.iaload, 1) := by decide +kernel
theorem dX11_has_43 : decode cX11_has 43 = .ok (.iload 5, 2) := by decide +kernel
theorem dX11_has_45 : decode cX11_has 45 = .ok (.if_icmp .ne 7, 3) := by decide +kernel
theorem dX11_has_48 : decode cX11_has 48 = .ok (.iconst 1, 1) := by decide +kernel
theorem dX11_has_49 : decode cX11_has 49 = .ok (.goto 4, 3) := by decide +kernel
theorem dX11_has_52 : decode cX11_has 52 = .ok (.iconst 0, 1) := by decide +kernel
theorem dX11_has_53 : decode cX11_has 53 = .ok (.ireturn, 1) := by decide +kernel
theorem dX11_load_0 : decode cX11_load 0 = .ok (.iconst 0, 1) := by decide +kernel
theorem dX11_load_1 : decode cX11_load 1 = .ok (.istore_n 1, 1) := by decide +kernel
theorem dX11_load_2 : decode cX11_load 2 = .ok (.iload_n 1, 1) := by decide +kernel
theorem dX11_load_3 : decode cX11_load 3 = .ok (.sipush 4096, 3) := by decide +kernel
theorem dX11_load_6 : decode cX11_load 6 = .ok (.if_icmp .ge 21, 3) := by decide +kernel
theorem dX11_load_9 : decode cX11_load 9 = .ok (.aload_n 0, 1) := by decide +kernel
theorem dX11_load_10 : decode cX11_load 10 = .ok (.getfield 13, 3) := by decide +kernel
theorem dX11_load_13 : decode cX11_load 13 = .ok (.iload_n 1, 1) := by decide +kernel
theorem dX11_load_14 : decode cX11_load 14 = .ok (.aload_n 0, 1) := by decide +kernel
theorem dX11_load_15 : decode cX11_load 15 = .ok (.getfield 7, 3) := by decide +kernel
theorem dX11_load_18 : decode cX11_load 18 = .ok (.iload_n 1, 1) := by decide +kernel
theorem dX11_load_19 : decode cX11_load 19 = .ok (.iaload, 1) := by decide +kernel
theorem dX11_load_20 : decode cX11_load 20 = .ok (.iastore, 1) := by decide +kernel
theorem dX11_load_21 : decode cX11_load 21 = .ok (.iinc 1 1, 3) := by decide +kernel
theorem dX11_load_24 : decode cX11_load 24 = .ok (.goto (-22), 3) := by decide +kernel
theorem dX11_load_27 : decode cX11_load 27 = .ok (.return_, 1) := by decide +kernel
theorem dX11_store_0 : decode cX11_store 0 = .ok (.iconst 0, 1) := by decide +kernel
theorem dX11_store_1 : decode cX11_store 1 = .ok (.istore_n 1, 1) := by decide +kernel
theorem dX11_store_2 : decode cX11_store 2 = .ok (.iload_n 1, 1) := by decide +kernel
theorem dX11_store_3 : decode cX11_store 3 = .ok (.sipush 4096, 3) := by decide +kernel
theorem dX11_store_6 : decode cX11_store 6 = .ok (.if_icmp .ge 21, 3) := by decide +kernel
theorem dX11_store_9 : decode cX11_store 9 = .ok (.aload_n 0, 1) := by decide +kernel
theorem dX11_store_10 : decode cX11_store 10 = .ok (.getfield 7, 3) := by decide +kernel
theorem dX11_store_13 : decode cX11_store 13 = .ok (.iload_n 1, 1) := by decide +kernel
theorem dX11_store_14 : decode cX11_store 14 = .ok (.aload_n 0, 1) := by decide +kernel
theorem dX11_store_15 : decode cX11_store 15 = .ok (.getfield 13, 3) := by decide +kernel
theorem dX11_store_18 : decode cX11_store 18 = .ok (.iload_n 1, 1) := by decide +kernel
theorem dX11_store_19 : decode cX11_store 19 = .ok (.iaload, 1) := by decide +kernel
theorem dX11_store_20 : decode cX11_store 20 = .ok (.iastore, 1) := by decide +kernel
theorem dX11_store_21 : decode cX11_store 21 = .ok (.iinc 1 1, 3) := by decide +kernel
theorem dX11_store_24 : decode cX11_store 24 = .ok (.goto (-22), 3) := by decide +kernel
theorem dX11_store_27 : decode cX11_store 27 = .ok (.return_, 1) := by decide +kernel
theorem dX11_isSuper_0 : decode cX11_isSuper 0 = .ok (.aload_n 0, 1) := by decide +kernel
theorem dX11_isSuper_1 : decode cX11_isSuper 1 = .ok (.iload_n 1, 1) := by decide +kernel
theorem dX11_isSuper_2 : decode cX11_isSuper 2 = .ok (.bipush 83, 2) := by decide +kernel
theorem dX11_isSuper_4 : decode cX11_isSuper 4 = .ok (.bipush 70, 2) := by decide +kernel
theorem dX11_isSuper_6 : decode cX11_isSuper 6 = .ok (.bipush 83, 2) := by decide +kernel
theorem dX11_isSuper_8 : decode cX11_isSuper 8 = .ok (.bipush 75, 2) := by decide +kernel
theorem dX11_isSuper_10 : decode cX11_isSuper 10 = .ok (.invokevirtual 30, 3) := by decide +kernel
theorem dX11_isSuper_13 : decode cX11_isSuper 13 = .ok (.ifCond .eq 25, 3) := by decide +kernel
theorem dX11_isSuper_16 : decode cX11_isSuper 16 = .ok (.aload_n 0, 1) := by decide +kernel
theorem dX11_isSuper_17 : decode cX11_isSuper 17 = .ok (.iload_n 1, 1) := by decide +kernel
theorem dX11_isSuper_18 : decode cX11_isSuper 18 = .ok (.bipush 62, 2) := by decide +kernel
theorem dX11_isSuper_20 : decode cX11_isSuper 20 = .ok (.iadd, 1) := by decide +kernel
theorem dX11_isSuper_21 : decode cX11_isSuper 21 = .ok (.invokevirtual 34, 3) := by decide +kernel
theorem dX11_isSuper_24 : decode cX11_isSuper 24 = .ok (.aload_n 0, 1) := by decide +kernel
theorem dX11_isSuper_25 : decode cX11_isSuper 25 = .ok (.iload_n 1, 1) := by decide +kernel
theorem dX11_isSuper_26 : decode cX11_isSuper 26 = .ok (.bipush 62, 2) := by decide +kernel
theorem dX11_isSuper_28 : decode cX11_isSuper 28 = .ok (.invokevirtual 38, 3) := by decide +kernel
theorem dX11_isSuper_31 : decode cX11_isSuper 31 = .ok (.if_icmp .ne 7, 3) := by decide +kernel
theorem dX11_isSuper_34 : decode cX11_isSuper 34 = .ok (.iconst 1, 1) := by decide +kernel
theorem dX11_isSuper_35 : decode cX11_isSuper 35 = .ok (.goto 4, 3) := by decide +kernel
theorem dX11_isSuper_38 : decode cX11_isSuper 38 = .ok (.iconst 0, 1) := by decide +kernel
theorem dX11_isSuper_39 : decode cX11_isSuper 39 = .ok (.ireturn, 1) := by decide +kernel
theorem dX11_base_0 : decode cX11_base 0 = .ok (.sipush 512, 3) := by decide +kernel
theorem dX11_base_3 : decode cX11_base 3 = .ok (.bipush 16, 2) := by decide +kernel
theorem dX11_base_5 : decode cX11_base 5 = .ok (.iload_n 0, 1) := by decide +kernel
theorem dX11_base_6 : decode cX11_base 6 = .ok (.imul, 1) := by decide +kernel
theorem dX11_base_7 : decode cX11_base 7 = .ok (.iadd, 1) := by decide +kernel
theorem dX11_base_8 : decode cX11_base 8 = .ok (.ireturn, 1) := by decide +kernel
theorem dX11_kind_0 : decode cX11_kind 0 = .ok (.aload_n 0, 1) := by decide +kernel
theorem dX11_kind_1 : decode cX11_kind 1 = .ok (.getfield 13, 3) := by decide +kernel
theorem dX11_kind_4 : decode cX11_kind 4 = .ok (.iload_n 1, 1) := by decide +kernel
theorem dX11_kind_5 : decode cX11_kind 5 = .ok (.invokestatic 42, 3) := by decide +kernel
theorem dX11_kind_8 : decode cX11_kind 8 = .ok (.iaload, 1) := by decide +kernel
theorem dX11_kind_9 : decode cX11_kind 9 = .ok (.ireturn, 1) := by decide +kernel
theorem dX11_size_0 : decode cX11_size 0 = .ok (.aload_n 0, 1) := by decide +kernel
theorem dX11_size_1 : decode cX11_size 1 = .ok (.iload_n 1, 1) := by decide +kernel
theorem dX11_size_2 : decode cX11_size 2 = .ok (.invokestatic 42, 3) := by decide +kernel
theorem dX11_size_5 : decode cX11_size 5 = .ok (.iconst 2, 1) := by decide +kernel
theorem dX11_size_6 : decode cX11_size 6 = .ok (.iadd, 1) := by decide +kernel
theorem dX11_size_7 : decode cX11_size 7 = .ok (.invokevirtual 34, 3) := by decide +kernel
theorem dX11_size_10 : decode cX11_size 10 = .ok (.ireturn, 1) := by decide +kernel
theorem dX11_blocks_0 : decode cX11_blocks 0 = .ok (.aload_n 0, 1) := by decide +kernel
theorem dX11_blocks_1 : decode cX11_blocks 1 = .ok (.iload_n 1, 1) := by decide +kernel
theorem dX11_blocks_2 : decode cX11_blocks 2 = .ok (.invokevirtual 45, 3) := by decide +kernel
theorem dX11_blocks_5 : decode cX11_blocks 5 = .ok (.bipush 63, 2) := by decide +kernel
theorem dX11_blocks_7 : decode cX11_blocks 7 = .ok (.iadd, 1) := by decide +kernel
theorem dX11_blocks_8 : decode cX11_blocks 8 = .ok (.bipush 64, 2) := by decide +kernel
theorem dX11_blocks_10 : decode cX11_blocks 10 = .ok (.idiv, 1) := by decide +kernel
theorem dX11_blocks_11 : decode cX11_blocks 11 = .ok (.ireturn, 1) := by decide +kernel
theorem dX11_block_0 : decode cX11_block 0 = .ok (.iload_n 2, 1) := by decide +kernel
theorem dX11_block_1 : decode cX11_block 1 = .ok (.iconst 5, 1) := by decide +kernel
theorem dX11_block_2 : decode cX11_block 2 = .ok (.if_icmp .ge 19, 3) := by decide +kernel
theorem dX11_block_5 : decode cX11_block 5 = .ok (.aload_n 0, 1) := by decide +kernel
theorem dX11_block_6 : decode cX11_block 6 = .ok (.getfield 13, 3) := by decide +kernel
theorem dX11_block_9 : decode cX11_block 9 = .ok (.iload_n 1, 1) := by decide +kernel
theorem dX11_block_10 : decode cX11_block 10 = .ok (.invokestatic 42, 3) := by decide +kernel
theorem dX11_block_13 : decode cX11_block 13 = .ok (.iconst 4, 1) := by decide +kernel
theorem dX11_block_14 : decode cX11_block 14 = .ok (.iadd, 1) := by decide +kernel
theorem dX11_block_15 : decode cX11_block 15 = .ok (.iload_n 2, 1) := by decide +kernel
theorem dX11_block_16 : decode cX11_block 16 = .ok (.iadd, 1) := by decide +kernel
theorem dX11_block_17 : decode cX11_block 17 = .ok (.iaload, 1) := by decide +kernel
theorem dX11_block_18 : decode cX11_block 18 = .ok (.goto 27, 3) := by decide +kernel
theorem dX11_block_21 : decode cX11_block 21 = .ok (.aload_n 0, 1) := by decide +kernel
theorem dX11_block_22 : decode cX11_block 22 = .ok (.getfield 13, 3) := by decide +kernel
theorem dX11_block_25 : decode cX11_block 25 = .ok (.bipush 64, 2) := by decide +kernel
theorem dX11_block_27 : decode cX11_block 27 = .ok (.aload_n 0, 1) := by decide +kernel
theorem dX11_block_28 : decode cX11_block 28 = .ok (.getfield 13, 3) := by decide +kernel
theorem dX11_block_31 : decode cX11_block 31 = .ok (.iload_n 1, 1) := by decide +kernel
theorem dX11_block_32 : decode cX11_block 32 = .ok (.invokestatic 42, 3) := by decide +kernel
theorem dX11_block_35 : decode cX11_block 35 = .ok (.bipush 9, 2) := by decide +kernel
theorem dX11_block_37 : decode cX11_block 37 = .ok (.iadd, 1) := by decide +kernel
theorem dX11_block_38 : decode cX11_block 38 = .ok (.iaload, 1) := by decide +kernel
theorem dX11_block_39 : decode cX11_block 39 = .ok (.imul, 1) := by decide +kernel
theorem dX11_block_40 : decode cX11_block 40 = .ok (.iload_n 2, 1) := by decide +kernel
theorem dX11_block_41 : decode cX11_block 41 = .ok (.iadd, 1) := by decide +kernel
theorem dX11_block_42 : decode cX11_block 42 = .ok (.iconst 5, 1) := by decide +kernel
theorem dX11_block_43 : decode cX11_block 43 = .ok (.isub, 1) := by decide +kernel
theorem dX11_block_44 : decode cX11_block 44 = .ok (.iaload, 1) := by decide +kernel
theorem dX11_block_45 : decode cX11_block 45 = .ok (.ireturn, 1) := by decide +kernel
theorem dX11_mark_0 : decode cX11_mark 0 = .ok (.iload_n 1, 1) := by decide +kernel
theorem dX11_mark_1 : decode cX11_mark 1 = .ok (.bipush 16, 2) := by decide +kernel
theorem dX11_mark_3 : decode cX11_mark 3 = .ok (.if_icmp .lt 18, 3) := by decide +kernel
theorem dX11_mark_6 : decode cX11_mark 6 = .ok (.iload_n 1, 1) := by decide +kernel
theorem dX11_mark_7 : decode cX11_mark 7 = .ok (.bipush 63, 2) := by decide +kernel
theorem dX11_mark_9 : decode cX11_mark 9 = .ok (.if_icmp .ge 12, 3) := by decide +kernel
theorem dX11_mark_12 : decode cX11_mark 12 = .ok (.aload_n 0, 1) := by decide +kernel
theorem dX11_mark_13 : decode cX11_mark 13 = .ok (.getfield 16, 3) := by decide +kernel
theorem dX11_mark_16 : decode cX11_mark 16 = .ok (.iload_n 1, 1) := by decide +kernel
theorem dX11_mark_17 : decode cX11_mark 17 = .ok (.baload, 1) := by decide +kernel
theorem dX11_mark_18 : decode cX11_mark 18 = .ok (.ifCond .eq 5, 3) := by decide +kernel
theorem dX11_mark_21 : decode cX11_mark 21 = .ok (.iconst 0, 1) := by decide +kernel
theorem dX11_mark_22 : decode cX11_mark 22 = .ok (.ireturn, 1) := by decide +kernel
theorem dX11_mark_23 : decode cX11_mark 23 = .ok (.aload_n 0, 1) := by decide +kernel
theorem dX11_mark_24 : decode cX11_mark 24 = .ok (.getfield 16, 3) := by decide +kernel
theorem dX11_mark_27 : decode cX11_mark 27 = .ok (.iload_n 1, 1) := by decide +kernel
theorem dX11_mark_28 : decode cX11_mark 28 = .ok (.iconst 1, 1) := by decide +kernel
theorem dX11_mark_29 : decode cX11_mark 29 = .ok (.bastore, 1) := by decide +kernel
theorem dX11_mark_30 : decode cX11_mark 30 = .ok (.iconst 1, 1) := by decide +kernel
theorem dX11_mark_31 : decode cX11_mark 31 = .ok (.ireturn, 1) := by decide +kernel
theorem dX11_isSound_0 : decode cX11_isSound 0 = .ok (.iload_n 1, 1) := by decide +kernel
theorem dX11_isSound_1 : decode cX11_isSound 1 = .ok (.invokestatic 42, 3) := by decide +kernel
theorem dX11_isSound_4 : decode cX11_isSound 4 = .ok (.istore_n 2, 1) := by decide +kernel
theorem dX11_isSound_5 : decode cX11_isSound 5 = .ok (.aload_n 0, 1) := by decide +kernel
theorem dX11_isSound_6 : decode cX11_isSound 6 = .ok (.getfield 13, 3) := by decide +kernel
theorem dX11_isSound_9 : decode cX11_isSound 9 = .ok (.iload_n 2, 1) := by decide +kernel
theorem dX11_isSound_10 : decode cX11_isSound 10 = .ok (.iaload, 1) := by decide +kernel
theorem dX11_isSound_11 : decode cX11_isSound 11 = .ok (.istore_n 3, 1) := by decide +kernel
theorem dX11_isSound_12 : decode cX11_isSound 12 = .ok (.aload_n 0, 1) := by decide +kernel
theorem dX11_isSound_13 : decode cX11_isSound 13 = .ok (.iload_n 1, 1) := by decide +kernel
theorem dX11_isSound_14 : decode cX11_isSound 14 = .ok (.invokevirtual 45, 3) := by decide +kernel
theorem dX11_isSound_17 : decode cX11_isSound 17 = .ok (.istore 4, 2) := by decide +kernel
theorem dX11_isSound_19 : decode cX11_isSound 19 = .ok (.iload_n 3, 1) := by decide +kernel
theorem dX11_isSound_20 : decode cX11_isSound 20 = .ok (.iconst 1, 1) := by decide +kernel
theorem dX11_isSound_21 : decode cX11_isSound 21 = .ok (.if_icmp .lt 74, 3) := by decide +kernel
theorem dX11_isSound_24 : decode cX11_isSound 24 = .ok (.iload_n 3, 1) := by decide +kernel
theorem dX11_isSound_25 : decode cX11_isSound 25 = .ok (.iconst 2, 1) := by decide +kernel
theorem dX11_isSound_26 : decode cX11_isSound 26 = .ok (.if_icmp .gt 69, 3) := by decide +kernel
theorem dX11_isSound_29 : decode cX11_isSound 29 = .ok (.iload_n 1, 1) := by decide +kernel
theorem dX11_isSound_30 : decode cX11_isSound 30 = .ok (.iconst 3, 1) := by decide +kernel
theorem dX11_isSound_31 : decode cX11_isSound 31 = .ok (.if_icmp .ge 8, 3) := by decide +kernel
theorem dX11_isSound_34 : decode cX11_isSound 34 = .ok (.iload_n 3, 1) := by decide +kernel
theorem dX11_isSound_35 : decode cX11_isSound 35 = .ok (.iconst 2, 1) := by decide +kernel
theorem dX11_isSound_36 : decode cX11_isSound 36 = .ok (.if_icmp .ne 59, 3) := by decide +kernel
theorem dX11_isSound_39 : decode cX11_isSound 39 = .ok (.aload_n 0, 1) := by decide +kernel
theorem dX11_isSound_40 : decode cX11_isSound 40 = .ok (.iload_n 2, 1) := by decide +kernel
theorem dX11_isSound_41 : decode cX11_isSound 41 = .ok (.bipush 14, 2) := by decide +kernel
theorem dX11_isSound_43 : decode cX11_isSound 43 = .ok (.iadd, 1) := by decide +kernel
theorem dX11_isSound_44 : decode cX11_isSound 44 = .ok (.invokevirtual 34, 3) := by decide +kernel
theorem dX11_isSound_47 : decode cX11_isSound 47 = .ok (.aload_n 0, 1) := by decide +kernel
theorem dX11_isSound_48 : decode cX11_isSound 48 = .ok (.iload_n 2, 1) := by decide +kernel
theorem dX11_isSound_49 : decode cX11_isSound 49 = .ok (.bipush 14, 2) := by decide +kernel
theorem dX11_isSound_51 : decode cX11_isSound 51 = .ok (.invokevirtual 38, 3) := by decide +kernel
theorem dX11_isSound_54 : decode cX11_isSound 54 = .ok (.if_icmp .ne 41, 3) := by decide +kernel
theorem dX11_isSound_57 : decode cX11_isSound 57 = .ok (.aload_n 0, 1) := by decide +kernel
theorem dX11_isSound_58 : decode cX11_isSound 58 = .ok (.iload_n 2, 1) := by decide +kernel
theorem dX11_isSound_59 : decode cX11_isSound 59 = .ok (.bipush 10, 2) := by decide +kernel
theorem dX11_isSound_61 : decode cX11_isSound 61 = .ok (.iadd, 1) := by decide +kernel
theorem dX11_isSound_62 : decode cX11_isSound 62 = .ok (.iconst 4, 1) := by decide +kernel
theorem dX11_isSound_63 : decode cX11_isSound 63 = .ok (.invokevirtual 48, 3) := by decide +kernel
theorem dX11_isSound_66 : decode cX11_isSound 66 = .ok (.ifCond .eq 29, 3) := by decide +kernel
theorem dX11_isSound_69 : decode cX11_isSound 69 = .ok (.iload 4, 2) := by decide +kernel
theorem dX11_isSound_71 : decode cX11_isSound 71 = .ok (.sipush 2944, 3) := by decide +kernel
theorem dX11_isSound_74 : decode cX11_isSound 74 = .ok (.if_icmp .gt 21, 3) := by decide +kernel
theorem dX11_isSound_77 : decode cX11_isSound 77 = .ok (.iload_n 3, 1) := by decide +kernel
