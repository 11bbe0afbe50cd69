theorem dX3_hasSoundHead_5 : decode cX3_hasSoundHead 5 = .ok (.invokevirtual 45, 3) := by decide +kernel
theorem dX3_hasSoundHead_8 : decode cX3_hasSoundHead 8 = .ok (.istore_n 2, 1) := by decide +kernel
theorem dX3_hasSoundHead_9 : decode cX3_hasSoundHead 9 = .ok (.iload_n 1, 1) := by decide +kernel
theorem dX3_hasSoundHead_10 : decode cX3_hasSoundHead 10 = .ok (.invokestatic 49, 3) := by decide +kernel
theorem dX3_hasSoundHead_13 : decode cX3_hasSoundHead 13 = .ok (.istore_n 3, 1) := by decide +kernel
theorem dX3_hasSoundHead_14 : decode cX3_hasSoundHead 14 = .ok (.iload_n 2, 1) := by decide +kernel
theorem dX3_hasSoundHead_15 : decode cX3_hasSoundHead 15 = .ok (.iconst 2, 1) := by decide +kernel
theorem dX3_hasSoundHead_16 : decode cX3_hasSoundHead 16 = .ok (.if_icmp .eq 13, 3) := by decide +kernel
theorem dX3_hasSoundHead_19 : decode cX3_hasSoundHead 19 = .ok (.iload_n 2, 1) := by decide +kernel
theorem dX3_hasSoundHead_20 : decode cX3_hasSoundHead 20 = .ok (.iconst 1, 1) := by decide +kernel
theorem dX3_hasSoundHead_21 : decode cX3_hasSoundHead 21 = .ok (.if_icmp .ne 51, 3) := by decide +kernel
theorem dX3_hasSoundHead_24 : decode cX3_hasSoundHead 24 = .ok (.iload_n 1, 1) := by decide +kernel
theorem dX3_hasSoundHead_25 : decode cX3_hasSoundHead 25 = .ok (.iconst 3, 1) := by decide +kernel
theorem dX3_hasSoundHead_26 : decode cX3_hasSoundHead 26 = .ok (.if_icmp .lt 46, 3) := by decide +kernel
theorem dX3_hasSoundHead_29 : decode cX3_hasSoundHead 29 = .ok (.aload_n 0, 1) := by decide +kernel
theorem dX3_hasSoundHead_30 : decode cX3_hasSoundHead 30 = .ok (.getfield 9, 3) := by decide +kernel
theorem dX3_hasSoundHead_33 : decode cX3_hasSoundHead 33 = .ok (.iload_n 3, 1) := by decide +kernel
theorem dX3_hasSoundHead_34 : decode cX3_hasSoundHead 34 = .ok (.bipush 9, 2) := by decide +kernel
theorem dX3_hasSoundHead_36 : decode cX3_hasSoundHead 36 = .ok (.iadd, 1) := by decide +kernel
theorem dX3_hasSoundHead_37 : decode cX3_hasSoundHead 37 = .ok (.iconst 1, 1) := by decide +kernel
theorem dX3_hasSoundHead_38 : decode cX3_hasSoundHead 38 = .ok (.iadd, 1) := by decide +kernel
theorem dX3_hasSoundHead_39 : decode cX3_hasSoundHead 39 = .ok (.iconst 4, 1) := by decide +kernel
theorem dX3_hasSoundHead_40 : decode cX3_hasSoundHead 40 = .ok (.invokevirtual 52, 3) := by decide +kernel
theorem dX3_hasSoundHead_43 : decode cX3_hasSoundHead 43 = .ok (.ifCond .eq 29, 3) := by decide +kernel
theorem dX3_hasSoundHead_46 : decode cX3_hasSoundHead 46 = .ok (.aload_n 0, 1) := by decide +kernel
theorem dX3_hasSoundHead_47 : decode cX3_hasSoundHead 47 = .ok (.getfield 9, 3) := by decide +kernel
theorem dX3_hasSoundHead_50 : decode cX3_hasSoundHead 50 = .ok (.iload_n 3, 1) := by decide +kernel
theorem dX3_hasSoundHead_51 : decode cX3_hasSoundHead 51 = .ok (.bipush 14, 2) := by decide +kernel
theorem dX3_hasSoundHead_53 : decode cX3_hasSoundHead 53 = .ok (.iadd, 1) := by decide +kernel
theorem dX3_hasSoundHead_54 : decode cX3_hasSoundHead 54 = .ok (.invokevirtual 58, 3) := by decide +kernel
theorem dX3_hasSoundHead_57 : decode cX3_hasSoundHead 57 = .ok (.aload_n 0, 1) := by decide +kernel
theorem dX3_hasSoundHead_58 : decode cX3_hasSoundHead 58 = .ok (.getfield 15, 3) := by decide +kernel
theorem dX3_hasSoundHead_61 : decode cX3_hasSoundHead 61 = .ok (.iload_n 1, 1) := by decide +kernel
theorem dX3_hasSoundHead_62 : decode cX3_hasSoundHead 62 = .ok (.invokevirtual 61, 3) := by decide +kernel
theorem dX3_hasSoundHead_65 : decode cX3_hasSoundHead 65 = .ok (.if_icmp .ne 7, 3) := by decide +kernel
theorem dX3_hasSoundHead_68 : decode cX3_hasSoundHead 68 = .ok (.iconst 1, 1) := by decide +kernel
theorem dX3_hasSoundHead_69 : decode cX3_hasSoundHead 69 = .ok (.goto 4, 3) := by decide +kernel
theorem dX3_hasSoundHead_72 : decode cX3_hasSoundHead 72 = .ok (.iconst 0, 1) := by decide +kernel
theorem dX3_hasSoundHead_73 : decode cX3_hasSoundHead 73 = .ok (.ireturn, 1) := by decide +kernel
theorem dX3_hasSoundSize_0 : decode cX3_hasSoundSize 0 = .ok (.aload_n 0, 1) := by decide +kernel
theorem dX3_hasSoundSize_1 : decode cX3_hasSoundSize 1 = .ok (.getfield 15, 3) := by decide +kernel
theorem dX3_hasSoundSize_4 : decode cX3_hasSoundSize 4 = .ok (.iload_n 1, 1) := by decide +kernel
theorem dX3_hasSoundSize_5 : decode cX3_hasSoundSize 5 = .ok (.invokevirtual 64, 3) := by decide +kernel
theorem dX3_hasSoundSize_8 : decode cX3_hasSoundSize 8 = .ok (.istore_n 2, 1) := by decide +kernel
theorem dX3_hasSoundSize_9 : decode cX3_hasSoundSize 9 = .ok (.iload_n 2, 1) := by decide +kernel
theorem dX3_hasSoundSize_10 : decode cX3_hasSoundSize 10 = .ok (.sipush 2944, 3) := by decide +kernel
theorem dX3_hasSoundSize_13 : decode cX3_hasSoundSize 13 = .ok (.if_icmp .gt 30, 3) := by decide +kernel
theorem dX3_hasSoundSize_16 : decode cX3_hasSoundSize 16 = .ok (.aload_n 0, 1) := by decide +kernel
theorem dX3_hasSoundSize_17 : decode cX3_hasSoundSize 17 = .ok (.getfield 15, 3) := by decide +kernel
theorem dX3_hasSoundSize_20 : decode cX3_hasSoundSize 20 = .ok (.iload_n 1, 1) := by decide +kernel
theorem dX3_hasSoundSize_21 : decode cX3_hasSoundSize 21 = .ok (.invokevirtual 45, 3) := by decide +kernel
theorem dX3_hasSoundSize_24 : decode cX3_hasSoundSize 24 = .ok (.iconst 1, 1) := by decide +kernel
theorem dX3_hasSoundSize_25 : decode cX3_hasSoundSize 25 = .ok (.if_icmp .eq 14, 3) := by decide +kernel
theorem dX3_hasSoundSize_28 : decode cX3_hasSoundSize 28 = .ok (.iload_n 2, 1) := by decide +kernel
theorem dX3_hasSoundSize_29 : decode cX3_hasSoundSize 29 = .ok (.ifCond .le 14, 3) := by decide +kernel
theorem dX3_hasSoundSize_32 : decode cX3_hasSoundSize 32 = .ok (.iload_n 2, 1) := by decide +kernel
theorem dX3_hasSoundSize_33 : decode cX3_hasSoundSize 33 = .ok (.bipush 64, 2) := by decide +kernel
theorem dX3_hasSoundSize_35 : decode cX3_hasSoundSize 35 = .ok (.irem, 1) := by decide +kernel
theorem dX3_hasSoundSize_36 : decode cX3_hasSoundSize 36 = .ok (.ifCond .ne 7, 3) := by decide +kernel
theorem dX3_hasSoundSize_39 : decode cX3_hasSoundSize 39 = .ok (.iconst 1, 1) := by decide +kernel
theorem dX3_hasSoundSize_40 : decode cX3_hasSoundSize 40 = .ok (.goto 4, 3) := by decide +kernel
theorem dX3_hasSoundSize_43 : decode cX3_hasSoundSize 43 = .ok (.iconst 0, 1) := by decide +kernel
theorem dX3_hasSoundSize_44 : decode cX3_hasSoundSize 44 = .ok (.ireturn, 1) := by decide +kernel
theorem dX3_hasBlankRest_0 : decode cX3_hasBlankRest 0 = .ok (.aload_n 0, 1) := by decide +kernel
theorem dX3_hasBlankRest_1 : decode cX3_hasBlankRest 1 = .ok (.getfield 15, 3) := by decide +kernel
theorem dX3_hasBlankRest_4 : decode cX3_hasBlankRest 4 = .ok (.iload_n 1, 1) := by decide +kernel
theorem dX3_hasBlankRest_5 : decode cX3_hasBlankRest 5 = .ok (.invokevirtual 67, 3) := by decide +kernel
theorem dX3_hasBlankRest_8 : decode cX3_hasBlankRest 8 = .ok (.istore_n 2, 1) := by decide +kernel
theorem dX3_hasBlankRest_9 : decode cX3_hasBlankRest 9 = .ok (.iload_n 1, 1) := by decide +kernel
theorem dX3_hasBlankRest_10 : decode cX3_hasBlankRest 10 = .ok (.invokestatic 49, 3) := by decide +kernel
theorem dX3_hasBlankRest_13 : decode cX3_hasBlankRest 13 = .ok (.istore_n 3, 1) := by decide +kernel
theorem dX3_hasBlankRest_14 : decode cX3_hasBlankRest 14 = .ok (.iload_n 2, 1) := by decide +kernel
theorem dX3_hasBlankRest_15 : decode cX3_hasBlankRest 15 = .ok (.iconst 5, 1) := by decide +kernel
theorem dX3_hasBlankRest_16 : decode cX3_hasBlankRest 16 = .ok (.if_icmp .gt 21, 3) := by decide +kernel
theorem dX3_hasBlankRest_19 : decode cX3_hasBlankRest 19 = .ok (.aload_n 0, 1) := by decide +kernel
theorem dX3_hasBlankRest_20 : decode cX3_hasBlankRest 20 = .ok (.getfield 9, 3) := by decide +kernel
theorem dX3_hasBlankRest_23 : decode cX3_hasBlankRest 23 = .ok (.iload_n 3, 1) := by decide +kernel
theorem dX3_hasBlankRest_24 : decode cX3_hasBlankRest 24 = .ok (.iconst 4, 1) := by decide +kernel
theorem dX3_hasBlankRest_25 : decode cX3_hasBlankRest 25 = .ok (.iadd, 1) := by decide +kernel
theorem dX3_hasBlankRest_26 : decode cX3_hasBlankRest 26 = .ok (.iload_n 2, 1) := by decide +kernel
theorem dX3_hasBlankRest_27 : decode cX3_hasBlankRest 27 = .ok (.iadd, 1) := by decide +kernel
theorem dX3_hasBlankRest_28 : decode cX3_hasBlankRest 28 = .ok (.iconst 5, 1) := by decide +kernel
theorem dX3_hasBlankRest_29 : decode cX3_hasBlankRest 29 = .ok (.iload_n 2, 1) := by decide +kernel
theorem dX3_hasBlankRest_30 : decode cX3_hasBlankRest 30 = .ok (.isub, 1) := by decide +kernel
theorem dX3_hasBlankRest_31 : decode cX3_hasBlankRest 31 = .ok (.iconst 1, 1) := by decide +kernel
theorem dX3_hasBlankRest_32 : decode cX3_hasBlankRest 32 = .ok (.iadd, 1) := by decide +kernel
theorem dX3_hasBlankRest_33 : decode cX3_hasBlankRest 33 = .ok (.invokevirtual 52, 3) := by decide +kernel
theorem dX3_hasBlankRest_36 : decode cX3_hasBlankRest 36 = .ok (.ireturn, 1) := by decide +kernel
theorem dX3_hasBlankRest_37 : decode cX3_hasBlankRest 37 = .ok (.iload_n 2, 1) := by decide +kernel
theorem dX3_hasBlankRest_38 : decode cX3_hasBlankRest 38 = .ok (.iconst 5, 1) := by decide +kernel
theorem dX3_hasBlankRest_39 : decode cX3_hasBlankRest 39 = .ok (.isub, 1) := by decide +kernel
theorem dX3_hasBlankRest_40 : decode cX3_hasBlankRest 40 = .ok (.istore 4, 2) := by decide +kernel
theorem dX3_hasBlankRest_42 : decode cX3_hasBlankRest 42 = .ok (.aload_n 0, 1) := by decide +kernel
theorem dX3_hasBlankRest_43 : decode cX3_hasBlankRest 43 = .ok (.getfield 9, 3) := by decide +kernel
theorem dX3_hasBlankRest_46 : decode cX3_hasBlankRest 46 = .ok (.aload_n 0, 1) := by decide +kernel
theorem dX3_hasBlankRest_47 : decode cX3_hasBlankRest 47 = .ok (.getfield 9, 3) := by decide +kernel
theorem dX3_hasBlankRest_50 : decode cX3_hasBlankRest 50 = .ok (.iload_n 3, 1) := by decide +kernel
theorem dX3_hasBlankRest_51 : decode cX3_hasBlankRest 51 = .ok (.bipush 9, 2) := by decide +kernel
theorem dX3_hasBlankRest_53 : decode cX3_hasBlankRest 53 = .ok (.iadd, 1) := by decide +kernel
theorem dX3_hasBlankRest_54 : decode cX3_hasBlankRest 54 = .ok (.invokevirtual 70, 3) := by decide +kernel
theorem dX3_hasBlankRest_57 : decode cX3_hasBlankRest 57 = .ok (.bipush 64, 2) := by decide +kernel
theorem dX3_hasBlankRest_59 : decode cX3_hasBlankRest 59 = .ok (.imul, 1) := by decide +kernel
theorem dX3_hasBlankRest_60 : decode cX3_hasBlankRest 60 = .ok (.iload 4, 2) := by decide +kernel
theorem dX3_hasBlankRest_62 : decode cX3_hasBlankRest 62 = .ok (.iadd, 1) := by decide +kernel
theorem dX3_hasBlankRest_63 : decode cX3_hasBlankRest 63 = .ok (.bipush 64, 2) := by decide +kernel
theorem dX3_hasBlankRest_65 : decode cX3_hasBlankRest 65 = .ok (.iload 4, 2) := by decide +kernel
theorem dX3_hasBlankRest_67 : decode cX3_hasBlankRest 67 = .ok (.isub, 1) := by decide +kernel
theorem dX3_hasBlankRest_68 : decode cX3_hasBlankRest 68 = .ok (.invokevirtual 52, 3) := by decide +kernel
theorem dX3_hasBlankRest_71 : decode cX3_hasBlankRest 71 = .ok (.ireturn, 1) := by decide +kernel
theorem dX3_provide_0 : decode cX3_provide 0 = .ok (.aload_n 0, 1) := by decide +kernel
theorem dX3_provide_1 : decode cX3_provide 1 = .ok (.getfield 15, 3) := by decide +kernel
theorem dX3_provide_4 : decode cX3_provide 4 = .ok (.iload_n 1, 1) := by decide +kernel
theorem dX3_provide_5 : decode cX3_provide 5 = .ok (.invokevirtual 45, 3) := by decide +kernel
theorem dX3_provide_8 : decode cX3_provide 8 = .ok (.ifCond .eq 4, 3) := by decide +kernel
theorem dX3_provide_11 : decode cX3_provide 11 = .ok (.return_, 1) := by decide +kernel
theorem dX3_provide_12 : decode cX3_provide 12 = .ok (.bipush 31, 2) := by decide +kernel
theorem dX3_provide_14 : decode cX3_provide 14 = .ok (.istore_n 2, 1) := by decide +kernel
theorem dX3_provide_15 : decode cX3_provide 15 = .ok (.iload_n 2, 1) := by decide +kernel
theorem dX3_provide_16 : decode cX3_provide 16 = .ok (.iconst 1, 1) := by decide +kernel
theorem dX3_provide_17 : decode cX3_provide 17 = .ok (.if_icmp .le 38, 3) := by decide +kernel
theorem dX3_provide_20 : decode cX3_provide 20 = .ok (.aload_n 0, 1) := by decide +kernel
theorem dX3_provide_21 : decode cX3_provide 21 = .ok (.getfield 15, 3) := by decide +kernel
theorem dX3_provide_24 : decode cX3_provide 24 = .ok (.invokevirtual 73, 3) := by decide +kernel
theorem dX3_provide_27 : decode cX3_provide 27 = .ok (.ifCond .ne 28, 3) := by decide +kernel
theorem dX3_provide_30 : decode cX3_provide 30 = .ok (.aload_n 0, 1) := by decide +kernel
theorem dX3_provide_31 : decode cX3_provide 31 = .ok (.getfield 15, 3) := by decide +kernel
theorem dX3_provide_34 : decode cX3_provide 34 = .ok (.iload_n 2, 1) := by decide +kernel
theorem dX3_provide_35 : decode cX3_provide 35 = .ok (.invokevirtual 45, 3) := by decide +kernel
theorem dX3_provide_38 : decode cX3_provide 38 = .ok (.ifCond .eq 11, 3) := by decide +kernel
theorem dX3_provide_41 : decode cX3_provide 41 = .ok (.aload_n 0, 1) := by decide +kernel
theorem dX3_provide_42 : decode cX3_provide 42 = .ok (.getfield 15, 3) := by decide +kernel
theorem dX3_provide_45 : decode cX3_provide 45 = .ok (.iload_n 2, 1) := by decide +kernel
theorem dX3_provide_46 : decode cX3_provide 46 = .ok (.invokevirtual 77, 3) := by decide +kernel
theorem dX3_provide_49 : decode cX3_provide 49 = .ok (.iinc 2 (-1), 3) := by decide +kernel
theorem dX3_provide_52 : decode cX3_provide 52 = .ok (.goto (-37), 3) := by decide +kernel
theorem dX3_provide_55 : decode cX3_provide 55 = .ok (.aload_n 0, 1) := by decide +kernel
theorem dX3_provide_56 : decode cX3_provide 56 = .ok (.getfield 19, 3) := by decide +kernel
theorem dX3_provide_59 : decode cX3_provide 59 = .ok (.iload_n 1, 1) := by decide +kernel
theorem dX3_provide_60 : decode cX3_provide 60 = .ok (.iload_n 1, 1) := by decide +kernel
theorem dX3_provide_61 : decode cX3_provide 61 = .ok (.invokevirtual 80, 3) := by decide +kernel
theorem dX3_provide_64 : decode cX3_provide 64 = .ok (.pop, 1) := by decide +kernel
theorem dX3_provide_65 : decode cX3_provide 65 = .ok (.return_, 1) := by decide +kernel
theorem dX4_init_0 : decode cX4_init 0 = .ok (.aload_n 0, 1) := by decide +kernel
theorem dX4_init_1 : decode cX4_init 1 = .ok (.invokespecial 3, 3) := by decide +kernel
theorem dX4_init_4 : decode cX4_init 4 = .ok (.aload_n 0, 1) := by decide +kernel
theorem dX4_init_5 : decode cX4_init 5 = .ok (.aload_n 1, 1) := by decide +kernel
theorem dX4_init_6 : decode cX4_init 6 = .ok (.putfield 9, 3) := by decide +kernel
theorem dX4_init_9 : decode cX4_init 9 = .ok (.return_, 1) := by decide +kernel
theorem dX4_isNumber_0 : decode cX4_isNumber 0 = .ok (.iload_n 0, 1) := by decide +kernel
theorem dX4_isNumber_1 : decode cX4_isNumber 1 = .ok (.ifCond .lt 13, 3) := by decide +kernel
theorem dX4_isNumber_4 : decode cX4_isNumber 4 = .ok (.iload_n 0, 1) := by decide +kernel
theorem dX4_isNumber_5 : decode cX4_isNumber 5 = .ok (.bipush 32, 2) := by decide +kernel
theorem dX4_isNumber_7 : decode cX4_isNumber 7 = .ok (.if_icmp .ge 7, 3) := by decide +kernel
theorem dX4_isNumber_10 : decode cX4_isNumber 10 = .ok (.iconst 1, 1) := by decide +kernel
theorem dX4_isNumber_11 : decode cX4_isNumber 11 = .ok (.goto 4, 3) := by decide +kernel
theorem dX4_isNumber_14 : decode cX4_isNumber 14 = .ok (.iconst 0, 1) := by decide +kernel
theorem dX4_isNumber_15 : decode cX4_isNumber 15 = .ok (.ireturn, 1) := by decide +kernel
theorem dX4_placeOf_0 : decode cX4_placeOf 0 = .ok (.sipush 512, 3) := by decide +kernel
theorem dX4_placeOf_3 : decode cX4_placeOf 3 = .ok (.iload_n 0, 1) := by decide +kernel
theorem dX4_placeOf_4 : decode cX4_placeOf 4 = .ok (.bipush 16, 2) := by decide +kernel
theorem dX4_placeOf_6 : decode cX4_placeOf 6 = .ok (.imul, 1) := by decide +kernel
theorem dX4_placeOf_7 : decode cX4_placeOf 7 = .ok (.iadd, 1) := by decide +kernel
theorem dX4_placeOf_8 : decode cX4_placeOf 8 = .ok (.ireturn, 1) := by decide +kernel
theorem dX4_kind_0 : decode cX4_kind 0 = .ok (.iload_n 1, 1) := by decide +kernel
theorem dX4_kind_1 : decode cX4_kind 1 = .ok (.invokestatic 15, 3) := by decide +kernel
theorem dX4_kind_4 : decode cX4_kind 4 = .ok (.ifCond .eq 17, 3) := by decide +kernel
theorem dX4_kind_7 : decode cX4_kind 7 = .ok (.aload_n 0, 1) := by decide +kernel
theorem dX4_kind_8 : decode cX4_kind 8 = .ok (.getfield 9, 3) := by decide +kernel
theorem dX4_kind_11 : decode cX4_kind 11 = .ok (.iload_n 1, 1) := by decide +kernel
theorem dX4_kind_12 : decode cX4_kind 12 = .ok (.invokestatic 19, 3) := by decide +kernel
theorem dX4_kind_15 : decode cX4_kind 15 = .ok (.invokevirtual 23, 3) := by decide +kernel
theorem dX4_kind_18 : decode cX4_kind 18 = .ok (.goto 4, 3) := by decide +kernel
theorem dX4_kind_21 : decode cX4_kind 21 = .ok (.iconst 0, 1) := by decide +kernel
theorem dX4_kind_22 : decode cX4_kind 22 = .ok (.ireturn, 1) := by decide +kernel
theorem dX4_links_0 : decode cX4_links 0 = .ok (.iload_n 1, 1) := by decide +kernel
theorem dX4_links_1 : decode cX4_links 1 = .ok (.invokestatic 15, 3) := by decide +kernel
theorem dX4_links_4 : decode cX4_links 4 = .ok (.ifCond .eq 19, 3) := by decide +kernel
theorem dX4_links_7 : decode cX4_links 7 = .ok (.aload_n 0, 1) := by decide +kernel
theorem dX4_links_8 : decode cX4_links 8 = .ok (.getfield 9, 3) := by decide +kernel
theorem dX4_links_11 : decode cX4_links 11 = .ok (.iload_n 1, 1) := by decide +kernel
theorem dX4_links_12 : decode cX4_links 12 = .ok (.invokestatic 19, 3) := by decide +kernel
theorem dX4_links_15 : decode cX4_links 15 = .ok (.iconst 1, 1) := by decide +kernel
theorem dX4_links_16 : decode cX4_links 16 = .ok (.iadd, 1) := by decide +kernel
theorem dX4_links_17 : decode cX4_links 17 = .ok (.invokevirtual 23, 3) := by decide +kernel
theorem dX4_links_20 : decode cX4_links 20 = .ok (.goto 4, 3) := by decide +kernel
theorem dX4_links_23 : decode cX4_links 23 = .ok (.iconst 0, 1) := by decide +kernel
theorem dX4_links_24 : decode cX4_links 24 = .ok (.ireturn, 1) := by decide +kernel
theorem dX4_size_0 : decode cX4_size 0 = .ok (.iload_n 1, 1) := by decide +kernel
theorem dX4_size_1 : decode cX4_size 1 = .ok (.invokestatic 15, 3) := by decide +kernel
theorem dX4_size_4 : decode cX4_size 4 = .ok (.ifCond .eq 19, 3) := by decide +kernel
theorem dX4_size_7 : decode cX4_size 7 = .ok (.aload_n 0, 1) := by decide +kernel
theorem dX4_size_8 : decode cX4_size 8 = .ok (.getfield 9, 3) := by decide +kernel
theorem dX4_size_11 : decode cX4_size 11 = .ok (.iload_n 1, 1) := by decide +kernel
theorem dX4_size_12 : decode cX4_size 12 = .ok (.invokestatic 19, 3) := by decide +kernel
theorem dX4_size_15 : decode cX4_size 15 = .ok (.iconst 2, 1) := by decide +kernel
theorem dX4_size_16 : decode cX4_size 16 = .ok (.iadd, 1) := by decide +kernel
theorem dX4_size_17 : decode cX4_size 17 = .ok (.invokevirtual 28, 3) := by decide +kernel
theorem dX4_size_20 : decode cX4_size 20 = .ok (.goto 4, 3) := by decide +kernel
theorem dX4_size_23 : decode cX4_size 23 = .ok (.iconst 0, 1) := by decide +kernel
theorem dX4_size_24 : decode cX4_size 24 = .ok (.ireturn, 1) := by decide +kernel
theorem dX4_setLinks_0 : decode cX4_setLinks 0 = .ok (.aload_n 0, 1) := by decide +kernel
theorem dX4_setLinks_1 : decode cX4_setLinks 1 = .ok (.getfield 9, 3) := by decide +kernel
theorem dX4_setLinks_4 : decode cX4_setLinks 4 = .ok (.iload_n 1, 1) := by decide +kernel
theorem dX4_setLinks_5 : decode cX4_setLinks 5 = .ok (.invokestatic 19, 3) := by decide +kernel
theorem dX4_setLinks_8 : decode cX4_setLinks 8 = .ok (.iconst 1, 1) := by decide +kernel
theorem dX4_setLinks_9 : decode cX4_setLinks 9 = .ok (.iadd, 1) := by decide +kernel
theorem dX4_setLinks_10 : decode cX4_setLinks 10 = .ok (.iload_n 2, 1) := by decide +kernel
theorem dX4_setLinks_11 : decode cX4_setLinks 11 = .ok (.invokevirtual 31, 3) := by decide +kernel
theorem dX4_setLinks_14 : decode cX4_setLinks 14 = .ok (.return_, 1) := by decide +kernel
theorem dX4_setSize_0 : decode cX4_setSize 0 = .ok (.aload_n 0, 1) := by decide +kernel
theorem dX4_setSize_1 : decode cX4_setSize 1 = .ok (.getfield 9, 3) := by decide +kernel
theorem dX4_setSize_4 : decode cX4_setSize 4 = .ok (.iload_n 1, 1) := by decide +kernel
theorem dX4_setSize_5 : decode cX4_setSize 5 = .ok (.invokestatic 19, 3) := by decide +kernel
theorem dX4_setSize_8 : decode cX4_setSize 8 = .ok (.iconst 2, 1) := by decide +kernel
theorem dX4_setSize_9 : decode cX4_setSize 9 = .ok (.iadd, 1) := by decide +kernel
theorem dX4_setSize_10 : decode cX4_setSize 10 = .ok (.iload_n 2, 1) := by decide +kernel
theorem dX4_setSize_11 : decode cX4_setSize 11 = .ok (.invokevirtual 35, 3) := by decide +kernel
theorem dX4_setSize_14 : decode cX4_setSize 14 = .ok (.return_, 1) := by decide +kernel
theorem dX4_rightSum_0 : decode cX4_rightSum 0 = .ok (.aload_n 0, 1) := by decide +kernel
theorem dX4_rightSum_1 : decode cX4_rightSum 1 = .ok (.getfield 9, 3) := by decide +kernel
theorem dX4_rightSum_4 : decode cX4_rightSum 4 = .ok (.iload_n 1, 1) := by decide +kernel
theorem dX4_rightSum_5 : decode cX4_rightSum 5 = .ok (.invokestatic 19, 3) := by decide +kernel
theorem dX4_rightSum_8 : decode cX4_rightSum 8 = .ok (.bipush 14, 2) := by decide +kernel
theorem dX4_rightSum_10 : decode cX4_rightSum 10 = .ok (.invokevirtual 38, 3) := by decide +kernel
theorem dX4_rightSum_13 : decode cX4_rightSum 13 = .ok (.ireturn, 1) := by decide +kernel
theorem dX4_writeSum_0 : decode cX4_writeSum 0 = .ok (.aload_n 0, 1) := by decide +kernel
theorem dX4_writeSum_1 : decode cX4_writeSum 1 = .ok (.getfield 9, 3) := by decide +kernel
theorem dX4_writeSum_4 : decode cX4_writeSum 4 = .ok (.iload_n 1, 1) := by decide +kernel
theorem dX4_writeSum_5 : decode cX4_writeSum 5 = .ok (.invokestatic 19, 3) := by decide +kernel
theorem dX4_writeSum_8 : decode cX4_writeSum 8 = .ok (.bipush 14, 2) := by decide +kernel
theorem dX4_writeSum_10 : decode cX4_writeSum 10 = .ok (.iadd, 1) := by decide +kernel
theorem dX4_writeSum_11 : decode cX4_writeSum 11 = .ok (.aload_n 0, 1) := by decide +kernel
theorem dX4_writeSum_12 : decode cX4_writeSum 12 = .ok (.iload_n 1, 1) := by decide +kernel
theorem dX4_writeSum_13 : decode cX4_writeSum 13 = .ok (.invokevirtual 42, 3) := by decide +kernel
theorem dX4_writeSum_16 : decode cX4_writeSum 16 = .ok (.invokevirtual 35, 3) := by decide +kernel
theorem dX4_writeSum_19 : decode cX4_writeSum 19 = .ok (.return_, 1) := by decide +kernel
theorem dX4_blockCount_0 : decode cX4_blockCount 0 = .ok (.aload_n 0, 1) := by decide +kernel
theorem dX4_blockCount_1 : decode cX4_blockCount 1 = .ok (.iload_n 1, 1) := by decide +kernel
theorem dX4_blockCount_2 : decode cX4_blockCount 2 = .ok (.invokevirtual 45, 3) := by decide +kernel
theorem dX4_blockCount_5 : decode cX4_blockCount 5 = .ok (.bipush 64, 2) := by decide +kernel
theorem dX4_blockCount_7 : decode cX4_blockCount 7 = .ok (.iadd, 1) := by decide +kernel
theorem dX4_blockCount_8 : decode cX4_blockCount 8 = .ok (.iconst 1, 1) := by decide +kernel
theorem dX4_blockCount_9 : decode cX4_blockCount 9 = .ok (.isub, 1) := by decide +kernel
theorem dX4_blockCount_10 : decode cX4_blockCount 10 = .ok (.bipush 64, 2) := by decide +kernel
theorem dX4_blockCount_12 : decode cX4_blockCount 12 = .ok (.idiv, 1) := by decide +kernel
theorem dX4_blockCount_13 : decode cX4_blockCount 13 = .ok (.ireturn, 1) := by decide +kernel
theorem dX4_contentPlace_0 : decode cX4_contentPlace 0 = .ok (.iload_n 2, 1) := by decide +kernel
theorem dX4_contentPlace_1 : decode cX4_contentPlace 1 = .ok (.bipush 64, 2) := by decide +kernel
theorem dX4_contentPlace_3 : decode cX4_contentPlace 3 = .ok (.idiv, 1) := by decide +kernel
theorem dX4_contentPlace_4 : decode cX4_contentPlace 4 = .ok (.istore_n 3, 1) := by decide +kernel
theorem dX4_contentPlace_5 : decode cX4_contentPlace 5 = .ok (.iload_n 1, 1) := by decide +kernel
theorem dX4_contentPlace_6 : decode cX4_contentPlace 6 = .ok (.invokestatic 15, 3) := by decide +kernel
theorem dX4_contentPlace_9 : decode cX4_contentPlace 9 = .ok (.ifCond .eq 13, 3) := by decide +kernel
theorem dX4_contentPlace_12 : decode cX4_contentPlace 12 = .ok (.iload_n 2, 1) := by decide +kernel
theorem dX4_contentPlace_13 : decode cX4_contentPlace 13 = .ok (.ifCond .lt 9, 3) := by decide +kernel
theorem dX4_contentPlace_16 : decode cX4_contentPlace 16 = .ok (.iload_n 3, 1) := by decide +kernel
theorem dX4_contentPlace_17 : decode cX4_contentPlace 17 = .ok (.bipush 46, 2) := by decide +kernel
theorem dX4_contentPlace_19 : decode cX4_contentPlace 19 = .ok (.if_icmp .lt 5, 3) := by decide +kernel
theorem dX4_contentPlace_22 : decode cX4_contentPlace 22 = .ok (.iconst (-1), 1) := by decide +kernel
theorem dX4_contentPlace_23 : decode cX4_contentPlace 23 = .ok (.ireturn, 1) := by decide +kernel
theorem dX4_contentPlace_24 : decode cX4_contentPlace 24 = .ok (.iload_n 1, 1) := by decide +kernel
theorem dX4_contentPlace_25 : decode cX4_contentPlace 25 = .ok (.invokestatic 19, 3) := by decide +kernel
theorem dX4_contentPlace_28 : decode cX4_contentPlace 28 = .ok (.iconst 4, 1) := by decide +kernel
theorem dX4_contentPlace_29 : decode cX4_contentPlace 29 = .ok (.iadd, 1) := by decide +kernel
theorem dX4_contentPlace_30 : decode cX4_contentPlace 30 = .ok (.iload_n 3, 1) := by decide +kernel
theorem dX4_contentPlace_31 : decode cX4_contentPlace 31 = .ok (.iadd, 1) := by decide +kernel
theorem dX4_contentPlace_32 : decode cX4_contentPlace 32 = .ok (.istore 4, 2) := by decide +kernel
theorem dX4_contentPlace_34 : decode cX4_contentPlace 34 = .ok (.iload_n 3, 1) := by decide +kernel
theorem dX4_contentPlace_35 : decode cX4_contentPlace 35 = .ok (.iconst 5, 1) := by decide +kernel
theorem dX4_contentPlace_36 : decode cX4_contentPlace 36 = .ok (.if_icmp .lt 40, 3) := by decide +kernel
theorem dX4_contentPlace_39 : decode cX4_contentPlace 39 = .ok (.aload_n 0, 1) := by decide +kernel
theorem dX4_contentPlace_40 : decode cX4_contentPlace 40 = .ok (.getfield 9, 3) := by decide +kernel
theorem dX4_contentPlace_43 : decode cX4_contentPlace 43 = .ok (.iload_n 1, 1) := by decide +kernel
theorem dX4_contentPlace_44 : decode cX4_contentPlace 44 = .ok (.invokestatic 19, 3) := by decide +kernel
theorem dX4_contentPlace_47 : decode cX4_contentPlace 47 = .ok (.bipush 9, 2) := by decide +kernel
theorem dX4_contentPlace_49 : decode cX4_contentPlace 49 = .ok (.iadd, 1) := by decide +kernel
theorem dX4_contentPlace_50 : decode cX4_contentPlace 50 = .ok (.invokevirtual 23, 3) := by decide +kernel
theorem dX4_contentPlace_53 : decode cX4_contentPlace 53 = .ok (.istore 5, 2) := by decide +kernel
theorem dX4_contentPlace_55 : decode cX4_contentPlace 55 = .ok (.iload 5, 2) := by decide +kernel
theorem dX4_contentPlace_57 : decode cX4_contentPlace 57 = .ok (.invokestatic 48, 3) := by decide +kernel
theorem dX4_contentPlace_60 : decode cX4_contentPlace 60 = .ok (.ifCond .ne 5, 3) := by decide +kernel
theorem dX4_contentPlace_63 : decode cX4_contentPlace 63 = .ok (.iconst (-1), 1) := by decide +kernel
theorem dX4_contentPlace_64 : decode cX4_contentPlace 64 = .ok (.ireturn, 1) := by decide +kernel
theorem dX4_contentPlace_65 : decode cX4_contentPlace 65 = .ok (.iload 5, 2) := by decide +kernel
theorem dX4_contentPlace_67 : decode cX4_contentPlace 67 = .ok (.bipush 64, 2) := by decide +kernel
theorem dX4_contentPlace_69 : decode cX4_contentPlace 69 = .ok (.imul, 1) := by decide +kernel
theorem dX4_contentPlace_70 : decode cX4_contentPlace 70 = .ok (.iload_n 3, 1) := by decide +kernel
theorem dX4_contentPlace_71 : decode cX4_contentPlace 71 = .ok (.iadd, 1) := by decide +kernel
theorem dX4_contentPlace_72 : decode cX4_contentPlace 72 = .ok (.iconst 5, 1) := by decide +kernel
theorem dX4_contentPlace_73 : decode cX4_contentPlace 73 = .ok (.isub, 1) := by decide +kernel
theorem dX4_contentPlace_74 : decode cX4_contentPlace 74 = .ok (.istore 4, 2) := by decide +kernel
theorem dX4_contentPlace_76 : decode cX4_contentPlace 76 = .ok (.aload_n 0, 1) := by decide +kernel
theorem dX4_contentPlace_77 : decode cX4_contentPlace 77 = .ok (.getfield 9, 3) := by decide +kernel
theorem dX4_contentPlace_80 : decode cX4_contentPlace 80 = .ok (.iload 4, 2) := by decide +kernel
theorem dX4_contentPlace_82 : decode cX4_contentPlace 82 = .ok (.invokevirtual 23, 3) := by decide +kernel
theorem dX4_contentPlace_85 : decode cX4_contentPlace 85 = .ok (.istore 5, 2) := by decide +kernel
theorem dX4_contentPlace_87 : decode cX4_contentPlace 87 = .ok (.iload 5, 2) := by decide +kernel
theorem dX4_contentPlace_89 : decode cX4_contentPlace 89 = .ok (.invokestatic 48, 3) := by decide +kernel
theorem dX4_contentPlace_92 : decode cX4_contentPlace 92 = .ok (.ifCond .eq 16, 3) := by decide +kernel
theorem dX4_contentPlace_95 : decode cX4_contentPlace 95 = .ok (.iload 5, 2) := by decide +kernel
theorem dX4_contentPlace_97 : decode cX4_contentPlace 97 = .ok (.bipush 64, 2) := by decide +kernel
theorem dX4_contentPlace_99 : decode cX4_contentPlace 99 = .ok (.imul, 1) := by decide +kernel
theorem dX4_contentPlace_100 : decode cX4_contentPlace 100 = .ok (.iload_n 2, 1) := by decide +kernel
theorem dX4_contentPlace_101 : decode cX4_contentPlace 101 = .ok (.bipush 64, 2) := by decide +kernel
theorem dX4_contentPlace_103 : decode cX4_contentPlace 103 = .ok (.irem, 1) := by decide +kernel
theorem dX4_contentPlace_104 : decode cX4_contentPlace 104 = .ok (.iadd, 1) := by decide +kernel
theorem dX4_contentPlace_105 : decode cX4_contentPlace 105 = .ok (.goto 4, 3) := by decide +kernel
theorem dX4_contentPlace_108 : decode cX4_contentPlace 108 = .ok (.iconst (-1), 1) := by decide +kernel
theorem dX4_contentPlace_109 : decode cX4_contentPlace 109 = .ok (.ireturn, 1) := by decide +kernel
theorem dX4_blocksOf_0 : decode cX4_blocksOf 0 = .ok (.aload_n 0, 1) := by decide +kernel
theorem dX4_blocksOf_1 : decode cX4_blocksOf 1 = .ok (.iload_n 1, 1) := by decide +kernel
theorem dX4_blocksOf_2 : decode cX4_blocksOf 2 = .ok (.invokevirtual 51, 3) := by decide +kernel
theorem dX4_blocksOf_5 : decode cX4_blocksOf 5 = .ok (.istore_n 2, 1) := by decide +kernel
theorem dX4_blocksOf_6 : decode cX4_blocksOf 6 = .ok (.lconst 0, 1) := by decide +kernel
theorem dX4_blocksOf_7 : decode cX4_blocksOf 7 = .ok (.lstore_n 3, 1) := by decide +kernel
theorem dX4_blocksOf_8 : decode cX4_blocksOf 8 = .ok (.iconst 0, 1) := by decide +kernel
theorem dX4_blocksOf_9 : decode cX4_blocksOf 9 = .ok (.istore 5, 2) := by decide +kernel
theorem dX4_blocksOf_11 : decode cX4_blocksOf 11 = .ok (.iload 5, 2) := by decide +kernel
theorem dX4_blocksOf_13 : decode cX4_blocksOf 13 = .ok (.iload_n 2, 1) := by decide +kernel
theorem dX4_blocksOf_14 : decode cX4_blocksOf 14 = .ok (.if_icmp .ge 48, 3) := by decide +kernel
theorem dX4_blocksOf_17 : decode cX4_blocksOf 17 = .ok (.iload 5, 2) := by decide +kernel
theorem dX4_blocksOf_19 : decode cX4_blocksOf 19 = .ok (.bipush 46, 2) := by decide +kernel
theorem dX4_blocksOf_21 : decode cX4_blocksOf 21 = .ok (.if_icmp .ge 41, 3) := by decide +kernel
theorem dX4_blocksOf_24 : decode cX4_blocksOf 24 = .ok (.aload_n 0, 1) := by decide +kernel
theorem dX4_blocksOf_25 : decode cX4_blocksOf 25 = .ok (.iload_n 1, 1) := by decide +kernel
theorem dX4_blocksOf_26 : decode cX4_blocksOf 26 = .ok (.iload 5, 2) := by decide +kernel
theorem dX4_blocksOf_28 : decode cX4_blocksOf 28 = .ok (.bipush 64, 2) := by decide +kernel
theorem dX4_blocksOf_30 : decode cX4_blocksOf 30 = .ok (.imul, 1) := by decide +kernel
theorem dX4_blocksOf_31 : decode cX4_blocksOf 31 = .ok (.invokevirtual 54, 3) := by decide +kernel
theorem dX4_blocksOf_34 : decode cX4_blocksOf 34 = .ok (.istore 6, 2) := by decide +kernel
theorem dX4_blocksOf_36 : decode cX4_blocksOf 36 = .ok (.lload_n 3, 1) := by decide +kernel
theorem dX4_blocksOf_37 : decode cX4_blocksOf 37 = .ok (.iload 6, 2) := by decide +kernel
theorem dX4_blocksOf_39 : decode cX4_blocksOf 39 = .ok (.iconst (-1), 1) := by decide +kernel
theorem dX4_blocksOf_40 : decode cX4_blocksOf 40 = .ok (.if_icmp .ne 7, 3) := by decide +kernel
theorem dX4_blocksOf_43 : decode cX4_blocksOf 43 = .ok (.iconst 0, 1) := by decide +kernel
theorem dX4_blocksOf_44 : decode cX4_blocksOf 44 = .ok (.goto 8, 3) := by decide +kernel
theorem dX4_blocksOf_47 : decode cX4_blocksOf 47 = .ok (.iload 6, 2) := by decide +kernel
theorem dX4_blocksOf_49 : decode cX4_blocksOf 49 = .ok (.bipush 64, 2) := by decide +kernel
theorem dX4_blocksOf_51 : decode cX4_blocksOf 51 = .ok (.idiv, 1) := by decide +kernel
theorem dX4_blocksOf_52 : decode cX4_blocksOf 52 = .ok (.invokestatic 57, 3) := by decide +kernel
theorem dX4_blocksOf_55 : decode cX4_blocksOf 55 = .ok (.lstore_n 3, 1) := by decide +kernel
theorem dX4_blocksOf_56 : decode cX4_blocksOf 56 = .ok (.iinc 5 1, 3) := by decide +kernel
theorem dX4_blocksOf_59 : decode cX4_blocksOf 59 = .ok (.goto (-48), 3) := by decide +kernel
theorem dX4_blocksOf_62 : decode cX4_blocksOf 62 = .ok (.iload_n 2, 1) := by decide +kernel
theorem dX4_blocksOf_63 : decode cX4_blocksOf 63 = .ok (.iconst 5, 1) := by decide +kernel
theorem dX4_blocksOf_64 : decode cX4_blocksOf 64 = .ok (.if_icmp .le 22, 3) := by decide +kernel
theorem dX4_blocksOf_67 : decode cX4_blocksOf 67 = .ok (.lload_n 3, 1) := by decide +kernel
theorem dX4_blocksOf_68 : decode cX4_blocksOf 68 = .ok (.aload_n 0, 1) := by decide +kernel
theorem dX4_blocksOf_69 : decode cX4_blocksOf 69 = .ok (.getfield 9, 3) := by decide +kernel
theorem dX4_blocksOf_72 : decode cX4_blocksOf 72 = .ok (.iload_n 1, 1) := by decide +kernel
theorem dX4_blocksOf_73 : decode cX4_blocksOf 73 = .ok (.invokestatic 19, 3) := by decide +kernel
theorem dX4_blocksOf_76 : decode cX4_blocksOf 76 = .ok (.bipush 9, 2) := by decide +kernel
theorem dX4_blocksOf_78 : decode cX4_blocksOf 78 = .ok (.iadd, 1) := by decide +kernel
theorem dX4_blocksOf_79 : decode cX4_blocksOf 79 = .ok (.invokevirtual 23, 3) := by decide +kernel
theorem dX4_blocksOf_82 : decode cX4_blocksOf 82 = .ok (.invokestatic 57, 3) := by decide +kernel
theorem dX4_blocksOf_85 : decode cX4_blocksOf 85 = .ok (.lstore_n 3, 1) := by decide +kernel
theorem dX4_blocksOf_86 : decode cX4_blocksOf 86 = .ok (.lload_n 3, 1) := by decide +kernel
theorem dX4_blocksOf_87 : decode cX4_blocksOf 87 = .ok (.lreturn, 1) := by decide +kernel
theorem dX4_withBlock_0 : decode cX4_withBlock 0 = .ok (.iload_n 2, 1) := by decide +kernel
theorem dX4_withBlock_1 : decode cX4_withBlock 1 = .ok (.invokestatic 48, 3) := by decide +kernel
theorem dX4_withBlock_4 : decode cX4_withBlock 4 = .ok (.ifCond .eq 17, 3) := by decide +kernel
theorem dX4_withBlock_7 : decode cX4_withBlock 7 = .ok (.lload_n 0, 1) := by decide +kernel
theorem dX4_withBlock_8 : decode cX4_withBlock 8 = .ok (.iload_n 2, 1) := by decide +kernel
theorem dX4_withBlock_9 : decode cX4_withBlock 9 = .ok (.lshr, 1) := by decide +kernel
theorem dX4_withBlock_10 : decode cX4_withBlock 10 = .ok (.lconst 1, 1) := by decide +kernel
theorem dX4_withBlock_11 : decode cX4_withBlock 11 = .ok (.land, 1) := by decide +kernel
theorem dX4_withBlock_12 : decode cX4_withBlock 12 = .ok (.lconst 0, 1) := by decide +kernel
theorem dX4_withBlock_13 : decode cX4_withBlock 13 = .ok (.lcmp, 1) := by decide +kernel
theorem dX4_withBlock_14 : decode cX4_withBlock 14 = .ok (.ifCond .ne 7, 3) := by decide +kernel
theorem dX4_withBlock_17 : decode cX4_withBlock 17 = .ok (.iconst 1, 1) := by decide +kernel
theorem dX4_withBlock_18 : decode cX4_withBlock 18 = .ok (.goto 4, 3) := by decide +kernel
theorem dX4_withBlock_21 : decode cX4_withBlock 21 = .ok (.iconst 0, 1) := by decide +kernel
theorem dX4_withBlock_22 : decode cX4_withBlock 22 = .ok (.istore_n 3, 1) := by decide +kernel
theorem dX4_withBlock_23 : decode cX4_withBlock 23 = .ok (.iload_n 3, 1) := by decide +kernel
theorem dX4_withBlock_24 : decode cX4_withBlock 24 = .ok (.ifCond .eq 11, 3) := by decide +kernel
theorem dX4_withBlock_27 : decode cX4_withBlock 27 = .ok (.lload_n 0, 1) := by decide +kernel
theorem dX4_withBlock_28 : decode cX4_withBlock 28 = .ok (.lconst 1, 1) := by decide +kernel
theorem dX4_withBlock_29 : decode cX4_withBlock 29 = .ok (.iload_n 2, 1) := by decide +kernel
theorem dX4_withBlock_30 : decode cX4_withBlock 30 = .ok (.lshl, 1) := by decide +kernel
theorem dX4_withBlock_31 : decode cX4_withBlock 31 = .ok (.lor, 1) := by decide +kernel
theorem dX4_withBlock_32 : decode cX4_withBlock 32 = .ok (.goto 6, 3) := by decide +kernel
theorem dX4_withBlock_35 : decode cX4_withBlock 35 = .ok (.lload_n 0, 1) := by decide +kernel
theorem dX4_withBlock_36 : decode cX4_withBlock 36 = .ok (.lconst 1, 1) := by decide +kernel
theorem dX4_withBlock_37 : decode cX4_withBlock 37 = .ok (.lor, 1) := by decide +kernel
theorem dX4_withBlock_38 : decode cX4_withBlock 38 = .ok (.lreturn, 1) := by decide +kernel
theorem dX4_taken_0 : decode cX4_taken 0 = .ok (.aload_n 0, 1) := by decide +kernel
theorem dX4_taken_1 : decode cX4_taken 1 = .ok (.getfield 61, 3) := by decide +kernel
theorem dX4_taken_4 : decode cX4_taken 4 = .ok (.lreturn, 1) := by decide +kernel
theorem dX4_forgetTaken_0 : decode cX4_forgetTaken 0 = .ok (.aload_n 0, 1) := by decide +kernel
theorem dX4_forgetTaken_1 : decode cX4_forgetTaken 1 = .ok (.lconst 0, 1) := by decide +kernel
theorem dX4_forgetTaken_2 : decode cX4_forgetTaken 2 = .ok (.putfield 61, 3) := by decide +kernel
theorem dX4_forgetTaken_5 : decode cX4_forgetTaken 5 = .ok (.return_, 1) := by decide +kernel
theorem dX4_takeBlocks_0 : decode cX4_takeBlocks 0 = .ok (.aload_n 0, 1) := by decide +kernel
theorem dX4_takeBlocks_1 : decode cX4_takeBlocks 1 = .ok (.iload_n 1, 1) := by decide +kernel
theorem dX4_takeBlocks_2 : decode cX4_takeBlocks 2 = .ok (.invokevirtual 65, 3) := by decide +kernel
theorem dX4_takeBlocks_5 : decode cX4_takeBlocks 5 = .ok (.lstore_n 2, 1) := by decide +kernel
theorem dX4_takeBlocks_6 : decode cX4_takeBlocks 6 = .ok (.lload_n 2, 1) := by decide +kernel
theorem dX4_takeBlocks_7 : decode cX4_takeBlocks 7 = .ok (.aload_n 0, 1) := by decide +kernel
theorem dX4_takeBlocks_8 : decode cX4_takeBlocks 8 = .ok (.getfield 61, 3) := by decide +kernel
theorem dX4_takeBlocks_11 : decode cX4_takeBlocks 11 = .ok (.lconst 1, 1) := by decide +kernel
theorem dX4_takeBlocks_12 : decode cX4_takeBlocks 12 = .ok (.lor, 1) := by decide +kernel
theorem dX4_takeBlocks_13 : decode cX4_takeBlocks 13 = .ok (.land, 1) := by decide +kernel
theorem dX4_takeBlocks_14 : decode cX4_takeBlocks 14 = .ok (.lconst 0, 1) := by decide +kernel
theorem dX4_takeBlocks_15 : decode cX4_takeBlocks 15 = .ok (.lcmp, 1) := by decide +kernel
theorem dX4_takeBlocks_16 : decode cX4_takeBlocks 16 = .ok (.ifCond .eq 5, 3) := by decide +kernel
theorem dX4_takeBlocks_19 : decode cX4_takeBlocks 19 = .ok (.iconst 0, 1) := by decide +kernel
theorem dX4_takeBlocks_20 : decode cX4_takeBlocks 20 = .ok (.ireturn, 1) := by decide +kernel
theorem dX4_takeBlocks_21 : decode cX4_takeBlocks 21 = .ok (.aload_n 0, 1) := by decide +kernel
theorem dX4_takeBlocks_22 : decode cX4_takeBlocks 22 = .ok (.dup, 1) := by decide +kernel
theorem dX4_takeBlocks_23 : decode cX4_takeBlocks 23 = .ok (.getfield 61, 3) := by decide +kernel
theorem dX4_takeBlocks_26 : decode cX4_takeBlocks 26 = .ok (.lload_n 2, 1) := by decide +kernel
theorem dX4_takeBlocks_27 : decode cX4_takeBlocks 27 = .ok (.lor, 1) := by decide +kernel
theorem dX4_takeBlocks_28 : decode cX4_takeBlocks 28 = .ok (.putfield 61, 3) := by decide +kernel
theorem dX4_takeBlocks_31 : decode cX4_takeBlocks 31 = .ok (.iconst 1, 1) := by decide +kernel
theorem dX4_takeBlocks_32 : decode cX4_takeBlocks 32 = .ok (.ireturn, 1) := by decide +kernel
theorem dX4_firstFree_0 : decode cX4_firstFree 0 = .ok (.iconst 3, 1) := by decide +kernel
theorem dX4_firstFree_1 : decode cX4_firstFree 1 = .ok (.istore_n 1, 1) := by decide +kernel
theorem dX4_firstFree_2 : decode cX4_firstFree 2 = .ok (.iload_n 1, 1) := by decide +kernel
theorem dX4_firstFree_3 : decode cX4_firstFree 3 = .ok (.bipush 32, 2) := by decide +kernel
theorem dX4_firstFree_5 : decode cX4_firstFree 5 = .ok (.if_icmp .ge 19, 3) := by decide +kernel
theorem dX4_firstFree_8 : decode cX4_firstFree 8 = .ok (.aload_n 0, 1) := by decide +kernel
theorem dX4_firstFree_9 : decode cX4_firstFree 9 = .ok (.iload_n 1, 1) := by decide +kernel
theorem dX4_firstFree_10 : decode cX4_firstFree 10 = .ok (.invokevirtual 69, 3) := by decide +kernel
theorem dX4_firstFree_13 : decode cX4_firstFree 13 = .ok (.ifCond .ne 5, 3) := by decide +kernel
theorem dX4_firstFree_16 : decode cX4_firstFree 16 = .ok (.iload_n 1, 1) := by decide +kernel
theorem dX4_firstFree_17 : decode cX4_firstFree 17 = .ok (.ireturn, 1) := by decide +kernel
theorem dX4_firstFree_18 : decode cX4_firstFree 18 = .ok (.iinc 1 1, 3) := by decide +kernel
theorem dX4_firstFree_21 : decode cX4_firstFree 21 = .ok (.goto (-19), 3) := by decide +kernel
theorem dX4_firstFree_24 : decode cX4_firstFree 24 = .ok (.iconst (-1), 1) := by decide +kernel
theorem dX4_firstFree_25 : decode cX4_firstFree 25 = .ok (.ireturn, 1) := by decide +kernel
theorem dX4_hasFreeBlock_0 : decode cX4_hasFreeBlock 0 = .ok (.aload_n 0, 1) := by decide +kernel
theorem dX4_hasFreeBlock_1 : decode cX4_hasFreeBlock 1 = .ok (.getfield 61, 3) := by decide +kernel
theorem dX4_hasFreeBlock_4 : decode cX4_hasFreeBlock 4 = .ok (.invokestatic 72, 3) := by decide +kernel
theorem dX4_hasFreeBlock_7 : decode cX4_hasFreeBlock 7 = .ok (.bipush 47, 2) := by decide +kernel
theorem dX4_hasFreeBlock_9 : decode cX4_hasFreeBlock 9 = .ok (.if_icmp .ge 7, 3) := by decide +kernel
theorem dX4_hasFreeBlock_12 : decode cX4_hasFreeBlock 12 = .ok (.iconst 1, 1) := by decide +kernel
theorem dX4_hasFreeBlock_13 : decode cX4_hasFreeBlock 13 = .ok (.goto 4, 3) := by decide +kernel
theorem dX4_hasFreeBlock_16 : decode cX4_hasFreeBlock 16 = .ok (.iconst 0, 1) := by decide +kernel
theorem dX4_hasFreeBlock_17 : decode cX4_hasFreeBlock 17 = .ok (.ireturn, 1) := by decide +kernel
theorem dX4_takeFreeBlock_0 : decode cX4_takeFreeBlock 0 = .ok (.bipush 16, 2) := by decide +kernel
theorem dX4_takeFreeBlock_2 : decode cX4_takeFreeBlock 2 = .ok (.istore_n 1, 1) := by decide +kernel
theorem dX4_takeFreeBlock_3 : decode cX4_takeFreeBlock 3 = .ok (.iload_n 1, 1) := by decide +kernel
theorem dX4_takeFreeBlock_4 : decode cX4_takeFreeBlock 4 = .ok (.bipush 62, 2) := by decide +kernel
theorem dX4_takeFreeBlock_6 : decode cX4_takeFreeBlock 6 = .ok (.if_icmp .gt 49, 3) := by decide +kernel
theorem dX4_takeFreeBlock_9 : decode cX4_takeFreeBlock 9 = .ok (.aload_n 0, 1) := by decide +kernel
theorem dX4_takeFreeBlock_10 : decode cX4_takeFreeBlock 10 = .ok (.getfield 61, 3) := by decide +kernel
theorem dX4_takeFreeBlock_13 : decode cX4_takeFreeBlock 13 = .ok (.iload_n 1, 1) := by decide +kernel
theorem dX4_takeFreeBlock_14 : decode cX4_takeFreeBlock 14 = .ok (.lshr, 1) := by decide +kernel
theorem dX4_takeFreeBlock_15 : decode cX4_takeFreeBlock 15 = .ok (.lconst 1, 1) := by decide +kernel
theorem dX4_takeFreeBlock_16 : decode cX4_takeFreeBlock 16 = .ok (.land, 1) := by decide +kernel
theorem dX4_takeFreeBlock_17 : decode cX4_takeFreeBlock 17 = .ok (.lconst 0, 1) := by decide +kernel
theorem dX4_takeFreeBlock_18 : decode cX4_takeFreeBlock 18 = .ok (.lcmp, 1) := by decide +kernel
theorem dX4_takeFreeBlock_19 : decode cX4_takeFreeBlock 19 = .ok (.ifCond .ne 30, 3) := by decide +kernel
theorem dX4_takeFreeBlock_22 : decode cX4_takeFreeBlock 22 = .ok (.aload_n 0, 1) := by decide +kernel
theorem dX4_takeFreeBlock_23 : decode cX4_takeFreeBlock 23 = .ok (.dup, 1) := by decide +kernel
theorem dX4_takeFreeBlock_24 : decode cX4_takeFreeBlock 24 = .ok (.getfield 61, 3) := by decide +kernel
theorem dX4_takeFreeBlock_27 : decode cX4_takeFreeBlock 27 = .ok (.lconst 1, 1) := by decide +kernel
theorem dX4_takeFreeBlock_28 : decode cX4_takeFreeBlock 28 = .ok (.iload_n 1, 1) := by decide +kernel
theorem dX4_takeFreeBlock_29 : decode cX4_takeFreeBlock 29 = .ok (.lshl, 1) := by decide +kernel
theorem dX4_takeFreeBlock_30 : decode cX4_takeFreeBlock 30 = .ok (.lor, 1) := by decide +kernel
theorem dX4_takeFreeBlock_31 : decode cX4_takeFreeBlock 31 = .ok (.putfield 61, 3) := by decide +kernel
theorem dX4_takeFreeBlock_34 : decode cX4_takeFreeBlock 34 = .ok (.aload_n 0, 1) := by decide +kernel
theorem dX4_takeFreeBlock_35 : decode cX4_takeFreeBlock 35 = .ok (.getfield 9, 3) := by decide +kernel
theorem dX4_takeFreeBlock_38 : decode cX4_takeFreeBlock 38 = .ok (.iload_n 1, 1) := by decide +kernel
theorem dX4_takeFreeBlock_39 : decode cX4_takeFreeBlock 39 = .ok (.bipush 64, 2) := by decide +kernel
theorem dX4_takeFreeBlock_41 : decode cX4_takeFreeBlock 41 = .ok (.imul, 1) := by decide +kernel
theorem dX4_takeFreeBlock_42 : decode cX4_takeFreeBlock 42 = .ok (.bipush 64, 2) := by decide +kernel
theorem dX4_takeFreeBlock_44 : decode cX4_takeFreeBlock 44 = .ok (.invokevirtual 78, 3) := by decide +kernel
theorem dX4_takeFreeBlock_47 : decode cX4_takeFreeBlock 47 = .ok (.iload_n 1, 1) := by decide +kernel
theorem dX4_takeFreeBlock_48 : decode cX4_takeFreeBlock 48 = .ok (.ireturn, 1) := by decide +kernel
theorem dX4_takeFreeBlock_49 : decode cX4_takeFreeBlock 49 = .ok (.iinc 1 1, 3) := by decide +kernel
theorem dX4_takeFreeBlock_52 : decode cX4_takeFreeBlock 52 = .ok (.goto (-49), 3) := by decide +kernel
theorem dX4_takeFreeBlock_55 : decode cX4_takeFreeBlock 55 = .ok (.iconst (-1), 1) := by decide +kernel
theorem dX4_takeFreeBlock_56 : decode cX4_takeFreeBlock 56 = .ok (.ireturn, 1) := by decide +kernel
theorem dX4_begin_0 : decode cX4_begin 0 = .ok (.aload_n 0, 1) := by decide +kernel
theorem dX4_begin_1 : decode cX4_begin 1 = .ok (.getfield 9, 3) := by decide +kernel
theorem dX4_begin_4 : decode cX4_begin 4 = .ok (.iload_n 1, 1) := by decide +kernel
theorem dX4_begin_5 : decode cX4_begin 5 = .ok (.invokestatic 19, 3) := by decide +kernel
theorem dX4_begin_8 : decode cX4_begin 8 = .ok (.iload_n 2, 1) := by decide +kernel
theorem dX4_begin_9 : decode cX4_begin 9 = .ok (.invokevirtual 31, 3) := by decide +kernel
theorem dX4_begin_12 : decode cX4_begin 12 = .ok (.return_, 1) := by decide +kernel
theorem dX4_addBlock_0 : decode cX4_addBlock 0 = .ok (.aload_n 0, 1) := by decide +kernel
theorem dX4_addBlock_1 : decode cX4_addBlock 1 = .ok (.iload_n 1, 1) := by decide +kernel
theorem dX4_addBlock_2 : decode cX4_addBlock 2 = .ok (.invokevirtual 51, 3) := by decide +kernel
theorem dX4_addBlock_5 : decode cX4_addBlock 5 = .ok (.istore_n 2, 1) := by decide +kernel
theorem dX4_addBlock_6 : decode cX4_addBlock 6 = .ok (.iload_n 2, 1) := by decide +kernel
theorem dX4_addBlock_7 : decode cX4_addBlock 7 = .ok (.iconst 5, 1) := by decide +kernel
theorem dX4_addBlock_8 : decode cX4_addBlock 8 = .ok (.if_icmp .ne 7, 3) := by decide +kernel
theorem dX4_addBlock_11 : decode cX4_addBlock 11 = .ok (.iconst 2, 1) := by decide +kernel
theorem dX4_addBlock_12 : decode cX4_addBlock 12 = .ok (.goto 4, 3) := by decide +kernel
theorem dX4_addBlock_15 : decode cX4_addBlock 15 = .ok (.iconst 1, 1) := by decide +kernel
theorem dX4_addBlock_16 : decode cX4_addBlock 16 = .ok (.istore_n 3, 1) := by decide +kernel
theorem dX4_addBlock_17 : decode cX4_addBlock 17 = .ok (.iload_n 2, 1) := by decide +kernel
theorem dX4_addBlock_18 : decode cX4_addBlock 18 = .ok (.bipush 46, 2) := by decide +kernel
theorem dX4_addBlock_20 : decode cX4_addBlock 20 = .ok (.if_icmp .ge 17, 3) := by decide +kernel
theorem dX4_addBlock_23 : decode cX4_addBlock 23 = .ok (.bipush 47, 2) := by decide +kernel
theorem dX4_addBlock_25 : decode cX4_addBlock 25 = .ok (.aload_n 0, 1) := by decide +kernel
theorem dX4_addBlock_26 : decode cX4_addBlock 26 = .ok (.getfield 61, 3) := by decide +kernel
theorem dX4_addBlock_29 : decode cX4_addBlock 29 = .ok (.invokestatic 72, 3) := by decide +kernel
theorem dX4_addBlock_32 : decode cX4_addBlock 32 = .ok (.isub, 1) := by decide +kernel
theorem dX4_addBlock_33 : decode cX4_addBlock 33 = .ok (.iload_n 3, 1) := by decide +kernel
theorem dX4_addBlock_34 : decode cX4_addBlock 34 = .ok (.if_icmp .ge 5, 3) := by decide +kernel
theorem dX4_addBlock_37 : decode cX4_addBlock 37 = .ok (.iconst (-1), 1) := by decide +kernel
theorem dX4_addBlock_38 : decode cX4_addBlock 38 = .ok (.ireturn, 1) := by decide +kernel
theorem dX4_addBlock_39 : decode cX4_addBlock 39 = .ok (.aload_n 0, 1) := by decide +kernel
theorem dX4_addBlock_40 : decode cX4_addBlock 40 = .ok (.invokevirtual 81, 3) := by decide +kernel
theorem dX4_addBlock_43 : decode cX4_addBlock 43 = .ok (.istore 4, 2) := by decide +kernel
theorem dX4_addBlock_45 : decode cX4_addBlock 45 = .ok (.iload_n 2, 1) := by decide +kernel
theorem dX4_addBlock_46 : decode cX4_addBlock 46 = .ok (.iconst 5, 1) := by decide +kernel
theorem dX4_addBlock_47 : decode cX4_addBlock 47 = .ok (.if_icmp .ge 23, 3) := by decide +kernel
theorem dX4_addBlock_50 : decode cX4_addBlock 50 = .ok (.aload_n 0, 1) := by decide +kernel
theorem dX4_addBlock_51 : decode cX4_addBlock 51 = .ok (.getfield 9, 3) := by decide +kernel
theorem dX4_addBlock_54 : decode cX4_addBlock 54 = .ok (.iload_n 1, 1) := by decide +kernel
theorem dX4_addBlock_55 : decode cX4_addBlock 55 = .ok (.invokestatic 19, 3) := by decide +kernel
theorem dX4_addBlock_58 : decode cX4_addBlock 58 = .ok (.iconst 4, 1) := by decide +kernel
theorem dX4_addBlock_59 : decode cX4_addBlock 59 = .ok (.iadd, 1) := by decide +kernel
theorem dX4_addBlock_60 : decode cX4_addBlock 60 = .ok (.iload_n 2, 1) := by decide +kernel
theorem dX4_addBlock_61 : decode cX4_addBlock 61 = .ok (.iadd, 1) := by decide +kernel
theorem dX4_addBlock_62 : decode cX4_addBlock 62 = .ok (.iload 4, 2) := by decide +kernel
theorem dX4_addBlock_64 : decode cX4_addBlock 64 = .ok (.invokevirtual 31, 3) := by decide +kernel
theorem dX4_addBlock_67 : decode cX4_addBlock 67 = .ok (.iload 4, 2) := by decide +kernel
theorem dX4_addBlock_69 : decode cX4_addBlock 69 = .ok (.ireturn, 1) := by decide +kernel
theorem dX4_addBlock_70 : decode cX4_addBlock 70 = .ok (.iload_n 2, 1) := by decide +kernel
theorem dX4_addBlock_71 : decode cX4_addBlock 71 = .ok (.iconst 5, 1) := by decide +kernel
theorem dX4_addBlock_72 : decode cX4_addBlock 72 = .ok (.if_icmp .ne 21, 3) := by decide +kernel
theorem dX4_addBlock_75 : decode cX4_addBlock 75 = .ok (.aload_n 0, 1) := by decide +kernel
theorem dX4_addBlock_76 : decode cX4_addBlock 76 = .ok (.getfield 9, 3) := by decide +kernel
theorem dX4_addBlock_79 : decode cX4_addBlock 79 = .ok (.iload_n 1, 1) := by decide +kernel
theorem dX4_addBlock_80 : decode cX4_addBlock 80 = .ok (.invokestatic 19, 3) := by decide +kernel
theorem dX4_addBlock_83 : decode cX4_addBlock 83 = .ok (.bipush 9, 2) := by decide +kernel
theorem dX4_addBlock_85 : decode cX4_addBlock 85 = .ok (.iadd, 1) := by decide +kernel
theorem dX4_addBlock_86 : decode cX4_addBlock 86 = .ok (.aload_n 0, 1) := by decide +kernel
theorem dX4_addBlock_87 : decode cX4_addBlock 87 = .ok (.invokevirtual 81, 3) := by decide +kernel
theorem dX4_addBlock_90 : decode cX4_addBlock 90 = .ok (.invokevirtual 31, 3) := by decide +kernel
theorem dX4_addBlock_93 : decode cX4_addBlock 93 = .ok (.aload_n 0, 1) := by decide +kernel
theorem dX4_addBlock_94 : decode cX4_addBlock 94 = .ok (.getfield 9, 3) := by decide +kernel
theorem dX4_addBlock_97 : decode cX4_addBlock 97 = .ok (.iload_n 1, 1) := by decide +kernel
theorem dX4_addBlock_98 : decode cX4_addBlock 98 = .ok (.invokestatic 19, 3) := by decide +kernel
theorem dX4_addBlock_101 : decode cX4_addBlock 101 = .ok (.bipush 9, 2) := by decide +kernel
theorem dX4_addBlock_103 : decode cX4_addBlock 103 = .ok (.iadd, 1) := by decide +kernel
theorem dX4_addBlock_104 : decode cX4_addBlock 104 = .ok (.invokevirtual 23, 3) := by decide +kernel
theorem dX4_addBlock_107 : decode cX4_addBlock 107 = .ok (.istore 5, 2) := by decide +kernel
theorem dX4_addBlock_109 : decode cX4_addBlock 109 = .ok (.aload_n 0, 1) := by decide +kernel
theorem dX4_addBlock_110 : decode cX4_addBlock 110 = .ok (.getfield 9, 3) := by decide +kernel
theorem dX4_addBlock_113 : decode cX4_addBlock 113 = .ok (.iload 5, 2) := by decide +kernel
theorem dX4_addBlock_115 : decode cX4_addBlock 115 = .ok (.bipush 64, 2) := by decide +kernel
theorem dX4_addBlock_117 : decode cX4_addBlock 117 = .ok (.imul, 1) := by decide +kernel
theorem dX4_addBlock_118 : decode cX4_addBlock 118 = .ok (.iload_n 2, 1) := by decide +kernel
theorem dX4_addBlock_119 : decode cX4_addBlock 119 = .ok (.iadd, 1) := by decide +kernel
theorem dX4_addBlock_120 : decode cX4_addBlock 120 = .ok (.iconst 5, 1) := by decide +kernel
theorem dX4_addBlock_121 : decode cX4_addBlock 121 = .ok (.isub, 1) := by decide +kernel
theorem dX4_addBlock_122 : decode cX4_addBlock 122 = .ok (.iload 4, 2) := by decide +kernel
theorem dX4_addBlock_124 : decode cX4_addBlock 124 = .ok (.invokevirtual 31, 3) := by decide +kernel
theorem dX4_addBlock_127 : decode cX4_addBlock 127 = .ok (.iload 4, 2) := by decide +kernel
theorem dX4_addBlock_129 : decode cX4_addBlock 129 = .ok (.ireturn, 1) := by decide +kernel
theorem dX4_erase_0 : decode cX4_erase 0 = .ok (.aload_n 0, 1) := by decide +kernel
theorem dX4_erase_1 : decode cX4_erase 1 = .ok (.dup, 1) := by decide +kernel
theorem dX4_erase_2 : decode cX4_erase 2 = .ok (.getfield 61, 3) := by decide +kernel
theorem dX4_erase_5 : decode cX4_erase 5 = .ok (.aload_n 0, 1) := by decide +kernel
theorem dX4_erase_6 : decode cX4_erase 6 = .ok (.iload_n 1, 1) := by decide +kernel
theorem dX4_erase_7 : decode cX4_erase 7 = .ok (.invokevirtual 65, 3) := by decide +kernel
theorem dX4_erase_10 : decode cX4_erase 10 = .ok (.ldc2_w 85, 3) := by decide +kernel
theorem dX4_erase_13 : decode cX4_erase 13 = .ok (.lxor, 1) := by decide +kernel
theorem dX4_erase_14 : decode cX4_erase 14 = .ok (.land, 1) := by decide +kernel
theorem dX4_erase_15 : decode cX4_erase 15 = .ok (.putfield 61, 3) := by decide +kernel
theorem dX4_erase_18 : decode cX4_erase 18 = .ok (.aload_n 0, 1) := by decide +kernel
theorem dX4_erase_19 : decode cX4_erase 19 = .ok (.iload_n 1, 1) := by decide +kernel
theorem dX4_erase_20 : decode cX4_erase 20 = .ok (.invokevirtual 87, 3) := by decide +kernel
theorem dX4_erase_23 : decode cX4_erase 23 = .ok (.return_, 1) := by decide +kernel
theorem dX4_wipe_0 : decode cX4_wipe 0 = .ok (.aload_n 0, 1) := by decide +kernel
theorem dX4_wipe_1 : decode cX4_wipe 1 = .ok (.getfield 9, 3) := by decide +kernel
theorem dX4_wipe_4 : decode cX4_wipe 4 = .ok (.iload_n 1, 1) := by decide +kernel
theorem dX4_wipe_5 : decode cX4_wipe 5 = .ok (.invokestatic 19, 3) := by decide +kernel
theorem dX4_wipe_8 : decode cX4_wipe 8 = .ok (.bipush 16, 2) := by decide +kernel
theorem dX4_wipe_10 : decode cX4_wipe 10 = .ok (.invokevirtual 78, 3) := by decide +kernel
theorem dX4_wipe_13 : decode cX4_wipe 13 = .ok (.return_, 1) := by decide +kernel
theorem dX5_write_0 : decode cX5_write 0 = .ok (.aload_n 0, 1) := by decide +kernel
theorem dX5_write_1 : decode cX5_write 1 = .ok (.bipush 64, 2) := by decide +kernel
theorem dX5_write_3 : decode cX5_write 3 = .ok (.bipush 64, 2) := by decide +kernel
theorem dX5_write_5 : decode cX5_write 5 = .ok (.invokevirtual 11, 3) := by decide +kernel
theorem dX5_write_8 : decode cX5_write 8 = .ok (.aload_n 0, 1) := by decide +kernel
theorem dX5_write_9 : decode cX5_write 9 = .ok (.bipush 64, 2) := by decide +kernel
theorem dX5_write_11 : decode cX5_write 11 = .ok (.ldc 17, 2) := by decide +kernel
theorem dX5_write_13 : decode cX5_write 13 = .ok (.invokevirtual 19, 3) := by decide +kernel
theorem dX5_write_16 : decode cX5_write 16 = .ok (.aload_n 0, 1) := by decide +kernel
theorem dX5_write_17 : decode cX5_write 17 = .ok (.bipush 68, 2) := by decide +kernel
theorem dX5_write_19 : decode cX5_write 19 = .ok (.iload_n 3, 1) := by decide +kernel
theorem dX5_write_20 : decode cX5_write 20 = .ok (.invokevirtual 23, 3) := by decide +kernel
theorem dX5_write_23 : decode cX5_write 23 = .ok (.iconst 0, 1) := by decide +kernel
theorem dX5_write_24 : decode cX5_write 24 = .ok (.istore 4, 2) := by decide +kernel
theorem dX5_write_26 : decode cX5_write 26 = .ok (.iload 4, 2) := by decide +kernel
theorem dX5_write_28 : decode cX5_write 28 = .ok (.iload_n 3, 1) := by decide +kernel
theorem dX5_write_29 : decode cX5_write 29 = .ok (.if_icmp .ge 39, 3) := by decide +kernel
theorem dX5_write_32 : decode cX5_write 32 = .ok (.iload 4, 2) := by decide +kernel
theorem dX5_write_34 : decode cX5_write 34 = .ok (.iconst 5, 1) := by decide +kernel
theorem dX5_write_35 : decode cX5_write 35 = .ok (.if_icmp .ge 33, 3) := by decide +kernel
theorem dX5_write_38 : decode cX5_write 38 = .ok (.aload_n 0, 1) := by decide +kernel
theorem dX5_write_39 : decode cX5_write 39 = .ok (.bipush 69, 2) := by decide +kernel
theorem dX5_write_41 : decode cX5_write 41 = .ok (.iload 4, 2) := by decide +kernel
theorem dX5_write_43 : decode cX5_write 43 = .ok (.iadd, 1) := by decide +kernel
theorem dX5_write_44 : decode cX5_write 44 = .ok (.lload_n 1, 1) := by decide +kernel
theorem dX5_write_45 : decode cX5_write 45 = .ok (.bipush 56, 2) := by decide +kernel
theorem dX5_write_47 : decode cX5_write 47 = .ok (.bipush 8, 2) := by decide +kernel
theorem dX5_write_49 : decode cX5_write 49 = .ok (.iload 4, 2) := by decide +kernel
theorem dX5_write_51 : decode cX5_write 51 = .ok (.imul, 1) := by decide +kernel
theorem dX5_write_52 : decode cX5_write 52 = .ok (.isub, 1) := by decide +kernel
theorem dX5_write_53 : decode cX5_write 53 = .ok (.lushr, 1) := by decide +kernel
theorem dX5_write_54 : decode cX5_write 54 = .ok (.l2i, 1) := by decide +kernel
theorem dX5_write_55 : decode cX5_write 55 = .ok (.sipush 255, 3) := by decide +kernel
theorem dX5_write_58 : decode cX5_write 58 = .ok (.iand, 1) := by decide +kernel
theorem dX5_write_59 : decode cX5_write 59 = .ok (.invokevirtual 23, 3) := by decide +kernel
theorem dX5_write_62 : decode cX5_write 62 = .ok (.iinc 4 1, 3) := by decide +kernel
theorem dX5_write_65 : decode cX5_write 65 = .ok (.goto (-39), 3) := by decide +kernel
theorem dX5_write_68 : decode cX5_write 68 = .ok (.aload_n 0, 1) := by decide +kernel
theorem dX5_write_69 : decode cX5_write 69 = .ok (.invokestatic 26, 3) := by decide +kernel
theorem dX5_write_72 : decode cX5_write 72 = .ok (.return_, 1) := by decide +kernel
theorem dX5_writeSum_0 : decode cX5_writeSum 0 = .ok (.aload_n 0, 1) := by decide +kernel
theorem dX5_writeSum_1 : decode cX5_writeSum 1 = .ok (.bipush 126, 2) := by decide +kernel
theorem dX5_writeSum_3 : decode cX5_writeSum 3 = .ok (.aload_n 0, 1) := by decide +kernel
theorem dX5_writeSum_4 : decode cX5_writeSum 4 = .ok (.invokestatic 30, 3) := by decide +kernel
theorem dX5_writeSum_7 : decode cX5_writeSum 7 = .ok (.invokevirtual 34, 3) := by decide +kernel
theorem dX5_writeSum_10 : decode cX5_writeSum 10 = .ok (.return_, 1) := by decide +kernel
theorem dX5_replay_0 : decode cX5_replay 0 = .ok (.aload_n 0, 1) := by decide +kernel
theorem dX5_replay_1 : decode cX5_replay 1 = .ok (.invokestatic 37, 3) := by decide +kernel
theorem dX5_replay_4 : decode cX5_replay 4 = .ok (.ifCond .eq 44, 3) := by decide +kernel
theorem dX5_replay_7 : decode cX5_replay 7 = .ok (.aload_n 0, 1) := by decide +kernel
theorem dX5_replay_8 : decode cX5_replay 8 = .ok (.bipush 68, 2) := by decide +kernel
theorem dX5_replay_10 : decode cX5_replay 10 = .ok (.invokevirtual 41, 3) := by decide +kernel
theorem dX5_replay_13 : decode cX5_replay 13 = .ok (.istore_n 1, 1) := by decide +kernel
theorem dX5_replay_14 : decode cX5_replay 14 = .ok (.iconst 0, 1) := by decide +kernel
theorem dX5_replay_15 : decode cX5_replay 15 = .ok (.istore_n 2, 1) := by decide +kernel
theorem dX5_replay_16 : decode cX5_replay 16 = .ok (.iload_n 2, 1) := by decide +kernel
theorem dX5_replay_17 : decode cX5_replay 17 = .ok (.iload_n 1, 1) := by decide +kernel
theorem dX5_replay_18 : decode cX5_replay 18 = .ok (.if_icmp .ge 30, 3) := by decide +kernel
theorem dX5_replay_21 : decode cX5_replay 21 = .ok (.iload_n 2, 1) := by decide +kernel
theorem dX5_replay_22 : decode cX5_replay 22 = .ok (.iconst 5, 1) := by decide +kernel
theorem dX5_replay_23 : decode cX5_replay 23 = .ok (.if_icmp .ge 25, 3) := by decide +kernel
theorem dX5_replay_26 : decode cX5_replay 26 = .ok (.aload_n 0, 1) := by decide +kernel
theorem dX5_replay_27 : decode cX5_replay 27 = .ok (.iconst 2, 1) := by decide +kernel
theorem dX5_replay_28 : decode cX5_replay 28 = .ok (.iload_n 2, 1) := by decide +kernel
theorem dX5_replay_29 : decode cX5_replay 29 = .ok (.iadd, 1) := by decide +kernel
theorem dX5_replay_30 : decode cX5_replay 30 = .ok (.aload_n 0, 1) := by decide +kernel
theorem dX5_replay_31 : decode cX5_replay 31 = .ok (.aload_n 0, 1) := by decide +kernel
theorem dX5_replay_32 : decode cX5_replay 32 = .ok (.bipush 69, 2) := by decide +kernel
theorem dX5_replay_34 : decode cX5_replay 34 = .ok (.iload_n 2, 1) := by decide +kernel
theorem dX5_replay_35 : decode cX5_replay 35 = .ok (.iadd, 1) := by decide +kernel
theorem dX5_replay_36 : decode cX5_replay 36 = .ok (.invokevirtual 41, 3) := by decide +kernel
theorem dX5_replay_39 : decode cX5_replay 39 = .ok (.invokevirtual 45, 3) := by decide +kernel
theorem dX5_replay_42 : decode cX5_replay 42 = .ok (.iinc 2 1, 3) := by decide +kernel
theorem dX5_replay_45 : decode cX5_replay 45 = .ok (.goto (-29), 3) := by decide +kernel
theorem dX5_replay_48 : decode cX5_replay 48 = .ok (.aload_n 0, 1) := by decide +kernel
theorem dX5_replay_49 : decode cX5_replay 49 = .ok (.bipush 64, 2) := by decide +kernel
theorem dX5_replay_51 : decode cX5_replay 51 = .ok (.bipush 64, 2) := by decide +kernel
theorem dX5_replay_53 : decode cX5_replay 53 = .ok (.invokevirtual 11, 3) := by decide +kernel
theorem dX5_replay_56 : decode cX5_replay 56 = .ok (.return_, 1) := by decide +kernel
theorem dX5_isGood_0 : decode cX5_isGood 0 = .ok (.aload_n 0, 1) := by decide +kernel
theorem dX5_isGood_1 : decode cX5_isGood 1 = .ok (.bipush 68, 2) := by decide +kernel
theorem dX5_isGood_3 : decode cX5_isGood 3 = .ok (.invokevirtual 41, 3) := by decide +kernel
theorem dX5_isGood_6 : decode cX5_isGood 6 = .ok (.istore_n 1, 1) := by decide +kernel
theorem dX5_isGood_7 : decode cX5_isGood 7 = .ok (.aload_n 0, 1) := by decide +kernel
theorem dX5_isGood_8 : decode cX5_isGood 8 = .ok (.bipush 64, 2) := by decide +kernel
theorem dX5_isGood_10 : decode cX5_isGood 10 = .ok (.ldc 17, 2) := by decide +kernel
theorem dX5_isGood_12 : decode cX5_isGood 12 = .ok (.invokevirtual 49, 3) := by decide +kernel
theorem dX5_isGood_15 : decode cX5_isGood 15 = .ok (.ifCond .eq 53, 3) := by decide +kernel
theorem dX5_isGood_18 : decode cX5_isGood 18 = .ok (.iload_n 1, 1) := by decide +kernel
theorem dX5_isGood_19 : decode cX5_isGood 19 = .ok (.iconst 1, 1) := by decide +kernel
theorem dX5_isGood_20 : decode cX5_isGood 20 = .ok (.if_icmp .lt 48, 3) := by decide +kernel
theorem dX5_isGood_23 : decode cX5_isGood 23 = .ok (.iload_n 1, 1) := by decide +kernel
theorem dX5_isGood_24 : decode cX5_isGood 24 = .ok (.iconst 5, 1) := by decide +kernel
theorem dX5_isGood_25 : decode cX5_isGood 25 = .ok (.if_icmp .gt 43, 3) := by decide +kernel
theorem dX5_isGood_28 : decode cX5_isGood 28 = .ok (.aload_n 0, 1) := by decide +kernel
theorem dX5_isGood_29 : decode cX5_isGood 29 = .ok (.bipush 69, 2) := by decide +kernel
theorem dX5_isGood_31 : decode cX5_isGood 31 = .ok (.iload_n 1, 1) := by decide +kernel
theorem dX5_isGood_32 : decode cX5_isGood 32 = .ok (.iadd, 1) := by decide +kernel
theorem dX5_isGood_33 : decode cX5_isGood 33 = .ok (.bipush 57, 2) := by decide +kernel
theorem dX5_isGood_35 : decode cX5_isGood 35 = .ok (.iload_n 1, 1) := by decide +kernel
theorem dX5_isGood_36 : decode cX5_isGood 36 = .ok (.isub, 1) := by decide +kernel
theorem dX5_isGood_37 : decode cX5_isGood 37 = .ok (.invokevirtual 53, 3) := by decide +kernel
theorem dX5_isGood_40 : decode cX5_isGood 40 = .ok (.ifCond .eq 28, 3) := by decide +kernel
theorem dX5_isGood_43 : decode cX5_isGood 43 = .ok (.aload_n 0, 1) := by decide +kernel
theorem dX5_isGood_44 : decode cX5_isGood 44 = .ok (.bipush 126, 2) := by decide +kernel
theorem dX5_isGood_46 : decode cX5_isGood 46 = .ok (.invokevirtual 57, 3) := by decide +kernel
theorem dX5_isGood_49 : decode cX5_isGood 49 = .ok (.aload_n 0, 1) := by decide +kernel
theorem dX5_isGood_50 : decode cX5_isGood 50 = .ok (.invokestatic 30, 3) := by decide +kernel
theorem dX5_isGood_53 : decode cX5_isGood 53 = .ok (.if_icmp .ne 15, 3) := by decide +kernel
theorem dX5_isGood_56 : decode cX5_isGood 56 = .ok (.aload_n 0, 1) := by decide +kernel
theorem dX5_isGood_57 : decode cX5_isGood 57 = .ok (.iload_n 1, 1) := by decide +kernel
theorem dX5_isGood_58 : decode cX5_isGood 58 = .ok (.invokestatic 60, 3) := by decide +kernel
theorem dX5_isGood_61 : decode cX5_isGood 61 = .ok (.ifCond .eq 7, 3) := by decide +kernel
theorem dX5_isGood_64 : decode cX5_isGood 64 = .ok (.iconst 1, 1) := by decide +kernel
theorem dX5_isGood_65 : decode cX5_isGood 65 = .ok (.goto 4, 3) := by decide +kernel
theorem dX5_isGood_68 : decode cX5_isGood 68 = .ok (.iconst 0, 1) := by decide +kernel
theorem dX5_isGood_69 : decode cX5_isGood 69 = .ok (.ireturn, 1) := by decide +kernel
theorem dX5_hasGoodTargets_0 : decode cX5_hasGoodTargets 0 = .ok (.lconst 0, 1) := by decide +kernel
theorem dX5_hasGoodTargets_1 : decode cX5_hasGoodTargets 1 = .ok (.lstore_n 2, 1) := by decide +kernel
theorem dX5_hasGoodTargets_2 : decode cX5_hasGoodTargets 2 = .ok (.iconst 0, 1) := by decide +kernel
theorem dX5_hasGoodTargets_3 : decode cX5_hasGoodTargets 3 = .ok (.istore 4, 2) := by decide +kernel
theorem dX5_hasGoodTargets_5 : decode cX5_hasGoodTargets 5 = .ok (.iload 4, 2) := by decide +kernel
theorem dX5_hasGoodTargets_7 : decode cX5_hasGoodTargets 7 = .ok (.iload_n 1, 1) := by decide +kernel
theorem dX5_hasGoodTargets_8 : decode cX5_hasGoodTargets 8 = .ok (.if_icmp .ge 60, 3) := by decide +kernel
theorem dX5_hasGoodTargets_11 : decode cX5_hasGoodTargets 11 = .ok (.iload 4, 2) := by decide +kernel
theorem dX5_hasGoodTargets_13 : decode cX5_hasGoodTargets 13 = .ok (.iconst 5, 1) := by decide +kernel
theorem dX5_hasGoodTargets_14 : decode cX5_hasGoodTargets 14 = .ok (.if_icmp .ge 54, 3) := by decide +kernel
theorem dX5_hasGoodTargets_17 : decode cX5_hasGoodTargets 17 = .ok (.aload_n 0, 1) := by decide +kernel
theorem dX5_hasGoodTargets_18 : decode cX5_hasGoodTargets 18 = .ok (.bipush 69, 2) := by decide +kernel
theorem dX5_hasGoodTargets_20 : decode cX5_hasGoodTargets 20 = .ok (.iload 4, 2) := by decide +kernel
theorem dX5_hasGoodTargets_22 : decode cX5_hasGoodTargets 22 = .ok (.iadd, 1) := by decide +kernel
theorem dX5_hasGoodTargets_23 : decode cX5_hasGoodTargets 23 = .ok (.invokevirtual 41, 3) := by decide +kernel
theorem dX5_hasGoodTargets_26 : decode cX5_hasGoodTargets 26 = .ok (.istore 5, 2) := by decide +kernel
theorem dX5_hasGoodTargets_28 : decode cX5_hasGoodTargets 28 = .ok (.iload 5, 2) := by decide +kernel
theorem dX5_hasGoodTargets_30 : decode cX5_hasGoodTargets 30 = .ok (.bipush 7, 2) := by decide +kernel
theorem dX5_hasGoodTargets_32 : decode cX5_hasGoodTargets 32 = .ok (.if_icmp .lt 21, 3) := by decide +kernel
theorem dX5_hasGoodTargets_35 : decode cX5_hasGoodTargets 35 = .ok (.iload 5, 2) := by decide +kernel
theorem dX5_hasGoodTargets_37 : decode cX5_hasGoodTargets 37 = .ok (.bipush 62, 2) := by decide +kernel
theorem dX5_hasGoodTargets_39 : decode cX5_hasGoodTargets 39 = .ok (.if_icmp .gt 14, 3) := by decide +kernel
theorem dX5_hasGoodTargets_42 : decode cX5_hasGoodTargets 42 = .ok (.lload_n 2, 1) := by decide +kernel
theorem dX5_hasGoodTargets_43 : decode cX5_hasGoodTargets 43 = .ok (.iload 5, 2) := by decide +kernel
theorem dX5_hasGoodTargets_45 : decode cX5_hasGoodTargets 45 = .ok (.lshr, 1) := by decide +kernel
theorem dX5_hasGoodTargets_46 : decode cX5_hasGoodTargets 46 = .ok (.lconst 1, 1) := by decide +kernel
theorem dX5_hasGoodTargets_47 : decode cX5_hasGoodTargets 47 = .ok (.land, 1) := by decide +kernel
theorem dX5_hasGoodTargets_48 : decode cX5_hasGoodTargets 48 = .ok (.lconst 0, 1) := by decide +kernel
theorem dX5_hasGoodTargets_49 : decode cX5_hasGoodTargets 49 = .ok (.lcmp, 1) := by decide +kernel
theorem dX5_hasGoodTargets_50 : decode cX5_hasGoodTargets 50 = .ok (.ifCond .eq 5, 3) := by decide +kernel
theorem dX5_hasGoodTargets_53 : decode cX5_hasGoodTargets 53 = .ok (.iconst 0, 1) := by decide +kernel
theorem dX5_hasGoodTargets_54 : decode cX5_hasGoodTargets 54 = .ok (.ireturn, 1) := by decide +kernel
theorem dX5_hasGoodTargets_55 : decode cX5_hasGoodTargets 55 = .ok (.lload_n 2, 1) := by decide +kernel
theorem dX5_hasGoodTargets_56 : decode cX5_hasGoodTargets 56 = .ok (.lconst 1, 1) := by decide +kernel
theorem dX5_hasGoodTargets_57 : decode cX5_hasGoodTargets 57 = .ok (.iload 5, 2) := by decide +kernel
theorem dX5_hasGoodTargets_59 : decode cX5_hasGoodTargets 59 = .ok (.lshl, 1) := by decide +kernel
theorem dX5_hasGoodTargets_60 : decode cX5_hasGoodTargets 60 = .ok (.lor, 1) := by decide +kernel
theorem dX5_hasGoodTargets_61 : decode cX5_hasGoodTargets 61 = .ok (.lstore_n 2, 1) := by decide +kernel
theorem dX5_hasGoodTargets_62 : decode cX5_hasGoodTargets 62 = .ok (.iinc 4 1, 3) := by decide +kernel
theorem dX5_hasGoodTargets_65 : decode cX5_hasGoodTargets 65 = .ok (.goto (-60), 3) := by decide +kernel
theorem dX5_hasGoodTargets_68 : decode cX5_hasGoodTargets 68 = .ok (.iconst 1, 1) := by decide +kernel
theorem dX5_hasGoodTargets_69 : decode cX5_hasGoodTargets 69 = .ok (.ireturn, 1) := by decide +kernel
theorem dX5_rightSum_0 : decode cX5_rightSum 0 = .ok (.aload_n 0, 1) := by decide +kernel
theorem dX5_rightSum_1 : decode cX5_rightSum 1 = .ok (.bipush 68, 2) := by decide +kernel
theorem dX5_rightSum_3 : decode cX5_rightSum 3 = .ok (.invokevirtual 41, 3) := by decide +kernel
theorem dX5_rightSum_6 : decode cX5_rightSum 6 = .ok (.iconst 5, 1) := by decide +kernel
theorem dX5_rightSum_7 : decode cX5_rightSum 7 = .ok (.invokestatic 64, 3) := by decide +kernel
theorem dX5_rightSum_10 : decode cX5_rightSum 10 = .ok (.istore_n 1, 1) := by decide +kernel
theorem dX5_rightSum_11 : decode cX5_rightSum 11 = .ok (.aload_n 0, 1) := by decide +kernel
theorem dX5_rightSum_12 : decode cX5_rightSum 12 = .ok (.sipush 128, 3) := by decide +kernel
theorem dX5_rightSum_15 : decode cX5_rightSum 15 = .ok (.iload_n 1, 1) := by decide +kernel
theorem dX5_rightSum_16 : decode cX5_rightSum 16 = .ok (.bipush 64, 2) := by decide +kernel
theorem dX5_rightSum_18 : decode cX5_rightSum 18 = .ok (.imul, 1) := by decide +kernel
theorem dX5_rightSum_19 : decode cX5_rightSum 19 = .ok (.invokevirtual 70, 3) := by decide +kernel
theorem dX5_rightSum_22 : decode cX5_rightSum 22 = .ok (.istore_n 2, 1) := by decide +kernel
theorem dX5_rightSum_23 : decode cX5_rightSum 23 = .ok (.aload_n 0, 1) := by decide +kernel
theorem dX5_rightSum_24 : decode cX5_rightSum 24 = .ok (.bipush 64, 2) := by decide +kernel
theorem dX5_rightSum_26 : decode cX5_rightSum 26 = .ok (.bipush 62, 2) := by decide +kernel
theorem dX5_rightSum_28 : decode cX5_rightSum 28 = .ok (.invokevirtual 70, 3) := by decide +kernel
theorem dX5_rightSum_31 : decode cX5_rightSum 31 = .ok (.iload_n 2, 1) := by decide +kernel
theorem dX5_rightSum_32 : decode cX5_rightSum 32 = .ok (.iadd, 1) := by decide +kernel
theorem dX5_rightSum_33 : decode cX5_rightSum 33 = .ok (.ldc 73, 2) := by decide +kernel
theorem dX5_rightSum_35 : decode cX5_rightSum 35 = .ok (.iand, 1) := by decide +kernel
theorem dX5_rightSum_36 : decode cX5_rightSum 36 = .ok (.ireturn, 1) := by decide +kernel
theorem dX6_init_0 : decode cX6_init 0 = .ok (.aload_n 0, 1) := by decide +kernel
theorem dX6_init_1 : decode cX6_init 1 = .ok (.invokespecial 3, 3) := by decide +kernel
theorem dX6_init_4 : decode cX6_init 4 = .ok (.aload_n 0, 1) := by decide +kernel
theorem dX6_init_5 : decode cX6_init 5 = .ok (.bipush 14, 2) := by decide +kernel
theorem dX6_init_7 : decode cX6_init 7 = .ok (.newarray .int, 2) := by decide +kernel
theorem dX6_init_9 : decode cX6_init 9 = .ok (.putfield 9, 3) := by decide +kernel
theorem dX6_init_12 : decode cX6_init 12 = .ok (.return_, 1) := by decide +kernel
theorem dX6_length_0 : decode cX6_length 0 = .ok (.aload_n 0, 1) := by decide +kernel
theorem dX6_length_1 : decode cX6_length 1 = .ok (.getfield 15, 3) := by decide +kernel
theorem dX6_length_4 : decode cX6_length 4 = .ok (.ireturn, 1) := by decide +kernel
theorem dX6_at_0 : decode cX6_at 0 = .ok (.iload_n 1, 1) := by decide +kernel
theorem dX6_at_1 : decode cX6_at 1 = .ok (.ifCond .lt 26, 3) := by decide +kernel
theorem dX6_at_4 : decode cX6_at 4 = .ok (.iload_n 1, 1) := by decide +kernel
theorem dX6_at_5 : decode cX6_at 5 = .ok (.aload_n 0, 1) := by decide +kernel
theorem dX6_at_6 : decode cX6_at 6 = .ok (.getfield 15, 3) := by decide +kernel
theorem dX6_at_9 : decode cX6_at 9 = .ok (.if_icmp .ge 18, 3) := by decide +kernel
theorem dX6_at_12 : decode cX6_at 12 = .ok (.iload_n 1, 1) := by decide +kernel
theorem dX6_at_13 : decode cX6_at 13 = .ok (.bipush 14, 2) := by decide +kernel
theorem dX6_at_15 : decode cX6_at 15 = .ok (.if_icmp .ge 12, 3) := by decide +kernel
theorem dX6_at_18 : decode cX6_at 18 = .ok (.aload_n 0, 1) := by decide +kernel
theorem dX6_at_19 : decode cX6_at 19 = .ok (.getfield 9, 3) := by decide +kernel
theorem dX6_at_22 : decode cX6_at 22 = .ok (.iload_n 1, 1) := by decide +kernel
theorem dX6_at_23 : decode cX6_at 23 = .ok (.iaload, 1) := by decide +kernel
theorem dX6_at_24 : decode cX6_at 24 = .ok (.goto 4, 3) := by decide +kernel
theorem dX6_at_27 : decode cX6_at 27 = .ok (.iconst 0, 1) := by decide +kernel
theorem dX6_at_28 : decode cX6_at 28 = .ok (.ireturn, 1) := by decide +kernel
theorem dX6_add_0 : decode cX6_add 0 = .ok (.aload_n 0, 1) := by decide +kernel
theorem dX6_add_1 : decode cX6_add 1 = .ok (.getfield 15, 3) := by decide +kernel
theorem dX6_add_4 : decode cX6_add 4 = .ok (.ifCond .lt 32, 3) := by decide +kernel
theorem dX6_add_7 : decode cX6_add 7 = .ok (.aload_n 0, 1) := by decide +kernel
theorem dX6_add_8 : decode cX6_add 8 = .ok (.getfield 15, 3) := by decide +kernel
theorem dX6_add_11 : decode cX6_add 11 = .ok (.bipush 14, 2) := by decide +kernel
theorem dX6_add_13 : decode cX6_add 13 = .ok (.if_icmp .ge 23, 3) := by decide +kernel
theorem dX6_add_16 : decode cX6_add 16 = .ok (.aload_n 0, 1) := by decide +kernel
theorem dX6_add_17 : decode cX6_add 17 = .ok (.getfield 9, 3) := by decide +kernel
theorem dX6_add_20 : decode cX6_add 20 = .ok (.aload_n 0, 1) := by decide +kernel
theorem dX6_add_21 : decode cX6_add 21 = .ok (.getfield 15, 3) := by decide +kernel
theorem dX6_add_24 : decode cX6_add 24 = .ok (.iload_n 1, 1) := by decide +kernel
theorem dX6_add_25 : decode cX6_add 25 = .ok (.iastore, 1) := by decide +kernel
theorem dX6_add_26 : decode cX6_add 26 = .ok (.aload_n 0, 1) := by decide +kernel
theorem dX6_add_27 : decode cX6_add 27 = .ok (.dup, 1) := by decide +kernel
theorem dX6_add_28 : decode cX6_add 28 = .ok (.getfield 15, 3) := by decide +kernel
theorem dX6_add_31 : decode cX6_add 31 = .ok (.iconst 1, 1) := by decide +kernel
theorem dX6_add_32 : decode cX6_add 32 = .ok (.iadd, 1) := by decide +kernel
theorem dX6_add_33 : decode cX6_add 33 = .ok (.putfield 15, 3) := by decide +kernel
theorem dX6_add_36 : decode cX6_add 36 = .ok (.return_, 1) := by decide +kernel
theorem dX6_spell_0 : decode cX6_spell 0 = .ok (.aload_n 0, 1) := by decide +kernel
theorem dX6_spell_1 : decode cX6_spell 1 = .ok (.iconst 0, 1) := by decide +kernel
theorem dX6_spell_2 : decode cX6_spell 2 = .ok (.putfield 15, 3) := by decide +kernel
theorem dX6_spell_5 : decode cX6_spell 5 = .ok (.iconst 0, 1) := by decide +kernel
theorem dX6_spell_6 : decode cX6_spell 6 = .ok (.istore_n 2, 1) := by decide +kernel
theorem dX6_spell_7 : decode cX6_spell 7 = .ok (.iload_n 2, 1) := by decide +kernel
theorem dX6_spell_8 : decode cX6_spell 8 = .ok (.aload_n 1, 1) := by decide +kernel
theorem dX6_spell_9 : decode cX6_spell 9 = .ok (.invokevirtual 19, 3) := by decide +kernel
theorem dX6_spell_12 : decode cX6_spell 12 = .ok (.if_icmp .ge 18, 3) := by decide +kernel
theorem dX6_spell_15 : decode cX6_spell 15 = .ok (.aload_n 0, 1) := by decide +kernel
theorem dX6_spell_16 : decode cX6_spell 16 = .ok (.aload_n 1, 1) := by decide +kernel
theorem dX6_spell_17 : decode cX6_spell 17 = .ok (.iload_n 2, 1) := by decide +kernel
theorem dX6_spell_18 : decode cX6_spell 18 = .ok (.invokevirtual 24, 3) := by decide +kernel
theorem dX6_spell_21 : decode cX6_spell 21 = .ok (.invokevirtual 28, 3) := by decide +kernel
theorem dX6_spell_24 : decode cX6_spell 24 = .ok (.iinc 2 1, 3) := by decide +kernel
theorem dX6_spell_27 : decode cX6_spell 27 = .ok (.goto (-20), 3) := by decide +kernel
theorem dX6_spell_30 : decode cX6_spell 30 = .ok (.return_, 1) := by decide +kernel
theorem dX6_unpack_0 : decode cX6_unpack 0 = .ok (.aload_n 0, 1) := by decide +kernel
theorem dX6_unpack_1 : decode cX6_unpack 1 = .ok (.iconst 0, 1) := by decide +kernel
theorem dX6_unpack_2 : decode cX6_unpack 2 = .ok (.putfield 15, 3) := by decide +kernel
theorem dX6_unpack_5 : decode cX6_unpack 5 = .ok (.bipush 56, 2) := by decide +kernel
theorem dX6_unpack_7 : decode cX6_unpack 7 = .ok (.istore_n 3, 1) := by decide +kernel
theorem dX6_unpack_8 : decode cX6_unpack 8 = .ok (.iload_n 3, 1) := by decide +kernel
theorem dX6_unpack_9 : decode cX6_unpack 9 = .ok (.ifCond .lt 37, 3) := by decide +kernel
theorem dX6_unpack_12 : decode cX6_unpack 12 = .ok (.lload_n 1, 1) := by decide +kernel
theorem dX6_unpack_13 : decode cX6_unpack 13 = .ok (.iload_n 3, 1) := by decide +kernel
theorem dX6_unpack_14 : decode cX6_unpack 14 = .ok (.lushr, 1) := by decide +kernel
theorem dX6_unpack_15 : decode cX6_unpack 15 = .ok (.l2i, 1) := by decide +kernel
theorem dX6_unpack_16 : decode cX6_unpack 16 = .ok (.sipush 255, 3) := by decide +kernel
theorem dX6_unpack_19 : decode cX6_unpack 19 = .ok (.iand, 1) := by decide +kernel
theorem dX6_unpack_20 : decode cX6_unpack 20 = .ok (.istore 4, 2) := by decide +kernel
theorem dX6_unpack_22 : decode cX6_unpack 22 = .ok (.iload 4, 2) := by decide +kernel
theorem dX6_unpack_24 : decode cX6_unpack 24 = .ok (.ifCond .ne 10, 3) := by decide +kernel
theorem dX6_unpack_27 : decode cX6_unpack 27 = .ok (.aload_n 0, 1) := by decide +kernel
theorem dX6_unpack_28 : decode cX6_unpack 28 = .ok (.getfield 15, 3) := by decide +kernel
theorem dX6_unpack_31 : decode cX6_unpack 31 = .ok (.ifCond .le 9, 3) := by decide +kernel
theorem dX6_unpack_34 : decode cX6_unpack 34 = .ok (.aload_n 0, 1) := by decide +kernel
theorem dX6_unpack_35 : decode cX6_unpack 35 = .ok (.iload 4, 2) := by decide +kernel
theorem dX6_unpack_37 : decode cX6_unpack 37 = .ok (.invokevirtual 28, 3) := by decide +kernel
theorem dX6_unpack_40 : decode cX6_unpack 40 = .ok (.iinc 3 (-8), 3) := by decide +kernel
theorem dX6_unpack_43 : decode cX6_unpack 43 = .ok (.goto (-35), 3) := by decide +kernel
theorem dX6_unpack_46 : decode cX6_unpack 46 = .ok (.return_, 1) := by decide +kernel
theorem dX6_load_0 : decode cX6_load 0 = .ok (.aload_n 0, 1) := by decide +kernel
theorem dX6_load_1 : decode cX6_load 1 = .ok (.iconst 0, 1) := by decide +kernel
theorem dX6_load_2 : decode cX6_load 2 = .ok (.putfield 15, 3) := by decide +kernel
theorem dX6_load_5 : decode cX6_load 5 = .ok (.iconst 0, 1) := by decide +kernel
theorem dX6_load_6 : decode cX6_load 6 = .ok (.istore 4, 2) := by decide +kernel
theorem dX6_load_8 : decode cX6_load 8 = .ok (.iload 4, 2) := by decide +kernel
theorem dX6_load_10 : decode cX6_load 10 = .ok (.iload_n 3, 1) := by decide +kernel
theorem dX6_load_11 : decode cX6_load 11 = .ok (.if_icmp .ge 28, 3) := by decide +kernel
theorem dX6_load_14 : decode cX6_load 14 = .ok (.iload 4, 2) := by decide +kernel
theorem dX6_load_16 : decode cX6_load 16 = .ok (.bipush 14, 2) := by decide +kernel
theorem dX6_load_18 : decode cX6_load 18 = .ok (.if_icmp .ge 21, 3) := by decide +kernel
theorem dX6_load_21 : decode cX6_load 21 = .ok (.aload_n 0, 1) := by decide +kernel
theorem dX6_load_22 : decode cX6_load 22 = .ok (.aload_n 1, 1) := by decide +kernel
theorem dX6_load_23 : decode cX6_load 23 = .ok (.iload_n 2, 1) := by decide +kernel
theorem dX6_load_24 : decode cX6_load 24 = .ok (.iload 4, 2) := by decide +kernel
theorem dX6_load_26 : decode cX6_load 26 = .ok (.iadd, 1) := by decide +kernel
theorem dX6_load_27 : decode cX6_load 27 = .ok (.invokevirtual 32, 3) := by decide +kernel
theorem dX6_load_30 : decode cX6_load 30 = .ok (.invokevirtual 28, 3) := by decide +kernel
theorem dX6_load_33 : decode cX6_load 33 = .ok (.iinc 4 1, 3) := by decide +kernel
theorem dX6_load_36 : decode cX6_load 36 = .ok (.goto (-28), 3) := by decide +kernel
theorem dX6_load_39 : decode cX6_load 39 = .ok (.return_, 1) := by decide +kernel
theorem dX6_number_0 : decode cX6_number 0 = .ok (.aload_n 0, 1) := by decide +kernel
theorem dX6_number_1 : decode cX6_number 1 = .ok (.iconst 0, 1) := by decide +kernel
theorem dX6_number_2 : decode cX6_number 2 = .ok (.putfield 15, 3) := by decide +kernel
theorem dX6_number_5 : decode cX6_number 5 = .ok (.iconst 0, 1) := by decide +kernel
theorem dX6_number_6 : decode cX6_number 6 = .ok (.istore_n 3, 1) := by decide +kernel
theorem dX6_number_7 : decode cX6_number 7 = .ok (.iload_n 3, 1) := by decide +kernel
theorem dX6_number_8 : decode cX6_number 8 = .ok (.iload_n 1, 1) := by decide +kernel
theorem dX6_number_9 : decode cX6_number 9 = .ok (.if_icmp .ge 15, 3) := by decide +kernel
theorem dX6_number_12 : decode cX6_number 12 = .ok (.aload_n 0, 1) := by decide +kernel
theorem dX6_number_13 : decode cX6_number 13 = .ok (.bipush 35, 2) := by decide +kernel
theorem dX6_number_15 : decode cX6_number 15 = .ok (.invokevirtual 28, 3) := by decide +kernel
theorem dX6_number_18 : decode cX6_number 18 = .ok (.iinc 3 1, 3) := by decide +kernel
theorem dX6_number_21 : decode cX6_number 21 = .ok (.goto (-14), 3) := by decide +kernel
theorem dX6_number_24 : decode cX6_number 24 = .ok (.aload_n 0, 1) := by decide +kernel
theorem dX6_number_25 : decode cX6_number 25 = .ok (.bipush 48, 2) := by decide +kernel
theorem dX6_number_27 : decode cX6_number 27 = .ok (.iload_n 2, 1) := by decide +kernel
theorem dX6_number_28 : decode cX6_number 28 = .ok (.bipush 10, 2) := by decide +kernel
theorem dX6_number_30 : decode cX6_number 30 = .ok (.idiv, 1) := by decide +kernel
theorem dX6_number_31 : decode cX6_number 31 = .ok (.iadd, 1) := by decide +kernel
theorem dX6_number_32 : decode cX6_number 32 = .ok (.invokevirtual 28, 3) := by decide +kernel
theorem dX6_number_35 : decode cX6_number 35 = .ok (.aload_n 0, 1) := by decide +kernel
theorem dX6_number_36 : decode cX6_number 36 = .ok (.bipush 48, 2) := by decide +kernel
theorem dX6_number_38 : decode cX6_number 38 = .ok (.iload_n 2, 1) := by decide +kernel
theorem dX6_number_39 : decode cX6_number 39 = .ok (.bipush 10, 2) := by decide +kernel
theorem dX6_number_41 : decode cX6_number 41 = .ok (.irem, 1) := by decide +kernel
theorem dX6_number_42 : decode cX6_number 42 = .ok (.iadd, 1) := by decide +kernel
theorem dX6_number_43 : decode cX6_number 43 = .ok (.invokevirtual 28, 3) := by decide +kernel
theorem dX6_number_46 : decode cX6_number 46 = .ok (.return_, 1) := by decide +kernel
theorem dX6_isAllowed_0 : decode cX6_isAllowed 0 = .ok (.iconst 0, 1) := by decide +kernel
theorem dX6_isAllowed_1 : decode cX6_isAllowed 1 = .ok (.istore_n 1, 1) := by decide +kernel
theorem dX6_isAllowed_2 : decode cX6_isAllowed 2 = .ok (.iconst 0, 1) := by decide +kernel
theorem dX6_isAllowed_3 : decode cX6_isAllowed 3 = .ok (.istore_n 2, 1) := by decide +kernel
theorem dX6_isAllowed_4 : decode cX6_isAllowed 4 = .ok (.iload_n 2, 1) := by decide +kernel
theorem dX6_isAllowed_5 : decode cX6_isAllowed 5 = .ok (.aload_n 0, 1) := by decide +kernel
theorem dX6_isAllowed_6 : decode cX6_isAllowed 6 = .ok (.getfield 15, 3) := by decide +kernel
theorem dX6_isAllowed_9 : decode cX6_isAllowed 9 = .ok (.if_icmp .ge 36, 3) := by decide +kernel
theorem dX6_isAllowed_12 : decode cX6_isAllowed 12 = .ok (.aload_n 0, 1) := by decide +kernel
theorem dX6_isAllowed_13 : decode cX6_isAllowed 13 = .ok (.iload_n 2, 1) := by decide +kernel
theorem dX6_isAllowed_14 : decode cX6_isAllowed 14 = .ok (.invokevirtual 38, 3) := by decide +kernel
theorem dX6_isAllowed_17 : decode cX6_isAllowed 17 = .ok (.istore_n 3, 1) := by decide +kernel
theorem dX6_isAllowed_18 : decode cX6_isAllowed 18 = .ok (.iload_n 3, 1) := by decide +kernel
theorem dX6_isAllowed_19 : decode cX6_isAllowed 19 = .ok (.ifCond .eq 9, 3) := by decide +kernel
theorem dX6_isAllowed_22 : decode cX6_isAllowed 22 = .ok (.iload_n 3, 1) := by decide +kernel
theorem dX6_isAllowed_23 : decode cX6_isAllowed 23 = .ok (.bipush 47, 2) := by decide +kernel
theorem dX6_isAllowed_25 : decode cX6_isAllowed 25 = .ok (.if_icmp .ne 5, 3) := by decide +kernel
theorem dX6_isAllowed_28 : decode cX6_isAllowed 28 = .ok (.iconst 0, 1) := by decide +kernel
theorem dX6_isAllowed_29 : decode cX6_isAllowed 29 = .ok (.ireturn, 1) := by decide +kernel
theorem dX6_isAllowed_30 : decode cX6_isAllowed 30 = .ok (.iload_n 3, 1) := by decide +kernel
theorem dX6_isAllowed_31 : decode cX6_isAllowed 31 = .ok (.bipush 46, 2) := by decide +kernel
theorem dX6_isAllowed_33 : decode cX6_isAllowed 33 = .ok (.if_icmp .ne 6, 3) := by decide +kernel
theorem dX6_isAllowed_36 : decode cX6_isAllowed 36 = .ok (.iinc 1 1, 3) := by decide +kernel
theorem dX6_isAllowed_39 : decode cX6_isAllowed 39 = .ok (.iinc 2 1, 3) := by decide +kernel
theorem dX6_isAllowed_42 : decode cX6_isAllowed 42 = .ok (.goto (-38), 3) := by decide +kernel
theorem dX6_isAllowed_45 : decode cX6_isAllowed 45 = .ok (.aload_n 0, 1) := by decide +kernel
theorem dX6_isAllowed_46 : decode cX6_isAllowed 46 = .ok (.getfield 15, 3) := by decide +kernel
theorem dX6_isAllowed_49 : decode cX6_isAllowed 49 = .ok (.iconst 2, 1) := by decide +kernel
theorem dX6_isAllowed_50 : decode cX6_isAllowed 50 = .ok (.if_icmp .gt 11, 3) := by decide +kernel
theorem dX6_isAllowed_53 : decode cX6_isAllowed 53 = .ok (.iload_n 1, 1) := by decide +kernel
theorem dX6_isAllowed_54 : decode cX6_isAllowed 54 = .ok (.aload_n 0, 1) := by decide +kernel
theorem dX6_isAllowed_55 : decode cX6_isAllowed 55 = .ok (.getfield 15, 3) := by decide +kernel
theorem dX6_isAllowed_58 : decode cX6_isAllowed 58 = .ok (.if_icmp .ge 7, 3) := by decide +kernel
theorem dX6_isAllowed_61 : decode cX6_isAllowed 61 = .ok (.iconst 1, 1) := by decide +kernel
theorem dX6_isAllowed_62 : decode cX6_isAllowed 62 = .ok (.goto 4, 3) := by decide +kernel
theorem dX6_isAllowed_65 : decode cX6_isAllowed 65 = .ok (.iconst 0, 1) := by decide +kernel
theorem dX6_isAllowed_66 : decode cX6_isAllowed 66 = .ok (.ireturn, 1) := by decide +kernel
theorem dX7_init_0 : decode cX7_init 0 = .ok (.aload_n 0, 1) := by decide +kernel
theorem dX7_init_1 : decode cX7_init 1 = .ok (.invokespecial 3, 3) := by decide +kernel
theorem dX7_init_4 : decode cX7_init 4 = .ok (.aload_n 0, 1) := by decide +kernel
theorem dX7_init_5 : decode cX7_init 5 = .ok (.aload_n 1, 1) := by decide +kernel
theorem dX7_init_6 : decode cX7_init 6 = .ok (.putfield 9, 3) := by decide +kernel
theorem dX7_init_9 : decode cX7_init 9 = .ok (.aload_n 0, 1) := by decide +kernel
theorem dX7_init_10 : decode cX7_init 10 = .ok (.aload_n 2, 1) := by decide +kernel
theorem dX7_init_11 : decode cX7_init 11 = .ok (.putfield 15, 3) := by decide +kernel
theorem dX7_init_14 : decode cX7_init 14 = .ok (.aload_n 0, 1) := by decide +kernel
theorem dX7_init_15 : decode cX7_init 15 = .ok (.aload_n 3, 1) := by decide +kernel
theorem dX7_init_16 : decode cX7_init 16 = .ok (.putfield 18, 3) := by decide +kernel
theorem dX7_init_19 : decode cX7_init 19 = .ok (.aload_n 0, 1) := by decide +kernel
theorem dX7_init_20 : decode cX7_init 20 = .ok (.aload 4, 2) := by decide +kernel
theorem dX7_init_22 : decode cX7_init 22 = .ok (.putfield 22, 3) := by decide +kernel
theorem dX7_init_25 : decode cX7_init 25 = .ok (.aload_n 0, 1) := by decide +kernel
theorem dX7_init_26 : decode cX7_init 26 = .ok (.new 26, 3) := by decide +kernel
theorem dX7_init_29 : decode cX7_init 29 = .ok (.dup, 1) := by decide +kernel
theorem dX7_init_30 : decode cX7_init 30 = .ok (.aload_n 2, 1) := by decide +kernel
theorem dX7_init_31 : decode cX7_init 31 = .ok (.aload_n 3, 1) := by decide +kernel
theorem dX7_init_32 : decode cX7_init 32 = .ok (.aload 4, 2) := by decide +kernel
theorem dX7_init_34 : decode cX7_init 34 = .ok (.invokespecial 28, 3) := by decide +kernel
theorem dX7_init_37 : decode cX7_init 37 = .ok (.putfield 31, 3) := by decide +kernel
theorem dX7_init_40 : decode cX7_init 40 = .ok (.aload_n 0, 1) := by decide +kernel
theorem dX7_init_41 : decode cX7_init 41 = .ok (.new 35, 3) := by decide +kernel
theorem dX7_init_44 : decode cX7_init 44 = .ok (.dup, 1) := by decide +kernel
theorem dX7_init_45 : decode cX7_init 45 = .ok (.aload_n 2, 1) := by decide +kernel
theorem dX7_init_46 : decode cX7_init 46 = .ok (.aload_n 3, 1) := by decide +kernel
theorem dX7_init_47 : decode cX7_init 47 = .ok (.aload 4, 2) := by decide +kernel
theorem dX7_init_49 : decode cX7_init 49 = .ok (.invokespecial 37, 3) := by decide +kernel
theorem dX7_init_52 : decode cX7_init 52 = .ok (.putfield 38, 3) := by decide +kernel
theorem dX7_init_55 : decode cX7_init 55 = .ok (.return_, 1) := by decide +kernel
theorem dX7_plan_0 : decode cX7_plan 0 = .ok (.aload_n 0, 1) := by decide +kernel
theorem dX7_plan_1 : decode cX7_plan 1 = .ok (.getfield 9, 3) := by decide +kernel
theorem dX7_plan_4 : decode cX7_plan 4 = .ok (.iconst 0, 1) := by decide +kernel
theorem dX7_plan_5 : decode cX7_plan 5 = .ok (.invokestatic 42, 3) := by decide +kernel
theorem dX7_plan_8 : decode cX7_plan 8 = .ok (.ifCond .ne 17, 3) := by decide +kernel
theorem dX7_plan_11 : decode cX7_plan 11 = .ok (.aload_n 0, 1) := by decide +kernel
theorem dX7_plan_12 : decode cX7_plan 12 = .ok (.getfield 9, 3) := by decide +kernel
theorem dX7_plan_15 : decode cX7_plan 15 = .ok (.bipush 63, 2) := by decide +kernel
theorem dX7_plan_17 : decode cX7_plan 17 = .ok (.invokestatic 42, 3) := by decide +kernel
theorem dX7_plan_20 : decode cX7_plan 20 = .ok (.ifCond .ne 5, 3) := by decide +kernel
theorem dX7_plan_23 : decode cX7_plan 23 = .ok (.iconst (-1), 1) := by decide +kernel
theorem dX7_plan_24 : decode cX7_plan 24 = .ok (.ireturn, 1) := by decide +kernel
theorem dX7_plan_25 : decode cX7_plan 25 = .ok (.aload_n 0, 1) := by decide +kernel
theorem dX7_plan_26 : decode cX7_plan 26 = .ok (.getfield 15, 3) := by decide +kernel
theorem dX7_plan_29 : decode cX7_plan 29 = .ok (.aload_n 0, 1) := by decide +kernel
theorem dX7_plan_30 : decode cX7_plan 30 = .ok (.getfield 9, 3) := by decide +kernel
theorem dX7_plan_33 : decode cX7_plan 33 = .ok (.invokevirtual 48, 3) := by decide +kernel
theorem dX7_plan_36 : decode cX7_plan 36 = .ok (.aload_n 0, 1) := by decide +kernel
theorem dX7_plan_37 : decode cX7_plan 37 = .ok (.getfield 15, 3) := by decide +kernel
theorem dX7_plan_40 : decode cX7_plan 40 = .ok (.invokestatic 54, 3) := by decide +kernel
theorem dX7_plan_43 : decode cX7_plan 43 = .ok (.aload_n 0, 1) := by decide +kernel
theorem dX7_plan_44 : decode cX7_plan 44 = .ok (.getfield 31, 3) := by decide +kernel
theorem dX7_plan_47 : decode cX7_plan 47 = .ok (.invokevirtual 59, 3) := by decide +kernel
theorem dX7_plan_50 : decode cX7_plan 50 = .ok (.aload_n 0, 1) := by decide +kernel
theorem dX7_plan_51 : decode cX7_plan 51 = .ok (.getfield 31, 3) := by decide +kernel
theorem dX7_plan_54 : decode cX7_plan 54 = .ok (.iconst 1, 1) := by decide +kernel
theorem dX7_plan_55 : decode cX7_plan 55 = .ok (.invokevirtual 62, 3) := by decide +kernel
theorem dX7_plan_58 : decode cX7_plan 58 = .ok (.aload_n 0, 1) := by decide +kernel
theorem dX7_plan_59 : decode cX7_plan 59 = .ok (.getfield 31, 3) := by decide +kernel
theorem dX7_plan_62 : decode cX7_plan 62 = .ok (.iconst 2, 1) := by decide +kernel
theorem dX7_plan_63 : decode cX7_plan 63 = .ok (.invokevirtual 62, 3) := by decide +kernel
theorem dX7_plan_66 : decode cX7_plan 66 = .ok (.iconst 1, 1) := by decide +kernel
theorem dX7_plan_67 : decode cX7_plan 67 = .ok (.istore_n 1, 1) := by decide +kernel
theorem dX7_plan_68 : decode cX7_plan 68 = .ok (.iload_n 1, 1) := by decide +kernel
theorem dX7_plan_69 : decode cX7_plan 69 = .ok (.bipush 32, 2) := by decide +kernel
theorem dX7_plan_71 : decode cX7_plan 71 = .ok (.if_icmp .ge 29, 3) := by decide +kernel
theorem dX7_plan_74 : decode cX7_plan 74 = .ok (.aload_n 0, 1) := by decide +kernel
theorem dX7_plan_75 : decode cX7_plan 75 = .ok (.getfield 18, 3) := by decide +kernel
theorem dX7_plan_78 : decode cX7_plan 78 = .ok (.iload_n 1, 1) := by decide +kernel
theorem dX7_plan_79 : decode cX7_plan 79 = .ok (.invokevirtual 66, 3) := by decide +kernel
theorem dX7_plan_82 : decode cX7_plan 82 = .ok (.iconst 2, 1) := by decide +kernel
theorem dX7_plan_83 : decode cX7_plan 83 = .ok (.if_icmp .ne 11, 3) := by decide +kernel
theorem dX7_plan_86 : decode cX7_plan 86 = .ok (.aload_n 0, 1) := by decide +kernel
theorem dX7_plan_87 : decode cX7_plan 87 = .ok (.getfield 22, 3) := by decide +kernel
theorem dX7_plan_90 : decode cX7_plan 90 = .ok (.iload_n 1, 1) := by decide +kernel
theorem dX7_plan_91 : decode cX7_plan 91 = .ok (.invokevirtual 72, 3) := by decide +kernel
theorem dX7_plan_94 : decode cX7_plan 94 = .ok (.iinc 1 1, 3) := by decide +kernel
theorem dX7_plan_97 : decode cX7_plan 97 = .ok (.goto (-29), 3) := by decide +kernel
theorem dX7_plan_100 : decode cX7_plan 100 = .ok (.aload_n 0, 1) := by decide +kernel
theorem dX7_plan_101 : decode cX7_plan 101 = .ok (.getfield 38, 3) := by decide +kernel
theorem dX7_plan_104 : decode cX7_plan 104 = .ok (.invokevirtual 77, 3) := by decide +kernel
theorem dX7_plan_107 : decode cX7_plan 107 = .ok (.aload_n 0, 1) := by decide +kernel
theorem dX7_plan_108 : decode cX7_plan 108 = .ok (.invokevirtual 80, 3) := by decide +kernel
theorem dX7_plan_111 : decode cX7_plan 111 = .ok (.aload_n 0, 1) := by decide +kernel
theorem dX7_plan_112 : decode cX7_plan 112 = .ok (.invokevirtual 83, 3) := by decide +kernel
theorem dX7_plan_115 : decode cX7_plan 115 = .ok (.ireturn, 1) := by decide +kernel
theorem dX7_settle_0 : decode cX7_settle 0 = .ok (.aload_n 0, 1) := by decide +kernel
theorem dX7_settle_1 : decode cX7_settle 1 = .ok (.getfield 22, 3) := by decide +kernel
theorem dX7_settle_4 : decode cX7_settle 4 = .ok (.invokevirtual 87, 3) := by decide +kernel
theorem dX7_settle_7 : decode cX7_settle 7 = .ok (.iconst 0, 1) := by decide +kernel
theorem dX7_settle_8 : decode cX7_settle 8 = .ok (.istore_n 1, 1) := by decide +kernel
theorem dX7_settle_9 : decode cX7_settle 9 = .ok (.iconst 1, 1) := by decide +kernel
theorem dX7_settle_10 : decode cX7_settle 10 = .ok (.istore_n 2, 1) := by decide +kernel
theorem dX7_settle_11 : decode cX7_settle 11 = .ok (.iload_n 2, 1) := by decide +kernel
theorem dX7_settle_12 : decode cX7_settle 12 = .ok (.bipush 32, 2) := by decide +kernel
theorem dX7_settle_14 : decode cX7_settle 14 = .ok (.if_icmp .ge 36, 3) := by decide +kernel
theorem dX7_settle_17 : decode cX7_settle 17 = .ok (.aload_n 0, 1) := by decide +kernel
theorem dX7_settle_18 : decode cX7_settle 18 = .ok (.getfield 18, 3) := by decide +kernel
theorem dX7_settle_21 : decode cX7_settle 21 = .ok (.iload_n 2, 1) := by decide +kernel
theorem dX7_settle_22 : decode cX7_settle 22 = .ok (.invokevirtual 90, 3) := by decide +kernel
theorem dX7_settle_25 : decode cX7_settle 25 = .ok (.iload_n 1, 1) := by decide +kernel
theorem dX7_settle_26 : decode cX7_settle 26 = .ok (.aload_n 0, 1) := by decide +kernel
theorem dX7_settle_27 : decode cX7_settle 27 = .ok (.getfield 18, 3) := by decide +kernel
theorem dX7_settle_30 : decode cX7_settle 30 = .ok (.iload_n 2, 1) := by decide +kernel
theorem dX7_settle_31 : decode cX7_settle 31 = .ok (.invokevirtual 66, 3) := by decide +kernel
theorem dX7_settle_34 : decode cX7_settle 34 = .ok (.ifCond .ne 7, 3) := by decide +kernel
theorem dX7_settle_37 : decode cX7_settle 37 = .ok (.iconst 1, 1) := by decide +kernel
theorem dX7_settle_38 : decode cX7_settle 38 = .ok (.goto 4, 3) := by decide +kernel
theorem dX7_settle_41 : decode cX7_settle 41 = .ok (.iconst 0, 1) := by decide +kernel
theorem dX7_settle_42 : decode cX7_settle 42 = .ok (.iadd, 1) := by decide +kernel
theorem dX7_settle_43 : decode cX7_settle 43 = .ok (.istore_n 1, 1) := by decide +kernel
theorem dX7_settle_44 : decode cX7_settle 44 = .ok (.iinc 2 1, 3) := by decide +kernel
theorem dX7_settle_47 : decode cX7_settle 47 = .ok (.goto (-36), 3) := by decide +kernel
theorem dX7_settle_50 : decode cX7_settle 50 = .ok (.aload_n 0, 1) := by decide +kernel
theorem dX7_settle_51 : decode cX7_settle 51 = .ok (.invokevirtual 93, 3) := by decide +kernel
theorem dX7_settle_54 : decode cX7_settle 54 = .ok (.bipush 47, 2) := by decide +kernel
theorem dX7_settle_56 : decode cX7_settle 56 = .ok (.aload_n 0, 1) := by decide +kernel
theorem dX7_settle_57 : decode cX7_settle 57 = .ok (.getfield 18, 3) := by decide +kernel
theorem dX7_settle_60 : decode cX7_settle 60 = .ok (.invokevirtual 96, 3) := by decide +kernel
theorem dX7_settle_63 : decode cX7_settle 63 = .ok (.invokestatic 100, 3) := by decide +kernel
theorem dX7_settle_66 : decode cX7_settle 66 = .ok (.isub, 1) := by decide +kernel
theorem dX7_settle_67 : decode cX7_settle 67 = .ok (.istore_n 2, 1) := by decide +kernel
theorem dX7_settle_68 : decode cX7_settle 68 = .ok (.aload_n 0, 1) := by decide +kernel
theorem dX7_settle_69 : decode cX7_settle 69 = .ok (.getfield 15, 3) := by decide +kernel
theorem dX7_settle_72 : decode cX7_settle 72 = .ok (.iconst 0, 1) := by decide +kernel
theorem dX7_settle_73 : decode cX7_settle 73 = .ok (.iload_n 2, 1) := by decide +kernel
theorem dX7_settle_74 : decode cX7_settle 74 = .ok (.iload_n 1, 1) := by decide +kernel
theorem dX7_settle_75 : decode cX7_settle 75 = .ok (.invokestatic 106, 3) := by decide +kernel
theorem dX7_settle_78 : decode cX7_settle 78 = .ok (.aload_n 0, 1) := by decide +kernel
theorem dX7_settle_79 : decode cX7_settle 79 = .ok (.getfield 15, 3) := by decide +kernel
theorem dX7_settle_82 : decode cX7_settle 82 = .ok (.bipush 63, 2) := by decide +kernel
theorem dX7_settle_84 : decode cX7_settle 84 = .ok (.iload_n 2, 1) := by decide +kernel
theorem dX7_settle_85 : decode cX7_settle 85 = .ok (.iload_n 1, 1) := by decide +kernel
theorem dX7_settle_86 : decode cX7_settle 86 = .ok (.invokestatic 106, 3) := by decide +kernel
theorem dX7_settle_89 : decode cX7_settle 89 = .ok (.return_, 1) := by decide +kernel
theorem dX7_writeMaps_0 : decode cX7_writeMaps 0 = .ok (.sipush 448, 3) := by decide +kernel
theorem dX7_writeMaps_3 : decode cX7_writeMaps 3 = .ok (.istore_n 1, 1) := by decide +kernel
theorem dX7_writeMaps_4 : decode cX7_writeMaps 4 = .ok (.aload_n 0, 1) := by decide +kernel
theorem dX7_writeMaps_5 : decode cX7_writeMaps 5 = .ok (.getfield 15, 3) := by decide +kernel
theorem dX7_writeMaps_8 : decode cX7_writeMaps 8 = .ok (.iload_n 1, 1) := by decide +kernel
theorem dX7_writeMaps_9 : decode cX7_writeMaps 9 = .ok (.bipush 64, 2) := by decide +kernel
theorem dX7_writeMaps_11 : decode cX7_writeMaps 11 = .ok (.invokevirtual 110, 3) := by decide +kernel
theorem dX7_writeMaps_14 : decode cX7_writeMaps 14 = .ok (.iconst 0, 1) := by decide +kernel
theorem dX7_writeMaps_15 : decode cX7_writeMaps 15 = .ok (.istore_n 2, 1) := by decide +kernel
theorem dX7_writeMaps_16 : decode cX7_writeMaps 16 = .ok (.iload_n 2, 1) := by decide +kernel
theorem dX7_writeMaps_17 : decode cX7_writeMaps 17 = .ok (.bipush 64, 2) := by decide +kernel
theorem dX7_writeMaps_19 : decode cX7_writeMaps 19 = .ok (.if_icmp .ge 38, 3) := by decide +kernel
theorem dX7_writeMaps_22 : decode cX7_writeMaps 22 = .ok (.iload_n 2, 1) := by decide +kernel
theorem dX7_writeMaps_23 : decode cX7_writeMaps 23 = .ok (.invokestatic 114, 3) := by decide +kernel
theorem dX7_writeMaps_26 : decode cX7_writeMaps 26 = .ok (.ifCond .eq 19, 3) := by decide +kernel
theorem dX7_writeMaps_29 : decode cX7_writeMaps 29 = .ok (.aload_n 0, 1) := by decide +kernel
theorem dX7_writeMaps_30 : decode cX7_writeMaps 30 = .ok (.getfield 18, 3) := by decide +kernel
theorem dX7_writeMaps_33 : decode cX7_writeMaps 33 = .ok (.invokevirtual 96, 3) := by decide +kernel
theorem dX7_writeMaps_36 : decode cX7_writeMaps 36 = .ok (.iload_n 2, 1) := by decide +kernel
theorem dX7_writeMaps_37 : decode cX7_writeMaps 37 = .ok (.lshr, 1) := by decide +kernel
theorem dX7_writeMaps_38 : decode cX7_writeMaps 38 = .ok (.lconst 1, 1) := by decide +kernel
theorem dX7_writeMaps_39 : decode cX7_writeMaps 39 = .ok (.land, 1) := by decide +kernel
theorem dX7_writeMaps_40 : decode cX7_writeMaps 40 = .ok (.lconst 0, 1) := by decide +kernel
theorem dX7_writeMaps_41 : decode cX7_writeMaps 41 = .ok (.lcmp, 1) := by decide +kernel
theorem dX7_writeMaps_42 : decode cX7_writeMaps 42 = .ok (.ifCond .eq 9, 3) := by decide +kernel
theorem dX7_writeMaps_45 : decode cX7_writeMaps 45 = .ok (.aload_n 0, 1) := by decide +kernel
theorem dX7_writeMaps_46 : decode cX7_writeMaps 46 = .ok (.iload_n 1, 1) := by decide +kernel
theorem dX7_writeMaps_47 : decode cX7_writeMaps 47 = .ok (.iload_n 2, 1) := by decide +kernel
theorem dX7_writeMaps_48 : decode cX7_writeMaps 48 = .ok (.invokevirtual 118, 3) := by decide +kernel
theorem dX7_writeMaps_51 : decode cX7_writeMaps 51 = .ok (.iinc 2 1, 3) := by decide +kernel
theorem dX7_writeMaps_54 : decode cX7_writeMaps 54 = .ok (.goto (-38), 3) := by decide +kernel
theorem dX7_writeMaps_57 : decode cX7_writeMaps 57 = .ok (.iconst 0, 1) := by decide +kernel
theorem dX7_writeMaps_58 : decode cX7_writeMaps 58 = .ok (.istore_n 2, 1) := by decide +kernel
