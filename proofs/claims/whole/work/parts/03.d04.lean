theorem dX11_grow_21 : decode cX11_grow 21 = .ok (.if_icmp .eq 12, 3) := by decide +kernel
theorem dX11_grow_24 : decode cX11_grow 24 = .ok (.aload_n 0, 1) := by decide +kernel
theorem dX11_grow_25 : decode cX11_grow 25 = .ok (.iload 4, 2) := by decide +kernel
theorem dX11_grow_27 : decode cX11_grow 27 = .ok (.invokevirtual 97, 3) := by decide +kernel
theorem dX11_grow_30 : decode cX11_grow 30 = .ok (.goto 4, 3) := by decide +kernel
theorem dX11_grow_33 : decode cX11_grow 33 = .ok (.iconst (-1), 1) := by decide +kernel
theorem dX11_grow_34 : decode cX11_grow 34 = .ok (.istore 5, 2) := by decide +kernel
theorem dX11_grow_36 : decode cX11_grow 36 = .ok (.iload 4, 2) := by decide +kernel
theorem dX11_grow_38 : decode cX11_grow 38 = .ok (.iconst (-1), 1) := by decide +kernel
theorem dX11_grow_39 : decode cX11_grow 39 = .ok (.if_icmp .eq 27, 3) := by decide +kernel
theorem dX11_grow_42 : decode cX11_grow 42 = .ok (.iload_n 3, 1) := by decide +kernel
theorem dX11_grow_43 : decode cX11_grow 43 = .ok (.iconst 5, 1) := by decide +kernel
theorem dX11_grow_44 : decode cX11_grow 44 = .ok (.if_icmp .ne 9, 3) := by decide +kernel
theorem dX11_grow_47 : decode cX11_grow 47 = .ok (.iload 5, 2) := by decide +kernel
theorem dX11_grow_49 : decode cX11_grow 49 = .ok (.iconst (-1), 1) := by decide +kernel
theorem dX11_grow_50 : decode cX11_grow 50 = .ok (.if_icmp .eq 16, 3) := by decide +kernel
theorem dX11_grow_53 : decode cX11_grow 53 = .ok (.aload_n 0, 1) := by decide +kernel
theorem dX11_grow_54 : decode cX11_grow 54 = .ok (.iload_n 1, 1) := by decide +kernel
theorem dX11_grow_55 : decode cX11_grow 55 = .ok (.invokevirtual 45, 3) := by decide +kernel
theorem dX11_grow_58 : decode cX11_grow 58 = .ok (.iload_n 2, 1) := by decide +kernel
theorem dX11_grow_59 : decode cX11_grow 59 = .ok (.iadd, 1) := by decide +kernel
theorem dX11_grow_60 : decode cX11_grow 60 = .ok (.sipush 2944, 3) := by decide +kernel
theorem dX11_grow_63 : decode cX11_grow 63 = .ok (.if_icmp .le 5, 3) := by decide +kernel
theorem dX11_grow_66 : decode cX11_grow 66 = .ok (.iconst 0, 1) := by decide +kernel
theorem dX11_grow_67 : decode cX11_grow 67 = .ok (.ireturn, 1) := by decide +kernel
theorem dX11_grow_68 : decode cX11_grow 68 = .ok (.aload_n 0, 1) := by decide +kernel
theorem dX11_grow_69 : decode cX11_grow 69 = .ok (.bipush 64, 2) := by decide +kernel
theorem dX11_grow_71 : decode cX11_grow 71 = .ok (.iload 4, 2) := by decide +kernel
theorem dX11_grow_73 : decode cX11_grow 73 = .ok (.imul, 1) := by decide +kernel
theorem dX11_grow_74 : decode cX11_grow 74 = .ok (.bipush 64, 2) := by decide +kernel
theorem dX11_grow_76 : decode cX11_grow 76 = .ok (.invokevirtual 65, 3) := by decide +kernel
theorem dX11_grow_79 : decode cX11_grow 79 = .ok (.iload_n 3, 1) := by decide +kernel
theorem dX11_grow_80 : decode cX11_grow 80 = .ok (.iconst 5, 1) := by decide +kernel
theorem dX11_grow_81 : decode cX11_grow 81 = .ok (.if_icmp .ge 21, 3) := by decide +kernel
theorem dX11_grow_84 : decode cX11_grow 84 = .ok (.aload_n 0, 1) := by decide +kernel
theorem dX11_grow_85 : decode cX11_grow 85 = .ok (.getfield 13, 3) := by decide +kernel
theorem dX11_grow_88 : decode cX11_grow 88 = .ok (.iload_n 1, 1) := by decide +kernel
theorem dX11_grow_89 : decode cX11_grow 89 = .ok (.invokestatic 42, 3) := by decide +kernel
theorem dX11_grow_92 : decode cX11_grow 92 = .ok (.iconst 4, 1) := by decide +kernel
theorem dX11_grow_93 : decode cX11_grow 93 = .ok (.iadd, 1) := by decide +kernel
theorem dX11_grow_94 : decode cX11_grow 94 = .ok (.iload_n 3, 1) := by decide +kernel
theorem dX11_grow_95 : decode cX11_grow 95 = .ok (.iadd, 1) := by decide +kernel
theorem dX11_grow_96 : decode cX11_grow 96 = .ok (.iload 4, 2) := by decide +kernel
theorem dX11_grow_98 : decode cX11_grow 98 = .ok (.iastore, 1) := by decide +kernel
theorem dX11_grow_99 : decode cX11_grow 99 = .ok (.goto 59, 3) := by decide +kernel
theorem dX11_grow_102 : decode cX11_grow 102 = .ok (.iload_n 3, 1) := by decide +kernel
theorem dX11_grow_103 : decode cX11_grow 103 = .ok (.iconst 5, 1) := by decide +kernel
theorem dX11_grow_104 : decode cX11_grow 104 = .ok (.if_icmp .ne 28, 3) := by decide +kernel
theorem dX11_grow_107 : decode cX11_grow 107 = .ok (.aload_n 0, 1) := by decide +kernel
theorem dX11_grow_108 : decode cX11_grow 108 = .ok (.bipush 64, 2) := by decide +kernel
theorem dX11_grow_110 : decode cX11_grow 110 = .ok (.iload 5, 2) := by decide +kernel
theorem dX11_grow_112 : decode cX11_grow 112 = .ok (.imul, 1) := by decide +kernel
theorem dX11_grow_113 : decode cX11_grow 113 = .ok (.bipush 64, 2) := by decide +kernel
theorem dX11_grow_115 : decode cX11_grow 115 = .ok (.invokevirtual 65, 3) := by decide +kernel
theorem dX11_grow_118 : decode cX11_grow 118 = .ok (.aload_n 0, 1) := by decide +kernel
theorem dX11_grow_119 : decode cX11_grow 119 = .ok (.getfield 13, 3) := by decide +kernel
theorem dX11_grow_122 : decode cX11_grow 122 = .ok (.iload_n 1, 1) := by decide +kernel
theorem dX11_grow_123 : decode cX11_grow 123 = .ok (.invokestatic 42, 3) := by decide +kernel
theorem dX11_grow_126 : decode cX11_grow 126 = .ok (.bipush 9, 2) := by decide +kernel
theorem dX11_grow_128 : decode cX11_grow 128 = .ok (.iadd, 1) := by decide +kernel
theorem dX11_grow_129 : decode cX11_grow 129 = .ok (.iload 5, 2) := by decide +kernel
theorem dX11_grow_131 : decode cX11_grow 131 = .ok (.iastore, 1) := by decide +kernel
theorem dX11_grow_132 : decode cX11_grow 132 = .ok (.aload_n 0, 1) := by decide +kernel
theorem dX11_grow_133 : decode cX11_grow 133 = .ok (.getfield 13, 3) := by decide +kernel
theorem dX11_grow_136 : decode cX11_grow 136 = .ok (.bipush 64, 2) := by decide +kernel
theorem dX11_grow_138 : decode cX11_grow 138 = .ok (.aload_n 0, 1) := by decide +kernel
theorem dX11_grow_139 : decode cX11_grow 139 = .ok (.getfield 13, 3) := by decide +kernel
theorem dX11_grow_142 : decode cX11_grow 142 = .ok (.iload_n 1, 1) := by decide +kernel
theorem dX11_grow_143 : decode cX11_grow 143 = .ok (.invokestatic 42, 3) := by decide +kernel
theorem dX11_grow_146 : decode cX11_grow 146 = .ok (.bipush 9, 2) := by decide +kernel
theorem dX11_grow_148 : decode cX11_grow 148 = .ok (.iadd, 1) := by decide +kernel
theorem dX11_grow_149 : decode cX11_grow 149 = .ok (.iaload, 1) := by decide +kernel
theorem dX11_grow_150 : decode cX11_grow 150 = .ok (.imul, 1) := by decide +kernel
theorem dX11_grow_151 : decode cX11_grow 151 = .ok (.iload_n 3, 1) := by decide +kernel
theorem dX11_grow_152 : decode cX11_grow 152 = .ok (.iadd, 1) := by decide +kernel
theorem dX11_grow_153 : decode cX11_grow 153 = .ok (.iconst 5, 1) := by decide +kernel
theorem dX11_grow_154 : decode cX11_grow 154 = .ok (.isub, 1) := by decide +kernel
theorem dX11_grow_155 : decode cX11_grow 155 = .ok (.iload 4, 2) := by decide +kernel
theorem dX11_grow_157 : decode cX11_grow 157 = .ok (.iastore, 1) := by decide +kernel
theorem dX11_grow_158 : decode cX11_grow 158 = .ok (.aload_n 0, 1) := by decide +kernel
theorem dX11_grow_159 : decode cX11_grow 159 = .ok (.iload_n 1, 1) := by decide +kernel
theorem dX11_grow_160 : decode cX11_grow 160 = .ok (.invokestatic 42, 3) := by decide +kernel
theorem dX11_grow_163 : decode cX11_grow 163 = .ok (.iconst 2, 1) := by decide +kernel
theorem dX11_grow_164 : decode cX11_grow 164 = .ok (.iadd, 1) := by decide +kernel
theorem dX11_grow_165 : decode cX11_grow 165 = .ok (.aload_n 0, 1) := by decide +kernel
theorem dX11_grow_166 : decode cX11_grow 166 = .ok (.iload_n 1, 1) := by decide +kernel
theorem dX11_grow_167 : decode cX11_grow 167 = .ok (.invokevirtual 45, 3) := by decide +kernel
theorem dX11_grow_170 : decode cX11_grow 170 = .ok (.iload_n 2, 1) := by decide +kernel
theorem dX11_grow_171 : decode cX11_grow 171 = .ok (.iadd, 1) := by decide +kernel
theorem dX11_grow_172 : decode cX11_grow 172 = .ok (.invokevirtual 103, 3) := by decide +kernel
theorem dX11_grow_175 : decode cX11_grow 175 = .ok (.iconst 1, 1) := by decide +kernel
theorem dX11_grow_176 : decode cX11_grow 176 = .ok (.ireturn, 1) := by decide +kernel
theorem dX11_putEntry_0 : decode cX11_putEntry 0 = .ok (.iconst 2, 1) := by decide +kernel
theorem dX11_putEntry_1 : decode cX11_putEntry 1 = .ok (.istore_n 3, 1) := by decide +kernel
theorem dX11_putEntry_2 : decode cX11_putEntry 2 = .ok (.iload_n 3, 1) := by decide +kernel
theorem dX11_putEntry_3 : decode cX11_putEntry 3 = .ok (.aload_n 0, 1) := by decide +kernel
theorem dX11_putEntry_4 : decode cX11_putEntry 4 = .ok (.iload_n 1, 1) := by decide +kernel
theorem dX11_putEntry_5 : decode cX11_putEntry 5 = .ok (.invokevirtual 106, 3) := by decide +kernel
theorem dX11_putEntry_8 : decode cX11_putEntry 8 = .ok (.if_icmp .ge 23, 3) := by decide +kernel
theorem dX11_putEntry_11 : decode cX11_putEntry 11 = .ok (.aload_n 0, 1) := by decide +kernel
theorem dX11_putEntry_12 : decode cX11_putEntry 12 = .ok (.getfield 13, 3) := by decide +kernel
theorem dX11_putEntry_15 : decode cX11_putEntry 15 = .ok (.aload_n 0, 1) := by decide +kernel
theorem dX11_putEntry_16 : decode cX11_putEntry 16 = .ok (.iload_n 1, 1) := by decide +kernel
theorem dX11_putEntry_17 : decode cX11_putEntry 17 = .ok (.iload_n 3, 1) := by decide +kernel
theorem dX11_putEntry_18 : decode cX11_putEntry 18 = .ok (.invokevirtual 73, 3) := by decide +kernel
theorem dX11_putEntry_21 : decode cX11_putEntry 21 = .ok (.iaload, 1) := by decide +kernel
theorem dX11_putEntry_22 : decode cX11_putEntry 22 = .ok (.ifCond .eq 9, 3) := by decide +kernel
theorem dX11_putEntry_25 : decode cX11_putEntry 25 = .ok (.iinc 3 1, 3) := by decide +kernel
theorem dX11_putEntry_28 : decode cX11_putEntry 28 = .ok (.goto (-26), 3) := by decide +kernel
theorem dX11_putEntry_31 : decode cX11_putEntry 31 = .ok (.iload_n 3, 1) := by decide +kernel
theorem dX11_putEntry_32 : decode cX11_putEntry 32 = .ok (.aload_n 0, 1) := by decide +kernel
theorem dX11_putEntry_33 : decode cX11_putEntry 33 = .ok (.iload_n 1, 1) := by decide +kernel
theorem dX11_putEntry_34 : decode cX11_putEntry 34 = .ok (.invokevirtual 106, 3) := by decide +kernel
theorem dX11_putEntry_37 : decode cX11_putEntry 37 = .ok (.if_icmp .ne 15, 3) := by decide +kernel
theorem dX11_putEntry_40 : decode cX11_putEntry 40 = .ok (.aload_n 0, 1) := by decide +kernel
theorem dX11_putEntry_41 : decode cX11_putEntry 41 = .ok (.iload_n 1, 1) := by decide +kernel
theorem dX11_putEntry_42 : decode cX11_putEntry 42 = .ok (.bipush 64, 2) := by decide +kernel
theorem dX11_putEntry_44 : decode cX11_putEntry 44 = .ok (.invokevirtual 142, 3) := by decide +kernel
theorem dX11_putEntry_47 : decode cX11_putEntry 47 = .ok (.ifCond .ne 5, 3) := by decide +kernel
theorem dX11_putEntry_50 : decode cX11_putEntry 50 = .ok (.iconst 0, 1) := by decide +kernel
theorem dX11_putEntry_51 : decode cX11_putEntry 51 = .ok (.ireturn, 1) := by decide +kernel
theorem dX11_putEntry_52 : decode cX11_putEntry 52 = .ok (.aload_n 0, 1) := by decide +kernel
theorem dX11_putEntry_53 : decode cX11_putEntry 53 = .ok (.aload_n 0, 1) := by decide +kernel
theorem dX11_putEntry_54 : decode cX11_putEntry 54 = .ok (.iload_n 1, 1) := by decide +kernel
theorem dX11_putEntry_55 : decode cX11_putEntry 55 = .ok (.iload_n 3, 1) := by decide +kernel
theorem dX11_putEntry_56 : decode cX11_putEntry 56 = .ok (.invokevirtual 73, 3) := by decide +kernel
theorem dX11_putEntry_59 : decode cX11_putEntry 59 = .ok (.iload_n 2, 1) := by decide +kernel
theorem dX11_putEntry_60 : decode cX11_putEntry 60 = .ok (.invokevirtual 112, 3) := by decide +kernel
theorem dX11_putEntry_63 : decode cX11_putEntry 63 = .ok (.iconst 1, 1) := by decide +kernel
theorem dX11_putEntry_64 : decode cX11_putEntry 64 = .ok (.ireturn, 1) := by decide +kernel
theorem dX11_drop_0 : decode cX11_drop 0 = .ok (.aload_n 0, 1) := by decide +kernel
theorem dX11_drop_1 : decode cX11_drop 1 = .ok (.iload_n 1, 1) := by decide +kernel
theorem dX11_drop_2 : decode cX11_drop 2 = .ok (.invokestatic 42, 3) := by decide +kernel
theorem dX11_drop_5 : decode cX11_drop 5 = .ok (.bipush 16, 2) := by decide +kernel
theorem dX11_drop_7 : decode cX11_drop 7 = .ok (.invokevirtual 65, 3) := by decide +kernel
theorem dX11_drop_10 : decode cX11_drop 10 = .ok (.iconst 1, 1) := by decide +kernel
theorem dX11_drop_11 : decode cX11_drop 11 = .ok (.istore_n 2, 1) := by decide +kernel
theorem dX11_drop_12 : decode cX11_drop 12 = .ok (.iload_n 2, 1) := by decide +kernel
theorem dX11_drop_13 : decode cX11_drop 13 = .ok (.bipush 32, 2) := by decide +kernel
theorem dX11_drop_15 : decode cX11_drop 15 = .ok (.if_icmp .ge 62, 3) := by decide +kernel
theorem dX11_drop_18 : decode cX11_drop 18 = .ok (.iconst 2, 1) := by decide +kernel
theorem dX11_drop_19 : decode cX11_drop 19 = .ok (.istore_n 3, 1) := by decide +kernel
theorem dX11_drop_20 : decode cX11_drop 20 = .ok (.aload_n 0, 1) := by decide +kernel
theorem dX11_drop_21 : decode cX11_drop 21 = .ok (.iload_n 2, 1) := by decide +kernel
theorem dX11_drop_22 : decode cX11_drop 22 = .ok (.invokevirtual 62, 3) := by decide +kernel
theorem dX11_drop_25 : decode cX11_drop 25 = .ok (.iconst 2, 1) := by decide +kernel
theorem dX11_drop_26 : decode cX11_drop 26 = .ok (.if_icmp .ne 45, 3) := by decide +kernel
theorem dX11_drop_29 : decode cX11_drop 29 = .ok (.iload_n 3, 1) := by decide +kernel
theorem dX11_drop_30 : decode cX11_drop 30 = .ok (.aload_n 0, 1) := by decide +kernel
theorem dX11_drop_31 : decode cX11_drop 31 = .ok (.iload_n 2, 1) := by decide +kernel
theorem dX11_drop_32 : decode cX11_drop 32 = .ok (.invokevirtual 106, 3) := by decide +kernel
theorem dX11_drop_35 : decode cX11_drop 35 = .ok (.if_icmp .ge 36, 3) := by decide +kernel
theorem dX11_drop_38 : decode cX11_drop 38 = .ok (.aload_n 0, 1) := by decide +kernel
theorem dX11_drop_39 : decode cX11_drop 39 = .ok (.getfield 13, 3) := by decide +kernel
theorem dX11_drop_42 : decode cX11_drop 42 = .ok (.aload_n 0, 1) := by decide +kernel
theorem dX11_drop_43 : decode cX11_drop 43 = .ok (.iload_n 2, 1) := by decide +kernel
theorem dX11_drop_44 : decode cX11_drop 44 = .ok (.iload_n 3, 1) := by decide +kernel
theorem dX11_drop_45 : decode cX11_drop 45 = .ok (.invokevirtual 73, 3) := by decide +kernel
theorem dX11_drop_48 : decode cX11_drop 48 = .ok (.iaload, 1) := by decide +kernel
theorem dX11_drop_49 : decode cX11_drop 49 = .ok (.iload_n 1, 1) := by decide +kernel
theorem dX11_drop_50 : decode cX11_drop 50 = .ok (.if_icmp .ne 15, 3) := by decide +kernel
theorem dX11_drop_53 : decode cX11_drop 53 = .ok (.aload_n 0, 1) := by decide +kernel
theorem dX11_drop_54 : decode cX11_drop 54 = .ok (.aload_n 0, 1) := by decide +kernel
theorem dX11_drop_55 : decode cX11_drop 55 = .ok (.iload_n 2, 1) := by decide +kernel
theorem dX11_drop_56 : decode cX11_drop 56 = .ok (.iload_n 3, 1) := by decide +kernel
theorem dX11_drop_57 : decode cX11_drop 57 = .ok (.invokevirtual 73, 3) := by decide +kernel
theorem dX11_drop_60 : decode cX11_drop 60 = .ok (.bipush 16, 2) := by decide +kernel
theorem dX11_drop_62 : decode cX11_drop 62 = .ok (.invokevirtual 65, 3) := by decide +kernel
theorem dX11_drop_65 : decode cX11_drop 65 = .ok (.iinc 3 1, 3) := by decide +kernel
theorem dX11_drop_68 : decode cX11_drop 68 = .ok (.goto (-48), 3) := by decide +kernel
theorem dX11_drop_71 : decode cX11_drop 71 = .ok (.iinc 2 1, 3) := by decide +kernel
theorem dX11_drop_74 : decode cX11_drop 74 = .ok (.goto (-62), 3) := by decide +kernel
theorem dX11_drop_77 : decode cX11_drop 77 = .ok (.return_, 1) := by decide +kernel
theorem dX11_count_0 : decode cX11_count 0 = .ok (.iconst 0, 1) := by decide +kernel
theorem dX11_count_1 : decode cX11_count 1 = .ok (.istore_n 2, 1) := by decide +kernel
theorem dX11_count_2 : decode cX11_count 2 = .ok (.iconst 1, 1) := by decide +kernel
theorem dX11_count_3 : decode cX11_count 3 = .ok (.istore_n 3, 1) := by decide +kernel
theorem dX11_count_4 : decode cX11_count 4 = .ok (.iload_n 3, 1) := by decide +kernel
theorem dX11_count_5 : decode cX11_count 5 = .ok (.bipush 32, 2) := by decide +kernel
theorem dX11_count_7 : decode cX11_count 7 = .ok (.if_icmp .ge 61, 3) := by decide +kernel
theorem dX11_count_10 : decode cX11_count 10 = .ok (.iconst 2, 1) := by decide +kernel
theorem dX11_count_11 : decode cX11_count 11 = .ok (.istore 4, 2) := by decide +kernel
theorem dX11_count_13 : decode cX11_count 13 = .ok (.aload_n 0, 1) := by decide +kernel
theorem dX11_count_14 : decode cX11_count 14 = .ok (.iload_n 3, 1) := by decide +kernel
theorem dX11_count_15 : decode cX11_count 15 = .ok (.invokevirtual 62, 3) := by decide +kernel
theorem dX11_count_18 : decode cX11_count 18 = .ok (.iconst 2, 1) := by decide +kernel
theorem dX11_count_19 : decode cX11_count 19 = .ok (.if_icmp .ne 43, 3) := by decide +kernel
theorem dX11_count_22 : decode cX11_count 22 = .ok (.iload 4, 2) := by decide +kernel
theorem dX11_count_24 : decode cX11_count 24 = .ok (.aload_n 0, 1) := by decide +kernel
theorem dX11_count_25 : decode cX11_count 25 = .ok (.iload_n 3, 1) := by decide +kernel
theorem dX11_count_26 : decode cX11_count 26 = .ok (.invokevirtual 106, 3) := by decide +kernel
theorem dX11_count_29 : decode cX11_count 29 = .ok (.if_icmp .ge 33, 3) := by decide +kernel
theorem dX11_count_32 : decode cX11_count 32 = .ok (.iload_n 2, 1) := by decide +kernel
theorem dX11_count_33 : decode cX11_count 33 = .ok (.aload_n 0, 1) := by decide +kernel
theorem dX11_count_34 : decode cX11_count 34 = .ok (.getfield 13, 3) := by decide +kernel
theorem dX11_count_37 : decode cX11_count 37 = .ok (.aload_n 0, 1) := by decide +kernel
theorem dX11_count_38 : decode cX11_count 38 = .ok (.iload_n 3, 1) := by decide +kernel
theorem dX11_count_39 : decode cX11_count 39 = .ok (.iload 4, 2) := by decide +kernel
theorem dX11_count_41 : decode cX11_count 41 = .ok (.invokevirtual 73, 3) := by decide +kernel
theorem dX11_count_44 : decode cX11_count 44 = .ok (.iaload, 1) := by decide +kernel
theorem dX11_count_45 : decode cX11_count 45 = .ok (.iload_n 1, 1) := by decide +kernel
theorem dX11_count_46 : decode cX11_count 46 = .ok (.if_icmp .ne 7, 3) := by decide +kernel
theorem dX11_count_49 : decode cX11_count 49 = .ok (.iconst 1, 1) := by decide +kernel
theorem dX11_count_50 : decode cX11_count 50 = .ok (.goto 4, 3) := by decide +kernel
theorem dX11_count_53 : decode cX11_count 53 = .ok (.iconst 0, 1) := by decide +kernel
theorem dX11_count_54 : decode cX11_count 54 = .ok (.iadd, 1) := by decide +kernel
theorem dX11_count_55 : decode cX11_count 55 = .ok (.istore_n 2, 1) := by decide +kernel
theorem dX11_count_56 : decode cX11_count 56 = .ok (.iinc 4 1, 3) := by decide +kernel
theorem dX11_count_59 : decode cX11_count 59 = .ok (.goto (-46), 3) := by decide +kernel
theorem dX11_count_62 : decode cX11_count 62 = .ok (.iinc 3 1, 3) := by decide +kernel
theorem dX11_count_65 : decode cX11_count 65 = .ok (.goto (-61), 3) := by decide +kernel
theorem dX11_count_68 : decode cX11_count 68 = .ok (.iload_n 2, 1) := by decide +kernel
theorem dX11_count_69 : decode cX11_count 69 = .ok (.ireturn, 1) := by decide +kernel
theorem dX11_finish_0 : decode cX11_finish 0 = .ok (.iconst 1, 1) := by decide +kernel
theorem dX11_finish_1 : decode cX11_finish 1 = .ok (.istore_n 1, 1) := by decide +kernel
theorem dX11_finish_2 : decode cX11_finish 2 = .ok (.iload_n 1, 1) := by decide +kernel
theorem dX11_finish_3 : decode cX11_finish 3 = .ok (.bipush 32, 2) := by decide +kernel
theorem dX11_finish_5 : decode cX11_finish 5 = .ok (.if_icmp .ge 142, 3) := by decide +kernel
theorem dX11_finish_8 : decode cX11_finish 8 = .ok (.aload_n 0, 1) := by decide +kernel
theorem dX11_finish_9 : decode cX11_finish 9 = .ok (.iload_n 1, 1) := by decide +kernel
theorem dX11_finish_10 : decode cX11_finish 10 = .ok (.invokevirtual 62, 3) := by decide +kernel
theorem dX11_finish_13 : decode cX11_finish 13 = .ok (.iconst 1, 1) := by decide +kernel
theorem dX11_finish_14 : decode cX11_finish 14 = .ok (.if_icmp .ne 22, 3) := by decide +kernel
theorem dX11_finish_17 : decode cX11_finish 17 = .ok (.aload_n 0, 1) := by decide +kernel
theorem dX11_finish_18 : decode cX11_finish 18 = .ok (.getfield 13, 3) := by decide +kernel
theorem dX11_finish_21 : decode cX11_finish 21 = .ok (.iload_n 1, 1) := by decide +kernel
theorem dX11_finish_22 : decode cX11_finish 22 = .ok (.invokestatic 42, 3) := by decide +kernel
theorem dX11_finish_25 : decode cX11_finish 25 = .ok (.iconst 1, 1) := by decide +kernel
theorem dX11_finish_26 : decode cX11_finish 26 = .ok (.iadd, 1) := by decide +kernel
theorem dX11_finish_27 : decode cX11_finish 27 = .ok (.aload_n 0, 1) := by decide +kernel
theorem dX11_finish_28 : decode cX11_finish 28 = .ok (.iload_n 1, 1) := by decide +kernel
theorem dX11_finish_29 : decode cX11_finish 29 = .ok (.invokevirtual 145, 3) := by decide +kernel
theorem dX11_finish_32 : decode cX11_finish 32 = .ok (.iastore, 1) := by decide +kernel
theorem dX11_finish_33 : decode cX11_finish 33 = .ok (.goto 79, 3) := by decide +kernel
theorem dX11_finish_36 : decode cX11_finish 36 = .ok (.aload_n 0, 1) := by decide +kernel
theorem dX11_finish_37 : decode cX11_finish 37 = .ok (.iload_n 1, 1) := by decide +kernel
theorem dX11_finish_38 : decode cX11_finish 38 = .ok (.invokevirtual 62, 3) := by decide +kernel
theorem dX11_finish_41 : decode cX11_finish 41 = .ok (.iconst 2, 1) := by decide +kernel
theorem dX11_finish_42 : decode cX11_finish 42 = .ok (.if_icmp .ne 70, 3) := by decide +kernel
theorem dX11_finish_45 : decode cX11_finish 45 = .ok (.iconst 2, 1) := by decide +kernel
theorem dX11_finish_46 : decode cX11_finish 46 = .ok (.istore_n 2, 1) := by decide +kernel
theorem dX11_finish_47 : decode cX11_finish 47 = .ok (.iconst 2, 1) := by decide +kernel
theorem dX11_finish_48 : decode cX11_finish 48 = .ok (.istore_n 3, 1) := by decide +kernel
theorem dX11_finish_49 : decode cX11_finish 49 = .ok (.iload_n 3, 1) := by decide +kernel
theorem dX11_finish_50 : decode cX11_finish 50 = .ok (.aload_n 0, 1) := by decide +kernel
theorem dX11_finish_51 : decode cX11_finish 51 = .ok (.iload_n 1, 1) := by decide +kernel
theorem dX11_finish_52 : decode cX11_finish 52 = .ok (.invokevirtual 106, 3) := by decide +kernel
theorem dX11_finish_55 : decode cX11_finish 55 = .ok (.if_icmp .ge 45, 3) := by decide +kernel
theorem dX11_finish_58 : decode cX11_finish 58 = .ok (.aload_n 0, 1) := by decide +kernel
theorem dX11_finish_59 : decode cX11_finish 59 = .ok (.getfield 13, 3) := by decide +kernel
theorem dX11_finish_62 : decode cX11_finish 62 = .ok (.aload_n 0, 1) := by decide +kernel
theorem dX11_finish_63 : decode cX11_finish 63 = .ok (.iload_n 1, 1) := by decide +kernel
theorem dX11_finish_64 : decode cX11_finish 64 = .ok (.iload_n 3, 1) := by decide +kernel
theorem dX11_finish_65 : decode cX11_finish 65 = .ok (.invokevirtual 73, 3) := by decide +kernel
theorem dX11_finish_68 : decode cX11_finish 68 = .ok (.iaload, 1) := by decide +kernel
theorem dX11_finish_69 : decode cX11_finish 69 = .ok (.istore 4, 2) := by decide +kernel
theorem dX11_finish_71 : decode cX11_finish 71 = .ok (.iload_n 2, 1) := by decide +kernel
theorem dX11_finish_72 : decode cX11_finish 72 = .ok (.iload 4, 2) := by decide +kernel
theorem dX11_finish_74 : decode cX11_finish 74 = .ok (.ifCond .eq 17, 3) := by decide +kernel
theorem dX11_finish_77 : decode cX11_finish 77 = .ok (.aload_n 0, 1) := by decide +kernel
theorem dX11_finish_78 : decode cX11_finish 78 = .ok (.iload 4, 2) := by decide +kernel
theorem dX11_finish_80 : decode cX11_finish 80 = .ok (.invokevirtual 62, 3) := by decide +kernel
theorem dX11_finish_83 : decode cX11_finish 83 = .ok (.iconst 2, 1) := by decide +kernel
theorem dX11_finish_84 : decode cX11_finish 84 = .ok (.if_icmp .ne 7, 3) := by decide +kernel
theorem dX11_finish_87 : decode cX11_finish 87 = .ok (.iconst 1, 1) := by decide +kernel
theorem dX11_finish_88 : decode cX11_finish 88 = .ok (.goto 4, 3) := by decide +kernel
theorem dX11_finish_91 : decode cX11_finish 91 = .ok (.iconst 0, 1) := by decide +kernel
theorem dX11_finish_92 : decode cX11_finish 92 = .ok (.iadd, 1) := by decide +kernel
theorem dX11_finish_93 : decode cX11_finish 93 = .ok (.istore_n 2, 1) := by decide +kernel
theorem dX11_finish_94 : decode cX11_finish 94 = .ok (.iinc 3 1, 3) := by decide +kernel
theorem dX11_finish_97 : decode cX11_finish 97 = .ok (.goto (-48), 3) := by decide +kernel
theorem dX11_finish_100 : decode cX11_finish 100 = .ok (.aload_n 0, 1) := by decide +kernel
theorem dX11_finish_101 : decode cX11_finish 101 = .ok (.getfield 13, 3) := by decide +kernel
theorem dX11_finish_104 : decode cX11_finish 104 = .ok (.iload_n 1, 1) := by decide +kernel
theorem dX11_finish_105 : decode cX11_finish 105 = .ok (.invokestatic 42, 3) := by decide +kernel
theorem dX11_finish_108 : decode cX11_finish 108 = .ok (.iconst 1, 1) := by decide +kernel
theorem dX11_finish_109 : decode cX11_finish 109 = .ok (.iadd, 1) := by decide +kernel
theorem dX11_finish_110 : decode cX11_finish 110 = .ok (.iload_n 2, 1) := by decide +kernel
theorem dX11_finish_111 : decode cX11_finish 111 = .ok (.iastore, 1) := by decide +kernel
theorem dX11_finish_112 : decode cX11_finish 112 = .ok (.aload_n 0, 1) := by decide +kernel
theorem dX11_finish_113 : decode cX11_finish 113 = .ok (.iload_n 1, 1) := by decide +kernel
theorem dX11_finish_114 : decode cX11_finish 114 = .ok (.invokevirtual 62, 3) := by decide +kernel
theorem dX11_finish_117 : decode cX11_finish 117 = .ok (.ifCond .le 24, 3) := by decide +kernel
theorem dX11_finish_120 : decode cX11_finish 120 = .ok (.aload_n 0, 1) := by decide +kernel
theorem dX11_finish_121 : decode cX11_finish 121 = .ok (.iload_n 1, 1) := by decide +kernel
theorem dX11_finish_122 : decode cX11_finish 122 = .ok (.invokestatic 42, 3) := by decide +kernel
theorem dX11_finish_125 : decode cX11_finish 125 = .ok (.bipush 14, 2) := by decide +kernel
theorem dX11_finish_127 : decode cX11_finish 127 = .ok (.iadd, 1) := by decide +kernel
theorem dX11_finish_128 : decode cX11_finish 128 = .ok (.aload_n 0, 1) := by decide +kernel
theorem dX11_finish_129 : decode cX11_finish 129 = .ok (.iload_n 1, 1) := by decide +kernel
theorem dX11_finish_130 : decode cX11_finish 130 = .ok (.invokestatic 42, 3) := by decide +kernel
theorem dX11_finish_133 : decode cX11_finish 133 = .ok (.bipush 14, 2) := by decide +kernel
theorem dX11_finish_135 : decode cX11_finish 135 = .ok (.invokevirtual 38, 3) := by decide +kernel
theorem dX11_finish_138 : decode cX11_finish 138 = .ok (.invokevirtual 103, 3) := by decide +kernel
theorem dX11_finish_141 : decode cX11_finish 141 = .ok (.iinc 1 1, 3) := by decide +kernel
theorem dX11_finish_144 : decode cX11_finish 144 = .ok (.goto (-142), 3) := by decide +kernel
theorem dX11_finish_147 : decode cX11_finish 147 = .ok (.aload_n 0, 1) := by decide +kernel
theorem dX11_finish_148 : decode cX11_finish 148 = .ok (.iconst 0, 1) := by decide +kernel
theorem dX11_finish_149 : decode cX11_finish 149 = .ok (.invokevirtual 97, 3) := by decide +kernel
theorem dX11_finish_152 : decode cX11_finish 152 = .ok (.istore_n 1, 1) := by decide +kernel
theorem dX11_finish_153 : decode cX11_finish 153 = .ok (.iconst 0, 1) := by decide +kernel
theorem dX11_finish_154 : decode cX11_finish 154 = .ok (.istore_n 2, 1) := by decide +kernel
theorem dX11_finish_155 : decode cX11_finish 155 = .ok (.iconst 0, 1) := by decide +kernel
theorem dX11_finish_156 : decode cX11_finish 156 = .ok (.istore_n 3, 1) := by decide +kernel
theorem dX11_finish_157 : decode cX11_finish 157 = .ok (.aload_n 0, 1) := by decide +kernel
theorem dX11_finish_158 : decode cX11_finish 158 = .ok (.sipush 448, 3) := by decide +kernel
theorem dX11_finish_161 : decode cX11_finish 161 = .ok (.bipush 64, 2) := by decide +kernel
theorem dX11_finish_163 : decode cX11_finish 163 = .ok (.invokevirtual 65, 3) := by decide +kernel
theorem dX11_finish_166 : decode cX11_finish 166 = .ok (.iconst 0, 1) := by decide +kernel
theorem dX11_finish_167 : decode cX11_finish 167 = .ok (.istore 4, 2) := by decide +kernel
theorem dX11_finish_169 : decode cX11_finish 169 = .ok (.iload 4, 2) := by decide +kernel
theorem dX11_finish_171 : decode cX11_finish 171 = .ok (.bipush 64, 2) := by decide +kernel
theorem dX11_finish_173 : decode cX11_finish 173 = .ok (.if_icmp .ge 88, 3) := by decide +kernel
theorem dX11_finish_176 : decode cX11_finish 176 = .ok (.iload 4, 2) := by decide +kernel
theorem dX11_finish_178 : decode cX11_finish 178 = .ok (.bipush 16, 2) := by decide +kernel
theorem dX11_finish_180 : decode cX11_finish 180 = .ok (.if_icmp .lt 20, 3) := by decide +kernel
theorem dX11_finish_183 : decode cX11_finish 183 = .ok (.iload 4, 2) := by decide +kernel
theorem dX11_finish_185 : decode cX11_finish 185 = .ok (.bipush 63, 2) := by decide +kernel
theorem dX11_finish_187 : decode cX11_finish 187 = .ok (.if_icmp .eq 13, 3) := by decide +kernel
theorem dX11_finish_190 : decode cX11_finish 190 = .ok (.aload_n 0, 1) := by decide +kernel
theorem dX11_finish_191 : decode cX11_finish 191 = .ok (.getfield 16, 3) := by decide +kernel
theorem dX11_finish_194 : decode cX11_finish 194 = .ok (.iload 4, 2) := by decide +kernel
theorem dX11_finish_196 : decode cX11_finish 196 = .ok (.baload, 1) := by decide +kernel
theorem dX11_finish_197 : decode cX11_finish 197 = .ok (.ifCond .eq 7, 3) := by decide +kernel
theorem dX11_finish_200 : decode cX11_finish 200 = .ok (.iconst 1, 1) := by decide +kernel
theorem dX11_finish_201 : decode cX11_finish 201 = .ok (.goto 4, 3) := by decide +kernel
theorem dX11_finish_204 : decode cX11_finish 204 = .ok (.iconst 0, 1) := by decide +kernel
theorem dX11_finish_205 : decode cX11_finish 205 = .ok (.istore 5, 2) := by decide +kernel
theorem dX11_finish_207 : decode cX11_finish 207 = .ok (.iload_n 2, 1) := by decide +kernel
theorem dX11_finish_208 : decode cX11_finish 208 = .ok (.iload 5, 2) := by decide +kernel
theorem dX11_finish_210 : decode cX11_finish 210 = .ok (.ifCond .eq 7, 3) := by decide +kernel
theorem dX11_finish_213 : decode cX11_finish 213 = .ok (.iconst 0, 1) := by decide +kernel
theorem dX11_finish_214 : decode cX11_finish 214 = .ok (.goto 4, 3) := by decide +kernel
theorem dX11_finish_217 : decode cX11_finish 217 = .ok (.iconst 1, 1) := by decide +kernel
theorem dX11_finish_218 : decode cX11_finish 218 = .ok (.iadd, 1) := by decide +kernel
theorem dX11_finish_219 : decode cX11_finish 219 = .ok (.istore_n 2, 1) := by decide +kernel
theorem dX11_finish_220 : decode cX11_finish 220 = .ok (.aload_n 0, 1) := by decide +kernel
theorem dX11_finish_221 : decode cX11_finish 221 = .ok (.getfield 13, 3) := by decide +kernel
theorem dX11_finish_224 : decode cX11_finish 224 = .ok (.sipush 448, 3) := by decide +kernel
theorem dX11_finish_227 : decode cX11_finish 227 = .ok (.iload 4, 2) := by decide +kernel
theorem dX11_finish_229 : decode cX11_finish 229 = .ok (.bipush 8, 2) := by decide +kernel
theorem dX11_finish_231 : decode cX11_finish 231 = .ok (.idiv, 1) := by decide +kernel
theorem dX11_finish_232 : decode cX11_finish 232 = .ok (.iadd, 1) := by decide +kernel
theorem dX11_finish_233 : decode cX11_finish 233 = .ok (.dup2, 1) := by decide +kernel
theorem dX11_finish_234 : decode cX11_finish 234 = .ok (.iaload, 1) := by decide +kernel
theorem dX11_finish_235 : decode cX11_finish 235 = .ok (.iload 5, 2) := by decide +kernel
theorem dX11_finish_237 : decode cX11_finish 237 = .ok (.ifCond .eq 15, 3) := by decide +kernel
theorem dX11_finish_240 : decode cX11_finish 240 = .ok (.sipush 128, 3) := by decide +kernel
theorem dX11_finish_243 : decode cX11_finish 243 = .ok (.iload 4, 2) := by decide +kernel
theorem dX11_finish_245 : decode cX11_finish 245 = .ok (.bipush 8, 2) := by decide +kernel
theorem dX11_finish_247 : decode cX11_finish 247 = .ok (.irem, 1) := by decide +kernel
theorem dX11_finish_248 : decode cX11_finish 248 = .ok (.ishr, 1) := by decide +kernel
theorem dX11_finish_249 : decode cX11_finish 249 = .ok (.goto 4, 3) := by decide +kernel
theorem dX11_finish_252 : decode cX11_finish 252 = .ok (.iconst 0, 1) := by decide +kernel
theorem dX11_finish_253 : decode cX11_finish 253 = .ok (.iadd, 1) := by decide +kernel
theorem dX11_finish_254 : decode cX11_finish 254 = .ok (.iastore, 1) := by decide +kernel
theorem dX11_finish_255 : decode cX11_finish 255 = .ok (.iinc 4 1, 3) := by decide +kernel
theorem dX11_finish_258 : decode cX11_finish 258 = .ok (.goto (-89), 3) := by decide +kernel
theorem dX11_finish_261 : decode cX11_finish 261 = .ok (.iconst 0, 1) := by decide +kernel
theorem dX11_finish_262 : decode cX11_finish 262 = .ok (.istore 4, 2) := by decide +kernel
theorem dX11_finish_264 : decode cX11_finish 264 = .ok (.iload 4, 2) := by decide +kernel
theorem dX11_finish_266 : decode cX11_finish 266 = .ok (.bipush 32, 2) := by decide +kernel
theorem dX11_finish_268 : decode cX11_finish 268 = .ok (.if_icmp .ge 78, 3) := by decide +kernel
theorem dX11_finish_271 : decode cX11_finish 271 = .ok (.iload 4, 2) := by decide +kernel
theorem dX11_finish_273 : decode cX11_finish 273 = .ok (.ifCond .eq 12, 3) := by decide +kernel
theorem dX11_finish_276 : decode cX11_finish 276 = .ok (.aload_n 0, 1) := by decide +kernel
theorem dX11_finish_277 : decode cX11_finish 277 = .ok (.iload 4, 2) := by decide +kernel
theorem dX11_finish_279 : decode cX11_finish 279 = .ok (.invokevirtual 62, 3) := by decide +kernel
theorem dX11_finish_282 : decode cX11_finish 282 = .ok (.ifCond .le 7, 3) := by decide +kernel
theorem dX11_finish_285 : decode cX11_finish 285 = .ok (.iconst 1, 1) := by decide +kernel
theorem dX11_finish_286 : decode cX11_finish 286 = .ok (.goto 4, 3) := by decide +kernel
theorem dX11_finish_289 : decode cX11_finish 289 = .ok (.iconst 0, 1) := by decide +kernel
theorem dX11_finish_290 : decode cX11_finish 290 = .ok (.istore 5, 2) := by decide +kernel
theorem dX11_finish_292 : decode cX11_finish 292 = .ok (.iload_n 3, 1) := by decide +kernel
theorem dX11_finish_293 : decode cX11_finish 293 = .ok (.iload 5, 2) := by decide +kernel
theorem dX11_finish_295 : decode cX11_finish 295 = .ok (.ifCond .eq 7, 3) := by decide +kernel
theorem dX11_finish_298 : decode cX11_finish 298 = .ok (.iconst 0, 1) := by decide +kernel
theorem dX11_finish_299 : decode cX11_finish 299 = .ok (.goto 4, 3) := by decide +kernel
theorem dX11_finish_302 : decode cX11_finish 302 = .ok (.iconst 1, 1) := by decide +kernel
theorem dX11_finish_303 : decode cX11_finish 303 = .ok (.iadd, 1) := by decide +kernel
theorem dX11_finish_304 : decode cX11_finish 304 = .ok (.istore_n 3, 1) := by decide +kernel
theorem dX11_finish_305 : decode cX11_finish 305 = .ok (.aload_n 0, 1) := by decide +kernel
theorem dX11_finish_306 : decode cX11_finish 306 = .ok (.getfield 13, 3) := by decide +kernel
theorem dX11_finish_309 : decode cX11_finish 309 = .ok (.sipush 456, 3) := by decide +kernel
theorem dX11_finish_312 : decode cX11_finish 312 = .ok (.iload 4, 2) := by decide +kernel
theorem dX11_finish_314 : decode cX11_finish 314 = .ok (.bipush 8, 2) := by decide +kernel
theorem dX11_finish_316 : decode cX11_finish 316 = .ok (.idiv, 1) := by decide +kernel
theorem dX11_finish_317 : decode cX11_finish 317 = .ok (.iadd, 1) := by decide +kernel
theorem dX11_finish_318 : decode cX11_finish 318 = .ok (.dup2, 1) := by decide +kernel
theorem dX11_finish_319 : decode cX11_finish 319 = .ok (.iaload, 1) := by decide +kernel
theorem dX11_finish_320 : decode cX11_finish 320 = .ok (.iload 5, 2) := by decide +kernel
theorem dX11_finish_322 : decode cX11_finish 322 = .ok (.ifCond .eq 15, 3) := by decide +kernel
theorem dX11_finish_325 : decode cX11_finish 325 = .ok (.sipush 128, 3) := by decide +kernel
theorem dX11_finish_328 : decode cX11_finish 328 = .ok (.iload 4, 2) := by decide +kernel
theorem dX11_finish_330 : decode cX11_finish 330 = .ok (.bipush 8, 2) := by decide +kernel
theorem dX11_finish_332 : decode cX11_finish 332 = .ok (.irem, 1) := by decide +kernel
theorem dX11_finish_333 : decode cX11_finish 333 = .ok (.ishr, 1) := by decide +kernel
theorem dX11_finish_334 : decode cX11_finish 334 = .ok (.goto 4, 3) := by decide +kernel
theorem dX11_finish_337 : decode cX11_finish 337 = .ok (.iconst 0, 1) := by decide +kernel
theorem dX11_finish_338 : decode cX11_finish 338 = .ok (.iadd, 1) := by decide +kernel
theorem dX11_finish_339 : decode cX11_finish 339 = .ok (.iastore, 1) := by decide +kernel
theorem dX11_finish_340 : decode cX11_finish 340 = .ok (.iinc 4 1, 3) := by decide +kernel
theorem dX11_finish_343 : decode cX11_finish 343 = .ok (.goto (-79), 3) := by decide +kernel
theorem dX11_finish_346 : decode cX11_finish 346 = .ok (.aload_n 0, 1) := by decide +kernel
theorem dX11_finish_347 : decode cX11_finish 347 = .ok (.iconst 0, 1) := by decide +kernel
theorem dX11_finish_348 : decode cX11_finish 348 = .ok (.iload_n 2, 1) := by decide +kernel
theorem dX11_finish_349 : decode cX11_finish 349 = .ok (.iload_n 3, 1) := by decide +kernel
theorem dX11_finish_350 : decode cX11_finish 350 = .ok (.invokevirtual 148, 3) := by decide +kernel
theorem dX11_finish_353 : decode cX11_finish 353 = .ok (.aload_n 0, 1) := by decide +kernel
theorem dX11_finish_354 : decode cX11_finish 354 = .ok (.sipush 4032, 3) := by decide +kernel
theorem dX11_finish_357 : decode cX11_finish 357 = .ok (.iload_n 2, 1) := by decide +kernel
theorem dX11_finish_358 : decode cX11_finish 358 = .ok (.iload_n 3, 1) := by decide +kernel
theorem dX11_finish_359 : decode cX11_finish 359 = .ok (.invokevirtual 148, 3) := by decide +kernel
theorem dX11_finish_362 : decode cX11_finish 362 = .ok (.return_, 1) := by decide +kernel
theorem dX11_superAt_0 : decode cX11_superAt 0 = .ok (.aload_n 0, 1) := by decide +kernel
theorem dX11_superAt_1 : decode cX11_superAt 1 = .ok (.iload_n 1, 1) := by decide +kernel
theorem dX11_superAt_2 : decode cX11_superAt 2 = .ok (.bipush 64, 2) := by decide +kernel
theorem dX11_superAt_4 : decode cX11_superAt 4 = .ok (.invokevirtual 65, 3) := by decide +kernel
theorem dX11_superAt_7 : decode cX11_superAt 7 = .ok (.aload_n 0, 1) := by decide +kernel
theorem dX11_superAt_8 : decode cX11_superAt 8 = .ok (.getfield 13, 3) := by decide +kernel
theorem dX11_superAt_11 : decode cX11_superAt 11 = .ok (.iload_n 1, 1) := by decide +kernel
theorem dX11_superAt_12 : decode cX11_superAt 12 = .ok (.bipush 83, 2) := by decide +kernel
theorem dX11_superAt_14 : decode cX11_superAt 14 = .ok (.iastore, 1) := by decide +kernel
theorem dX11_superAt_15 : decode cX11_superAt 15 = .ok (.aload_n 0, 1) := by decide +kernel
theorem dX11_superAt_16 : decode cX11_superAt 16 = .ok (.getfield 13, 3) := by decide +kernel
theorem dX11_superAt_19 : decode cX11_superAt 19 = .ok (.iload_n 1, 1) := by decide +kernel
theorem dX11_superAt_20 : decode cX11_superAt 20 = .ok (.iconst 1, 1) := by decide +kernel
theorem dX11_superAt_21 : decode cX11_superAt 21 = .ok (.iadd, 1) := by decide +kernel
theorem dX11_superAt_22 : decode cX11_superAt 22 = .ok (.bipush 70, 2) := by decide +kernel
theorem dX11_superAt_24 : decode cX11_superAt 24 = .ok (.iastore, 1) := by decide +kernel
theorem dX11_superAt_25 : decode cX11_superAt 25 = .ok (.aload_n 0, 1) := by decide +kernel
theorem dX11_superAt_26 : decode cX11_superAt 26 = .ok (.getfield 13, 3) := by decide +kernel
theorem dX11_superAt_29 : decode cX11_superAt 29 = .ok (.iload_n 1, 1) := by decide +kernel
theorem dX11_superAt_30 : decode cX11_superAt 30 = .ok (.iconst 2, 1) := by decide +kernel
theorem dX11_superAt_31 : decode cX11_superAt 31 = .ok (.iadd, 1) := by decide +kernel
theorem dX11_superAt_32 : decode cX11_superAt 32 = .ok (.bipush 83, 2) := by decide +kernel
theorem dX11_superAt_34 : decode cX11_superAt 34 = .ok (.iastore, 1) := by decide +kernel
theorem dX11_superAt_35 : decode cX11_superAt 35 = .ok (.aload_n 0, 1) := by decide +kernel
theorem dX11_superAt_36 : decode cX11_superAt 36 = .ok (.getfield 13, 3) := by decide +kernel
theorem dX11_superAt_39 : decode cX11_superAt 39 = .ok (.iload_n 1, 1) := by decide +kernel
theorem dX11_superAt_40 : decode cX11_superAt 40 = .ok (.iconst 3, 1) := by decide +kernel
theorem dX11_superAt_41 : decode cX11_superAt 41 = .ok (.iadd, 1) := by decide +kernel
theorem dX11_superAt_42 : decode cX11_superAt 42 = .ok (.bipush 75, 2) := by decide +kernel
theorem dX11_superAt_44 : decode cX11_superAt 44 = .ok (.iastore, 1) := by decide +kernel
theorem dX11_superAt_45 : decode cX11_superAt 45 = .ok (.aload_n 0, 1) := by decide +kernel
theorem dX11_superAt_46 : decode cX11_superAt 46 = .ok (.iload_n 1, 1) := by decide +kernel
theorem dX11_superAt_47 : decode cX11_superAt 47 = .ok (.iconst 4, 1) := by decide +kernel
theorem dX11_superAt_48 : decode cX11_superAt 48 = .ok (.iadd, 1) := by decide +kernel
theorem dX11_superAt_49 : decode cX11_superAt 49 = .ok (.iload_n 2, 1) := by decide +kernel
theorem dX11_superAt_50 : decode cX11_superAt 50 = .ok (.invokevirtual 103, 3) := by decide +kernel
theorem dX11_superAt_53 : decode cX11_superAt 53 = .ok (.aload_n 0, 1) := by decide +kernel
theorem dX11_superAt_54 : decode cX11_superAt 54 = .ok (.iload_n 1, 1) := by decide +kernel
theorem dX11_superAt_55 : decode cX11_superAt 55 = .ok (.bipush 6, 2) := by decide +kernel
theorem dX11_superAt_57 : decode cX11_superAt 57 = .ok (.iadd, 1) := by decide +kernel
theorem dX11_superAt_58 : decode cX11_superAt 58 = .ok (.iload_n 3, 1) := by decide +kernel
theorem dX11_superAt_59 : decode cX11_superAt 59 = .ok (.invokevirtual 103, 3) := by decide +kernel
theorem dX11_superAt_62 : decode cX11_superAt 62 = .ok (.aload_n 0, 1) := by decide +kernel
theorem dX11_superAt_63 : decode cX11_superAt 63 = .ok (.iload_n 1, 1) := by decide +kernel
theorem dX11_superAt_64 : decode cX11_superAt 64 = .ok (.bipush 62, 2) := by decide +kernel
theorem dX11_superAt_66 : decode cX11_superAt 66 = .ok (.iadd, 1) := by decide +kernel
theorem dX11_superAt_67 : decode cX11_superAt 67 = .ok (.aload_n 0, 1) := by decide +kernel
theorem dX11_superAt_68 : decode cX11_superAt 68 = .ok (.iload_n 1, 1) := by decide +kernel
theorem dX11_superAt_69 : decode cX11_superAt 69 = .ok (.bipush 62, 2) := by decide +kernel
theorem dX11_superAt_71 : decode cX11_superAt 71 = .ok (.invokevirtual 38, 3) := by decide +kernel
theorem dX11_superAt_74 : decode cX11_superAt 74 = .ok (.invokevirtual 103, 3) := by decide +kernel
theorem dX11_superAt_77 : decode cX11_superAt 77 = .ok (.return_, 1) := by decide +kernel
theorem dX11_passes_0 : decode cX11_passes 0 = .ok (.aload_n 0, 1) := by decide +kernel
theorem dX11_passes_1 : decode cX11_passes 1 = .ok (.invokevirtual 152, 3) := by decide +kernel
theorem dX11_passes_4 : decode cX11_passes 4 = .ok (.aload_n 0, 1) := by decide +kernel
theorem dX11_passes_5 : decode cX11_passes 5 = .ok (.iconst 0, 1) := by decide +kernel
theorem dX11_passes_6 : decode cX11_passes 6 = .ok (.invokevirtual 155, 3) := by decide +kernel
theorem dX11_passes_9 : decode cX11_passes 9 = .ok (.ifCond .ne 15, 3) := by decide +kernel
theorem dX11_passes_12 : decode cX11_passes 12 = .ok (.aload_n 0, 1) := by decide +kernel
theorem dX11_passes_13 : decode cX11_passes 13 = .ok (.sipush 4032, 3) := by decide +kernel
theorem dX11_passes_16 : decode cX11_passes 16 = .ok (.invokevirtual 155, 3) := by decide +kernel
theorem dX11_passes_19 : decode cX11_passes 19 = .ok (.ifCond .ne 5, 3) := by decide +kernel
theorem dX11_passes_22 : decode cX11_passes 22 = .ok (.iconst 0, 1) := by decide +kernel
theorem dX11_passes_23 : decode cX11_passes 23 = .ok (.ireturn, 1) := by decide +kernel
theorem dX11_passes_24 : decode cX11_passes 24 = .ok (.aload_n 0, 1) := by decide +kernel
theorem dX11_passes_25 : decode cX11_passes 25 = .ok (.invokevirtual 158, 3) := by decide +kernel
theorem dX11_passes_28 : decode cX11_passes 28 = .ok (.aload_n 0, 1) := by decide +kernel
theorem dX11_passes_29 : decode cX11_passes 29 = .ok (.invokevirtual 161, 3) := by decide +kernel
theorem dX11_passes_32 : decode cX11_passes 32 = .ok (.aload_n 0, 1) := by decide +kernel
theorem dX11_passes_33 : decode cX11_passes 33 = .ok (.invokevirtual 164, 3) := by decide +kernel
theorem dX11_passes_36 : decode cX11_passes 36 = .ok (.aload_n 0, 1) := by decide +kernel
theorem dX11_passes_37 : decode cX11_passes 37 = .ok (.invokevirtual 167, 3) := by decide +kernel
theorem dX11_passes_40 : decode cX11_passes 40 = .ok (.aload_n 0, 1) := by decide +kernel
theorem dX11_passes_41 : decode cX11_passes 41 = .ok (.invokevirtual 170, 3) := by decide +kernel
theorem dX11_passes_44 : decode cX11_passes 44 = .ok (.iconst 1, 1) := by decide +kernel
theorem dX11_passes_45 : decode cX11_passes 45 = .ok (.ireturn, 1) := by decide +kernel
theorem dX11_differs_0 : decode cX11_differs 0 = .ok (.iconst 0, 1) := by decide +kernel
theorem dX11_differs_1 : decode cX11_differs 1 = .ok (.istore_n 2, 1) := by decide +kernel
theorem dX11_differs_2 : decode cX11_differs 2 = .ok (.bipush 64, 2) := by decide +kernel
theorem dX11_differs_4 : decode cX11_differs 4 = .ok (.iload_n 1, 1) := by decide +kernel
theorem dX11_differs_5 : decode cX11_differs 5 = .ok (.imul, 1) := by decide +kernel
theorem dX11_differs_6 : decode cX11_differs 6 = .ok (.istore_n 3, 1) := by decide +kernel
theorem dX11_differs_7 : decode cX11_differs 7 = .ok (.iload_n 3, 1) := by decide +kernel
theorem dX11_differs_8 : decode cX11_differs 8 = .ok (.bipush 64, 2) := by decide +kernel
theorem dX11_differs_10 : decode cX11_differs 10 = .ok (.iload_n 1, 1) := by decide +kernel
theorem dX11_differs_11 : decode cX11_differs 11 = .ok (.imul, 1) := by decide +kernel
theorem dX11_differs_12 : decode cX11_differs 12 = .ok (.bipush 64, 2) := by decide +kernel
theorem dX11_differs_14 : decode cX11_differs 14 = .ok (.iadd, 1) := by decide +kernel
theorem dX11_differs_15 : decode cX11_differs 15 = .ok (.if_icmp .ge 34, 3) := by decide +kernel
theorem dX11_differs_18 : decode cX11_differs 18 = .ok (.iload_n 2, 1) := by decide +kernel
theorem dX11_differs_19 : decode cX11_differs 19 = .ok (.ifCond .ne 18, 3) := by decide +kernel
theorem dX11_differs_22 : decode cX11_differs 22 = .ok (.aload_n 0, 1) := by decide +kernel
theorem dX11_differs_23 : decode cX11_differs 23 = .ok (.getfield 13, 3) := by decide +kernel
theorem dX11_differs_26 : decode cX11_differs 26 = .ok (.iload_n 3, 1) := by decide +kernel
theorem dX11_differs_27 : decode cX11_differs 27 = .ok (.iaload, 1) := by decide +kernel
theorem dX11_differs_28 : decode cX11_differs 28 = .ok (.aload_n 0, 1) := by decide +kernel
theorem dX11_differs_29 : decode cX11_differs 29 = .ok (.getfield 7, 3) := by decide +kernel
theorem dX11_differs_32 : decode cX11_differs 32 = .ok (.iload_n 3, 1) := by decide +kernel
theorem dX11_differs_33 : decode cX11_differs 33 = .ok (.iaload, 1) := by decide +kernel
theorem dX11_differs_34 : decode cX11_differs 34 = .ok (.if_icmp .eq 7, 3) := by decide +kernel
theorem dX11_differs_37 : decode cX11_differs 37 = .ok (.iconst 1, 1) := by decide +kernel
theorem dX11_differs_38 : decode cX11_differs 38 = .ok (.goto 4, 3) := by decide +kernel
theorem dX11_differs_41 : decode cX11_differs 41 = .ok (.iconst 0, 1) := by decide +kernel
theorem dX11_differs_42 : decode cX11_differs 42 = .ok (.istore_n 2, 1) := by decide +kernel
theorem dX11_differs_43 : decode cX11_differs 43 = .ok (.iinc 3 1, 3) := by decide +kernel
theorem dX11_differs_46 : decode cX11_differs 46 = .ok (.goto (-39), 3) := by decide +kernel
theorem dX11_differs_49 : decode cX11_differs 49 = .ok (.iload_n 2, 1) := by decide +kernel
theorem dX11_differs_50 : decode cX11_differs 50 = .ok (.ireturn, 1) := by decide +kernel
theorem dX11_written_0 : decode cX11_written 0 = .ok (.iconst 0, 1) := by decide +kernel
theorem dX11_written_1 : decode cX11_written 1 = .ok (.istore_n 3, 1) := by decide +kernel
theorem dX11_written_2 : decode cX11_written 2 = .ok (.iconst 0, 1) := by decide +kernel
theorem dX11_written_3 : decode cX11_written 3 = .ok (.istore 4, 2) := by decide +kernel
theorem dX11_written_5 : decode cX11_written 5 = .ok (.iload 4, 2) := by decide +kernel
theorem dX11_written_7 : decode cX11_written 7 = .ok (.bipush 64, 2) := by decide +kernel
theorem dX11_written_9 : decode cX11_written 9 = .ok (.if_icmp .ge 70, 3) := by decide +kernel
theorem dX11_written_12 : decode cX11_written 12 = .ok (.iload_n 3, 1) := by decide +kernel
theorem dX11_written_13 : decode cX11_written 13 = .ok (.iload_n 1, 1) := by decide +kernel
theorem dX11_written_14 : decode cX11_written 14 = .ok (.if_icmp .ge 65, 3) := by decide +kernel
theorem dX11_written_17 : decode cX11_written 17 = .ok (.aload_n 0, 1) := by decide +kernel
theorem dX11_written_18 : decode cX11_written 18 = .ok (.iload 4, 2) := by decide +kernel
theorem dX11_written_20 : decode cX11_written 20 = .ok (.invokevirtual 173, 3) := by decide +kernel
theorem dX11_written_23 : decode cX11_written 23 = .ok (.ifCond .eq 50, 3) := by decide +kernel
theorem dX11_written_26 : decode cX11_written 26 = .ok (.iinc 3 1, 3) := by decide +kernel
theorem dX11_written_29 : decode cX11_written 29 = .ok (.bipush 64, 2) := by decide +kernel
theorem dX11_written_31 : decode cX11_written 31 = .ok (.iload 4, 2) := by decide +kernel
theorem dX11_written_33 : decode cX11_written 33 = .ok (.imul, 1) := by decide +kernel
theorem dX11_written_34 : decode cX11_written 34 = .ok (.istore 5, 2) := by decide +kernel
theorem dX11_written_36 : decode cX11_written 36 = .ok (.iload 5, 2) := by decide +kernel
theorem dX11_written_38 : decode cX11_written 38 = .ok (.bipush 64, 2) := by decide +kernel
theorem dX11_written_40 : decode cX11_written 40 = .ok (.iload 4, 2) := by decide +kernel
theorem dX11_written_42 : decode cX11_written 42 = .ok (.imul, 1) := by decide +kernel
theorem dX11_written_43 : decode cX11_written 43 = .ok (.bipush 64, 2) := by decide +kernel
theorem dX11_written_45 : decode cX11_written 45 = .ok (.iadd, 1) := by decide +kernel
theorem dX11_written_46 : decode cX11_written 46 = .ok (.if_icmp .ge 27, 3) := by decide +kernel
theorem dX11_written_49 : decode cX11_written 49 = .ok (.iload_n 2, 1) := by decide +kernel
theorem dX11_written_50 : decode cX11_written 50 = .ok (.ifCond .eq 23, 3) := by decide +kernel
theorem dX11_written_53 : decode cX11_written 53 = .ok (.aload_n 0, 1) := by decide +kernel
theorem dX11_written_54 : decode cX11_written 54 = .ok (.getfield 7, 3) := by decide +kernel
theorem dX11_written_57 : decode cX11_written 57 = .ok (.iload 5, 2) := by decide +kernel
theorem dX11_written_59 : decode cX11_written 59 = .ok (.aload_n 0, 1) := by decide +kernel
theorem dX11_written_60 : decode cX11_written 60 = .ok (.getfield 13, 3) := by decide +kernel
theorem dX11_written_63 : decode cX11_written 63 = .ok (.iload 5, 2) := by decide +kernel
theorem dX11_written_65 : decode cX11_written 65 = .ok (.iaload, 1) := by decide +kernel
theorem dX11_written_66 : decode cX11_written 66 = .ok (.iastore, 1) := by decide +kernel
theorem dX11_written_67 : decode cX11_written 67 = .ok (.iinc 5 1, 3) := by decide +kernel
theorem dX11_written_70 : decode cX11_written 70 = .ok (.goto (-34), 3) := by decide +kernel
theorem dX11_written_73 : decode cX11_written 73 = .ok (.iinc 4 1, 3) := by decide +kernel
theorem dX11_written_76 : decode cX11_written 76 = .ok (.goto (-71), 3) := by decide +kernel
theorem dX11_written_79 : decode cX11_written 79 = .ok (.iload_n 3, 1) := by decide +kernel
theorem dX11_written_80 : decode cX11_written 80 = .ok (.ireturn, 1) := by decide +kernel
theorem dX11_format_0 : decode cX11_format 0 = .ok (.iconst 0, 1) := by decide +kernel
theorem dX11_format_1 : decode cX11_format 1 = .ok (.istore_n 1, 1) := by decide +kernel
theorem dX11_format_2 : decode cX11_format 2 = .ok (.iload_n 1, 1) := by decide +kernel
theorem dX11_format_3 : decode cX11_format 3 = .ok (.sipush 4096, 3) := by decide +kernel
theorem dX11_format_6 : decode cX11_format 6 = .ok (.if_icmp .ge 16, 3) := by decide +kernel
theorem dX11_format_9 : decode cX11_format 9 = .ok (.aload_n 0, 1) := by decide +kernel
theorem dX11_format_10 : decode cX11_format 10 = .ok (.getfield 13, 3) := by decide +kernel
theorem dX11_format_13 : decode cX11_format 13 = .ok (.iload_n 1, 1) := by decide +kernel
theorem dX11_format_14 : decode cX11_format 14 = .ok (.iconst 0, 1) := by decide +kernel
theorem dX11_format_15 : decode cX11_format 15 = .ok (.iastore, 1) := by decide +kernel
theorem dX11_format_16 : decode cX11_format 16 = .ok (.iinc 1 1, 3) := by decide +kernel
theorem dX11_format_19 : decode cX11_format 19 = .ok (.goto (-17), 3) := by decide +kernel
theorem dX11_format_22 : decode cX11_format 22 = .ok (.aload_n 0, 1) := by decide +kernel
theorem dX11_format_23 : decode cX11_format 23 = .ok (.iconst 0, 1) := by decide +kernel
theorem dX11_format_24 : decode cX11_format 24 = .ok (.iconst 0, 1) := by decide +kernel
theorem dX11_format_25 : decode cX11_format 25 = .ok (.iconst 0, 1) := by decide +kernel
theorem dX11_format_26 : decode cX11_format 26 = .ok (.invokevirtual 148, 3) := by decide +kernel
theorem dX11_format_29 : decode cX11_format 29 = .ok (.aload_n 0, 1) := by decide +kernel
theorem dX11_format_30 : decode cX11_format 30 = .ok (.invokevirtual 176, 3) := by decide +kernel
theorem dX11_format_33 : decode cX11_format 33 = .ok (.aload_n 0, 1) := by decide +kernel
theorem dX11_format_34 : decode cX11_format 34 = .ok (.iconst (-1), 1) := by decide +kernel
theorem dX11_format_35 : decode cX11_format 35 = .ok (.invokevirtual 179, 3) := by decide +kernel
theorem dX11_format_38 : decode cX11_format 38 = .ok (.ireturn, 1) := by decide +kernel
theorem dX11_poke_0 : decode cX11_poke 0 = .ok (.iload_n 1, 1) := by decide +kernel
theorem dX11_poke_1 : decode cX11_poke 1 = .ok (.ifCond .lt 21, 3) := by decide +kernel
theorem dX11_poke_4 : decode cX11_poke 4 = .ok (.iload_n 1, 1) := by decide +kernel
theorem dX11_poke_5 : decode cX11_poke 5 = .ok (.sipush 4096, 3) := by decide +kernel
theorem dX11_poke_8 : decode cX11_poke 8 = .ok (.if_icmp .ge 14, 3) := by decide +kernel
theorem dX11_poke_11 : decode cX11_poke 11 = .ok (.iload_n 2, 1) := by decide +kernel
theorem dX11_poke_12 : decode cX11_poke 12 = .ok (.ifCond .lt 10, 3) := by decide +kernel
theorem dX11_poke_15 : decode cX11_poke 15 = .ok (.iload_n 2, 1) := by decide +kernel
theorem dX11_poke_16 : decode cX11_poke 16 = .ok (.sipush 255, 3) := by decide +kernel
theorem dX11_poke_19 : decode cX11_poke 19 = .ok (.if_icmp .le 5, 3) := by decide +kernel
theorem dX11_poke_22 : decode cX11_poke 22 = .ok (.iconst 0, 1) := by decide +kernel
theorem dX11_poke_23 : decode cX11_poke 23 = .ok (.ireturn, 1) := by decide +kernel
theorem dX11_poke_24 : decode cX11_poke 24 = .ok (.aload_n 0, 1) := by decide +kernel
theorem dX11_poke_25 : decode cX11_poke 25 = .ok (.getfield 7, 3) := by decide +kernel
theorem dX11_poke_28 : decode cX11_poke 28 = .ok (.iload_n 1, 1) := by decide +kernel
theorem dX11_poke_29 : decode cX11_poke 29 = .ok (.iload_n 2, 1) := by decide +kernel
theorem dX11_poke_30 : decode cX11_poke 30 = .ok (.iastore, 1) := by decide +kernel
theorem dX11_poke_31 : decode cX11_poke 31 = .ok (.iconst 1, 1) := by decide +kernel
theorem dX11_poke_32 : decode cX11_poke 32 = .ok (.ireturn, 1) := by decide +kernel
theorem dX11_peek_0 : decode cX11_peek 0 = .ok (.iload_n 1, 1) := by decide +kernel
theorem dX11_peek_1 : decode cX11_peek 1 = .ok (.ifCond .lt 10, 3) := by decide +kernel
theorem dX11_peek_4 : decode cX11_peek 4 = .ok (.iload_n 1, 1) := by decide +kernel
theorem dX11_peek_5 : decode cX11_peek 5 = .ok (.sipush 4096, 3) := by decide +kernel
theorem dX11_peek_8 : decode cX11_peek 8 = .ok (.if_icmp .lt 7, 3) := by decide +kernel
theorem dX11_peek_11 : decode cX11_peek 11 = .ok (.iconst (-1), 1) := by decide +kernel
theorem dX11_peek_12 : decode cX11_peek 12 = .ok (.goto 9, 3) := by decide +kernel
theorem dX11_peek_15 : decode cX11_peek 15 = .ok (.aload_n 0, 1) := by decide +kernel
theorem dX11_peek_16 : decode cX11_peek 16 = .ok (.getfield 7, 3) := by decide +kernel
theorem dX11_peek_19 : decode cX11_peek 19 = .ok (.iload_n 1, 1) := by decide +kernel
theorem dX11_peek_20 : decode cX11_peek 20 = .ok (.iaload, 1) := by decide +kernel
theorem dX11_peek_21 : decode cX11_peek 21 = .ok (.ireturn, 1) := by decide +kernel
theorem dX11_seal_0 : decode cX11_seal 0 = .ok (.iload_n 1, 1) := by decide +kernel
theorem dX11_seal_1 : decode cX11_seal 1 = .ok (.ifCond .lt 9, 3) := by decide +kernel
theorem dX11_seal_4 : decode cX11_seal 4 = .ok (.iload_n 1, 1) := by decide +kernel
theorem dX11_seal_5 : decode cX11_seal 5 = .ok (.bipush 35, 2) := by decide +kernel
theorem dX11_seal_7 : decode cX11_seal 7 = .ok (.if_icmp .lt 5, 3) := by decide +kernel
theorem dX11_seal_10 : decode cX11_seal 10 = .ok (.iconst 0, 1) := by decide +kernel
theorem dX11_seal_11 : decode cX11_seal 11 = .ok (.ireturn, 1) := by decide +kernel
theorem dX11_seal_12 : decode cX11_seal 12 = .ok (.aload_n 0, 1) := by decide +kernel
theorem dX11_seal_13 : decode cX11_seal 13 = .ok (.invokevirtual 152, 3) := by decide +kernel
theorem dX11_seal_16 : decode cX11_seal 16 = .ok (.iload_n 1, 1) := by decide +kernel
theorem dX11_seal_17 : decode cX11_seal 17 = .ok (.iconst 2, 1) := by decide +kernel
theorem dX11_seal_18 : decode cX11_seal 18 = .ok (.if_icmp .ge 29, 3) := by decide +kernel
theorem dX11_seal_21 : decode cX11_seal 21 = .ok (.aload_n 0, 1) := by decide +kernel
theorem dX11_seal_22 : decode cX11_seal 22 = .ok (.sipush 4032, 3) := by decide +kernel
theorem dX11_seal_25 : decode cX11_seal 25 = .ok (.iload_n 1, 1) := by decide +kernel
theorem dX11_seal_26 : decode cX11_seal 26 = .ok (.imul, 1) := by decide +kernel
theorem dX11_seal_27 : decode cX11_seal 27 = .ok (.bipush 62, 2) := by decide +kernel
theorem dX11_seal_29 : decode cX11_seal 29 = .ok (.iadd, 1) := by decide +kernel
theorem dX11_seal_30 : decode cX11_seal 30 = .ok (.aload_n 0, 1) := by decide +kernel
theorem dX11_seal_31 : decode cX11_seal 31 = .ok (.sipush 4032, 3) := by decide +kernel
theorem dX11_seal_34 : decode cX11_seal 34 = .ok (.iload_n 1, 1) := by decide +kernel
theorem dX11_seal_35 : decode cX11_seal 35 = .ok (.imul, 1) := by decide +kernel
theorem dX11_seal_36 : decode cX11_seal 36 = .ok (.bipush 62, 2) := by decide +kernel
theorem dX11_seal_38 : decode cX11_seal 38 = .ok (.invokevirtual 38, 3) := by decide +kernel
theorem dX11_seal_41 : decode cX11_seal 41 = .ok (.invokevirtual 103, 3) := by decide +kernel
theorem dX11_seal_44 : decode cX11_seal 44 = .ok (.goto 88, 3) := by decide +kernel
theorem dX11_seal_47 : decode cX11_seal 47 = .ok (.iload_n 1, 1) := by decide +kernel
theorem dX11_seal_48 : decode cX11_seal 48 = .ok (.iconst 2, 1) := by decide +kernel
theorem dX11_seal_49 : decode cX11_seal 49 = .ok (.if_icmp .ne 58, 3) := by decide +kernel
theorem dX11_seal_52 : decode cX11_seal 52 = .ok (.aload_n 0, 1) := by decide +kernel
theorem dX11_seal_53 : decode cX11_seal 53 = .ok (.getfield 13, 3) := by decide +kernel
theorem dX11_seal_56 : decode cX11_seal 56 = .ok (.bipush 68, 2) := by decide +kernel
theorem dX11_seal_58 : decode cX11_seal 58 = .ok (.iaload, 1) := by decide +kernel
theorem dX11_seal_59 : decode cX11_seal 59 = .ok (.iconst 5, 1) := by decide +kernel
theorem dX11_seal_60 : decode cX11_seal 60 = .ok (.if_icmp .le 7, 3) := by decide +kernel
theorem dX11_seal_63 : decode cX11_seal 63 = .ok (.iconst 5, 1) := by decide +kernel
theorem dX11_seal_64 : decode cX11_seal 64 = .ok (.goto 10, 3) := by decide +kernel
theorem dX11_seal_67 : decode cX11_seal 67 = .ok (.aload_n 0, 1) := by decide +kernel
theorem dX11_seal_68 : decode cX11_seal 68 = .ok (.getfield 13, 3) := by decide +kernel
theorem dX11_seal_71 : decode cX11_seal 71 = .ok (.bipush 68, 2) := by decide +kernel
theorem dX11_seal_73 : decode cX11_seal 73 = .ok (.iaload, 1) := by decide +kernel
theorem dX11_seal_74 : decode cX11_seal 74 = .ok (.istore_n 2, 1) := by decide +kernel
theorem dX11_seal_75 : decode cX11_seal 75 = .ok (.aload_n 0, 1) := by decide +kernel
theorem dX11_seal_76 : decode cX11_seal 76 = .ok (.bipush 126, 2) := by decide +kernel
theorem dX11_seal_78 : decode cX11_seal 78 = .ok (.aload_n 0, 1) := by decide +kernel
theorem dX11_seal_79 : decode cX11_seal 79 = .ok (.bipush 64, 2) := by decide +kernel
theorem dX11_seal_81 : decode cX11_seal 81 = .ok (.bipush 62, 2) := by decide +kernel
theorem dX11_seal_83 : decode cX11_seal 83 = .ok (.invokevirtual 38, 3) := by decide +kernel
theorem dX11_seal_86 : decode cX11_seal 86 = .ok (.aload_n 0, 1) := by decide +kernel
theorem dX11_seal_87 : decode cX11_seal 87 = .ok (.sipush 128, 3) := by decide +kernel
theorem dX11_seal_90 : decode cX11_seal 90 = .ok (.iload_n 2, 1) := by decide +kernel
theorem dX11_seal_91 : decode cX11_seal 91 = .ok (.bipush 64, 2) := by decide +kernel
theorem dX11_seal_93 : decode cX11_seal 93 = .ok (.imul, 1) := by decide +kernel
theorem dX11_seal_94 : decode cX11_seal 94 = .ok (.invokevirtual 38, 3) := by decide +kernel
theorem dX11_seal_97 : decode cX11_seal 97 = .ok (.iadd, 1) := by decide +kernel
theorem dX11_seal_98 : decode cX11_seal 98 = .ok (.ldc 29, 2) := by decide +kernel
theorem dX11_seal_100 : decode cX11_seal 100 = .ok (.irem, 1) := by decide +kernel
theorem dX11_seal_101 : decode cX11_seal 101 = .ok (.invokevirtual 103, 3) := by decide +kernel
theorem dX11_seal_104 : decode cX11_seal 104 = .ok (.goto 28, 3) := by decide +kernel
theorem dX11_seal_107 : decode cX11_seal 107 = .ok (.aload_n 0, 1) := by decide +kernel
theorem dX11_seal_108 : decode cX11_seal 108 = .ok (.iload_n 1, 1) := by decide +kernel
theorem dX11_seal_109 : decode cX11_seal 109 = .ok (.iconst 3, 1) := by decide +kernel
theorem dX11_seal_110 : decode cX11_seal 110 = .ok (.isub, 1) := by decide +kernel
theorem dX11_seal_111 : decode cX11_seal 111 = .ok (.invokestatic 42, 3) := by decide +kernel
theorem dX11_seal_114 : decode cX11_seal 114 = .ok (.bipush 14, 2) := by decide +kernel
theorem dX11_seal_116 : decode cX11_seal 116 = .ok (.iadd, 1) := by decide +kernel
theorem dX11_seal_117 : decode cX11_seal 117 = .ok (.aload_n 0, 1) := by decide +kernel
theorem dX11_seal_118 : decode cX11_seal 118 = .ok (.iload_n 1, 1) := by decide +kernel
theorem dX11_seal_119 : decode cX11_seal 119 = .ok (.iconst 3, 1) := by decide +kernel
theorem dX11_seal_120 : decode cX11_seal 120 = .ok (.isub, 1) := by decide +kernel
theorem dX11_seal_121 : decode cX11_seal 121 = .ok (.invokestatic 42, 3) := by decide +kernel
theorem dX11_seal_124 : decode cX11_seal 124 = .ok (.bipush 14, 2) := by decide +kernel
theorem dX11_seal_126 : decode cX11_seal 126 = .ok (.invokevirtual 38, 3) := by decide +kernel
theorem dX11_seal_129 : decode cX11_seal 129 = .ok (.invokevirtual 103, 3) := by decide +kernel
theorem dX11_seal_132 : decode cX11_seal 132 = .ok (.aload_n 0, 1) := by decide +kernel
theorem dX11_seal_133 : decode cX11_seal 133 = .ok (.invokevirtual 176, 3) := by decide +kernel
theorem dX11_seal_136 : decode cX11_seal 136 = .ok (.iconst 1, 1) := by decide +kernel
theorem dX11_seal_137 : decode cX11_seal 137 = .ok (.ireturn, 1) := by decide +kernel
theorem dX11_commit_0 : decode cX11_commit 0 = .ok (.iload_n 3, 1) := by decide +kernel
theorem dX11_commit_1 : decode cX11_commit 1 = .ok (.iconst 1, 1) := by decide +kernel
theorem dX11_commit_2 : decode cX11_commit 2 = .ok (.if_icmp .lt 8, 3) := by decide +kernel
theorem dX11_commit_5 : decode cX11_commit 5 = .ok (.iload_n 3, 1) := by decide +kernel
theorem dX11_commit_6 : decode cX11_commit 6 = .ok (.iconst 5, 1) := by decide +kernel
theorem dX11_commit_7 : decode cX11_commit 7 = .ok (.if_icmp .le 5, 3) := by decide +kernel
theorem dX11_commit_10 : decode cX11_commit 10 = .ok (.iconst 0, 1) := by decide +kernel
theorem dX11_commit_11 : decode cX11_commit 11 = .ok (.ireturn, 1) := by decide +kernel
theorem dX11_commit_12 : decode cX11_commit 12 = .ok (.aload_n 0, 1) := by decide +kernel
theorem dX11_commit_13 : decode cX11_commit 13 = .ok (.invokevirtual 152, 3) := by decide +kernel
theorem dX11_commit_16 : decode cX11_commit 16 = .ok (.aload_n 0, 1) := by decide +kernel
theorem dX11_commit_17 : decode cX11_commit 17 = .ok (.bipush 64, 2) := by decide +kernel
theorem dX11_commit_19 : decode cX11_commit 19 = .ok (.bipush 64, 2) := by decide +kernel
theorem dX11_commit_21 : decode cX11_commit 21 = .ok (.invokevirtual 65, 3) := by decide +kernel
theorem dX11_commit_24 : decode cX11_commit 24 = .ok (.aload_n 0, 1) := by decide +kernel
theorem dX11_commit_25 : decode cX11_commit 25 = .ok (.getfield 13, 3) := by decide +kernel
theorem dX11_commit_28 : decode cX11_commit 28 = .ok (.bipush 64, 2) := by decide +kernel
theorem dX11_commit_30 : decode cX11_commit 30 = .ok (.bipush 74, 2) := by decide +kernel
theorem dX11_commit_32 : decode cX11_commit 32 = .ok (.iastore, 1) := by decide +kernel
theorem dX11_commit_33 : decode cX11_commit 33 = .ok (.aload_n 0, 1) := by decide +kernel
theorem dX11_commit_34 : decode cX11_commit 34 = .ok (.getfield 13, 3) := by decide +kernel
theorem dX11_commit_37 : decode cX11_commit 37 = .ok (.bipush 65, 2) := by decide +kernel
theorem dX11_commit_39 : decode cX11_commit 39 = .ok (.bipush 82, 2) := by decide +kernel
theorem dX11_commit_41 : decode cX11_commit 41 = .ok (.iastore, 1) := by decide +kernel
theorem dX11_commit_42 : decode cX11_commit 42 = .ok (.aload_n 0, 1) := by decide +kernel
theorem dX11_commit_43 : decode cX11_commit 43 = .ok (.getfield 13, 3) := by decide +kernel
theorem dX11_commit_46 : decode cX11_commit 46 = .ok (.bipush 66, 2) := by decide +kernel
theorem dX11_commit_48 : decode cX11_commit 48 = .ok (.bipush 78, 2) := by decide +kernel
theorem dX11_commit_50 : decode cX11_commit 50 = .ok (.iastore, 1) := by decide +kernel
theorem dX11_commit_51 : decode cX11_commit 51 = .ok (.aload_n 0, 1) := by decide +kernel
theorem dX11_commit_52 : decode cX11_commit 52 = .ok (.getfield 13, 3) := by decide +kernel
theorem dX11_commit_55 : decode cX11_commit 55 = .ok (.bipush 67, 2) := by decide +kernel
theorem dX11_commit_57 : decode cX11_commit 57 = .ok (.bipush 76, 2) := by decide +kernel
theorem dX11_commit_59 : decode cX11_commit 59 = .ok (.iastore, 1) := by decide +kernel
theorem dX11_commit_60 : decode cX11_commit 60 = .ok (.aload_n 0, 1) := by decide +kernel
theorem dX11_commit_61 : decode cX11_commit 61 = .ok (.getfield 13, 3) := by decide +kernel
theorem dX11_commit_64 : decode cX11_commit 64 = .ok (.bipush 68, 2) := by decide +kernel
theorem dX11_commit_66 : decode cX11_commit 66 = .ok (.iload_n 3, 1) := by decide +kernel
theorem dX11_commit_67 : decode cX11_commit 67 = .ok (.iastore, 1) := by decide +kernel
theorem dX11_commit_68 : decode cX11_commit 68 = .ok (.iconst 0, 1) := by decide +kernel
theorem dX11_commit_69 : decode cX11_commit 69 = .ok (.istore 4, 2) := by decide +kernel
theorem dX11_commit_71 : decode cX11_commit 71 = .ok (.iload 4, 2) := by decide +kernel
theorem dX11_commit_73 : decode cX11_commit 73 = .ok (.iload_n 3, 1) := by decide +kernel
theorem dX11_commit_74 : decode cX11_commit 74 = .ok (.if_icmp .ge 34, 3) := by decide +kernel
theorem dX11_commit_77 : decode cX11_commit 77 = .ok (.aload_n 0, 1) := by decide +kernel
theorem dX11_commit_78 : decode cX11_commit 78 = .ok (.getfield 13, 3) := by decide +kernel
theorem dX11_commit_81 : decode cX11_commit 81 = .ok (.bipush 69, 2) := by decide +kernel
theorem dX11_commit_83 : decode cX11_commit 83 = .ok (.iload 4, 2) := by decide +kernel
theorem dX11_commit_85 : decode cX11_commit 85 = .ok (.iadd, 1) := by decide +kernel
theorem dX11_commit_86 : decode cX11_commit 86 = .ok (.lload_n 1, 1) := by decide +kernel
theorem dX11_commit_87 : decode cX11_commit 87 = .ok (.bipush 56, 2) := by decide +kernel
theorem dX11_commit_89 : decode cX11_commit 89 = .ok (.bipush 8, 2) := by decide +kernel
theorem dX11_commit_91 : decode cX11_commit 91 = .ok (.iload 4, 2) := by decide +kernel
theorem dX11_commit_93 : decode cX11_commit 93 = .ok (.imul, 1) := by decide +kernel
theorem dX11_commit_94 : decode cX11_commit 94 = .ok (.isub, 1) := by decide +kernel
theorem dX11_commit_95 : decode cX11_commit 95 = .ok (.lushr, 1) := by decide +kernel
theorem dX11_commit_96 : decode cX11_commit 96 = .ok (.ldc2_w 182, 3) := by decide +kernel
theorem dX11_commit_99 : decode cX11_commit 99 = .ok (.land, 1) := by decide +kernel
theorem dX11_commit_100 : decode cX11_commit 100 = .ok (.l2i, 1) := by decide +kernel
theorem dX11_commit_101 : decode cX11_commit 101 = .ok (.iastore, 1) := by decide +kernel
theorem dX11_commit_102 : decode cX11_commit 102 = .ok (.iinc 4 1, 3) := by decide +kernel
theorem dX11_commit_105 : decode cX11_commit 105 = .ok (.goto (-34), 3) := by decide +kernel
theorem dX11_commit_108 : decode cX11_commit 108 = .ok (.aload_n 0, 1) := by decide +kernel
theorem dX11_commit_109 : decode cX11_commit 109 = .ok (.invokevirtual 176, 3) := by decide +kernel
theorem dX11_commit_112 : decode cX11_commit 112 = .ok (.aload_n 0, 1) := by decide +kernel
theorem dX11_commit_113 : decode cX11_commit 113 = .ok (.iconst 2, 1) := by decide +kernel
theorem dX11_commit_114 : decode cX11_commit 114 = .ok (.invokevirtual 184, 3) := by decide +kernel
theorem dX11_commit_117 : decode cX11_commit 117 = .ok (.ireturn, 1) := by decide +kernel
theorem dX11_check_0 : decode cX11_check 0 = .ok (.aload_n 0, 1) := by decide +kernel
theorem dX11_check_1 : decode cX11_check 1 = .ok (.invokevirtual 187, 3) := by decide +kernel
theorem dX11_check_4 : decode cX11_check 4 = .ok (.ifCond .eq 13, 3) := by decide +kernel
theorem dX11_check_7 : decode cX11_check 7 = .ok (.aload_n 0, 1) := by decide +kernel
theorem dX11_check_8 : decode cX11_check 8 = .ok (.bipush 64, 2) := by decide +kernel
theorem dX11_check_10 : decode cX11_check 10 = .ok (.iconst 0, 1) := by decide +kernel
theorem dX11_check_11 : decode cX11_check 11 = .ok (.invokevirtual 191, 3) := by decide +kernel
theorem dX11_check_14 : decode cX11_check 14 = .ok (.goto 4, 3) := by decide +kernel
theorem dX11_check_17 : decode cX11_check 17 = .ok (.iconst (-1), 1) := by decide +kernel
theorem dX11_check_18 : decode cX11_check 18 = .ok (.ireturn, 1) := by decide +kernel
theorem dX11_repair_0 : decode cX11_repair 0 = .ok (.iload_n 1, 1) := by decide +kernel
theorem dX11_repair_1 : decode cX11_repair 1 = .ok (.iconst (-1), 1) := by decide +kernel
theorem dX11_repair_2 : decode cX11_repair 2 = .ok (.if_icmp .lt 16, 3) := by decide +kernel
theorem dX11_repair_5 : decode cX11_repair 5 = .ok (.iload_n 1, 1) := by decide +kernel
theorem dX11_repair_6 : decode cX11_repair 6 = .ok (.bipush 64, 2) := by decide +kernel
theorem dX11_repair_8 : decode cX11_repair 8 = .ok (.if_icmp .gt 10, 3) := by decide +kernel
theorem dX11_repair_11 : decode cX11_repair 11 = .ok (.aload_n 0, 1) := by decide +kernel
theorem dX11_repair_12 : decode cX11_repair 12 = .ok (.invokevirtual 187, 3) := by decide +kernel
theorem dX11_repair_15 : decode cX11_repair 15 = .ok (.ifCond .ne 5, 3) := by decide +kernel
theorem dX11_repair_18 : decode cX11_repair 18 = .ok (.iconst (-1), 1) := by decide +kernel
theorem dX11_repair_19 : decode cX11_repair 19 = .ok (.ireturn, 1) := by decide +kernel
theorem dX11_repair_20 : decode cX11_repair 20 = .ok (.aload_n 0, 1) := by decide +kernel
theorem dX11_repair_21 : decode cX11_repair 21 = .ok (.iload_n 1, 1) := by decide +kernel
theorem dX11_repair_22 : decode cX11_repair 22 = .ok (.iconst (-1), 1) := by decide +kernel
theorem dX11_repair_23 : decode cX11_repair 23 = .ok (.if_icmp .ne 8, 3) := by decide +kernel
theorem dX11_repair_26 : decode cX11_repair 26 = .ok (.bipush 64, 2) := by decide +kernel
theorem dX11_repair_28 : decode cX11_repair 28 = .ok (.goto 4, 3) := by decide +kernel
theorem dX11_repair_31 : decode cX11_repair 31 = .ok (.iload_n 1, 1) := by decide +kernel
theorem dX11_repair_32 : decode cX11_repair 32 = .ok (.iconst 1, 1) := by decide +kernel
theorem dX11_repair_33 : decode cX11_repair 33 = .ok (.invokevirtual 191, 3) := by decide +kernel
theorem dX11_repair_36 : decode cX11_repair 36 = .ok (.ireturn, 1) := by decide +kernel
theorem dX11_inode_0 : decode cX11_inode 0 = .ok (.iload_n 1, 1) := by decide +kernel
theorem dX11_inode_1 : decode cX11_inode 1 = .ok (.ifCond .lt 18, 3) := by decide +kernel
theorem dX11_inode_4 : decode cX11_inode 4 = .ok (.iload_n 1, 1) := by decide +kernel
theorem dX11_inode_5 : decode cX11_inode 5 = .ok (.bipush 32, 2) := by decide +kernel
theorem dX11_inode_7 : decode cX11_inode 7 = .ok (.if_icmp .ge 12, 3) := by decide +kernel
theorem dX11_inode_10 : decode cX11_inode 10 = .ok (.iload_n 2, 1) := by decide +kernel
theorem dX11_inode_11 : decode cX11_inode 11 = .ok (.ifCond .lt 8, 3) := by decide +kernel
theorem dX11_inode_14 : decode cX11_inode 14 = .ok (.iload_n 2, 1) := by decide +kernel
theorem dX11_inode_15 : decode cX11_inode 15 = .ok (.iconst 2, 1) := by decide +kernel
theorem dX11_inode_16 : decode cX11_inode 16 = .ok (.if_icmp .le 5, 3) := by decide +kernel
theorem dX11_inode_19 : decode cX11_inode 19 = .ok (.iconst (-1), 1) := by decide +kernel
theorem dX11_inode_20 : decode cX11_inode 20 = .ok (.ireturn, 1) := by decide +kernel
theorem dX11_inode_21 : decode cX11_inode 21 = .ok (.iload_n 1, 1) := by decide +kernel
theorem dX11_inode_22 : decode cX11_inode 22 = .ok (.invokestatic 42, 3) := by decide +kernel
theorem dX11_inode_25 : decode cX11_inode 25 = .ok (.istore_n 3, 1) := by decide +kernel
theorem dX11_inode_26 : decode cX11_inode 26 = .ok (.iload_n 2, 1) := by decide +kernel
theorem dX11_inode_27 : decode cX11_inode 27 = .ok (.iconst 2, 1) := by decide +kernel
theorem dX11_inode_28 : decode cX11_inode 28 = .ok (.if_icmp .ge 14, 3) := by decide +kernel
theorem dX11_inode_31 : decode cX11_inode 31 = .ok (.aload_n 0, 1) := by decide +kernel
theorem dX11_inode_32 : decode cX11_inode 32 = .ok (.getfield 7, 3) := by decide +kernel
theorem dX11_inode_35 : decode cX11_inode 35 = .ok (.iload_n 3, 1) := by decide +kernel
theorem dX11_inode_36 : decode cX11_inode 36 = .ok (.iload_n 2, 1) := by decide +kernel
theorem dX11_inode_37 : decode cX11_inode 37 = .ok (.iadd, 1) := by decide +kernel
theorem dX11_inode_38 : decode cX11_inode 38 = .ok (.iaload, 1) := by decide +kernel
theorem dX11_inode_39 : decode cX11_inode 39 = .ok (.goto 24, 3) := by decide +kernel
theorem dX11_inode_42 : decode cX11_inode 42 = .ok (.aload_n 0, 1) := by decide +kernel
theorem dX11_inode_43 : decode cX11_inode 43 = .ok (.getfield 7, 3) := by decide +kernel
theorem dX11_inode_46 : decode cX11_inode 46 = .ok (.iload_n 3, 1) := by decide +kernel
theorem dX11_inode_47 : decode cX11_inode 47 = .ok (.iconst 2, 1) := by decide +kernel
theorem dX11_inode_48 : decode cX11_inode 48 = .ok (.iadd, 1) := by decide +kernel
theorem dX11_inode_49 : decode cX11_inode 49 = .ok (.iaload, 1) := by decide +kernel
theorem dX11_inode_50 : decode cX11_inode 50 = .ok (.sipush 256, 3) := by decide +kernel
theorem dX11_inode_53 : decode cX11_inode 53 = .ok (.imul, 1) := by decide +kernel
theorem dX11_inode_54 : decode cX11_inode 54 = .ok (.aload_n 0, 1) := by decide +kernel
theorem dX11_inode_55 : decode cX11_inode 55 = .ok (.getfield 7, 3) := by decide +kernel
theorem dX11_inode_58 : decode cX11_inode 58 = .ok (.iload_n 3, 1) := by decide +kernel
theorem dX11_inode_59 : decode cX11_inode 59 = .ok (.iconst 3, 1) := by decide +kernel
theorem dX11_inode_60 : decode cX11_inode 60 = .ok (.iadd, 1) := by decide +kernel
theorem dX11_inode_61 : decode cX11_inode 61 = .ok (.iaload, 1) := by decide +kernel
theorem dX11_inode_62 : decode cX11_inode 62 = .ok (.iadd, 1) := by decide +kernel
theorem dX11_inode_63 : decode cX11_inode 63 = .ok (.ireturn, 1) := by decide +kernel
theorem dX11_read_0 : decode cX11_read 0 = .ok (.iload_n 1, 1) := by decide +kernel
theorem dX11_read_1 : decode cX11_read 1 = .ok (.ifCond .lt 32, 3) := by decide +kernel
theorem dX11_read_4 : decode cX11_read 4 = .ok (.iload_n 1, 1) := by decide +kernel
theorem dX11_read_5 : decode cX11_read 5 = .ok (.bipush 32, 2) := by decide +kernel
theorem dX11_read_7 : decode cX11_read 7 = .ok (.if_icmp .ge 26, 3) := by decide +kernel
theorem dX11_read_10 : decode cX11_read 10 = .ok (.iload_n 2, 1) := by decide +kernel
theorem dX11_read_11 : decode cX11_read 11 = .ok (.ifCond .lt 22, 3) := by decide +kernel
theorem dX11_read_14 : decode cX11_read 14 = .ok (.iload_n 2, 1) := by decide +kernel
theorem dX11_read_15 : decode cX11_read 15 = .ok (.aload_n 0, 1) := by decide +kernel
theorem dX11_read_16 : decode cX11_read 16 = .ok (.iload_n 1, 1) := by decide +kernel
theorem dX11_read_17 : decode cX11_read 17 = .ok (.iconst 2, 1) := by decide +kernel
theorem dX11_read_18 : decode cX11_read 18 = .ok (.invokevirtual 195, 3) := by decide +kernel
theorem dX11_read_21 : decode cX11_read 21 = .ok (.if_icmp .ge 12, 3) := by decide +kernel
theorem dX11_read_24 : decode cX11_read 24 = .ok (.iload_n 2, 1) := by decide +kernel
theorem dX11_read_25 : decode cX11_read 25 = .ok (.bipush 64, 2) := by decide +kernel
theorem dX11_read_27 : decode cX11_read 27 = .ok (.idiv, 1) := by decide +kernel
theorem dX11_read_28 : decode cX11_read 28 = .ok (.bipush 45, 2) := by decide +kernel
theorem dX11_read_30 : decode cX11_read 30 = .ok (.if_icmp .le 5, 3) := by decide +kernel
theorem dX11_read_33 : decode cX11_read 33 = .ok (.iconst (-1), 1) := by decide +kernel
theorem dX11_read_34 : decode cX11_read 34 = .ok (.ireturn, 1) := by decide +kernel
theorem dX11_read_35 : decode cX11_read 35 = .ok (.iload_n 2, 1) := by decide +kernel
theorem dX11_read_36 : decode cX11_read 36 = .ok (.bipush 64, 2) := by decide +kernel
theorem dX11_read_38 : decode cX11_read 38 = .ok (.idiv, 1) := by decide +kernel
theorem dX11_read_39 : decode cX11_read 39 = .ok (.istore_n 3, 1) := by decide +kernel
theorem dX11_read_40 : decode cX11_read 40 = .ok (.aload_n 0, 1) := by decide +kernel
theorem dX11_read_41 : decode cX11_read 41 = .ok (.getfield 7, 3) := by decide +kernel
theorem dX11_read_44 : decode cX11_read 44 = .ok (.iload_n 1, 1) := by decide +kernel
theorem dX11_read_45 : decode cX11_read 45 = .ok (.invokestatic 42, 3) := by decide +kernel
theorem dX11_read_48 : decode cX11_read 48 = .ok (.iload_n 3, 1) := by decide +kernel
theorem dX11_read_49 : decode cX11_read 49 = .ok (.iconst 5, 1) := by decide +kernel
theorem dX11_read_50 : decode cX11_read 50 = .ok (.if_icmp .ge 9, 3) := by decide +kernel
theorem dX11_read_53 : decode cX11_read 53 = .ok (.iconst 4, 1) := by decide +kernel
theorem dX11_read_54 : decode cX11_read 54 = .ok (.iload_n 3, 1) := by decide +kernel
theorem dX11_read_55 : decode cX11_read 55 = .ok (.iadd, 1) := by decide +kernel
theorem dX11_read_56 : decode cX11_read 56 = .ok (.goto 5, 3) := by decide +kernel
theorem dX11_read_59 : decode cX11_read 59 = .ok (.bipush 9, 2) := by decide +kernel
theorem dX11_read_61 : decode cX11_read 61 = .ok (.iadd, 1) := by decide +kernel
theorem dX11_read_62 : decode cX11_read 62 = .ok (.iaload, 1) := by decide +kernel
theorem dX11_read_63 : decode cX11_read 63 = .ok (.istore 4, 2) := by decide +kernel
theorem dX11_read_65 : decode cX11_read 65 = .ok (.iload 4, 2) := by decide +kernel
theorem dX11_read_67 : decode cX11_read 67 = .ok (.bipush 16, 2) := by decide +kernel
theorem dX11_read_69 : decode cX11_read 69 = .ok (.if_icmp .lt 10, 3) := by decide +kernel
theorem dX11_read_72 : decode cX11_read 72 = .ok (.iload 4, 2) := by decide +kernel
theorem dX11_read_74 : decode cX11_read 74 = .ok (.bipush 63, 2) := by decide +kernel
theorem dX11_read_76 : decode cX11_read 76 = .ok (.if_icmp .lt 5, 3) := by decide +kernel
theorem dX11_read_79 : decode cX11_read 79 = .ok (.iconst (-1), 1) := by decide +kernel
theorem dX11_read_80 : decode cX11_read 80 = .ok (.ireturn, 1) := by decide +kernel
theorem dX11_read_81 : decode cX11_read 81 = .ok (.iload_n 3, 1) := by decide +kernel
theorem dX11_read_82 : decode cX11_read 82 = .ok (.iconst 5, 1) := by decide +kernel
theorem dX11_read_83 : decode cX11_read 83 = .ok (.if_icmp .lt 35, 3) := by decide +kernel
theorem dX11_read_86 : decode cX11_read 86 = .ok (.aload_n 0, 1) := by decide +kernel
theorem dX11_read_87 : decode cX11_read 87 = .ok (.getfield 7, 3) := by decide +kernel
theorem dX11_read_90 : decode cX11_read 90 = .ok (.bipush 64, 2) := by decide +kernel
theorem dX11_read_92 : decode cX11_read 92 = .ok (.iload 4, 2) := by decide +kernel
theorem dX11_read_94 : decode cX11_read 94 = .ok (.imul, 1) := by decide +kernel
theorem dX11_read_95 : decode cX11_read 95 = .ok (.iload_n 3, 1) := by decide +kernel
theorem dX11_read_96 : decode cX11_read 96 = .ok (.iadd, 1) := by decide +kernel
theorem dX11_read_97 : decode cX11_read 97 = .ok (.iconst 5, 1) := by decide +kernel
theorem dX11_read_98 : decode cX11_read 98 = .ok (.isub, 1) := by decide +kernel
theorem dX11_read_99 : decode cX11_read 99 = .ok (.iaload, 1) := by decide +kernel
theorem dX11_read_100 : decode cX11_read 100 = .ok (.istore 4, 2) := by decide +kernel
theorem dX11_read_102 : decode cX11_read 102 = .ok (.iload 4, 2) := by decide +kernel
theorem dX11_read_104 : decode cX11_read 104 = .ok (.bipush 16, 2) := by decide +kernel
theorem dX11_read_106 : decode cX11_read 106 = .ok (.if_icmp .lt 10, 3) := by decide +kernel
theorem dX11_read_109 : decode cX11_read 109 = .ok (.iload 4, 2) := by decide +kernel
theorem dX11_read_111 : decode cX11_read 111 = .ok (.bipush 63, 2) := by decide +kernel
theorem dX11_read_113 : decode cX11_read 113 = .ok (.if_icmp .lt 5, 3) := by decide +kernel
theorem dX11_read_116 : decode cX11_read 116 = .ok (.iconst (-1), 1) := by decide +kernel
theorem dX11_read_117 : decode cX11_read 117 = .ok (.ireturn, 1) := by decide +kernel
theorem dX11_read_118 : decode cX11_read 118 = .ok (.aload_n 0, 1) := by decide +kernel
theorem dX11_read_119 : decode cX11_read 119 = .ok (.getfield 7, 3) := by decide +kernel
theorem dX11_read_122 : decode cX11_read 122 = .ok (.bipush 64, 2) := by decide +kernel
theorem dX11_read_124 : decode cX11_read 124 = .ok (.iload 4, 2) := by decide +kernel
theorem dX11_read_126 : decode cX11_read 126 = .ok (.imul, 1) := by decide +kernel
theorem dX11_read_127 : decode cX11_read 127 = .ok (.iload_n 2, 1) := by decide +kernel
theorem dX11_read_128 : decode cX11_read 128 = .ok (.bipush 64, 2) := by decide +kernel
theorem dX11_read_130 : decode cX11_read 130 = .ok (.irem, 1) := by decide +kernel
theorem dX11_read_131 : decode cX11_read 131 = .ok (.iadd, 1) := by decide +kernel
theorem dX11_read_132 : decode cX11_read 132 = .ok (.iaload, 1) := by decide +kernel
theorem dX11_read_133 : decode cX11_read 133 = .ok (.ireturn, 1) := by decide +kernel
theorem dX11_nameOf_0 : decode cX11_nameOf 0 = .ok (.aload_n 0, 1) := by decide +kernel
theorem dX11_nameOf_1 : decode cX11_nameOf 1 = .ok (.iconst 0, 1) := by decide +kernel
theorem dX11_nameOf_2 : decode cX11_nameOf 2 = .ok (.putfield 69, 3) := by decide +kernel
theorem dX11_nameOf_5 : decode cX11_nameOf 5 = .ok (.bipush 56, 2) := by decide +kernel
theorem dX11_nameOf_7 : decode cX11_nameOf 7 = .ok (.istore_n 3, 1) := by decide +kernel
theorem dX11_nameOf_8 : decode cX11_nameOf 8 = .ok (.iload_n 3, 1) := by decide +kernel
theorem dX11_nameOf_9 : decode cX11_nameOf 9 = .ok (.ifCond .lt 52, 3) := by decide +kernel
theorem dX11_nameOf_12 : decode cX11_nameOf 12 = .ok (.lload_n 1, 1) := by decide +kernel
theorem dX11_nameOf_13 : decode cX11_nameOf 13 = .ok (.iload_n 3, 1) := by decide +kernel
theorem dX11_nameOf_14 : decode cX11_nameOf 14 = .ok (.lushr, 1) := by decide +kernel
theorem dX11_nameOf_15 : decode cX11_nameOf 15 = .ok (.ldc2_w 182, 3) := by decide +kernel
theorem dX11_nameOf_18 : decode cX11_nameOf 18 = .ok (.land, 1) := by decide +kernel
theorem dX11_nameOf_19 : decode cX11_nameOf 19 = .ok (.l2i, 1) := by decide +kernel
theorem dX11_nameOf_20 : decode cX11_nameOf 20 = .ok (.istore 4, 2) := by decide +kernel
theorem dX11_nameOf_22 : decode cX11_nameOf 22 = .ok (.iload 4, 2) := by decide +kernel
theorem dX11_nameOf_24 : decode cX11_nameOf 24 = .ok (.ifCond .ne 10, 3) := by decide +kernel
theorem dX11_nameOf_27 : decode cX11_nameOf 27 = .ok (.aload_n 0, 1) := by decide +kernel
theorem dX11_nameOf_28 : decode cX11_nameOf 28 = .ok (.getfield 69, 3) := by decide +kernel
theorem dX11_nameOf_31 : decode cX11_nameOf 31 = .ok (.ifCond .le 24, 3) := by decide +kernel
theorem dX11_nameOf_34 : decode cX11_nameOf 34 = .ok (.aload_n 0, 1) := by decide +kernel
theorem dX11_nameOf_35 : decode cX11_nameOf 35 = .ok (.getfield 26, 3) := by decide +kernel
theorem dX11_nameOf_38 : decode cX11_nameOf 38 = .ok (.aload_n 0, 1) := by decide +kernel
theorem dX11_nameOf_39 : decode cX11_nameOf 39 = .ok (.getfield 69, 3) := by decide +kernel
theorem dX11_nameOf_42 : decode cX11_nameOf 42 = .ok (.iload 4, 2) := by decide +kernel
theorem dX11_nameOf_44 : decode cX11_nameOf 44 = .ok (.iastore, 1) := by decide +kernel
theorem dX11_nameOf_45 : decode cX11_nameOf 45 = .ok (.aload_n 0, 1) := by decide +kernel
theorem dX11_nameOf_46 : decode cX11_nameOf 46 = .ok (.dup, 1) := by decide +kernel
theorem dX11_nameOf_47 : decode cX11_nameOf 47 = .ok (.getfield 69, 3) := by decide +kernel
theorem dX11_nameOf_50 : decode cX11_nameOf 50 = .ok (.iconst 1, 1) := by decide +kernel
theorem dX11_nameOf_51 : decode cX11_nameOf 51 = .ok (.iadd, 1) := by decide +kernel
theorem dX11_nameOf_52 : decode cX11_nameOf 52 = .ok (.putfield 69, 3) := by decide +kernel
theorem dX11_nameOf_55 : decode cX11_nameOf 55 = .ok (.iinc 3 (-8), 3) := by decide +kernel
theorem dX11_nameOf_58 : decode cX11_nameOf 58 = .ok (.goto (-50), 3) := by decide +kernel
theorem dX11_nameOf_61 : decode cX11_nameOf 61 = .ok (.return_, 1) := by decide +kernel
theorem dX11_find__0 : decode cX11_find_ 0 = .ok (.iload_n 1, 1) := by decide +kernel
theorem dX11_find__1 : decode cX11_find_ 1 = .ok (.ifCond .lt 15, 3) := by decide +kernel
theorem dX11_find__4 : decode cX11_find_ 4 = .ok (.iload_n 1, 1) := by decide +kernel
theorem dX11_find__5 : decode cX11_find_ 5 = .ok (.bipush 32, 2) := by decide +kernel
theorem dX11_find__7 : decode cX11_find_ 7 = .ok (.if_icmp .ge 9, 3) := by decide +kernel
theorem dX11_find__10 : decode cX11_find_ 10 = .ok (.lload_n 2, 1) := by decide +kernel
theorem dX11_find__11 : decode cX11_find_ 11 = .ok (.lconst 0, 1) := by decide +kernel
theorem dX11_find__12 : decode cX11_find_ 12 = .ok (.lcmp, 1) := by decide +kernel
theorem dX11_find__13 : decode cX11_find_ 13 = .ok (.ifCond .ne 5, 3) := by decide +kernel
theorem dX11_find__16 : decode cX11_find_ 16 = .ok (.iconst (-1), 1) := by decide +kernel
theorem dX11_find__17 : decode cX11_find_ 17 = .ok (.ireturn, 1) := by decide +kernel
theorem dX11_find__18 : decode cX11_find_ 18 = .ok (.aload_n 0, 1) := by decide +kernel
theorem dX11_find__19 : decode cX11_find_ 19 = .ok (.lload_n 2, 1) := by decide +kernel
theorem dX11_find__20 : decode cX11_find_ 20 = .ok (.invokevirtual 198, 3) := by decide +kernel
theorem dX11_find__23 : decode cX11_find_ 23 = .ok (.iconst 2, 1) := by decide +kernel
theorem dX11_find__24 : decode cX11_find_ 24 = .ok (.istore 4, 2) := by decide +kernel
theorem dX11_find__26 : decode cX11_find_ 26 = .ok (.bipush 16, 2) := by decide +kernel
theorem dX11_find__28 : decode cX11_find_ 28 = .ok (.iload 4, 2) := by decide +kernel
theorem dX11_find__30 : decode cX11_find_ 30 = .ok (.imul, 1) := by decide +kernel
theorem dX11_find__31 : decode cX11_find_ 31 = .ok (.bipush 15, 2) := by decide +kernel
theorem dX11_find__33 : decode cX11_find_ 33 = .ok (.iadd, 1) := by decide +kernel
theorem dX11_find__34 : decode cX11_find_ 34 = .ok (.aload_n 0, 1) := by decide +kernel
theorem dX11_find__35 : decode cX11_find_ 35 = .ok (.iload_n 1, 1) := by decide +kernel
theorem dX11_find__36 : decode cX11_find_ 36 = .ok (.iconst 2, 1) := by decide +kernel
theorem dX11_find__37 : decode cX11_find_ 37 = .ok (.invokevirtual 195, 3) := by decide +kernel
theorem dX11_find__40 : decode cX11_find_ 40 = .ok (.if_icmp .ge 106, 3) := by decide +kernel
theorem dX11_find__43 : decode cX11_find_ 43 = .ok (.aload_n 0, 1) := by decide +kernel
theorem dX11_find__44 : decode cX11_find_ 44 = .ok (.iload_n 1, 1) := by decide +kernel
theorem dX11_find__45 : decode cX11_find_ 45 = .ok (.bipush 16, 2) := by decide +kernel
theorem dX11_find__47 : decode cX11_find_ 47 = .ok (.iload 4, 2) := by decide +kernel
theorem dX11_find__49 : decode cX11_find_ 49 = .ok (.imul, 1) := by decide +kernel
theorem dX11_find__50 : decode cX11_find_ 50 = .ok (.iconst 1, 1) := by decide +kernel
theorem dX11_find__51 : decode cX11_find_ 51 = .ok (.iadd, 1) := by decide +kernel
theorem dX11_find__52 : decode cX11_find_ 52 = .ok (.invokevirtual 202, 3) := by decide +kernel
theorem dX11_find__55 : decode cX11_find_ 55 = .ok (.aload_n 0, 1) := by decide +kernel
theorem dX11_find__56 : decode cX11_find_ 56 = .ok (.getfield 69, 3) := by decide +kernel
theorem dX11_find__59 : decode cX11_find_ 59 = .ok (.if_icmp .ne 7, 3) := by decide +kernel
theorem dX11_find__62 : decode cX11_find_ 62 = .ok (.iconst 1, 1) := by decide +kernel
theorem dX11_find__63 : decode cX11_find_ 63 = .ok (.goto 4, 3) := by decide +kernel
theorem dX11_find__66 : decode cX11_find_ 66 = .ok (.iconst 0, 1) := by decide +kernel
theorem dX11_find__67 : decode cX11_find_ 67 = .ok (.istore 5, 2) := by decide +kernel
theorem dX11_find__69 : decode cX11_find_ 69 = .ok (.iconst 0, 1) := by decide +kernel
theorem dX11_find__70 : decode cX11_find_ 70 = .ok (.istore 6, 2) := by decide +kernel
theorem dX11_find__72 : decode cX11_find_ 72 = .ok (.iload 6, 2) := by decide +kernel
theorem dX11_find__74 : decode cX11_find_ 74 = .ok (.aload_n 0, 1) := by decide +kernel
theorem dX11_find__75 : decode cX11_find_ 75 = .ok (.getfield 69, 3) := by decide +kernel
theorem dX11_find__78 : decode cX11_find_ 78 = .ok (.if_icmp .ge 46, 3) := by decide +kernel
theorem dX11_find__81 : decode cX11_find_ 81 = .ok (.iload 5, 2) := by decide +kernel
theorem dX11_find__83 : decode cX11_find_ 83 = .ok (.ifCond .eq 32, 3) := by decide +kernel
theorem dX11_find__86 : decode cX11_find_ 86 = .ok (.aload_n 0, 1) := by decide +kernel
theorem dX11_find__87 : decode cX11_find_ 87 = .ok (.iload_n 1, 1) := by decide +kernel
theorem dX11_find__88 : decode cX11_find_ 88 = .ok (.bipush 16, 2) := by decide +kernel
theorem dX11_find__90 : decode cX11_find_ 90 = .ok (.iload 4, 2) := by decide +kernel
theorem dX11_find__92 : decode cX11_find_ 92 = .ok (.imul, 1) := by decide +kernel
theorem dX11_find__93 : decode cX11_find_ 93 = .ok (.iconst 2, 1) := by decide +kernel
theorem dX11_find__94 : decode cX11_find_ 94 = .ok (.iadd, 1) := by decide +kernel
theorem dX11_find__95 : decode cX11_find_ 95 = .ok (.iload 6, 2) := by decide +kernel
theorem dX11_find__97 : decode cX11_find_ 97 = .ok (.iadd, 1) := by decide +kernel
theorem dX11_find__98 : decode cX11_find_ 98 = .ok (.invokevirtual 202, 3) := by decide +kernel
theorem dX11_find__101 : decode cX11_find_ 101 = .ok (.aload_n 0, 1) := by decide +kernel
theorem dX11_find__102 : decode cX11_find_ 102 = .ok (.getfield 26, 3) := by decide +kernel
theorem dX11_find__105 : decode cX11_find_ 105 = .ok (.iload 6, 2) := by decide +kernel
theorem dX11_find__107 : decode cX11_find_ 107 = .ok (.iaload, 1) := by decide +kernel
theorem dX11_find__108 : decode cX11_find_ 108 = .ok (.if_icmp .ne 7, 3) := by decide +kernel
theorem dX11_find__111 : decode cX11_find_ 111 = .ok (.iconst 1, 1) := by decide +kernel
theorem dX11_find__112 : decode cX11_find_ 112 = .ok (.goto 4, 3) := by decide +kernel
theorem dX11_find__115 : decode cX11_find_ 115 = .ok (.iconst 0, 1) := by decide +kernel
theorem dX11_find__116 : decode cX11_find_ 116 = .ok (.istore 5, 2) := by decide +kernel
theorem dX11_find__118 : decode cX11_find_ 118 = .ok (.iinc 6 1, 3) := by decide +kernel
theorem dX11_find__121 : decode cX11_find_ 121 = .ok (.goto (-49), 3) := by decide +kernel
theorem dX11_find__124 : decode cX11_find_ 124 = .ok (.iload 5, 2) := by decide +kernel
theorem dX11_find__126 : decode cX11_find_ 126 = .ok (.ifCond .eq 14, 3) := by decide +kernel
theorem dX11_find__129 : decode cX11_find_ 129 = .ok (.aload_n 0, 1) := by decide +kernel
theorem dX11_find__130 : decode cX11_find_ 130 = .ok (.iload_n 1, 1) := by decide +kernel
theorem dX11_find__131 : decode cX11_find_ 131 = .ok (.bipush 16, 2) := by decide +kernel
theorem dX11_find__133 : decode cX11_find_ 133 = .ok (.iload 4, 2) := by decide +kernel
theorem dX11_find__135 : decode cX11_find_ 135 = .ok (.imul, 1) := by decide +kernel
theorem dX11_find__136 : decode cX11_find_ 136 = .ok (.invokevirtual 202, 3) := by decide +kernel
theorem dX11_find__139 : decode cX11_find_ 139 = .ok (.ireturn, 1) := by decide +kernel
theorem dX11_find__140 : decode cX11_find_ 140 = .ok (.iinc 4 1, 3) := by decide +kernel
theorem dX11_find__143 : decode cX11_find_ 143 = .ok (.goto (-117), 3) := by decide +kernel
theorem dX11_find__146 : decode cX11_find_ 146 = .ok (.iconst (-1), 1) := by decide +kernel
theorem dX11_find__147 : decode cX11_find_ 147 = .ok (.ireturn, 1) := by decide +kernel
theorem dX11_mayPut_0 : decode cX11_mayPut 0 = .ok (.aload_n 0, 1) := by decide +kernel
theorem dX11_mayPut_1 : decode cX11_mayPut 1 = .ok (.invokevirtual 205, 3) := by decide +kernel
theorem dX11_mayPut_4 : decode cX11_mayPut 4 = .ok (.ifCond .ne 29, 3) := by decide +kernel
theorem dX11_mayPut_7 : decode cX11_mayPut 7 = .ok (.iload_n 1, 1) := by decide +kernel
theorem dX11_mayPut_8 : decode cX11_mayPut 8 = .ok (.iconst 1, 1) := by decide +kernel
theorem dX11_mayPut_9 : decode cX11_mayPut 9 = .ok (.if_icmp .lt 24, 3) := by decide +kernel
theorem dX11_mayPut_12 : decode cX11_mayPut 12 = .ok (.iload_n 1, 1) := by decide +kernel
theorem dX11_mayPut_13 : decode cX11_mayPut 13 = .ok (.bipush 32, 2) := by decide +kernel
theorem dX11_mayPut_15 : decode cX11_mayPut 15 = .ok (.if_icmp .ge 18, 3) := by decide +kernel
theorem dX11_mayPut_18 : decode cX11_mayPut 18 = .ok (.aload_n 0, 1) := by decide +kernel
theorem dX11_mayPut_19 : decode cX11_mayPut 19 = .ok (.iload_n 1, 1) := by decide +kernel
theorem dX11_mayPut_20 : decode cX11_mayPut 20 = .ok (.invokevirtual 62, 3) := by decide +kernel
theorem dX11_mayPut_23 : decode cX11_mayPut 23 = .ok (.iconst 2, 1) := by decide +kernel
theorem dX11_mayPut_24 : decode cX11_mayPut 24 = .ok (.if_icmp .ne 9, 3) := by decide +kernel
theorem dX11_mayPut_27 : decode cX11_mayPut 27 = .ok (.lload_n 2, 1) := by decide +kernel
theorem dX11_mayPut_28 : decode cX11_mayPut 28 = .ok (.lconst 0, 1) := by decide +kernel
theorem dX11_mayPut_29 : decode cX11_mayPut 29 = .ok (.lcmp, 1) := by decide +kernel
theorem dX11_mayPut_30 : decode cX11_mayPut 30 = .ok (.ifCond .ne 5, 3) := by decide +kernel
theorem dX11_mayPut_33 : decode cX11_mayPut 33 = .ok (.iconst 0, 1) := by decide +kernel
theorem dX11_mayPut_34 : decode cX11_mayPut 34 = .ok (.ireturn, 1) := by decide +kernel
theorem dX11_mayPut_35 : decode cX11_mayPut 35 = .ok (.aload_n 0, 1) := by decide +kernel
theorem dX11_mayPut_36 : decode cX11_mayPut 36 = .ok (.lload_n 2, 1) := by decide +kernel
theorem dX11_mayPut_37 : decode cX11_mayPut 37 = .ok (.invokevirtual 198, 3) := by decide +kernel
theorem dX11_mayPut_40 : decode cX11_mayPut 40 = .ok (.iconst 1, 1) := by decide +kernel
theorem dX11_mayPut_41 : decode cX11_mayPut 41 = .ok (.istore 4, 2) := by decide +kernel
theorem dX11_mayPut_43 : decode cX11_mayPut 43 = .ok (.aload_n 0, 1) := by decide +kernel
theorem dX11_mayPut_44 : decode cX11_mayPut 44 = .ok (.getfield 69, 3) := by decide +kernel
theorem dX11_mayPut_47 : decode cX11_mayPut 47 = .ok (.iconst 3, 1) := by decide +kernel
theorem dX11_mayPut_48 : decode cX11_mayPut 48 = .ok (.if_icmp .ge 7, 3) := by decide +kernel
theorem dX11_mayPut_51 : decode cX11_mayPut 51 = .ok (.iconst 1, 1) := by decide +kernel
theorem dX11_mayPut_52 : decode cX11_mayPut 52 = .ok (.goto 4, 3) := by decide +kernel
theorem dX11_mayPut_55 : decode cX11_mayPut 55 = .ok (.iconst 0, 1) := by decide +kernel
theorem dX11_mayPut_56 : decode cX11_mayPut 56 = .ok (.istore 5, 2) := by decide +kernel
theorem dX11_mayPut_58 : decode cX11_mayPut 58 = .ok (.iconst 0, 1) := by decide +kernel
theorem dX11_mayPut_59 : decode cX11_mayPut 59 = .ok (.istore 6, 2) := by decide +kernel
theorem dX11_mayPut_61 : decode cX11_mayPut 61 = .ok (.iload 6, 2) := by decide +kernel
theorem dX11_mayPut_63 : decode cX11_mayPut 63 = .ok (.aload_n 0, 1) := by decide +kernel
theorem dX11_mayPut_64 : decode cX11_mayPut 64 = .ok (.getfield 69, 3) := by decide +kernel
theorem dX11_mayPut_67 : decode cX11_mayPut 67 = .ok (.if_icmp .ge 67, 3) := by decide +kernel
theorem dX11_mayPut_70 : decode cX11_mayPut 70 = .ok (.iload 4, 2) := by decide +kernel
theorem dX11_mayPut_72 : decode cX11_mayPut 72 = .ok (.ifCond .eq 29, 3) := by decide +kernel
theorem dX11_mayPut_75 : decode cX11_mayPut 75 = .ok (.aload_n 0, 1) := by decide +kernel
theorem dX11_mayPut_76 : decode cX11_mayPut 76 = .ok (.getfield 26, 3) := by decide +kernel
theorem dX11_mayPut_79 : decode cX11_mayPut 79 = .ok (.iload 6, 2) := by decide +kernel
theorem dX11_mayPut_81 : decode cX11_mayPut 81 = .ok (.iaload, 1) := by decide +kernel
theorem dX11_mayPut_82 : decode cX11_mayPut 82 = .ok (.ifCond .eq 19, 3) := by decide +kernel
theorem dX11_mayPut_85 : decode cX11_mayPut 85 = .ok (.aload_n 0, 1) := by decide +kernel
theorem dX11_mayPut_86 : decode cX11_mayPut 86 = .ok (.getfield 26, 3) := by decide +kernel
theorem dX11_mayPut_89 : decode cX11_mayPut 89 = .ok (.iload 6, 2) := by decide +kernel
theorem dX11_mayPut_91 : decode cX11_mayPut 91 = .ok (.iaload, 1) := by decide +kernel
theorem dX11_mayPut_92 : decode cX11_mayPut 92 = .ok (.bipush 47, 2) := by decide +kernel
theorem dX11_mayPut_94 : decode cX11_mayPut 94 = .ok (.if_icmp .eq 7, 3) := by decide +kernel
theorem dX11_mayPut_97 : decode cX11_mayPut 97 = .ok (.iconst 1, 1) := by decide +kernel
theorem dX11_mayPut_98 : decode cX11_mayPut 98 = .ok (.goto 4, 3) := by decide +kernel
theorem dX11_mayPut_101 : decode cX11_mayPut 101 = .ok (.iconst 0, 1) := by decide +kernel
theorem dX11_mayPut_102 : decode cX11_mayPut 102 = .ok (.istore 4, 2) := by decide +kernel
theorem dX11_mayPut_104 : decode cX11_mayPut 104 = .ok (.iload 5, 2) := by decide +kernel
theorem dX11_mayPut_106 : decode cX11_mayPut 106 = .ok (.ifCond .eq 19, 3) := by decide +kernel
theorem dX11_mayPut_109 : decode cX11_mayPut 109 = .ok (.aload_n 0, 1) := by decide +kernel
theorem dX11_mayPut_110 : decode cX11_mayPut 110 = .ok (.getfield 26, 3) := by decide +kernel
theorem dX11_mayPut_113 : decode cX11_mayPut 113 = .ok (.iload 6, 2) := by decide +kernel
theorem dX11_mayPut_115 : decode cX11_mayPut 115 = .ok (.iaload, 1) := by decide +kernel
theorem dX11_mayPut_116 : decode cX11_mayPut 116 = .ok (.bipush 46, 2) := by decide +kernel
theorem dX11_mayPut_118 : decode cX11_mayPut 118 = .ok (.if_icmp .ne 7, 3) := by decide +kernel
theorem dX11_mayPut_121 : decode cX11_mayPut 121 = .ok (.iconst 1, 1) := by decide +kernel
theorem dX11_mayPut_122 : decode cX11_mayPut 122 = .ok (.goto 4, 3) := by decide +kernel
theorem dX11_mayPut_125 : decode cX11_mayPut 125 = .ok (.iconst 0, 1) := by decide +kernel
