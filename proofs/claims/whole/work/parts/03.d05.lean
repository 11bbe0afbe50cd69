theorem dX11_mayPut_126 : decode cX11_mayPut 126 = .ok (.istore 5, 2) := by decide +kernel
theorem dX11_mayPut_128 : decode cX11_mayPut 128 = .ok (.iinc 6 1, 3) := by decide +kernel
theorem dX11_mayPut_131 : decode cX11_mayPut 131 = .ok (.goto (-70), 3) := by decide +kernel
theorem dX11_mayPut_134 : decode cX11_mayPut 134 = .ok (.iload 4, 2) := by decide +kernel
theorem dX11_mayPut_136 : decode cX11_mayPut 136 = .ok (.ifCond .eq 26, 3) := by decide +kernel
theorem dX11_mayPut_139 : decode cX11_mayPut 139 = .ok (.iload 5, 2) := by decide +kernel
theorem dX11_mayPut_141 : decode cX11_mayPut 141 = .ok (.ifCond .ne 21, 3) := by decide +kernel
theorem dX11_mayPut_144 : decode cX11_mayPut 144 = .ok (.aload_n 0, 1) := by decide +kernel
theorem dX11_mayPut_145 : decode cX11_mayPut 145 = .ok (.iload_n 1, 1) := by decide +kernel
theorem dX11_mayPut_146 : decode cX11_mayPut 146 = .ok (.aload_n 0, 1) := by decide +kernel
theorem dX11_mayPut_147 : decode cX11_mayPut 147 = .ok (.iload_n 1, 1) := by decide +kernel
theorem dX11_mayPut_148 : decode cX11_mayPut 148 = .ok (.invokevirtual 106, 3) := by decide +kernel
theorem dX11_mayPut_151 : decode cX11_mayPut 151 = .ok (.invokevirtual 79, 3) := by decide +kernel
theorem dX11_mayPut_154 : decode cX11_mayPut 154 = .ok (.iconst (-1), 1) := by decide +kernel
theorem dX11_mayPut_155 : decode cX11_mayPut 155 = .ok (.if_icmp .ne 7, 3) := by decide +kernel
theorem dX11_mayPut_158 : decode cX11_mayPut 158 = .ok (.iconst 1, 1) := by decide +kernel
theorem dX11_mayPut_159 : decode cX11_mayPut 159 = .ok (.goto 4, 3) := by decide +kernel
theorem dX11_mayPut_162 : decode cX11_mayPut 162 = .ok (.iconst 0, 1) := by decide +kernel
theorem dX11_mayPut_163 : decode cX11_mayPut 163 = .ok (.ireturn, 1) := by decide +kernel
theorem dX11_make__0 : decode cX11_make_ 0 = .ok (.iload 4, 2) := by decide +kernel
theorem dX11_make__2 : decode cX11_make_ 2 = .ok (.iconst 1, 1) := by decide +kernel
theorem dX11_make__3 : decode cX11_make_ 3 = .ok (.if_icmp .lt 18, 3) := by decide +kernel
theorem dX11_make__6 : decode cX11_make_ 6 = .ok (.iload 4, 2) := by decide +kernel
theorem dX11_make__8 : decode cX11_make_ 8 = .ok (.iconst 2, 1) := by decide +kernel
theorem dX11_make__9 : decode cX11_make_ 9 = .ok (.if_icmp .gt 12, 3) := by decide +kernel
theorem dX11_make__12 : decode cX11_make_ 12 = .ok (.aload_n 0, 1) := by decide +kernel
theorem dX11_make__13 : decode cX11_make_ 13 = .ok (.iload_n 1, 1) := by decide +kernel
theorem dX11_make__14 : decode cX11_make_ 14 = .ok (.lload_n 2, 1) := by decide +kernel
theorem dX11_make__15 : decode cX11_make_ 15 = .ok (.invokevirtual 209, 3) := by decide +kernel
theorem dX11_make__18 : decode cX11_make_ 18 = .ok (.ifCond .ne 5, 3) := by decide +kernel
theorem dX11_make__21 : decode cX11_make_ 21 = .ok (.iconst (-1), 1) := by decide +kernel
theorem dX11_make__22 : decode cX11_make_ 22 = .ok (.ireturn, 1) := by decide +kernel
theorem dX11_make__23 : decode cX11_make_ 23 = .ok (.iconst 3, 1) := by decide +kernel
theorem dX11_make__24 : decode cX11_make_ 24 = .ok (.istore 5, 2) := by decide +kernel
theorem dX11_make__26 : decode cX11_make_ 26 = .ok (.iload 5, 2) := by decide +kernel
theorem dX11_make__28 : decode cX11_make_ 28 = .ok (.bipush 32, 2) := by decide +kernel
theorem dX11_make__30 : decode cX11_make_ 30 = .ok (.if_icmp .ge 18, 3) := by decide +kernel
theorem dX11_make__33 : decode cX11_make_ 33 = .ok (.aload_n 0, 1) := by decide +kernel
theorem dX11_make__34 : decode cX11_make_ 34 = .ok (.iload 5, 2) := by decide +kernel
theorem dX11_make__36 : decode cX11_make_ 36 = .ok (.invokevirtual 62, 3) := by decide +kernel
theorem dX11_make__39 : decode cX11_make_ 39 = .ok (.ifCond .le 9, 3) := by decide +kernel
theorem dX11_make__42 : decode cX11_make_ 42 = .ok (.iinc 5 1, 3) := by decide +kernel
theorem dX11_make__45 : decode cX11_make_ 45 = .ok (.goto (-19), 3) := by decide +kernel
theorem dX11_make__48 : decode cX11_make_ 48 = .ok (.iload 5, 2) := by decide +kernel
theorem dX11_make__50 : decode cX11_make_ 50 = .ok (.bipush 32, 2) := by decide +kernel
theorem dX11_make__52 : decode cX11_make_ 52 = .ok (.if_icmp .ne 5, 3) := by decide +kernel
theorem dX11_make__55 : decode cX11_make_ 55 = .ok (.iconst (-1), 1) := by decide +kernel
theorem dX11_make__56 : decode cX11_make_ 56 = .ok (.ireturn, 1) := by decide +kernel
theorem dX11_make__57 : decode cX11_make_ 57 = .ok (.aload_n 0, 1) := by decide +kernel
theorem dX11_make__58 : decode cX11_make_ 58 = .ok (.getfield 13, 3) := by decide +kernel
theorem dX11_make__61 : decode cX11_make_ 61 = .ok (.iload 5, 2) := by decide +kernel
theorem dX11_make__63 : decode cX11_make_ 63 = .ok (.invokestatic 42, 3) := by decide +kernel
theorem dX11_make__66 : decode cX11_make_ 66 = .ok (.iload 4, 2) := by decide +kernel
theorem dX11_make__68 : decode cX11_make_ 68 = .ok (.iastore, 1) := by decide +kernel
theorem dX11_make__69 : decode cX11_make_ 69 = .ok (.iload 4, 2) := by decide +kernel
theorem dX11_make__71 : decode cX11_make_ 71 = .ok (.iconst 2, 1) := by decide +kernel
theorem dX11_make__72 : decode cX11_make_ 72 = .ok (.if_icmp .ne 76, 3) := by decide +kernel
theorem dX11_make__75 : decode cX11_make_ 75 = .ok (.aload_n 0, 1) := by decide +kernel
theorem dX11_make__76 : decode cX11_make_ 76 = .ok (.getfield 13, 3) := by decide +kernel
theorem dX11_make__79 : decode cX11_make_ 79 = .ok (.iload 5, 2) := by decide +kernel
theorem dX11_make__81 : decode cX11_make_ 81 = .ok (.invokestatic 42, 3) := by decide +kernel
theorem dX11_make__84 : decode cX11_make_ 84 = .ok (.iconst 0, 1) := by decide +kernel
theorem dX11_make__85 : decode cX11_make_ 85 = .ok (.iastore, 1) := by decide +kernel
theorem dX11_make__86 : decode cX11_make_ 86 = .ok (.aload_n 0, 1) := by decide +kernel
theorem dX11_make__87 : decode cX11_make_ 87 = .ok (.iconst 0, 1) := by decide +kernel
theorem dX11_make__88 : decode cX11_make_ 88 = .ok (.invokevirtual 97, 3) := by decide +kernel
theorem dX11_make__91 : decode cX11_make_ 91 = .ok (.istore 6, 2) := by decide +kernel
theorem dX11_make__93 : decode cX11_make_ 93 = .ok (.iload 6, 2) := by decide +kernel
theorem dX11_make__95 : decode cX11_make_ 95 = .ok (.iconst (-1), 1) := by decide +kernel
theorem dX11_make__96 : decode cX11_make_ 96 = .ok (.if_icmp .ne 5, 3) := by decide +kernel
theorem dX11_make__99 : decode cX11_make_ 99 = .ok (.iconst (-1), 1) := by decide +kernel
theorem dX11_make__100 : decode cX11_make_ 100 = .ok (.ireturn, 1) := by decide +kernel
theorem dX11_make__101 : decode cX11_make_ 101 = .ok (.aload_n 0, 1) := by decide +kernel
theorem dX11_make__102 : decode cX11_make_ 102 = .ok (.iload 5, 2) := by decide +kernel
theorem dX11_make__104 : decode cX11_make_ 104 = .ok (.iload 6, 2) := by decide +kernel
theorem dX11_make__106 : decode cX11_make_ 106 = .ok (.invokevirtual 100, 3) := by decide +kernel
theorem dX11_make__109 : decode cX11_make_ 109 = .ok (.aload_n 0, 1) := by decide +kernel
theorem dX11_make__110 : decode cX11_make_ 110 = .ok (.iconst 1, 1) := by decide +kernel
theorem dX11_make__111 : decode cX11_make_ 111 = .ok (.invokevirtual 109, 3) := by decide +kernel
theorem dX11_make__114 : decode cX11_make_ 114 = .ok (.aload_n 0, 1) := by decide +kernel
theorem dX11_make__115 : decode cX11_make_ 115 = .ok (.bipush 64, 2) := by decide +kernel
theorem dX11_make__117 : decode cX11_make_ 117 = .ok (.iload 6, 2) := by decide +kernel
theorem dX11_make__119 : decode cX11_make_ 119 = .ok (.imul, 1) := by decide +kernel
theorem dX11_make__120 : decode cX11_make_ 120 = .ok (.iload 5, 2) := by decide +kernel
theorem dX11_make__122 : decode cX11_make_ 122 = .ok (.invokevirtual 112, 3) := by decide +kernel
theorem dX11_make__125 : decode cX11_make_ 125 = .ok (.aload_n 0, 1) := by decide +kernel
theorem dX11_make__126 : decode cX11_make_ 126 = .ok (.iconst 2, 1) := by decide +kernel
theorem dX11_make__127 : decode cX11_make_ 127 = .ok (.invokevirtual 109, 3) := by decide +kernel
theorem dX11_make__130 : decode cX11_make_ 130 = .ok (.aload_n 0, 1) := by decide +kernel
theorem dX11_make__131 : decode cX11_make_ 131 = .ok (.bipush 64, 2) := by decide +kernel
theorem dX11_make__133 : decode cX11_make_ 133 = .ok (.iload 6, 2) := by decide +kernel
theorem dX11_make__135 : decode cX11_make_ 135 = .ok (.imul, 1) := by decide +kernel
theorem dX11_make__136 : decode cX11_make_ 136 = .ok (.bipush 16, 2) := by decide +kernel
theorem dX11_make__138 : decode cX11_make_ 138 = .ok (.iadd, 1) := by decide +kernel
theorem dX11_make__139 : decode cX11_make_ 139 = .ok (.iload_n 1, 1) := by decide +kernel
theorem dX11_make__140 : decode cX11_make_ 140 = .ok (.invokevirtual 112, 3) := by decide +kernel
theorem dX11_make__143 : decode cX11_make_ 143 = .ok (.aload_n 0, 1) := by decide +kernel
theorem dX11_make__144 : decode cX11_make_ 144 = .ok (.lload_n 2, 1) := by decide +kernel
theorem dX11_make__145 : decode cX11_make_ 145 = .ok (.invokevirtual 198, 3) := by decide +kernel
theorem dX11_make__148 : decode cX11_make_ 148 = .ok (.aload_n 0, 1) := by decide +kernel
theorem dX11_make__149 : decode cX11_make_ 149 = .ok (.iload_n 1, 1) := by decide +kernel
theorem dX11_make__150 : decode cX11_make_ 150 = .ok (.iload 5, 2) := by decide +kernel
theorem dX11_make__152 : decode cX11_make_ 152 = .ok (.invokevirtual 136, 3) := by decide +kernel
theorem dX11_make__155 : decode cX11_make_ 155 = .ok (.ifCond .ne 5, 3) := by decide +kernel
theorem dX11_make__158 : decode cX11_make_ 158 = .ok (.iconst (-1), 1) := by decide +kernel
theorem dX11_make__159 : decode cX11_make_ 159 = .ok (.ireturn, 1) := by decide +kernel
theorem dX11_make__160 : decode cX11_make_ 160 = .ok (.aload_n 0, 1) := by decide +kernel
theorem dX11_make__161 : decode cX11_make_ 161 = .ok (.invokevirtual 170, 3) := by decide +kernel
theorem dX11_make__164 : decode cX11_make_ 164 = .ok (.aload_n 0, 1) := by decide +kernel
theorem dX11_make__165 : decode cX11_make_ 165 = .ok (.invokevirtual 176, 3) := by decide +kernel
theorem dX11_make__168 : decode cX11_make_ 168 = .ok (.iload 5, 2) := by decide +kernel
theorem dX11_make__170 : decode cX11_make_ 170 = .ok (.ireturn, 1) := by decide +kernel
theorem dX11_append_0 : decode cX11_append 0 = .ok (.iload_n 2, 1) := by decide +kernel
theorem dX11_append_1 : decode cX11_append 1 = .ok (.ifCond .lt 50, 3) := by decide +kernel
theorem dX11_append_4 : decode cX11_append 4 = .ok (.iload_n 2, 1) := by decide +kernel
theorem dX11_append_5 : decode cX11_append 5 = .ok (.sipush 255, 3) := by decide +kernel
theorem dX11_append_8 : decode cX11_append 8 = .ok (.if_icmp .gt 43, 3) := by decide +kernel
theorem dX11_append_11 : decode cX11_append 11 = .ok (.aload_n 0, 1) := by decide +kernel
theorem dX11_append_12 : decode cX11_append 12 = .ok (.invokevirtual 205, 3) := by decide +kernel
theorem dX11_append_15 : decode cX11_append 15 = .ok (.ifCond .ne 36, 3) := by decide +kernel
theorem dX11_append_18 : decode cX11_append 18 = .ok (.iload_n 1, 1) := by decide +kernel
theorem dX11_append_19 : decode cX11_append 19 = .ok (.iconst 1, 1) := by decide +kernel
theorem dX11_append_20 : decode cX11_append 20 = .ok (.if_icmp .lt 31, 3) := by decide +kernel
theorem dX11_append_23 : decode cX11_append 23 = .ok (.iload_n 1, 1) := by decide +kernel
theorem dX11_append_24 : decode cX11_append 24 = .ok (.bipush 32, 2) := by decide +kernel
theorem dX11_append_26 : decode cX11_append 26 = .ok (.if_icmp .ge 25, 3) := by decide +kernel
theorem dX11_append_29 : decode cX11_append 29 = .ok (.aload_n 0, 1) := by decide +kernel
theorem dX11_append_30 : decode cX11_append 30 = .ok (.iload_n 1, 1) := by decide +kernel
theorem dX11_append_31 : decode cX11_append 31 = .ok (.invokevirtual 62, 3) := by decide +kernel
theorem dX11_append_34 : decode cX11_append 34 = .ok (.iconst 1, 1) := by decide +kernel
theorem dX11_append_35 : decode cX11_append 35 = .ok (.if_icmp .ne 16, 3) := by decide +kernel
theorem dX11_append_38 : decode cX11_append 38 = .ok (.aload_n 0, 1) := by decide +kernel
theorem dX11_append_39 : decode cX11_append 39 = .ok (.iload_n 1, 1) := by decide +kernel
theorem dX11_append_40 : decode cX11_append 40 = .ok (.invokevirtual 45, 3) := by decide +kernel
theorem dX11_append_43 : decode cX11_append 43 = .ok (.iconst 1, 1) := by decide +kernel
theorem dX11_append_44 : decode cX11_append 44 = .ok (.iadd, 1) := by decide +kernel
theorem dX11_append_45 : decode cX11_append 45 = .ok (.sipush 2944, 3) := by decide +kernel
theorem dX11_append_48 : decode cX11_append 48 = .ok (.if_icmp .le 5, 3) := by decide +kernel
theorem dX11_append_51 : decode cX11_append 51 = .ok (.iconst 0, 1) := by decide +kernel
theorem dX11_append_52 : decode cX11_append 52 = .ok (.ireturn, 1) := by decide +kernel
theorem dX11_append_53 : decode cX11_append 53 = .ok (.aload_n 0, 1) := by decide +kernel
theorem dX11_append_54 : decode cX11_append 54 = .ok (.iload_n 1, 1) := by decide +kernel
theorem dX11_append_55 : decode cX11_append 55 = .ok (.invokevirtual 45, 3) := by decide +kernel
theorem dX11_append_58 : decode cX11_append 58 = .ok (.istore_n 3, 1) := by decide +kernel
theorem dX11_append_59 : decode cX11_append 59 = .ok (.iload_n 3, 1) := by decide +kernel
theorem dX11_append_60 : decode cX11_append 60 = .ok (.bipush 64, 2) := by decide +kernel
theorem dX11_append_62 : decode cX11_append 62 = .ok (.irem, 1) := by decide +kernel
theorem dX11_append_63 : decode cX11_append 63 = .ok (.ifCond .ne 14, 3) := by decide +kernel
theorem dX11_append_66 : decode cX11_append 66 = .ok (.aload_n 0, 1) := by decide +kernel
theorem dX11_append_67 : decode cX11_append 67 = .ok (.iload_n 1, 1) := by decide +kernel
theorem dX11_append_68 : decode cX11_append 68 = .ok (.iconst 1, 1) := by decide +kernel
theorem dX11_append_69 : decode cX11_append 69 = .ok (.invokevirtual 142, 3) := by decide +kernel
theorem dX11_append_72 : decode cX11_append 72 = .ok (.ifCond .ne 18, 3) := by decide +kernel
theorem dX11_append_75 : decode cX11_append 75 = .ok (.iconst 0, 1) := by decide +kernel
theorem dX11_append_76 : decode cX11_append 76 = .ok (.ireturn, 1) := by decide +kernel
theorem dX11_append_77 : decode cX11_append 77 = .ok (.aload_n 0, 1) := by decide +kernel
theorem dX11_append_78 : decode cX11_append 78 = .ok (.iload_n 1, 1) := by decide +kernel
theorem dX11_append_79 : decode cX11_append 79 = .ok (.invokestatic 42, 3) := by decide +kernel
theorem dX11_append_82 : decode cX11_append 82 = .ok (.iconst 2, 1) := by decide +kernel
theorem dX11_append_83 : decode cX11_append 83 = .ok (.iadd, 1) := by decide +kernel
theorem dX11_append_84 : decode cX11_append 84 = .ok (.iload_n 3, 1) := by decide +kernel
theorem dX11_append_85 : decode cX11_append 85 = .ok (.iconst 1, 1) := by decide +kernel
theorem dX11_append_86 : decode cX11_append 86 = .ok (.iadd, 1) := by decide +kernel
theorem dX11_append_87 : decode cX11_append 87 = .ok (.invokevirtual 103, 3) := by decide +kernel
theorem dX11_append_90 : decode cX11_append 90 = .ok (.aload_n 0, 1) := by decide +kernel
theorem dX11_append_91 : decode cX11_append 91 = .ok (.getfield 13, 3) := by decide +kernel
theorem dX11_append_94 : decode cX11_append 94 = .ok (.bipush 64, 2) := by decide +kernel
theorem dX11_append_96 : decode cX11_append 96 = .ok (.aload_n 0, 1) := by decide +kernel
theorem dX11_append_97 : decode cX11_append 97 = .ok (.iload_n 1, 1) := by decide +kernel
theorem dX11_append_98 : decode cX11_append 98 = .ok (.iload_n 3, 1) := by decide +kernel
theorem dX11_append_99 : decode cX11_append 99 = .ok (.bipush 64, 2) := by decide +kernel
theorem dX11_append_101 : decode cX11_append 101 = .ok (.idiv, 1) := by decide +kernel
theorem dX11_append_102 : decode cX11_append 102 = .ok (.invokevirtual 59, 3) := by decide +kernel
theorem dX11_append_105 : decode cX11_append 105 = .ok (.imul, 1) := by decide +kernel
theorem dX11_append_106 : decode cX11_append 106 = .ok (.iload_n 3, 1) := by decide +kernel
theorem dX11_append_107 : decode cX11_append 107 = .ok (.bipush 64, 2) := by decide +kernel
theorem dX11_append_109 : decode cX11_append 109 = .ok (.irem, 1) := by decide +kernel
theorem dX11_append_110 : decode cX11_append 110 = .ok (.iadd, 1) := by decide +kernel
theorem dX11_append_111 : decode cX11_append 111 = .ok (.iload_n 2, 1) := by decide +kernel
theorem dX11_append_112 : decode cX11_append 112 = .ok (.iastore, 1) := by decide +kernel
theorem dX11_append_113 : decode cX11_append 113 = .ok (.aload_n 0, 1) := by decide +kernel
theorem dX11_append_114 : decode cX11_append 114 = .ok (.invokevirtual 170, 3) := by decide +kernel
theorem dX11_append_117 : decode cX11_append 117 = .ok (.aload_n 0, 1) := by decide +kernel
theorem dX11_append_118 : decode cX11_append 118 = .ok (.invokevirtual 176, 3) := by decide +kernel
theorem dX11_append_121 : decode cX11_append 121 = .ok (.iconst 1, 1) := by decide +kernel
theorem dX11_append_122 : decode cX11_append 122 = .ok (.ireturn, 1) := by decide +kernel
theorem dX11_link_0 : decode cX11_link 0 = .ok (.aload_n 0, 1) := by decide +kernel
theorem dX11_link_1 : decode cX11_link 1 = .ok (.iload_n 1, 1) := by decide +kernel
theorem dX11_link_2 : decode cX11_link 2 = .ok (.lload_n 2, 1) := by decide +kernel
theorem dX11_link_3 : decode cX11_link 3 = .ok (.invokevirtual 209, 3) := by decide +kernel
theorem dX11_link_6 : decode cX11_link 6 = .ok (.ifCond .eq 36, 3) := by decide +kernel
theorem dX11_link_9 : decode cX11_link 9 = .ok (.iload 4, 2) := by decide +kernel
theorem dX11_link_11 : decode cX11_link 11 = .ok (.iconst 1, 1) := by decide +kernel
theorem dX11_link_12 : decode cX11_link 12 = .ok (.if_icmp .lt 30, 3) := by decide +kernel
theorem dX11_link_15 : decode cX11_link 15 = .ok (.iload 4, 2) := by decide +kernel
theorem dX11_link_17 : decode cX11_link 17 = .ok (.bipush 32, 2) := by decide +kernel
theorem dX11_link_19 : decode cX11_link 19 = .ok (.if_icmp .ge 23, 3) := by decide +kernel
theorem dX11_link_22 : decode cX11_link 22 = .ok (.aload_n 0, 1) := by decide +kernel
theorem dX11_link_23 : decode cX11_link 23 = .ok (.iload 4, 2) := by decide +kernel
theorem dX11_link_25 : decode cX11_link 25 = .ok (.invokevirtual 62, 3) := by decide +kernel
theorem dX11_link_28 : decode cX11_link 28 = .ok (.iconst 1, 1) := by decide +kernel
theorem dX11_link_29 : decode cX11_link 29 = .ok (.if_icmp .ne 13, 3) := by decide +kernel
theorem dX11_link_32 : decode cX11_link 32 = .ok (.aload_n 0, 1) := by decide +kernel
theorem dX11_link_33 : decode cX11_link 33 = .ok (.iload_n 1, 1) := by decide +kernel
theorem dX11_link_34 : decode cX11_link 34 = .ok (.iload 4, 2) := by decide +kernel
theorem dX11_link_36 : decode cX11_link 36 = .ok (.invokevirtual 136, 3) := by decide +kernel
theorem dX11_link_39 : decode cX11_link 39 = .ok (.ifCond .ne 5, 3) := by decide +kernel
theorem dX11_link_42 : decode cX11_link 42 = .ok (.iconst 0, 1) := by decide +kernel
theorem dX11_link_43 : decode cX11_link 43 = .ok (.ireturn, 1) := by decide +kernel
theorem dX11_link_44 : decode cX11_link 44 = .ok (.aload_n 0, 1) := by decide +kernel
theorem dX11_link_45 : decode cX11_link 45 = .ok (.invokevirtual 170, 3) := by decide +kernel
theorem dX11_link_48 : decode cX11_link 48 = .ok (.aload_n 0, 1) := by decide +kernel
theorem dX11_link_49 : decode cX11_link 49 = .ok (.invokevirtual 176, 3) := by decide +kernel
theorem dX11_link_52 : decode cX11_link 52 = .ok (.iconst 1, 1) := by decide +kernel
theorem dX11_link_53 : decode cX11_link 53 = .ok (.ireturn, 1) := by decide +kernel
theorem dX11_unlink_0 : decode cX11_unlink 0 = .ok (.aload_n 0, 1) := by decide +kernel
theorem dX11_unlink_1 : decode cX11_unlink 1 = .ok (.invokevirtual 205, 3) := by decide +kernel
theorem dX11_unlink_4 : decode cX11_unlink 4 = .ok (.ifCond .ne 29, 3) := by decide +kernel
theorem dX11_unlink_7 : decode cX11_unlink 7 = .ok (.iload_n 1, 1) := by decide +kernel
theorem dX11_unlink_8 : decode cX11_unlink 8 = .ok (.iconst 1, 1) := by decide +kernel
theorem dX11_unlink_9 : decode cX11_unlink 9 = .ok (.if_icmp .lt 24, 3) := by decide +kernel
theorem dX11_unlink_12 : decode cX11_unlink 12 = .ok (.iload_n 1, 1) := by decide +kernel
theorem dX11_unlink_13 : decode cX11_unlink 13 = .ok (.bipush 32, 2) := by decide +kernel
theorem dX11_unlink_15 : decode cX11_unlink 15 = .ok (.if_icmp .ge 18, 3) := by decide +kernel
theorem dX11_unlink_18 : decode cX11_unlink 18 = .ok (.aload_n 0, 1) := by decide +kernel
theorem dX11_unlink_19 : decode cX11_unlink 19 = .ok (.iload_n 1, 1) := by decide +kernel
theorem dX11_unlink_20 : decode cX11_unlink 20 = .ok (.invokevirtual 62, 3) := by decide +kernel
theorem dX11_unlink_23 : decode cX11_unlink 23 = .ok (.iconst 2, 1) := by decide +kernel
theorem dX11_unlink_24 : decode cX11_unlink 24 = .ok (.if_icmp .ne 9, 3) := by decide +kernel
theorem dX11_unlink_27 : decode cX11_unlink 27 = .ok (.lload_n 2, 1) := by decide +kernel
theorem dX11_unlink_28 : decode cX11_unlink 28 = .ok (.lconst 0, 1) := by decide +kernel
theorem dX11_unlink_29 : decode cX11_unlink 29 = .ok (.lcmp, 1) := by decide +kernel
theorem dX11_unlink_30 : decode cX11_unlink 30 = .ok (.ifCond .ne 5, 3) := by decide +kernel
theorem dX11_unlink_33 : decode cX11_unlink 33 = .ok (.iconst 0, 1) := by decide +kernel
theorem dX11_unlink_34 : decode cX11_unlink 34 = .ok (.ireturn, 1) := by decide +kernel
theorem dX11_unlink_35 : decode cX11_unlink 35 = .ok (.aload_n 0, 1) := by decide +kernel
theorem dX11_unlink_36 : decode cX11_unlink 36 = .ok (.lload_n 2, 1) := by decide +kernel
theorem dX11_unlink_37 : decode cX11_unlink 37 = .ok (.invokevirtual 198, 3) := by decide +kernel
theorem dX11_unlink_40 : decode cX11_unlink 40 = .ok (.aload_n 0, 1) := by decide +kernel
theorem dX11_unlink_41 : decode cX11_unlink 41 = .ok (.iload_n 1, 1) := by decide +kernel
theorem dX11_unlink_42 : decode cX11_unlink 42 = .ok (.aload_n 0, 1) := by decide +kernel
theorem dX11_unlink_43 : decode cX11_unlink 43 = .ok (.iload_n 1, 1) := by decide +kernel
theorem dX11_unlink_44 : decode cX11_unlink 44 = .ok (.invokevirtual 106, 3) := by decide +kernel
theorem dX11_unlink_47 : decode cX11_unlink 47 = .ok (.invokevirtual 79, 3) := by decide +kernel
theorem dX11_unlink_50 : decode cX11_unlink 50 = .ok (.istore 4, 2) := by decide +kernel
theorem dX11_unlink_52 : decode cX11_unlink 52 = .ok (.iload 4, 2) := by decide +kernel
theorem dX11_unlink_54 : decode cX11_unlink 54 = .ok (.iconst (-1), 1) := by decide +kernel
theorem dX11_unlink_55 : decode cX11_unlink 55 = .ok (.if_icmp .ne 5, 3) := by decide +kernel
theorem dX11_unlink_58 : decode cX11_unlink 58 = .ok (.iconst 0, 1) := by decide +kernel
theorem dX11_unlink_59 : decode cX11_unlink 59 = .ok (.ireturn, 1) := by decide +kernel
theorem dX11_unlink_60 : decode cX11_unlink 60 = .ok (.aload_n 0, 1) := by decide +kernel
theorem dX11_unlink_61 : decode cX11_unlink 61 = .ok (.getfield 13, 3) := by decide +kernel
theorem dX11_unlink_64 : decode cX11_unlink 64 = .ok (.aload_n 0, 1) := by decide +kernel
theorem dX11_unlink_65 : decode cX11_unlink 65 = .ok (.iload_n 1, 1) := by decide +kernel
theorem dX11_unlink_66 : decode cX11_unlink 66 = .ok (.iload 4, 2) := by decide +kernel
theorem dX11_unlink_68 : decode cX11_unlink 68 = .ok (.invokevirtual 73, 3) := by decide +kernel
theorem dX11_unlink_71 : decode cX11_unlink 71 = .ok (.iaload, 1) := by decide +kernel
theorem dX11_unlink_72 : decode cX11_unlink 72 = .ok (.istore 5, 2) := by decide +kernel
theorem dX11_unlink_74 : decode cX11_unlink 74 = .ok (.iconst 2, 1) := by decide +kernel
theorem dX11_unlink_75 : decode cX11_unlink 75 = .ok (.istore 6, 2) := by decide +kernel
theorem dX11_unlink_77 : decode cX11_unlink 77 = .ok (.aload_n 0, 1) := by decide +kernel
theorem dX11_unlink_78 : decode cX11_unlink 78 = .ok (.iload 5, 2) := by decide +kernel
theorem dX11_unlink_80 : decode cX11_unlink 80 = .ok (.invokevirtual 62, 3) := by decide +kernel
theorem dX11_unlink_83 : decode cX11_unlink 83 = .ok (.iconst 2, 1) := by decide +kernel
theorem dX11_unlink_84 : decode cX11_unlink 84 = .ok (.if_icmp .ne 38, 3) := by decide +kernel
theorem dX11_unlink_87 : decode cX11_unlink 87 = .ok (.iload 6, 2) := by decide +kernel
theorem dX11_unlink_89 : decode cX11_unlink 89 = .ok (.aload_n 0, 1) := by decide +kernel
theorem dX11_unlink_90 : decode cX11_unlink 90 = .ok (.iload 5, 2) := by decide +kernel
theorem dX11_unlink_92 : decode cX11_unlink 92 = .ok (.invokevirtual 106, 3) := by decide +kernel
theorem dX11_unlink_95 : decode cX11_unlink 95 = .ok (.if_icmp .ge 27, 3) := by decide +kernel
theorem dX11_unlink_98 : decode cX11_unlink 98 = .ok (.aload_n 0, 1) := by decide +kernel
theorem dX11_unlink_99 : decode cX11_unlink 99 = .ok (.getfield 13, 3) := by decide +kernel
theorem dX11_unlink_102 : decode cX11_unlink 102 = .ok (.aload_n 0, 1) := by decide +kernel
theorem dX11_unlink_103 : decode cX11_unlink 103 = .ok (.iload 5, 2) := by decide +kernel
theorem dX11_unlink_105 : decode cX11_unlink 105 = .ok (.iload 6, 2) := by decide +kernel
theorem dX11_unlink_107 : decode cX11_unlink 107 = .ok (.invokevirtual 73, 3) := by decide +kernel
theorem dX11_unlink_110 : decode cX11_unlink 110 = .ok (.iaload, 1) := by decide +kernel
theorem dX11_unlink_111 : decode cX11_unlink 111 = .ok (.ifCond .eq 5, 3) := by decide +kernel
theorem dX11_unlink_114 : decode cX11_unlink 114 = .ok (.iconst 0, 1) := by decide +kernel
theorem dX11_unlink_115 : decode cX11_unlink 115 = .ok (.ireturn, 1) := by decide +kernel
theorem dX11_unlink_116 : decode cX11_unlink 116 = .ok (.iinc 6 1, 3) := by decide +kernel
theorem dX11_unlink_119 : decode cX11_unlink 119 = .ok (.goto (-42), 3) := by decide +kernel
theorem dX11_unlink_122 : decode cX11_unlink 122 = .ok (.aload_n 0, 1) := by decide +kernel
theorem dX11_unlink_123 : decode cX11_unlink 123 = .ok (.aload_n 0, 1) := by decide +kernel
theorem dX11_unlink_124 : decode cX11_unlink 124 = .ok (.iload_n 1, 1) := by decide +kernel
theorem dX11_unlink_125 : decode cX11_unlink 125 = .ok (.iload 4, 2) := by decide +kernel
theorem dX11_unlink_127 : decode cX11_unlink 127 = .ok (.invokevirtual 73, 3) := by decide +kernel
theorem dX11_unlink_130 : decode cX11_unlink 130 = .ok (.bipush 16, 2) := by decide +kernel
theorem dX11_unlink_132 : decode cX11_unlink 132 = .ok (.invokevirtual 65, 3) := by decide +kernel
theorem dX11_unlink_135 : decode cX11_unlink 135 = .ok (.aload_n 0, 1) := by decide +kernel
theorem dX11_unlink_136 : decode cX11_unlink 136 = .ok (.iload 5, 2) := by decide +kernel
theorem dX11_unlink_138 : decode cX11_unlink 138 = .ok (.invokevirtual 62, 3) := by decide +kernel
theorem dX11_unlink_141 : decode cX11_unlink 141 = .ok (.iconst 2, 1) := by decide +kernel
theorem dX11_unlink_142 : decode cX11_unlink 142 = .ok (.if_icmp .eq 12, 3) := by decide +kernel
theorem dX11_unlink_145 : decode cX11_unlink 145 = .ok (.aload_n 0, 1) := by decide +kernel
theorem dX11_unlink_146 : decode cX11_unlink 146 = .ok (.iload 5, 2) := by decide +kernel
theorem dX11_unlink_148 : decode cX11_unlink 148 = .ok (.invokevirtual 145, 3) := by decide +kernel
theorem dX11_unlink_151 : decode cX11_unlink 151 = .ok (.ifCond .ne 14, 3) := by decide +kernel
theorem dX11_unlink_154 : decode cX11_unlink 154 = .ok (.aload_n 0, 1) := by decide +kernel
theorem dX11_unlink_155 : decode cX11_unlink 155 = .ok (.iload 5, 2) := by decide +kernel
theorem dX11_unlink_157 : decode cX11_unlink 157 = .ok (.invokestatic 42, 3) := by decide +kernel
theorem dX11_unlink_160 : decode cX11_unlink 160 = .ok (.bipush 16, 2) := by decide +kernel
theorem dX11_unlink_162 : decode cX11_unlink 162 = .ok (.invokevirtual 65, 3) := by decide +kernel
theorem dX11_unlink_165 : decode cX11_unlink 165 = .ok (.aload_n 0, 1) := by decide +kernel
theorem dX11_unlink_166 : decode cX11_unlink 166 = .ok (.invokevirtual 170, 3) := by decide +kernel
theorem dX11_unlink_169 : decode cX11_unlink 169 = .ok (.aload_n 0, 1) := by decide +kernel
theorem dX11_unlink_170 : decode cX11_unlink 170 = .ok (.invokevirtual 176, 3) := by decide +kernel
theorem dX11_unlink_173 : decode cX11_unlink 173 = .ok (.iconst 1, 1) := by decide +kernel
theorem dX11_unlink_174 : decode cX11_unlink 174 = .ok (.ireturn, 1) := by decide +kernel
theorem dJ13_bitCount_95d88_0 : decode cJ13_bitCount_95d88 0 = .ok (.lload_n 0, 1) := by decide +kernel
theorem dJ13_bitCount_95d88_1 : decode cJ13_bitCount_95d88 1 = .ok (.lload_n 0, 1) := by decide +kernel
theorem dJ13_bitCount_95d88_2 : decode cJ13_bitCount_95d88 2 = .ok (.iconst 1, 1) := by decide +kernel
theorem dJ13_bitCount_95d88_3 : decode cJ13_bitCount_95d88 3 = .ok (.lushr, 1) := by decide +kernel
theorem dJ13_bitCount_95d88_4 : decode cJ13_bitCount_95d88 4 = .ok (.ldc2_w 314, 3) := by decide +kernel
theorem dJ13_bitCount_95d88_7 : decode cJ13_bitCount_95d88 7 = .ok (.land, 1) := by decide +kernel
theorem dJ13_bitCount_95d88_8 : decode cJ13_bitCount_95d88 8 = .ok (.lsub, 1) := by decide +kernel
theorem dJ13_bitCount_95d88_9 : decode cJ13_bitCount_95d88 9 = .ok (.lstore_n 0, 1) := by decide +kernel
theorem dJ13_bitCount_95d88_10 : decode cJ13_bitCount_95d88 10 = .ok (.lload_n 0, 1) := by decide +kernel
theorem dJ13_bitCount_95d88_11 : decode cJ13_bitCount_95d88 11 = .ok (.ldc2_w 316, 3) := by decide +kernel
theorem dJ13_bitCount_95d88_14 : decode cJ13_bitCount_95d88 14 = .ok (.land, 1) := by decide +kernel
theorem dJ13_bitCount_95d88_15 : decode cJ13_bitCount_95d88 15 = .ok (.lload_n 0, 1) := by decide +kernel
theorem dJ13_bitCount_95d88_16 : decode cJ13_bitCount_95d88 16 = .ok (.iconst 2, 1) := by decide +kernel
theorem dJ13_bitCount_95d88_17 : decode cJ13_bitCount_95d88 17 = .ok (.lushr, 1) := by decide +kernel
theorem dJ13_bitCount_95d88_18 : decode cJ13_bitCount_95d88 18 = .ok (.ldc2_w 316, 3) := by decide +kernel
theorem dJ13_bitCount_95d88_21 : decode cJ13_bitCount_95d88 21 = .ok (.land, 1) := by decide +kernel
theorem dJ13_bitCount_95d88_22 : decode cJ13_bitCount_95d88 22 = .ok (.ladd, 1) := by decide +kernel
theorem dJ13_bitCount_95d88_23 : decode cJ13_bitCount_95d88 23 = .ok (.lstore_n 0, 1) := by decide +kernel
theorem dJ13_bitCount_95d88_24 : decode cJ13_bitCount_95d88 24 = .ok (.lload_n 0, 1) := by decide +kernel
theorem dJ13_bitCount_95d88_25 : decode cJ13_bitCount_95d88 25 = .ok (.lload_n 0, 1) := by decide +kernel
theorem dJ13_bitCount_95d88_26 : decode cJ13_bitCount_95d88 26 = .ok (.iconst 4, 1) := by decide +kernel
theorem dJ13_bitCount_95d88_27 : decode cJ13_bitCount_95d88 27 = .ok (.lushr, 1) := by decide +kernel
theorem dJ13_bitCount_95d88_28 : decode cJ13_bitCount_95d88 28 = .ok (.ladd, 1) := by decide +kernel
theorem dJ13_bitCount_95d88_29 : decode cJ13_bitCount_95d88 29 = .ok (.ldc2_w 318, 3) := by decide +kernel
theorem dJ13_bitCount_95d88_32 : decode cJ13_bitCount_95d88 32 = .ok (.land, 1) := by decide +kernel
theorem dJ13_bitCount_95d88_33 : decode cJ13_bitCount_95d88 33 = .ok (.lstore_n 0, 1) := by decide +kernel
theorem dJ13_bitCount_95d88_34 : decode cJ13_bitCount_95d88 34 = .ok (.lload_n 0, 1) := by decide +kernel
theorem dJ13_bitCount_95d88_35 : decode cJ13_bitCount_95d88 35 = .ok (.lload_n 0, 1) := by decide +kernel
theorem dJ13_bitCount_95d88_36 : decode cJ13_bitCount_95d88 36 = .ok (.bipush 8, 2) := by decide +kernel
theorem dJ13_bitCount_95d88_38 : decode cJ13_bitCount_95d88 38 = .ok (.lushr, 1) := by decide +kernel
theorem dJ13_bitCount_95d88_39 : decode cJ13_bitCount_95d88 39 = .ok (.ladd, 1) := by decide +kernel
theorem dJ13_bitCount_95d88_40 : decode cJ13_bitCount_95d88 40 = .ok (.lstore_n 0, 1) := by decide +kernel
theorem dJ13_bitCount_95d88_41 : decode cJ13_bitCount_95d88 41 = .ok (.lload_n 0, 1) := by decide +kernel
theorem dJ13_bitCount_95d88_42 : decode cJ13_bitCount_95d88 42 = .ok (.lload_n 0, 1) := by decide +kernel
theorem dJ13_bitCount_95d88_43 : decode cJ13_bitCount_95d88 43 = .ok (.bipush 16, 2) := by decide +kernel
theorem dJ13_bitCount_95d88_45 : decode cJ13_bitCount_95d88 45 = .ok (.lushr, 1) := by decide +kernel
theorem dJ13_bitCount_95d88_46 : decode cJ13_bitCount_95d88 46 = .ok (.ladd, 1) := by decide +kernel
theorem dJ13_bitCount_95d88_47 : decode cJ13_bitCount_95d88 47 = .ok (.lstore_n 0, 1) := by decide +kernel
theorem dJ13_bitCount_95d88_48 : decode cJ13_bitCount_95d88 48 = .ok (.lload_n 0, 1) := by decide +kernel
theorem dJ13_bitCount_95d88_49 : decode cJ13_bitCount_95d88 49 = .ok (.lload_n 0, 1) := by decide +kernel
theorem dJ13_bitCount_95d88_50 : decode cJ13_bitCount_95d88 50 = .ok (.bipush 32, 2) := by decide +kernel
theorem dJ13_bitCount_95d88_52 : decode cJ13_bitCount_95d88 52 = .ok (.lushr, 1) := by decide +kernel
theorem dJ13_bitCount_95d88_53 : decode cJ13_bitCount_95d88 53 = .ok (.ladd, 1) := by decide +kernel
theorem dJ13_bitCount_95d88_54 : decode cJ13_bitCount_95d88 54 = .ok (.lstore_n 0, 1) := by decide +kernel
theorem dJ13_bitCount_95d88_55 : decode cJ13_bitCount_95d88 55 = .ok (.lload_n 0, 1) := by decide +kernel
theorem dJ13_bitCount_95d88_56 : decode cJ13_bitCount_95d88 56 = .ok (.l2i, 1) := by decide +kernel
theorem dJ13_bitCount_95d88_57 : decode cJ13_bitCount_95d88 57 = .ok (.bipush 127, 2) := by decide +kernel
theorem dJ13_bitCount_95d88_59 : decode cJ13_bitCount_95d88 59 = .ok (.iand, 1) := by decide +kernel
theorem dJ13_bitCount_95d88_60 : decode cJ13_bitCount_95d88 60 = .ok (.ireturn, 1) := by decide +kernel
theorem dJ9_min_7cf53_0 : decode cJ9_min_7cf53 0 = .ok (.iload_n 0, 1) := by decide +kernel
theorem dJ9_min_7cf53_1 : decode cJ9_min_7cf53 1 = .ok (.iload_n 1, 1) := by decide +kernel
theorem dJ9_min_7cf53_2 : decode cJ9_min_7cf53 2 = .ok (.if_icmp .gt 7, 3) := by decide +kernel
theorem dJ9_min_7cf53_5 : decode cJ9_min_7cf53 5 = .ok (.iload_n 0, 1) := by decide +kernel
theorem dJ9_min_7cf53_6 : decode cJ9_min_7cf53 6 = .ok (.goto 4, 3) := by decide +kernel
theorem dJ9_min_7cf53_9 : decode cJ9_min_7cf53 9 = .ok (.iload_n 1, 1) := by decide +kernel
theorem dJ9_min_7cf53_10 : decode cJ9_min_7cf53 10 = .ok (.ireturn, 1) := by decide +kernel
theorem dJ0_length_8abf5_0 : decode cJ0_length_8abf5 0 = .ok (.aload_n 0, 1) := by decide +kernel
theorem dJ0_length_8abf5_1 : decode cJ0_length_8abf5 1 = .ok (.getfield 9, 3) := by decide +kernel
theorem dJ0_length_8abf5_4 : decode cJ0_length_8abf5 4 = .ok (.arraylength, 1) := by decide +kernel
theorem dJ0_length_8abf5_5 : decode cJ0_length_8abf5 5 = .ok (.aload_n 0, 1) := by decide +kernel
theorem dJ0_length_8abf5_6 : decode cJ0_length_8abf5 6 = .ok (.invokevirtual 335, 3) := by decide +kernel
theorem dJ0_length_8abf5_9 : decode cJ0_length_8abf5 9 = .ok (.ishr, 1) := by decide +kernel
theorem dJ0_length_8abf5_10 : decode cJ0_length_8abf5 10 = .ok (.ireturn, 1) := by decide +kernel
theorem dJ0_charAt_5068e_0 : decode cJ0_charAt_5068e 0 = .ok (.aload_n 0, 1) := by decide +kernel
theorem dJ0_charAt_5068e_1 : decode cJ0_charAt_5068e 1 = .ok (.invokevirtual 492, 3) := by decide +kernel
theorem dJ0_charAt_5068e_4 : decode cJ0_charAt_5068e 4 = .ok (.ifCond .eq 12, 3) := by decide +kernel
theorem dJ0_charAt_5068e_7 : decode cJ0_charAt_5068e 7 = .ok (.aload_n 0, 1) := by decide +kernel
theorem dJ0_charAt_5068e_8 : decode cJ0_charAt_5068e 8 = .ok (.getfield 9, 3) := by decide +kernel
theorem dJ0_charAt_5068e_11 : decode cJ0_charAt_5068e 11 = .ok (.iload_n 1, 1) := by decide +kernel
theorem dJ0_charAt_5068e_12 : decode cJ0_charAt_5068e 12 = .ok (.invokestatic 495, 3) := by decide +kernel
theorem dJ0_charAt_5068e_15 : decode cJ0_charAt_5068e 15 = .ok (.ireturn, 1) := by decide +kernel
theorem dJ0_charAt_5068e_16 : decode cJ0_charAt_5068e 16 = .ok (.aload_n 0, 1) := by decide +kernel
theorem dJ0_charAt_5068e_17 : decode cJ0_charAt_5068e 17 = .ok (.getfield 9, 3) := by decide +kernel
theorem dJ0_charAt_5068e_20 : decode cJ0_charAt_5068e 20 = .ok (.iload_n 1, 1) := by decide +kernel
theorem dJ0_charAt_5068e_21 : decode cJ0_charAt_5068e 21 = .ok (.invokestatic 498, 3) := by decide +kernel
theorem dJ0_charAt_5068e_24 : decode cJ0_charAt_5068e 24 = .ok (.ireturn, 1) := by decide +kernel
theorem dJ0_coder_7d493_0 : decode cJ0_coder_7d493 0 = .ok (.getstatic 38, 3) := by decide +kernel
theorem dJ0_coder_7d493_3 : decode cJ0_coder_7d493 3 = .ok (.ifCond .eq 10, 3) := by decide +kernel
theorem dJ0_coder_7d493_6 : decode cJ0_coder_7d493 6 = .ok (.aload_n 0, 1) := by decide +kernel
theorem dJ0_coder_7d493_7 : decode cJ0_coder_7d493 7 = .ok (.getfield 15, 3) := by decide +kernel
theorem dJ0_coder_7d493_10 : decode cJ0_coder_7d493 10 = .ok (.goto 4, 3) := by decide +kernel
theorem dJ0_coder_7d493_13 : decode cJ0_coder_7d493 13 = .ok (.iconst 1, 1) := by decide +kernel
theorem dJ0_coder_7d493_14 : decode cJ0_coder_7d493 14 = .ok (.ireturn, 1) := by decide +kernel
theorem dJ0_isLatin1_aae02_0 : decode cJ0_isLatin1_aae02 0 = .ok (.getstatic 38, 3) := by decide +kernel
theorem dJ0_isLatin1_aae02_3 : decode cJ0_isLatin1_aae02 3 = .ok (.ifCond .eq 14, 3) := by decide +kernel
theorem dJ0_isLatin1_aae02_6 : decode cJ0_isLatin1_aae02 6 = .ok (.aload_n 0, 1) := by decide +kernel
theorem dJ0_isLatin1_aae02_7 : decode cJ0_isLatin1_aae02 7 = .ok (.getfield 15, 3) := by decide +kernel
theorem dJ0_isLatin1_aae02_10 : decode cJ0_isLatin1_aae02 10 = .ok (.ifCond .ne 7, 3) := by decide +kernel
theorem dJ0_isLatin1_aae02_13 : decode cJ0_isLatin1_aae02 13 = .ok (.iconst 1, 1) := by decide +kernel
theorem dJ0_isLatin1_aae02_14 : decode cJ0_isLatin1_aae02 14 = .ok (.goto 4, 3) := by decide +kernel
theorem dJ0_isLatin1_aae02_17 : decode cJ0_isLatin1_aae02 17 = .ok (.iconst 0, 1) := by decide +kernel
theorem dJ0_isLatin1_aae02_18 : decode cJ0_isLatin1_aae02 18 = .ok (.ireturn, 1) := by decide +kernel
theorem dJ0_checkIndex_df160_0 : decode cJ0_checkIndex_df160 0 = .ok (.iload_n 0, 1) := by decide +kernel
theorem dJ0_checkIndex_df160_1 : decode cJ0_checkIndex_df160 1 = .ok (.iload_n 1, 1) := by decide +kernel
theorem dJ0_checkIndex_df160_2 : decode cJ0_checkIndex_df160 2 = .ok (.getstatic 1053, 3) := by decide +kernel
theorem dJ0_checkIndex_df160_5 : decode cJ0_checkIndex_df160 5 = .ok (.invokestatic 1059, 3) := by decide +kernel
theorem dJ0_checkIndex_df160_8 : decode cJ0_checkIndex_df160 8 = .ok (.pop, 1) := by decide +kernel
theorem dJ0_checkIndex_df160_9 : decode cJ0_checkIndex_df160 9 = .ok (.return_, 1) := by decide +kernel
theorem dJ1_charAt_3b067_0 : decode cJ1_charAt_3b067 0 = .ok (.iload_n 1, 1) := by decide +kernel
theorem dJ1_charAt_3b067_1 : decode cJ1_charAt_3b067 1 = .ok (.aload_n 0, 1) := by decide +kernel
theorem dJ1_charAt_3b067_2 : decode cJ1_charAt_3b067 2 = .ok (.arraylength, 1) := by decide +kernel
theorem dJ1_charAt_3b067_3 : decode cJ1_charAt_3b067 3 = .ok (.invokestatic 9, 3) := by decide +kernel
theorem dJ1_charAt_3b067_6 : decode cJ1_charAt_3b067 6 = .ok (.aload_n 0, 1) := by decide +kernel
theorem dJ1_charAt_3b067_7 : decode cJ1_charAt_3b067 7 = .ok (.iload_n 1, 1) := by decide +kernel
theorem dJ1_charAt_3b067_8 : decode cJ1_charAt_3b067 8 = .ok (.baload, 1) := by decide +kernel
theorem dJ1_charAt_3b067_9 : decode cJ1_charAt_3b067 9 = .ok (.sipush 255, 3) := by decide +kernel
theorem dJ1_charAt_3b067_12 : decode cJ1_charAt_3b067 12 = .ok (.iand, 1) := by decide +kernel
theorem dJ1_charAt_3b067_13 : decode cJ1_charAt_3b067 13 = .ok (.i2c, 1) := by decide +kernel
theorem dJ1_charAt_3b067_14 : decode cJ1_charAt_3b067 14 = .ok (.ireturn, 1) := by decide +kernel
theorem dJ2_getChar_3b067_0 : decode cJ2_getChar_3b067 0 = .ok (.getstatic 44, 3) := by decide +kernel
theorem dJ2_getChar_3b067_3 : decode cJ2_getChar_3b067 3 = .ok (.ifCond .ne 25, 3) := by decide +kernel
theorem dJ2_getChar_3b067_6 : decode cJ2_getChar_3b067 6 = .ok (.iload_n 1, 1) := by decide +kernel
theorem dJ2_getChar_3b067_7 : decode cJ2_getChar_3b067 7 = .ok (.ifCond .lt 11, 3) := by decide +kernel
theorem dJ2_getChar_3b067_10 : decode cJ2_getChar_3b067 10 = .ok (.iload_n 1, 1) := by decide +kernel
theorem dJ2_getChar_3b067_11 : decode cJ2_getChar_3b067 11 = .ok (.aload_n 0, 1) := by decide +kernel
theorem dJ2_getChar_3b067_12 : decode cJ2_getChar_3b067 12 = .ok (.invokestatic 48, 3) := by decide +kernel
theorem dJ2_getChar_3b067_15 : decode cJ2_getChar_3b067 15 = .ok (.if_icmp .lt 13, 3) := by decide +kernel
theorem dJ2_getChar_3b067_18 : decode cJ2_getChar_3b067 18 = .ok (.new 52, 3) := by decide +kernel
theorem dJ2_getChar_3b067_21 : decode cJ2_getChar_3b067 21 = .ok (.dup, 1) := by decide +kernel
theorem dJ2_getChar_3b067_22 : decode cJ2_getChar_3b067 22 = .ok (.ldc 54, 2) := by decide +kernel
theorem dJ2_getChar_3b067_24 : decode cJ2_getChar_3b067 24 = .ok (.invokespecial 56, 3) := by decide +kernel
theorem dJ2_getChar_3b067_27 : decode cJ2_getChar_3b067 27 = .ok (.athrow, 1) := by decide +kernel
theorem dJ2_getChar_3b067_28 : decode cJ2_getChar_3b067 28 = .ok (.iload_n 1, 1) := by decide +kernel
theorem dJ2_getChar_3b067_29 : decode cJ2_getChar_3b067 29 = .ok (.iconst 1, 1) := by decide +kernel
theorem dJ2_getChar_3b067_30 : decode cJ2_getChar_3b067 30 = .ok (.ishl, 1) := by decide +kernel
theorem dJ2_getChar_3b067_31 : decode cJ2_getChar_3b067 31 = .ok (.istore_n 1, 1) := by decide +kernel
theorem dJ2_getChar_3b067_32 : decode cJ2_getChar_3b067 32 = .ok (.aload_n 0, 1) := by decide +kernel
theorem dJ2_getChar_3b067_33 : decode cJ2_getChar_3b067 33 = .ok (.iload_n 1, 1) := by decide +kernel
theorem dJ2_getChar_3b067_34 : decode cJ2_getChar_3b067 34 = .ok (.iinc 1 1, 3) := by decide +kernel
theorem dJ2_getChar_3b067_37 : decode cJ2_getChar_3b067 37 = .ok (.baload, 1) := by decide +kernel
theorem dJ2_getChar_3b067_38 : decode cJ2_getChar_3b067 38 = .ok (.sipush 255, 3) := by decide +kernel
theorem dJ2_getChar_3b067_41 : decode cJ2_getChar_3b067 41 = .ok (.iand, 1) := by decide +kernel
theorem dJ2_getChar_3b067_42 : decode cJ2_getChar_3b067 42 = .ok (.getstatic 59, 3) := by decide +kernel
theorem dJ2_getChar_3b067_45 : decode cJ2_getChar_3b067 45 = .ok (.ishl, 1) := by decide +kernel
theorem dJ2_getChar_3b067_46 : decode cJ2_getChar_3b067 46 = .ok (.aload_n 0, 1) := by decide +kernel
theorem dJ2_getChar_3b067_47 : decode cJ2_getChar_3b067 47 = .ok (.iload_n 1, 1) := by decide +kernel
theorem dJ2_getChar_3b067_48 : decode cJ2_getChar_3b067 48 = .ok (.baload, 1) := by decide +kernel
theorem dJ2_getChar_3b067_49 : decode cJ2_getChar_3b067 49 = .ok (.sipush 255, 3) := by decide +kernel
theorem dJ2_getChar_3b067_52 : decode cJ2_getChar_3b067 52 = .ok (.iand, 1) := by decide +kernel
theorem dJ2_getChar_3b067_53 : decode cJ2_getChar_3b067 53 = .ok (.getstatic 63, 3) := by decide +kernel
theorem dJ2_getChar_3b067_56 : decode cJ2_getChar_3b067 56 = .ok (.ishl, 1) := by decide +kernel
theorem dJ2_getChar_3b067_57 : decode cJ2_getChar_3b067 57 = .ok (.ior, 1) := by decide +kernel
theorem dJ2_getChar_3b067_58 : decode cJ2_getChar_3b067 58 = .ok (.i2c, 1) := by decide +kernel
theorem dJ2_getChar_3b067_59 : decode cJ2_getChar_3b067 59 = .ok (.ireturn, 1) := by decide +kernel
theorem dJ2_length_9d52b_0 : decode cJ2_length_9d52b 0 = .ok (.aload_n 0, 1) := by decide +kernel
theorem dJ2_length_9d52b_1 : decode cJ2_length_9d52b 1 = .ok (.arraylength, 1) := by decide +kernel
theorem dJ2_length_9d52b_2 : decode cJ2_length_9d52b 2 = .ok (.iconst 1, 1) := by decide +kernel
theorem dJ2_length_9d52b_3 : decode cJ2_length_9d52b 3 = .ok (.ishr, 1) := by decide +kernel
theorem dJ2_length_9d52b_4 : decode cJ2_length_9d52b 4 = .ok (.ireturn, 1) := by decide +kernel
theorem dJ2_charAt_3b067_0 : decode cJ2_charAt_3b067 0 = .ok (.iload_n 1, 1) := by decide +kernel
theorem dJ2_charAt_3b067_1 : decode cJ2_charAt_3b067 1 = .ok (.aload_n 0, 1) := by decide +kernel
theorem dJ2_charAt_3b067_2 : decode cJ2_charAt_3b067 2 = .ok (.invokestatic 67, 3) := by decide +kernel
theorem dJ2_charAt_3b067_5 : decode cJ2_charAt_3b067 5 = .ok (.aload_n 0, 1) := by decide +kernel
theorem dJ2_charAt_3b067_6 : decode cJ2_charAt_3b067 6 = .ok (.iload_n 1, 1) := by decide +kernel
theorem dJ2_charAt_3b067_7 : decode cJ2_charAt_3b067 7 = .ok (.invokestatic 71, 3) := by decide +kernel
theorem dJ2_charAt_3b067_10 : decode cJ2_charAt_3b067 10 = .ok (.ireturn, 1) := by decide +kernel
theorem dJ2_checkIndex_2214a_0 : decode cJ2_checkIndex_2214a 0 = .ok (.iload_n 0, 1) := by decide +kernel
theorem dJ2_checkIndex_2214a_1 : decode cJ2_checkIndex_2214a 1 = .ok (.aload_n 1, 1) := by decide +kernel
theorem dJ2_checkIndex_2214a_2 : decode cJ2_checkIndex_2214a 2 = .ok (.invokestatic 48, 3) := by decide +kernel
theorem dJ2_checkIndex_2214a_5 : decode cJ2_checkIndex_2214a 5 = .ok (.invokestatic 414, 3) := by decide +kernel
theorem dJ2_checkIndex_2214a_8 : decode cJ2_checkIndex_2214a 8 = .ok (.return_, 1) := by decide +kernel
theorem dJ7_rangeCheck_23922_0 : decode cJ7_rangeCheck_23922 0 = .ok (.iload_n 1, 1) := by decide +kernel
theorem dJ7_rangeCheck_23922_1 : decode cJ7_rangeCheck_23922 1 = .ok (.iload_n 2, 1) := by decide +kernel
theorem dJ7_rangeCheck_23922_2 : decode cJ7_rangeCheck_23922 2 = .ok (.if_icmp .le 44, 3) := by decide +kernel
theorem dJ7_rangeCheck_23922_5 : decode cJ7_rangeCheck_23922 5 = .ok (.new 43, 3) := by decide +kernel
theorem dJ7_rangeCheck_23922_8 : decode cJ7_rangeCheck_23922 8 = .ok (.dup, 1) := by decide +kernel
theorem dJ7_rangeCheck_23922_9 : decode cJ7_rangeCheck_23922 9 = .ok (.new 45, 3) := by decide +kernel
theorem dJ7_rangeCheck_23922_12 : decode cJ7_rangeCheck_23922 12 = .ok (.dup, 1) := by decide +kernel
theorem dJ7_rangeCheck_23922_13 : decode cJ7_rangeCheck_23922 13 = .ok (.invokespecial 47, 3) := by decide +kernel
theorem dJ7_rangeCheck_23922_16 : decode cJ7_rangeCheck_23922 16 = .ok (.ldc 48, 2) := by decide +kernel
theorem dJ7_rangeCheck_23922_18 : decode cJ7_rangeCheck_23922 18 = .ok (.invokevirtual 50, 3) := by decide +kernel
theorem dJ7_rangeCheck_23922_21 : decode cJ7_rangeCheck_23922 21 = .ok (.iload_n 1, 1) := by decide +kernel
theorem dJ7_rangeCheck_23922_22 : decode cJ7_rangeCheck_23922 22 = .ok (.invokevirtual 54, 3) := by decide +kernel
theorem dJ7_rangeCheck_23922_25 : decode cJ7_rangeCheck_23922 25 = .ok (.ldc 57, 2) := by decide +kernel
theorem dJ7_rangeCheck_23922_27 : decode cJ7_rangeCheck_23922 27 = .ok (.invokevirtual 50, 3) := by decide +kernel
theorem dJ7_rangeCheck_23922_30 : decode cJ7_rangeCheck_23922 30 = .ok (.iload_n 2, 1) := by decide +kernel
theorem dJ7_rangeCheck_23922_31 : decode cJ7_rangeCheck_23922 31 = .ok (.invokevirtual 54, 3) := by decide +kernel
theorem dJ7_rangeCheck_23922_34 : decode cJ7_rangeCheck_23922 34 = .ok (.ldc 59, 2) := by decide +kernel
theorem dJ7_rangeCheck_23922_36 : decode cJ7_rangeCheck_23922 36 = .ok (.invokevirtual 50, 3) := by decide +kernel
theorem dJ7_rangeCheck_23922_39 : decode cJ7_rangeCheck_23922 39 = .ok (.invokevirtual 61, 3) := by decide +kernel
theorem dJ7_rangeCheck_23922_42 : decode cJ7_rangeCheck_23922 42 = .ok (.invokespecial 65, 3) := by decide +kernel
theorem dJ7_rangeCheck_23922_45 : decode cJ7_rangeCheck_23922 45 = .ok (.athrow, 1) := by decide +kernel
theorem dJ7_rangeCheck_23922_46 : decode cJ7_rangeCheck_23922 46 = .ok (.iload_n 1, 1) := by decide +kernel
theorem dJ7_rangeCheck_23922_47 : decode cJ7_rangeCheck_23922 47 = .ok (.ifCond .ge 12, 3) := by decide +kernel
theorem dJ7_rangeCheck_23922_50 : decode cJ7_rangeCheck_23922 50 = .ok (.new 68, 3) := by decide +kernel
theorem dJ7_rangeCheck_23922_53 : decode cJ7_rangeCheck_23922 53 = .ok (.dup, 1) := by decide +kernel
theorem dJ7_rangeCheck_23922_54 : decode cJ7_rangeCheck_23922 54 = .ok (.iload_n 1, 1) := by decide +kernel
theorem dJ7_rangeCheck_23922_55 : decode cJ7_rangeCheck_23922 55 = .ok (.invokespecial 70, 3) := by decide +kernel
theorem dJ7_rangeCheck_23922_58 : decode cJ7_rangeCheck_23922 58 = .ok (.athrow, 1) := by decide +kernel
theorem dJ7_rangeCheck_23922_59 : decode cJ7_rangeCheck_23922 59 = .ok (.iload_n 2, 1) := by decide +kernel
theorem dJ7_rangeCheck_23922_60 : decode cJ7_rangeCheck_23922 60 = .ok (.iload_n 0, 1) := by decide +kernel
theorem dJ7_rangeCheck_23922_61 : decode cJ7_rangeCheck_23922 61 = .ok (.if_icmp .le 12, 3) := by decide +kernel
theorem dJ7_rangeCheck_23922_64 : decode cJ7_rangeCheck_23922 64 = .ok (.new 68, 3) := by decide +kernel
theorem dJ7_rangeCheck_23922_67 : decode cJ7_rangeCheck_23922 67 = .ok (.dup, 1) := by decide +kernel
theorem dJ7_rangeCheck_23922_68 : decode cJ7_rangeCheck_23922 68 = .ok (.iload_n 2, 1) := by decide +kernel
theorem dJ7_rangeCheck_23922_69 : decode cJ7_rangeCheck_23922 69 = .ok (.invokespecial 70, 3) := by decide +kernel
theorem dJ7_rangeCheck_23922_72 : decode cJ7_rangeCheck_23922 72 = .ok (.athrow, 1) := by decide +kernel
theorem dJ7_rangeCheck_23922_73 : decode cJ7_rangeCheck_23922 73 = .ok (.return_, 1) := by decide +kernel
theorem dJ7_fill_fda19_0 : decode cJ7_fill_fda19 0 = .ok (.aload_n 0, 1) := by decide +kernel
theorem dJ7_fill_fda19_1 : decode cJ7_fill_fda19 1 = .ok (.arraylength, 1) := by decide +kernel
theorem dJ7_fill_fda19_2 : decode cJ7_fill_fda19 2 = .ok (.iload_n 1, 1) := by decide +kernel
theorem dJ7_fill_fda19_3 : decode cJ7_fill_fda19 3 = .ok (.iload_n 2, 1) := by decide +kernel
theorem dJ7_fill_fda19_4 : decode cJ7_fill_fda19 4 = .ok (.invokestatic 13, 3) := by decide +kernel
theorem dJ7_fill_fda19_7 : decode cJ7_fill_fda19 7 = .ok (.iload_n 1, 1) := by decide +kernel
theorem dJ7_fill_fda19_8 : decode cJ7_fill_fda19 8 = .ok (.istore 4, 2) := by decide +kernel
theorem dJ7_fill_fda19_10 : decode cJ7_fill_fda19 10 = .ok (.iload 4, 2) := by decide +kernel
theorem dJ7_fill_fda19_12 : decode cJ7_fill_fda19 12 = .ok (.iload_n 2, 1) := by decide +kernel
theorem dJ7_fill_fda19_13 : decode cJ7_fill_fda19 13 = .ok (.if_icmp .ge 14, 3) := by decide +kernel
theorem dJ7_fill_fda19_16 : decode cJ7_fill_fda19 16 = .ok (.aload_n 0, 1) := by decide +kernel
theorem dJ7_fill_fda19_17 : decode cJ7_fill_fda19 17 = .ok (.iload 4, 2) := by decide +kernel
theorem dJ7_fill_fda19_19 : decode cJ7_fill_fda19 19 = .ok (.iload_n 3, 1) := by decide +kernel
theorem dJ7_fill_fda19_20 : decode cJ7_fill_fda19 20 = .ok (.iastore, 1) := by decide +kernel
theorem dJ7_fill_fda19_21 : decode cJ7_fill_fda19 21 = .ok (.iinc 4 1, 3) := by decide +kernel
theorem dJ7_fill_fda19_24 : decode cJ7_fill_fda19 24 = .ok (.goto (-14), 3) := by decide +kernel
theorem dJ7_fill_fda19_27 : decode cJ7_fill_fda19 27 = .ok (.return_, 1) := by decide +kernel
theorem dJ3_checkIndex_8e157_0 : decode cJ3_checkIndex_8e157 0 = .ok (.iload_n 0, 1) := by decide +kernel
theorem dJ3_checkIndex_8e157_1 : decode cJ3_checkIndex_8e157 1 = .ok (.ifCond .lt 8, 3) := by decide +kernel
theorem dJ3_checkIndex_8e157_4 : decode cJ3_checkIndex_8e157 4 = .ok (.iload_n 0, 1) := by decide +kernel
theorem dJ3_checkIndex_8e157_5 : decode cJ3_checkIndex_8e157 5 = .ok (.iload_n 1, 1) := by decide +kernel
theorem dJ3_checkIndex_8e157_6 : decode cJ3_checkIndex_8e157 6 = .ok (.if_icmp .lt 10, 3) := by decide +kernel
theorem dJ3_checkIndex_8e157_9 : decode cJ3_checkIndex_8e157 9 = .ok (.aload_n 2, 1) := by decide +kernel
theorem dJ3_checkIndex_8e157_10 : decode cJ3_checkIndex_8e157 10 = .ok (.iload_n 0, 1) := by decide +kernel
theorem dJ3_checkIndex_8e157_11 : decode cJ3_checkIndex_8e157 11 = .ok (.iload_n 1, 1) := by decide +kernel
theorem dJ3_checkIndex_8e157_12 : decode cJ3_checkIndex_8e157 12 = .ok (.invokestatic 95, 3) := by decide +kernel
theorem dJ3_checkIndex_8e157_15 : decode cJ3_checkIndex_8e157 15 = .ok (.athrow, 1) := by decide +kernel
theorem dJ3_checkIndex_8e157_16 : decode cJ3_checkIndex_8e157 16 = .ok (.iload_n 0, 1) := by decide +kernel
theorem dJ3_checkIndex_8e157_17 : decode cJ3_checkIndex_8e157 17 = .ok (.ireturn, 1) := by decide +kernel
theorem dL_law_0 : decode cL_law 0 = .ok (.new 7, 3) := by decide +kernel
theorem dL_law_3 : decode cL_law 3 = .ok (.dup, 1) := by decide +kernel
theorem dL_law_4 : decode cL_law 4 = .ok (.invokespecial 9, 3) := by decide +kernel
theorem dL_law_7 : decode cL_law 7 = .ok (.astore_n 1, 1) := by decide +kernel
theorem dL_law_8 : decode cL_law 8 = .ok (.new 10, 3) := by decide +kernel
theorem dL_law_11 : decode cL_law 11 = .ok (.dup, 1) := by decide +kernel
theorem dL_law_12 : decode cL_law 12 = .ok (.invokespecial 12, 3) := by decide +kernel
theorem dL_law_15 : decode cL_law 15 = .ok (.astore_n 2, 1) := by decide +kernel
theorem dL_law_16 : decode cL_law 16 = .ok (.iconst 0, 1) := by decide +kernel
theorem dL_law_17 : decode cL_law 17 = .ok (.istore_n 3, 1) := by decide +kernel
theorem dL_law_18 : decode cL_law 18 = .ok (.iload_n 3, 1) := by decide +kernel
theorem dL_law_19 : decode cL_law 19 = .ok (.aload_n 0, 1) := by decide +kernel
theorem dL_law_20 : decode cL_law 20 = .ok (.arraylength, 1) := by decide +kernel
theorem dL_law_21 : decode cL_law 21 = .ok (.iconst 5, 1) := by decide +kernel
theorem dL_law_22 : decode cL_law 22 = .ok (.isub, 1) := by decide +kernel
theorem dL_law_23 : decode cL_law 23 = .ok (.if_icmp .gt 649, 3) := by decide +kernel
theorem dL_law_26 : decode cL_law 26 = .ok (.aload_n 0, 1) := by decide +kernel
theorem dL_law_27 : decode cL_law 27 = .ok (.iload_n 3, 1) := by decide +kernel
theorem dL_law_28 : decode cL_law 28 = .ok (.iaload, 1) := by decide +kernel
theorem dL_law_29 : decode cL_law 29 = .ok (.bipush 15, 2) := by decide +kernel
theorem dL_law_31 : decode cL_law 31 = .ok (.iand, 1) := by decide +kernel
theorem dL_law_32 : decode cL_law 32 = .ok (.tableswitch 634 0 13 #[72, 85, 118, 141, 164, 227, 240, 263, 296, 329, 392, 465, 498, 571], 72) := by decide +kernel
theorem dL_law_104 : decode cL_law 104 = .ok (.aload_n 1, 1) := by decide +kernel
theorem dL_law_105 : decode cL_law 105 = .ok (.invokevirtual 13, 3) := by decide +kernel
theorem dL_law_108 : decode cL_law 108 = .ok (.aload_n 2, 1) := by decide +kernel
theorem dL_law_109 : decode cL_law 109 = .ok (.invokevirtual 17, 3) := by decide +kernel
theorem dL_law_112 : decode cL_law 112 = .ok (.if_icmp .eq 554, 3) := by decide +kernel
theorem dL_law_115 : decode cL_law 115 = .ok (.iconst 0, 1) := by decide +kernel
theorem dL_law_116 : decode cL_law 116 = .ok (.ireturn, 1) := by decide +kernel
theorem dL_law_117 : decode cL_law 117 = .ok (.aload_n 1, 1) := by decide +kernel
theorem dL_law_118 : decode cL_law 118 = .ok (.aload_n 0, 1) := by decide +kernel
theorem dL_law_119 : decode cL_law 119 = .ok (.iload_n 3, 1) := by decide +kernel
theorem dL_law_120 : decode cL_law 120 = .ok (.iconst 1, 1) := by decide +kernel
theorem dL_law_121 : decode cL_law 121 = .ok (.iadd, 1) := by decide +kernel
theorem dL_law_122 : decode cL_law 122 = .ok (.iaload, 1) := by decide +kernel
theorem dL_law_123 : decode cL_law 123 = .ok (.aload_n 0, 1) := by decide +kernel
theorem dL_law_124 : decode cL_law 124 = .ok (.iload_n 3, 1) := by decide +kernel
theorem dL_law_125 : decode cL_law 125 = .ok (.iconst 2, 1) := by decide +kernel
theorem dL_law_126 : decode cL_law 126 = .ok (.iadd, 1) := by decide +kernel
theorem dL_law_127 : decode cL_law 127 = .ok (.iaload, 1) := by decide +kernel
theorem dL_law_128 : decode cL_law 128 = .ok (.invokevirtual 18, 3) := by decide +kernel
theorem dL_law_131 : decode cL_law 131 = .ok (.aload_n 2, 1) := by decide +kernel
theorem dL_law_132 : decode cL_law 132 = .ok (.aload_n 0, 1) := by decide +kernel
theorem dL_law_133 : decode cL_law 133 = .ok (.iload_n 3, 1) := by decide +kernel
theorem dL_law_134 : decode cL_law 134 = .ok (.iconst 1, 1) := by decide +kernel
theorem dL_law_135 : decode cL_law 135 = .ok (.iadd, 1) := by decide +kernel
theorem dL_law_136 : decode cL_law 136 = .ok (.iaload, 1) := by decide +kernel
theorem dL_law_137 : decode cL_law 137 = .ok (.aload_n 0, 1) := by decide +kernel
theorem dL_law_138 : decode cL_law 138 = .ok (.iload_n 3, 1) := by decide +kernel
theorem dL_law_139 : decode cL_law 139 = .ok (.iconst 2, 1) := by decide +kernel
theorem dL_law_140 : decode cL_law 140 = .ok (.iadd, 1) := by decide +kernel
theorem dL_law_141 : decode cL_law 141 = .ok (.iaload, 1) := by decide +kernel
theorem dL_law_142 : decode cL_law 142 = .ok (.invokevirtual 22, 3) := by decide +kernel
theorem dL_law_145 : decode cL_law 145 = .ok (.if_icmp .eq 521, 3) := by decide +kernel
theorem dL_law_148 : decode cL_law 148 = .ok (.iconst 0, 1) := by decide +kernel
theorem dL_law_149 : decode cL_law 149 = .ok (.ireturn, 1) := by decide +kernel
theorem dL_law_150 : decode cL_law 150 = .ok (.aload_n 1, 1) := by decide +kernel
theorem dL_law_151 : decode cL_law 151 = .ok (.aload_n 0, 1) := by decide +kernel
theorem dL_law_152 : decode cL_law 152 = .ok (.iload_n 3, 1) := by decide +kernel
theorem dL_law_153 : decode cL_law 153 = .ok (.iconst 1, 1) := by decide +kernel
theorem dL_law_154 : decode cL_law 154 = .ok (.iadd, 1) := by decide +kernel
theorem dL_law_155 : decode cL_law 155 = .ok (.iaload, 1) := by decide +kernel
theorem dL_law_156 : decode cL_law 156 = .ok (.invokevirtual 23, 3) := by decide +kernel
theorem dL_law_159 : decode cL_law 159 = .ok (.aload_n 2, 1) := by decide +kernel
theorem dL_law_160 : decode cL_law 160 = .ok (.aload_n 0, 1) := by decide +kernel
theorem dL_law_161 : decode cL_law 161 = .ok (.iload_n 3, 1) := by decide +kernel
theorem dL_law_162 : decode cL_law 162 = .ok (.iconst 1, 1) := by decide +kernel
theorem dL_law_163 : decode cL_law 163 = .ok (.iadd, 1) := by decide +kernel
theorem dL_law_164 : decode cL_law 164 = .ok (.iaload, 1) := by decide +kernel
theorem dL_law_165 : decode cL_law 165 = .ok (.invokevirtual 27, 3) := by decide +kernel
theorem dL_law_168 : decode cL_law 168 = .ok (.if_icmp .eq 498, 3) := by decide +kernel
theorem dL_law_171 : decode cL_law 171 = .ok (.iconst 0, 1) := by decide +kernel
theorem dL_law_172 : decode cL_law 172 = .ok (.ireturn, 1) := by decide +kernel
theorem dL_law_173 : decode cL_law 173 = .ok (.aload_n 1, 1) := by decide +kernel
theorem dL_law_174 : decode cL_law 174 = .ok (.aload_n 0, 1) := by decide +kernel
theorem dL_law_175 : decode cL_law 175 = .ok (.iload_n 3, 1) := by decide +kernel
theorem dL_law_176 : decode cL_law 176 = .ok (.iconst 1, 1) := by decide +kernel
theorem dL_law_177 : decode cL_law 177 = .ok (.iadd, 1) := by decide +kernel
theorem dL_law_178 : decode cL_law 178 = .ok (.iaload, 1) := by decide +kernel
theorem dL_law_179 : decode cL_law 179 = .ok (.invokevirtual 28, 3) := by decide +kernel
theorem dL_law_182 : decode cL_law 182 = .ok (.aload_n 2, 1) := by decide +kernel
theorem dL_law_183 : decode cL_law 183 = .ok (.aload_n 0, 1) := by decide +kernel
theorem dL_law_184 : decode cL_law 184 = .ok (.iload_n 3, 1) := by decide +kernel
theorem dL_law_185 : decode cL_law 185 = .ok (.iconst 1, 1) := by decide +kernel
theorem dL_law_186 : decode cL_law 186 = .ok (.iadd, 1) := by decide +kernel
theorem dL_law_187 : decode cL_law 187 = .ok (.iaload, 1) := by decide +kernel
theorem dL_law_188 : decode cL_law 188 = .ok (.invokevirtual 32, 3) := by decide +kernel
theorem dL_law_191 : decode cL_law 191 = .ok (.if_icmp .eq 475, 3) := by decide +kernel
theorem dL_law_194 : decode cL_law 194 = .ok (.iconst 0, 1) := by decide +kernel
theorem dL_law_195 : decode cL_law 195 = .ok (.ireturn, 1) := by decide +kernel
theorem dL_law_196 : decode cL_law 196 = .ok (.aload_n 1, 1) := by decide +kernel
theorem dL_law_197 : decode cL_law 197 = .ok (.aload_n 0, 1) := by decide +kernel
theorem dL_law_198 : decode cL_law 198 = .ok (.iload_n 3, 1) := by decide +kernel
theorem dL_law_199 : decode cL_law 199 = .ok (.iconst 1, 1) := by decide +kernel
theorem dL_law_200 : decode cL_law 200 = .ok (.iadd, 1) := by decide +kernel
theorem dL_law_201 : decode cL_law 201 = .ok (.iaload, 1) := by decide +kernel
theorem dL_law_202 : decode cL_law 202 = .ok (.i2l, 1) := by decide +kernel
theorem dL_law_203 : decode cL_law 203 = .ok (.bipush 32, 2) := by decide +kernel
theorem dL_law_205 : decode cL_law 205 = .ok (.lshl, 1) := by decide +kernel
theorem dL_law_206 : decode cL_law 206 = .ok (.aload_n 0, 1) := by decide +kernel
theorem dL_law_207 : decode cL_law 207 = .ok (.iload_n 3, 1) := by decide +kernel
theorem dL_law_208 : decode cL_law 208 = .ok (.iconst 2, 1) := by decide +kernel
theorem dL_law_209 : decode cL_law 209 = .ok (.iadd, 1) := by decide +kernel
theorem dL_law_210 : decode cL_law 210 = .ok (.iaload, 1) := by decide +kernel
theorem dL_law_211 : decode cL_law 211 = .ok (.i2l, 1) := by decide +kernel
theorem dL_law_212 : decode cL_law 212 = .ok (.ldc2_w 33, 3) := by decide +kernel
theorem dL_law_215 : decode cL_law 215 = .ok (.land, 1) := by decide +kernel
theorem dL_law_216 : decode cL_law 216 = .ok (.lor, 1) := by decide +kernel
theorem dL_law_217 : decode cL_law 217 = .ok (.aload_n 0, 1) := by decide +kernel
theorem dL_law_218 : decode cL_law 218 = .ok (.iload_n 3, 1) := by decide +kernel
theorem dL_law_219 : decode cL_law 219 = .ok (.iconst 3, 1) := by decide +kernel
theorem dL_law_220 : decode cL_law 220 = .ok (.iadd, 1) := by decide +kernel
theorem dL_law_221 : decode cL_law 221 = .ok (.iaload, 1) := by decide +kernel
theorem dL_law_222 : decode cL_law 222 = .ok (.invokevirtual 35, 3) := by decide +kernel
theorem dL_law_225 : decode cL_law 225 = .ok (.aload_n 2, 1) := by decide +kernel
theorem dL_law_226 : decode cL_law 226 = .ok (.aload_n 0, 1) := by decide +kernel
theorem dL_law_227 : decode cL_law 227 = .ok (.iload_n 3, 1) := by decide +kernel
theorem dL_law_228 : decode cL_law 228 = .ok (.iconst 1, 1) := by decide +kernel
theorem dL_law_229 : decode cL_law 229 = .ok (.iadd, 1) := by decide +kernel
theorem dL_law_230 : decode cL_law 230 = .ok (.iaload, 1) := by decide +kernel
theorem dL_law_231 : decode cL_law 231 = .ok (.i2l, 1) := by decide +kernel
theorem dL_law_232 : decode cL_law 232 = .ok (.bipush 32, 2) := by decide +kernel
theorem dL_law_234 : decode cL_law 234 = .ok (.lshl, 1) := by decide +kernel
theorem dL_law_235 : decode cL_law 235 = .ok (.aload_n 0, 1) := by decide +kernel
theorem dL_law_236 : decode cL_law 236 = .ok (.iload_n 3, 1) := by decide +kernel
theorem dL_law_237 : decode cL_law 237 = .ok (.iconst 2, 1) := by decide +kernel
theorem dL_law_238 : decode cL_law 238 = .ok (.iadd, 1) := by decide +kernel
theorem dL_law_239 : decode cL_law 239 = .ok (.iaload, 1) := by decide +kernel
theorem dL_law_240 : decode cL_law 240 = .ok (.i2l, 1) := by decide +kernel
theorem dL_law_241 : decode cL_law 241 = .ok (.ldc2_w 33, 3) := by decide +kernel
theorem dL_law_244 : decode cL_law 244 = .ok (.land, 1) := by decide +kernel
theorem dL_law_245 : decode cL_law 245 = .ok (.lor, 1) := by decide +kernel
theorem dL_law_246 : decode cL_law 246 = .ok (.aload_n 0, 1) := by decide +kernel
theorem dL_law_247 : decode cL_law 247 = .ok (.iload_n 3, 1) := by decide +kernel
theorem dL_law_248 : decode cL_law 248 = .ok (.iconst 3, 1) := by decide +kernel
theorem dL_law_249 : decode cL_law 249 = .ok (.iadd, 1) := by decide +kernel
theorem dL_law_250 : decode cL_law 250 = .ok (.iaload, 1) := by decide +kernel
theorem dL_law_251 : decode cL_law 251 = .ok (.invokevirtual 39, 3) := by decide +kernel
theorem dL_law_254 : decode cL_law 254 = .ok (.if_icmp .eq 412, 3) := by decide +kernel
theorem dL_law_257 : decode cL_law 257 = .ok (.iconst 0, 1) := by decide +kernel
theorem dL_law_258 : decode cL_law 258 = .ok (.ireturn, 1) := by decide +kernel
theorem dL_law_259 : decode cL_law 259 = .ok (.aload_n 1, 1) := by decide +kernel
theorem dL_law_260 : decode cL_law 260 = .ok (.invokevirtual 40, 3) := by decide +kernel
theorem dL_law_263 : decode cL_law 263 = .ok (.aload_n 2, 1) := by decide +kernel
theorem dL_law_264 : decode cL_law 264 = .ok (.invokevirtual 43, 3) := by decide +kernel
theorem dL_law_267 : decode cL_law 267 = .ok (.if_icmp .eq 399, 3) := by decide +kernel
theorem dL_law_270 : decode cL_law 270 = .ok (.iconst 0, 1) := by decide +kernel
theorem dL_law_271 : decode cL_law 271 = .ok (.ireturn, 1) := by decide +kernel
theorem dL_law_272 : decode cL_law 272 = .ok (.aload_n 1, 1) := by decide +kernel
theorem dL_law_273 : decode cL_law 273 = .ok (.aload_n 0, 1) := by decide +kernel
theorem dL_law_274 : decode cL_law 274 = .ok (.iload_n 3, 1) := by decide +kernel
theorem dL_law_275 : decode cL_law 275 = .ok (.iconst 1, 1) := by decide +kernel
theorem dL_law_276 : decode cL_law 276 = .ok (.iadd, 1) := by decide +kernel
theorem dL_law_277 : decode cL_law 277 = .ok (.iaload, 1) := by decide +kernel
theorem dL_law_278 : decode cL_law 278 = .ok (.invokevirtual 44, 3) := by decide +kernel
theorem dL_law_281 : decode cL_law 281 = .ok (.aload_n 2, 1) := by decide +kernel
theorem dL_law_282 : decode cL_law 282 = .ok (.aload_n 0, 1) := by decide +kernel
theorem dL_law_283 : decode cL_law 283 = .ok (.iload_n 3, 1) := by decide +kernel
theorem dL_law_284 : decode cL_law 284 = .ok (.iconst 1, 1) := by decide +kernel
theorem dL_law_285 : decode cL_law 285 = .ok (.iadd, 1) := by decide +kernel
theorem dL_law_286 : decode cL_law 286 = .ok (.iaload, 1) := by decide +kernel
theorem dL_law_287 : decode cL_law 287 = .ok (.invokevirtual 47, 3) := by decide +kernel
theorem dL_law_290 : decode cL_law 290 = .ok (.if_icmp .eq 376, 3) := by decide +kernel
theorem dL_law_293 : decode cL_law 293 = .ok (.iconst 0, 1) := by decide +kernel
theorem dL_law_294 : decode cL_law 294 = .ok (.ireturn, 1) := by decide +kernel
theorem dL_law_295 : decode cL_law 295 = .ok (.aload_n 1, 1) := by decide +kernel
theorem dL_law_296 : decode cL_law 296 = .ok (.aload_n 0, 1) := by decide +kernel
theorem dL_law_297 : decode cL_law 297 = .ok (.iload_n 3, 1) := by decide +kernel
theorem dL_law_298 : decode cL_law 298 = .ok (.iconst 1, 1) := by decide +kernel
theorem dL_law_299 : decode cL_law 299 = .ok (.iadd, 1) := by decide +kernel
theorem dL_law_300 : decode cL_law 300 = .ok (.iaload, 1) := by decide +kernel
theorem dL_law_301 : decode cL_law 301 = .ok (.aload_n 0, 1) := by decide +kernel
theorem dL_law_302 : decode cL_law 302 = .ok (.iload_n 3, 1) := by decide +kernel
theorem dL_law_303 : decode cL_law 303 = .ok (.iconst 2, 1) := by decide +kernel
theorem dL_law_304 : decode cL_law 304 = .ok (.iadd, 1) := by decide +kernel
theorem dL_law_305 : decode cL_law 305 = .ok (.iaload, 1) := by decide +kernel
theorem dL_law_306 : decode cL_law 306 = .ok (.invokevirtual 48, 3) := by decide +kernel
theorem dL_law_309 : decode cL_law 309 = .ok (.aload_n 2, 1) := by decide +kernel
theorem dL_law_310 : decode cL_law 310 = .ok (.aload_n 0, 1) := by decide +kernel
theorem dL_law_311 : decode cL_law 311 = .ok (.iload_n 3, 1) := by decide +kernel
theorem dL_law_312 : decode cL_law 312 = .ok (.iconst 1, 1) := by decide +kernel
theorem dL_law_313 : decode cL_law 313 = .ok (.iadd, 1) := by decide +kernel
theorem dL_law_314 : decode cL_law 314 = .ok (.iaload, 1) := by decide +kernel
theorem dL_law_315 : decode cL_law 315 = .ok (.aload_n 0, 1) := by decide +kernel
theorem dL_law_316 : decode cL_law 316 = .ok (.iload_n 3, 1) := by decide +kernel
theorem dL_law_317 : decode cL_law 317 = .ok (.iconst 2, 1) := by decide +kernel
theorem dL_law_318 : decode cL_law 318 = .ok (.iadd, 1) := by decide +kernel
theorem dL_law_319 : decode cL_law 319 = .ok (.iaload, 1) := by decide +kernel
theorem dL_law_320 : decode cL_law 320 = .ok (.invokevirtual 52, 3) := by decide +kernel
theorem dL_law_323 : decode cL_law 323 = .ok (.if_icmp .eq 343, 3) := by decide +kernel
theorem dL_law_326 : decode cL_law 326 = .ok (.iconst 0, 1) := by decide +kernel
theorem dL_law_327 : decode cL_law 327 = .ok (.ireturn, 1) := by decide +kernel
theorem dL_law_328 : decode cL_law 328 = .ok (.aload_n 1, 1) := by decide +kernel
theorem dL_law_329 : decode cL_law 329 = .ok (.aload_n 0, 1) := by decide +kernel
theorem dL_law_330 : decode cL_law 330 = .ok (.iload_n 3, 1) := by decide +kernel
theorem dL_law_331 : decode cL_law 331 = .ok (.iconst 1, 1) := by decide +kernel
theorem dL_law_332 : decode cL_law 332 = .ok (.iadd, 1) := by decide +kernel
theorem dL_law_333 : decode cL_law 333 = .ok (.iaload, 1) := by decide +kernel
theorem dL_law_334 : decode cL_law 334 = .ok (.aload_n 0, 1) := by decide +kernel
theorem dL_law_335 : decode cL_law 335 = .ok (.iload_n 3, 1) := by decide +kernel
theorem dL_law_336 : decode cL_law 336 = .ok (.iconst 2, 1) := by decide +kernel
theorem dL_law_337 : decode cL_law 337 = .ok (.iadd, 1) := by decide +kernel
theorem dL_law_338 : decode cL_law 338 = .ok (.iaload, 1) := by decide +kernel
theorem dL_law_339 : decode cL_law 339 = .ok (.invokevirtual 53, 3) := by decide +kernel
theorem dL_law_342 : decode cL_law 342 = .ok (.aload_n 2, 1) := by decide +kernel
theorem dL_law_343 : decode cL_law 343 = .ok (.aload_n 0, 1) := by decide +kernel
theorem dL_law_344 : decode cL_law 344 = .ok (.iload_n 3, 1) := by decide +kernel
theorem dL_law_345 : decode cL_law 345 = .ok (.iconst 1, 1) := by decide +kernel
theorem dL_law_346 : decode cL_law 346 = .ok (.iadd, 1) := by decide +kernel
theorem dL_law_347 : decode cL_law 347 = .ok (.iaload, 1) := by decide +kernel
theorem dL_law_348 : decode cL_law 348 = .ok (.aload_n 0, 1) := by decide +kernel
theorem dL_law_349 : decode cL_law 349 = .ok (.iload_n 3, 1) := by decide +kernel
theorem dL_law_350 : decode cL_law 350 = .ok (.iconst 2, 1) := by decide +kernel
theorem dL_law_351 : decode cL_law 351 = .ok (.iadd, 1) := by decide +kernel
theorem dL_law_352 : decode cL_law 352 = .ok (.iaload, 1) := by decide +kernel
theorem dL_law_353 : decode cL_law 353 = .ok (.invokevirtual 56, 3) := by decide +kernel
theorem dL_law_356 : decode cL_law 356 = .ok (.if_icmp .eq 310, 3) := by decide +kernel
theorem dL_law_359 : decode cL_law 359 = .ok (.iconst 0, 1) := by decide +kernel
theorem dL_law_360 : decode cL_law 360 = .ok (.ireturn, 1) := by decide +kernel
theorem dL_law_361 : decode cL_law 361 = .ok (.aload_n 1, 1) := by decide +kernel
theorem dL_law_362 : decode cL_law 362 = .ok (.aload_n 0, 1) := by decide +kernel
theorem dL_law_363 : decode cL_law 363 = .ok (.iload_n 3, 1) := by decide +kernel
theorem dL_law_364 : decode cL_law 364 = .ok (.iconst 1, 1) := by decide +kernel
theorem dL_law_365 : decode cL_law 365 = .ok (.iadd, 1) := by decide +kernel
theorem dL_law_366 : decode cL_law 366 = .ok (.iaload, 1) := by decide +kernel
theorem dL_law_367 : decode cL_law 367 = .ok (.aload_n 0, 1) := by decide +kernel
theorem dL_law_368 : decode cL_law 368 = .ok (.iload_n 3, 1) := by decide +kernel
theorem dL_law_369 : decode cL_law 369 = .ok (.iconst 2, 1) := by decide +kernel
theorem dL_law_370 : decode cL_law 370 = .ok (.iadd, 1) := by decide +kernel
theorem dL_law_371 : decode cL_law 371 = .ok (.iaload, 1) := by decide +kernel
theorem dL_law_372 : decode cL_law 372 = .ok (.i2l, 1) := by decide +kernel
theorem dL_law_373 : decode cL_law 373 = .ok (.bipush 32, 2) := by decide +kernel
theorem dL_law_375 : decode cL_law 375 = .ok (.lshl, 1) := by decide +kernel
theorem dL_law_376 : decode cL_law 376 = .ok (.aload_n 0, 1) := by decide +kernel
theorem dL_law_377 : decode cL_law 377 = .ok (.iload_n 3, 1) := by decide +kernel
theorem dL_law_378 : decode cL_law 378 = .ok (.iconst 3, 1) := by decide +kernel
theorem dL_law_379 : decode cL_law 379 = .ok (.iadd, 1) := by decide +kernel
theorem dL_law_380 : decode cL_law 380 = .ok (.iaload, 1) := by decide +kernel
theorem dL_law_381 : decode cL_law 381 = .ok (.i2l, 1) := by decide +kernel
theorem dL_law_382 : decode cL_law 382 = .ok (.ldc2_w 33, 3) := by decide +kernel
theorem dL_law_385 : decode cL_law 385 = .ok (.land, 1) := by decide +kernel
theorem dL_law_386 : decode cL_law 386 = .ok (.lor, 1) := by decide +kernel
theorem dL_law_387 : decode cL_law 387 = .ok (.invokevirtual 57, 3) := by decide +kernel
theorem dL_law_390 : decode cL_law 390 = .ok (.aload_n 2, 1) := by decide +kernel
theorem dL_law_391 : decode cL_law 391 = .ok (.aload_n 0, 1) := by decide +kernel
theorem dL_law_392 : decode cL_law 392 = .ok (.iload_n 3, 1) := by decide +kernel
theorem dL_law_393 : decode cL_law 393 = .ok (.iconst 1, 1) := by decide +kernel
theorem dL_law_394 : decode cL_law 394 = .ok (.iadd, 1) := by decide +kernel
theorem dL_law_395 : decode cL_law 395 = .ok (.iaload, 1) := by decide +kernel
theorem dL_law_396 : decode cL_law 396 = .ok (.aload_n 0, 1) := by decide +kernel
theorem dL_law_397 : decode cL_law 397 = .ok (.iload_n 3, 1) := by decide +kernel
theorem dL_law_398 : decode cL_law 398 = .ok (.iconst 2, 1) := by decide +kernel
theorem dL_law_399 : decode cL_law 399 = .ok (.iadd, 1) := by decide +kernel
theorem dL_law_400 : decode cL_law 400 = .ok (.iaload, 1) := by decide +kernel
theorem dL_law_401 : decode cL_law 401 = .ok (.i2l, 1) := by decide +kernel
theorem dL_law_402 : decode cL_law 402 = .ok (.bipush 32, 2) := by decide +kernel
theorem dL_law_404 : decode cL_law 404 = .ok (.lshl, 1) := by decide +kernel
theorem dL_law_405 : decode cL_law 405 = .ok (.aload_n 0, 1) := by decide +kernel
theorem dL_law_406 : decode cL_law 406 = .ok (.iload_n 3, 1) := by decide +kernel
theorem dL_law_407 : decode cL_law 407 = .ok (.iconst 3, 1) := by decide +kernel
theorem dL_law_408 : decode cL_law 408 = .ok (.iadd, 1) := by decide +kernel
theorem dL_law_409 : decode cL_law 409 = .ok (.iaload, 1) := by decide +kernel
theorem dL_law_410 : decode cL_law 410 = .ok (.i2l, 1) := by decide +kernel
theorem dL_law_411 : decode cL_law 411 = .ok (.ldc2_w 33, 3) := by decide +kernel
theorem dL_law_414 : decode cL_law 414 = .ok (.land, 1) := by decide +kernel
theorem dL_law_415 : decode cL_law 415 = .ok (.lor, 1) := by decide +kernel
theorem dL_law_416 : decode cL_law 416 = .ok (.invokevirtual 61, 3) := by decide +kernel
theorem dL_law_419 : decode cL_law 419 = .ok (.if_icmp .eq 247, 3) := by decide +kernel
theorem dL_law_422 : decode cL_law 422 = .ok (.iconst 0, 1) := by decide +kernel
theorem dL_law_423 : decode cL_law 423 = .ok (.ireturn, 1) := by decide +kernel
theorem dL_law_424 : decode cL_law 424 = .ok (.aload_n 1, 1) := by decide +kernel
theorem dL_law_425 : decode cL_law 425 = .ok (.aload_n 0, 1) := by decide +kernel
theorem dL_law_426 : decode cL_law 426 = .ok (.iload_n 3, 1) := by decide +kernel
theorem dL_law_427 : decode cL_law 427 = .ok (.iconst 1, 1) := by decide +kernel
theorem dL_law_428 : decode cL_law 428 = .ok (.iadd, 1) := by decide +kernel
theorem dL_law_429 : decode cL_law 429 = .ok (.iaload, 1) := by decide +kernel
theorem dL_law_430 : decode cL_law 430 = .ok (.aload_n 0, 1) := by decide +kernel
theorem dL_law_431 : decode cL_law 431 = .ok (.iload_n 3, 1) := by decide +kernel
theorem dL_law_432 : decode cL_law 432 = .ok (.iconst 2, 1) := by decide +kernel
theorem dL_law_433 : decode cL_law 433 = .ok (.iadd, 1) := by decide +kernel
theorem dL_law_434 : decode cL_law 434 = .ok (.iaload, 1) := by decide +kernel
theorem dL_law_435 : decode cL_law 435 = .ok (.i2l, 1) := by decide +kernel
theorem dL_law_436 : decode cL_law 436 = .ok (.bipush 32, 2) := by decide +kernel
theorem dL_law_438 : decode cL_law 438 = .ok (.lshl, 1) := by decide +kernel
theorem dL_law_439 : decode cL_law 439 = .ok (.aload_n 0, 1) := by decide +kernel
theorem dL_law_440 : decode cL_law 440 = .ok (.iload_n 3, 1) := by decide +kernel
theorem dL_law_441 : decode cL_law 441 = .ok (.iconst 3, 1) := by decide +kernel
theorem dL_law_442 : decode cL_law 442 = .ok (.iadd, 1) := by decide +kernel
theorem dL_law_443 : decode cL_law 443 = .ok (.iaload, 1) := by decide +kernel
theorem dL_law_444 : decode cL_law 444 = .ok (.i2l, 1) := by decide +kernel
theorem dL_law_445 : decode cL_law 445 = .ok (.ldc2_w 33, 3) := by decide +kernel
theorem dL_law_448 : decode cL_law 448 = .ok (.land, 1) := by decide +kernel
theorem dL_law_449 : decode cL_law 449 = .ok (.lor, 1) := by decide +kernel
theorem dL_law_450 : decode cL_law 450 = .ok (.aload_n 0, 1) := by decide +kernel
theorem dL_law_451 : decode cL_law 451 = .ok (.iload_n 3, 1) := by decide +kernel
theorem dL_law_452 : decode cL_law 452 = .ok (.iconst 4, 1) := by decide +kernel
theorem dL_law_453 : decode cL_law 453 = .ok (.iadd, 1) := by decide +kernel
theorem dL_law_454 : decode cL_law 454 = .ok (.iaload, 1) := by decide +kernel
theorem dL_law_455 : decode cL_law 455 = .ok (.invokevirtual 62, 3) := by decide +kernel
theorem dL_law_458 : decode cL_law 458 = .ok (.aload_n 2, 1) := by decide +kernel
theorem dL_law_459 : decode cL_law 459 = .ok (.aload_n 0, 1) := by decide +kernel
theorem dL_law_460 : decode cL_law 460 = .ok (.iload_n 3, 1) := by decide +kernel
theorem dL_law_461 : decode cL_law 461 = .ok (.iconst 1, 1) := by decide +kernel
theorem dL_law_462 : decode cL_law 462 = .ok (.iadd, 1) := by decide +kernel
theorem dL_law_463 : decode cL_law 463 = .ok (.iaload, 1) := by decide +kernel
theorem dL_law_464 : decode cL_law 464 = .ok (.aload_n 0, 1) := by decide +kernel
theorem dL_law_465 : decode cL_law 465 = .ok (.iload_n 3, 1) := by decide +kernel
theorem dL_law_466 : decode cL_law 466 = .ok (.iconst 2, 1) := by decide +kernel
theorem dL_law_467 : decode cL_law 467 = .ok (.iadd, 1) := by decide +kernel
theorem dL_law_468 : decode cL_law 468 = .ok (.iaload, 1) := by decide +kernel
theorem dL_law_469 : decode cL_law 469 = .ok (.i2l, 1) := by decide +kernel
theorem dL_law_470 : decode cL_law 470 = .ok (.bipush 32, 2) := by decide +kernel
theorem dL_law_472 : decode cL_law 472 = .ok (.lshl, 1) := by decide +kernel
theorem dL_law_473 : decode cL_law 473 = .ok (.aload_n 0, 1) := by decide +kernel
theorem dL_law_474 : decode cL_law 474 = .ok (.iload_n 3, 1) := by decide +kernel
theorem dL_law_475 : decode cL_law 475 = .ok (.iconst 3, 1) := by decide +kernel
theorem dL_law_476 : decode cL_law 476 = .ok (.iadd, 1) := by decide +kernel
theorem dL_law_477 : decode cL_law 477 = .ok (.iaload, 1) := by decide +kernel
theorem dL_law_478 : decode cL_law 478 = .ok (.i2l, 1) := by decide +kernel
theorem dL_law_479 : decode cL_law 479 = .ok (.ldc2_w 33, 3) := by decide +kernel
theorem dL_law_482 : decode cL_law 482 = .ok (.land, 1) := by decide +kernel
theorem dL_law_483 : decode cL_law 483 = .ok (.lor, 1) := by decide +kernel
theorem dL_law_484 : decode cL_law 484 = .ok (.aload_n 0, 1) := by decide +kernel
theorem dL_law_485 : decode cL_law 485 = .ok (.iload_n 3, 1) := by decide +kernel
theorem dL_law_486 : decode cL_law 486 = .ok (.iconst 4, 1) := by decide +kernel
theorem dL_law_487 : decode cL_law 487 = .ok (.iadd, 1) := by decide +kernel
theorem dL_law_488 : decode cL_law 488 = .ok (.iaload, 1) := by decide +kernel
theorem dL_law_489 : decode cL_law 489 = .ok (.invokevirtual 66, 3) := by decide +kernel
theorem dL_law_492 : decode cL_law 492 = .ok (.if_icmp .eq 174, 3) := by decide +kernel
theorem dL_law_495 : decode cL_law 495 = .ok (.iconst 0, 1) := by decide +kernel
theorem dL_law_496 : decode cL_law 496 = .ok (.ireturn, 1) := by decide +kernel
theorem dL_law_497 : decode cL_law 497 = .ok (.aload_n 1, 1) := by decide +kernel
theorem dL_law_498 : decode cL_law 498 = .ok (.aload_n 0, 1) := by decide +kernel
theorem dL_law_499 : decode cL_law 499 = .ok (.iload_n 3, 1) := by decide +kernel
theorem dL_law_500 : decode cL_law 500 = .ok (.iconst 1, 1) := by decide +kernel
theorem dL_law_501 : decode cL_law 501 = .ok (.iadd, 1) := by decide +kernel
theorem dL_law_502 : decode cL_law 502 = .ok (.iaload, 1) := by decide +kernel
theorem dL_law_503 : decode cL_law 503 = .ok (.aload_n 0, 1) := by decide +kernel
theorem dL_law_504 : decode cL_law 504 = .ok (.iload_n 3, 1) := by decide +kernel
theorem dL_law_505 : decode cL_law 505 = .ok (.iconst 2, 1) := by decide +kernel
theorem dL_law_506 : decode cL_law 506 = .ok (.iadd, 1) := by decide +kernel
theorem dL_law_507 : decode cL_law 507 = .ok (.iaload, 1) := by decide +kernel
theorem dL_law_508 : decode cL_law 508 = .ok (.invokevirtual 67, 3) := by decide +kernel
theorem dL_law_511 : decode cL_law 511 = .ok (.aload_n 2, 1) := by decide +kernel
theorem dL_law_512 : decode cL_law 512 = .ok (.aload_n 0, 1) := by decide +kernel
theorem dL_law_513 : decode cL_law 513 = .ok (.iload_n 3, 1) := by decide +kernel
theorem dL_law_514 : decode cL_law 514 = .ok (.iconst 1, 1) := by decide +kernel
theorem dL_law_515 : decode cL_law 515 = .ok (.iadd, 1) := by decide +kernel
theorem dL_law_516 : decode cL_law 516 = .ok (.iaload, 1) := by decide +kernel
theorem dL_law_517 : decode cL_law 517 = .ok (.aload_n 0, 1) := by decide +kernel
theorem dL_law_518 : decode cL_law 518 = .ok (.iload_n 3, 1) := by decide +kernel
theorem dL_law_519 : decode cL_law 519 = .ok (.iconst 2, 1) := by decide +kernel
theorem dL_law_520 : decode cL_law 520 = .ok (.iadd, 1) := by decide +kernel
theorem dL_law_521 : decode cL_law 521 = .ok (.iaload, 1) := by decide +kernel
theorem dL_law_522 : decode cL_law 522 = .ok (.invokevirtual 70, 3) := by decide +kernel
theorem dL_law_525 : decode cL_law 525 = .ok (.if_icmp .eq 141, 3) := by decide +kernel
theorem dL_law_528 : decode cL_law 528 = .ok (.iconst 0, 1) := by decide +kernel
theorem dL_law_529 : decode cL_law 529 = .ok (.ireturn, 1) := by decide +kernel
theorem dL_law_530 : decode cL_law 530 = .ok (.aload_n 1, 1) := by decide +kernel
theorem dL_law_531 : decode cL_law 531 = .ok (.aload_n 0, 1) := by decide +kernel
theorem dL_law_532 : decode cL_law 532 = .ok (.iload_n 3, 1) := by decide +kernel
theorem dL_law_533 : decode cL_law 533 = .ok (.iconst 1, 1) := by decide +kernel
theorem dL_law_534 : decode cL_law 534 = .ok (.iadd, 1) := by decide +kernel
theorem dL_law_535 : decode cL_law 535 = .ok (.iaload, 1) := by decide +kernel
theorem dL_law_536 : decode cL_law 536 = .ok (.aload_n 0, 1) := by decide +kernel
theorem dL_law_537 : decode cL_law 537 = .ok (.iload_n 3, 1) := by decide +kernel
theorem dL_law_538 : decode cL_law 538 = .ok (.iconst 2, 1) := by decide +kernel
theorem dL_law_539 : decode cL_law 539 = .ok (.iadd, 1) := by decide +kernel
theorem dL_law_540 : decode cL_law 540 = .ok (.iaload, 1) := by decide +kernel
theorem dL_law_541 : decode cL_law 541 = .ok (.i2l, 1) := by decide +kernel
theorem dL_law_542 : decode cL_law 542 = .ok (.bipush 32, 2) := by decide +kernel
theorem dL_law_544 : decode cL_law 544 = .ok (.lshl, 1) := by decide +kernel
theorem dL_law_545 : decode cL_law 545 = .ok (.aload_n 0, 1) := by decide +kernel
theorem dL_law_546 : decode cL_law 546 = .ok (.iload_n 3, 1) := by decide +kernel
theorem dL_law_547 : decode cL_law 547 = .ok (.iconst 3, 1) := by decide +kernel
theorem dL_law_548 : decode cL_law 548 = .ok (.iadd, 1) := by decide +kernel
theorem dL_law_549 : decode cL_law 549 = .ok (.iaload, 1) := by decide +kernel
theorem dL_law_550 : decode cL_law 550 = .ok (.i2l, 1) := by decide +kernel
theorem dL_law_551 : decode cL_law 551 = .ok (.ldc2_w 33, 3) := by decide +kernel
theorem dL_law_554 : decode cL_law 554 = .ok (.land, 1) := by decide +kernel
theorem dL_law_555 : decode cL_law 555 = .ok (.lor, 1) := by decide +kernel
theorem dL_law_556 : decode cL_law 556 = .ok (.aload_n 0, 1) := by decide +kernel
theorem dL_law_557 : decode cL_law 557 = .ok (.iload_n 3, 1) := by decide +kernel
theorem dL_law_558 : decode cL_law 558 = .ok (.iconst 4, 1) := by decide +kernel
theorem dL_law_559 : decode cL_law 559 = .ok (.iadd, 1) := by decide +kernel
theorem dL_law_560 : decode cL_law 560 = .ok (.iaload, 1) := by decide +kernel
theorem dL_law_561 : decode cL_law 561 = .ok (.invokevirtual 71, 3) := by decide +kernel
theorem dL_law_564 : decode cL_law 564 = .ok (.aload_n 2, 1) := by decide +kernel
theorem dL_law_565 : decode cL_law 565 = .ok (.aload_n 0, 1) := by decide +kernel
theorem dL_law_566 : decode cL_law 566 = .ok (.iload_n 3, 1) := by decide +kernel
theorem dL_law_567 : decode cL_law 567 = .ok (.iconst 1, 1) := by decide +kernel
theorem dL_law_568 : decode cL_law 568 = .ok (.iadd, 1) := by decide +kernel
theorem dL_law_569 : decode cL_law 569 = .ok (.iaload, 1) := by decide +kernel
theorem dL_law_570 : decode cL_law 570 = .ok (.aload_n 0, 1) := by decide +kernel
theorem dL_law_571 : decode cL_law 571 = .ok (.iload_n 3, 1) := by decide +kernel
theorem dL_law_572 : decode cL_law 572 = .ok (.iconst 2, 1) := by decide +kernel
theorem dL_law_573 : decode cL_law 573 = .ok (.iadd, 1) := by decide +kernel
theorem dL_law_574 : decode cL_law 574 = .ok (.iaload, 1) := by decide +kernel
theorem dL_law_575 : decode cL_law 575 = .ok (.i2l, 1) := by decide +kernel
theorem dL_law_576 : decode cL_law 576 = .ok (.bipush 32, 2) := by decide +kernel
theorem dL_law_578 : decode cL_law 578 = .ok (.lshl, 1) := by decide +kernel
theorem dL_law_579 : decode cL_law 579 = .ok (.aload_n 0, 1) := by decide +kernel
theorem dL_law_580 : decode cL_law 580 = .ok (.iload_n 3, 1) := by decide +kernel
theorem dL_law_581 : decode cL_law 581 = .ok (.iconst 3, 1) := by decide +kernel
theorem dL_law_582 : decode cL_law 582 = .ok (.iadd, 1) := by decide +kernel
theorem dL_law_583 : decode cL_law 583 = .ok (.iaload, 1) := by decide +kernel
theorem dL_law_584 : decode cL_law 584 = .ok (.i2l, 1) := by decide +kernel
theorem dL_law_585 : decode cL_law 585 = .ok (.ldc2_w 33, 3) := by decide +kernel
theorem dL_law_588 : decode cL_law 588 = .ok (.land, 1) := by decide +kernel
theorem dL_law_589 : decode cL_law 589 = .ok (.lor, 1) := by decide +kernel
theorem dL_law_590 : decode cL_law 590 = .ok (.aload_n 0, 1) := by decide +kernel
theorem dL_law_591 : decode cL_law 591 = .ok (.iload_n 3, 1) := by decide +kernel
theorem dL_law_592 : decode cL_law 592 = .ok (.iconst 4, 1) := by decide +kernel
theorem dL_law_593 : decode cL_law 593 = .ok (.iadd, 1) := by decide +kernel
theorem dL_law_594 : decode cL_law 594 = .ok (.iaload, 1) := by decide +kernel
theorem dL_law_595 : decode cL_law 595 = .ok (.invokevirtual 75, 3) := by decide +kernel
theorem dL_law_598 : decode cL_law 598 = .ok (.if_icmp .eq 68, 3) := by decide +kernel
theorem dL_law_601 : decode cL_law 601 = .ok (.iconst 0, 1) := by decide +kernel
theorem dL_law_602 : decode cL_law 602 = .ok (.ireturn, 1) := by decide +kernel
theorem dL_law_603 : decode cL_law 603 = .ok (.aload_n 1, 1) := by decide +kernel
theorem dL_law_604 : decode cL_law 604 = .ok (.aload_n 0, 1) := by decide +kernel
theorem dL_law_605 : decode cL_law 605 = .ok (.iload_n 3, 1) := by decide +kernel
theorem dL_law_606 : decode cL_law 606 = .ok (.iconst 1, 1) := by decide +kernel
theorem dL_law_607 : decode cL_law 607 = .ok (.iadd, 1) := by decide +kernel
theorem dL_law_608 : decode cL_law 608 = .ok (.iaload, 1) := by decide +kernel
theorem dL_law_609 : decode cL_law 609 = .ok (.aload_n 0, 1) := by decide +kernel
theorem dL_law_610 : decode cL_law 610 = .ok (.iload_n 3, 1) := by decide +kernel
theorem dL_law_611 : decode cL_law 611 = .ok (.iconst 2, 1) := by decide +kernel
theorem dL_law_612 : decode cL_law 612 = .ok (.iadd, 1) := by decide +kernel
theorem dL_law_613 : decode cL_law 613 = .ok (.iaload, 1) := by decide +kernel
theorem dL_law_614 : decode cL_law 614 = .ok (.i2l, 1) := by decide +kernel
theorem dL_law_615 : decode cL_law 615 = .ok (.bipush 32, 2) := by decide +kernel
theorem dL_law_617 : decode cL_law 617 = .ok (.lshl, 1) := by decide +kernel
theorem dL_law_618 : decode cL_law 618 = .ok (.aload_n 0, 1) := by decide +kernel
theorem dL_law_619 : decode cL_law 619 = .ok (.iload_n 3, 1) := by decide +kernel
theorem dL_law_620 : decode cL_law 620 = .ok (.iconst 3, 1) := by decide +kernel
theorem dL_law_621 : decode cL_law 621 = .ok (.iadd, 1) := by decide +kernel
theorem dL_law_622 : decode cL_law 622 = .ok (.iaload, 1) := by decide +kernel
theorem dL_law_623 : decode cL_law 623 = .ok (.i2l, 1) := by decide +kernel
theorem dL_law_624 : decode cL_law 624 = .ok (.ldc2_w 33, 3) := by decide +kernel
theorem dL_law_627 : decode cL_law 627 = .ok (.land, 1) := by decide +kernel
theorem dL_law_628 : decode cL_law 628 = .ok (.lor, 1) := by decide +kernel
theorem dL_law_629 : decode cL_law 629 = .ok (.invokevirtual 76, 3) := by decide +kernel
theorem dL_law_632 : decode cL_law 632 = .ok (.aload_n 2, 1) := by decide +kernel
theorem dL_law_633 : decode cL_law 633 = .ok (.aload_n 0, 1) := by decide +kernel
theorem dL_law_634 : decode cL_law 634 = .ok (.iload_n 3, 1) := by decide +kernel
theorem dL_law_635 : decode cL_law 635 = .ok (.iconst 1, 1) := by decide +kernel
theorem dL_law_636 : decode cL_law 636 = .ok (.iadd, 1) := by decide +kernel
theorem dL_law_637 : decode cL_law 637 = .ok (.iaload, 1) := by decide +kernel
theorem dL_law_638 : decode cL_law 638 = .ok (.aload_n 0, 1) := by decide +kernel
theorem dL_law_639 : decode cL_law 639 = .ok (.iload_n 3, 1) := by decide +kernel
theorem dL_law_640 : decode cL_law 640 = .ok (.iconst 2, 1) := by decide +kernel
theorem dL_law_641 : decode cL_law 641 = .ok (.iadd, 1) := by decide +kernel
theorem dL_law_642 : decode cL_law 642 = .ok (.iaload, 1) := by decide +kernel
theorem dL_law_643 : decode cL_law 643 = .ok (.i2l, 1) := by decide +kernel
theorem dL_law_644 : decode cL_law 644 = .ok (.bipush 32, 2) := by decide +kernel
theorem dL_law_646 : decode cL_law 646 = .ok (.lshl, 1) := by decide +kernel
theorem dL_law_647 : decode cL_law 647 = .ok (.aload_n 0, 1) := by decide +kernel
theorem dL_law_648 : decode cL_law 648 = .ok (.iload_n 3, 1) := by decide +kernel
theorem dL_law_649 : decode cL_law 649 = .ok (.iconst 3, 1) := by decide +kernel
theorem dL_law_650 : decode cL_law 650 = .ok (.iadd, 1) := by decide +kernel
theorem dL_law_651 : decode cL_law 651 = .ok (.iaload, 1) := by decide +kernel
theorem dL_law_652 : decode cL_law 652 = .ok (.i2l, 1) := by decide +kernel
theorem dL_law_653 : decode cL_law 653 = .ok (.ldc2_w 33, 3) := by decide +kernel
theorem dL_law_656 : decode cL_law 656 = .ok (.land, 1) := by decide +kernel
theorem dL_law_657 : decode cL_law 657 = .ok (.lor, 1) := by decide +kernel
theorem dL_law_658 : decode cL_law 658 = .ok (.invokevirtual 80, 3) := by decide +kernel
theorem dL_law_661 : decode cL_law 661 = .ok (.if_icmp .eq 5, 3) := by decide +kernel
theorem dL_law_664 : decode cL_law 664 = .ok (.iconst 0, 1) := by decide +kernel
theorem dL_law_665 : decode cL_law 665 = .ok (.ireturn, 1) := by decide +kernel
theorem dL_law_666 : decode cL_law 666 = .ok (.iinc 3 5, 3) := by decide +kernel
theorem dL_law_669 : decode cL_law 669 = .ok (.goto (-651), 3) := by decide +kernel
theorem dL_law_672 : decode cL_law 672 = .ok (.iconst 1, 1) := by decide +kernel
theorem dL_law_673 : decode cL_law 673 = .ok (.ireturn, 1) := by decide +kernel
