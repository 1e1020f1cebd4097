theorem dX9_statement_16 : decode cX9_statement 16 = .ok (.ifCond .eq 11, 3) := by decide +kernel
theorem dX9_statement_19 : decode cX9_statement 19 = .ok (.aload_n 0, 1) := by decide +kernel
theorem dX9_statement_20 : decode cX9_statement 20 = .ok (.iload_n 1, 1) := by decide +kernel
theorem dX9_statement_21 : decode cX9_statement 21 = .ok (.invokevirtual 148, 3) := by decide +kernel
theorem dX9_statement_24 : decode cX9_statement 24 = .ok (.goto 73, 3) := by decide +kernel
theorem dX9_statement_27 : decode cX9_statement 27 = .ok (.aload_n 0, 1) := by decide +kernel
theorem dX9_statement_28 : decode cX9_statement 28 = .ok (.ldc 151, 2) := by decide +kernel
theorem dX9_statement_30 : decode cX9_statement 30 = .ok (.invokevirtual 115, 3) := by decide +kernel
theorem dX9_statement_33 : decode cX9_statement 33 = .ok (.ifCond .eq 11, 3) := by decide +kernel
theorem dX9_statement_36 : decode cX9_statement 36 = .ok (.aload_n 0, 1) := by decide +kernel
theorem dX9_statement_37 : decode cX9_statement 37 = .ok (.iload_n 1, 1) := by decide +kernel
theorem dX9_statement_38 : decode cX9_statement 38 = .ok (.invokevirtual 153, 3) := by decide +kernel
theorem dX9_statement_41 : decode cX9_statement 41 = .ok (.goto 56, 3) := by decide +kernel
theorem dX9_statement_44 : decode cX9_statement 44 = .ok (.aload_n 0, 1) := by decide +kernel
theorem dX9_statement_45 : decode cX9_statement 45 = .ok (.ldc 156, 2) := by decide +kernel
theorem dX9_statement_47 : decode cX9_statement 47 = .ok (.invokevirtual 115, 3) := by decide +kernel
theorem dX9_statement_50 : decode cX9_statement 50 = .ok (.ifCond .eq 11, 3) := by decide +kernel
theorem dX9_statement_53 : decode cX9_statement 53 = .ok (.aload_n 0, 1) := by decide +kernel
theorem dX9_statement_54 : decode cX9_statement 54 = .ok (.iload_n 1, 1) := by decide +kernel
theorem dX9_statement_55 : decode cX9_statement 55 = .ok (.invokevirtual 158, 3) := by decide +kernel
theorem dX9_statement_58 : decode cX9_statement 58 = .ok (.goto 39, 3) := by decide +kernel
theorem dX9_statement_61 : decode cX9_statement 61 = .ok (.aload_n 0, 1) := by decide +kernel
theorem dX9_statement_62 : decode cX9_statement 62 = .ok (.ldc 161, 2) := by decide +kernel
theorem dX9_statement_64 : decode cX9_statement 64 = .ok (.invokevirtual 115, 3) := by decide +kernel
theorem dX9_statement_67 : decode cX9_statement 67 = .ok (.ifCond .eq 23, 3) := by decide +kernel
theorem dX9_statement_70 : decode cX9_statement 70 = .ok (.aload_n 0, 1) := by decide +kernel
theorem dX9_statement_71 : decode cX9_statement 71 = .ok (.iconst 0, 1) := by decide +kernel
theorem dX9_statement_72 : decode cX9_statement 72 = .ok (.iload_n 1, 1) := by decide +kernel
theorem dX9_statement_73 : decode cX9_statement 73 = .ok (.invokevirtual 163, 3) := by decide +kernel
theorem dX9_statement_76 : decode cX9_statement 76 = .ok (.aload_n 0, 1) := by decide +kernel
theorem dX9_statement_77 : decode cX9_statement 77 = .ok (.getfield 20, 3) := by decide +kernel
theorem dX9_statement_80 : decode cX9_statement 80 = .ok (.iconst 3, 1) := by decide +kernel
theorem dX9_statement_81 : decode cX9_statement 81 = .ok (.iconst 1, 1) := by decide +kernel
theorem dX9_statement_82 : decode cX9_statement 82 = .ok (.iastore, 1) := by decide +kernel
theorem dX9_statement_83 : decode cX9_statement 83 = .ok (.aload_n 0, 1) := by decide +kernel
theorem dX9_statement_84 : decode cX9_statement 84 = .ok (.invokevirtual 106, 3) := by decide +kernel
theorem dX9_statement_87 : decode cX9_statement 87 = .ok (.goto 10, 3) := by decide +kernel
theorem dX9_statement_90 : decode cX9_statement 90 = .ok (.aload_n 0, 1) := by decide +kernel
theorem dX9_statement_91 : decode cX9_statement 91 = .ok (.bipush (-2), 2) := by decide +kernel
theorem dX9_statement_93 : decode cX9_statement 93 = .ok (.iload_n 1, 1) := by decide +kernel
theorem dX9_statement_94 : decode cX9_statement 94 = .ok (.invokevirtual 87, 3) := by decide +kernel
theorem dX9_statement_97 : decode cX9_statement 97 = .ok (.aload_n 0, 1) := by decide +kernel
theorem dX9_statement_98 : decode cX9_statement 98 = .ok (.bipush 59, 2) := by decide +kernel
theorem dX9_statement_100 : decode cX9_statement 100 = .ok (.invokevirtual 109, 3) := by decide +kernel
theorem dX9_statement_103 : decode cX9_statement 103 = .ok (.return_, 1) := by decide +kernel
theorem dX9_sortBreaks_0 : decode cX9_sortBreaks 0 = .ok (.iconst 1, 1) := by decide +kernel
theorem dX9_sortBreaks_1 : decode cX9_sortBreaks 1 = .ok (.istore_n 1, 1) := by decide +kernel
theorem dX9_sortBreaks_2 : decode cX9_sortBreaks 2 = .ok (.iload_n 1, 1) := by decide +kernel
theorem dX9_sortBreaks_3 : decode cX9_sortBreaks 3 = .ok (.aload_n 0, 1) := by decide +kernel
theorem dX9_sortBreaks_4 : decode cX9_sortBreaks 4 = .ok (.getfield 20, 3) := by decide +kernel
theorem dX9_sortBreaks_7 : decode cX9_sortBreaks 7 = .ok (.iconst 0, 1) := by decide +kernel
theorem dX9_sortBreaks_8 : decode cX9_sortBreaks 8 = .ok (.iaload, 1) := by decide +kernel
theorem dX9_sortBreaks_9 : decode cX9_sortBreaks 9 = .ok (.if_icmp .ge 108, 3) := by decide +kernel
theorem dX9_sortBreaks_12 : decode cX9_sortBreaks 12 = .ok (.iload_n 1, 1) := by decide +kernel
theorem dX9_sortBreaks_13 : decode cX9_sortBreaks 13 = .ok (.istore_n 2, 1) := by decide +kernel
theorem dX9_sortBreaks_14 : decode cX9_sortBreaks 14 = .ok (.iload_n 2, 1) := by decide +kernel
theorem dX9_sortBreaks_15 : decode cX9_sortBreaks 15 = .ok (.ifCond .le 96, 3) := by decide +kernel
theorem dX9_sortBreaks_18 : decode cX9_sortBreaks 18 = .ok (.aload_n 0, 1) := by decide +kernel
theorem dX9_sortBreaks_19 : decode cX9_sortBreaks 19 = .ok (.getfield 20, 3) := by decide +kernel
theorem dX9_sortBreaks_22 : decode cX9_sortBreaks 22 = .ok (.iload_n 2, 1) := by decide +kernel
theorem dX9_sortBreaks_23 : decode cX9_sortBreaks 23 = .ok (.invokestatic 142, 3) := by decide +kernel
theorem dX9_sortBreaks_26 : decode cX9_sortBreaks 26 = .ok (.aload_n 0, 1) := by decide +kernel
theorem dX9_sortBreaks_27 : decode cX9_sortBreaks 27 = .ok (.getfield 20, 3) := by decide +kernel
theorem dX9_sortBreaks_30 : decode cX9_sortBreaks 30 = .ok (.iload_n 2, 1) := by decide +kernel
theorem dX9_sortBreaks_31 : decode cX9_sortBreaks 31 = .ok (.iconst 1, 1) := by decide +kernel
theorem dX9_sortBreaks_32 : decode cX9_sortBreaks 32 = .ok (.isub, 1) := by decide +kernel
theorem dX9_sortBreaks_33 : decode cX9_sortBreaks 33 = .ok (.invokestatic 142, 3) := by decide +kernel
theorem dX9_sortBreaks_36 : decode cX9_sortBreaks 36 = .ok (.if_icmp .ge 75, 3) := by decide +kernel
theorem dX9_sortBreaks_39 : decode cX9_sortBreaks 39 = .ok (.iconst 0, 1) := by decide +kernel
theorem dX9_sortBreaks_40 : decode cX9_sortBreaks 40 = .ok (.istore_n 3, 1) := by decide +kernel
theorem dX9_sortBreaks_41 : decode cX9_sortBreaks 41 = .ok (.iload_n 3, 1) := by decide +kernel
theorem dX9_sortBreaks_42 : decode cX9_sortBreaks 42 = .ok (.bipush 30, 2) := by decide +kernel
theorem dX9_sortBreaks_44 : decode cX9_sortBreaks 44 = .ok (.if_icmp .ge 61, 3) := by decide +kernel
theorem dX9_sortBreaks_47 : decode cX9_sortBreaks 47 = .ok (.aload_n 0, 1) := by decide +kernel
theorem dX9_sortBreaks_48 : decode cX9_sortBreaks 48 = .ok (.getfield 20, 3) := by decide +kernel
theorem dX9_sortBreaks_51 : decode cX9_sortBreaks 51 = .ok (.iload_n 2, 1) := by decide +kernel
theorem dX9_sortBreaks_52 : decode cX9_sortBreaks 52 = .ok (.invokestatic 44, 3) := by decide +kernel
theorem dX9_sortBreaks_55 : decode cX9_sortBreaks 55 = .ok (.iload_n 3, 1) := by decide +kernel
theorem dX9_sortBreaks_56 : decode cX9_sortBreaks 56 = .ok (.iadd, 1) := by decide +kernel
theorem dX9_sortBreaks_57 : decode cX9_sortBreaks 57 = .ok (.iaload, 1) := by decide +kernel
theorem dX9_sortBreaks_58 : decode cX9_sortBreaks 58 = .ok (.istore 4, 2) := by decide +kernel
theorem dX9_sortBreaks_60 : decode cX9_sortBreaks 60 = .ok (.aload_n 0, 1) := by decide +kernel
theorem dX9_sortBreaks_61 : decode cX9_sortBreaks 61 = .ok (.getfield 20, 3) := by decide +kernel
theorem dX9_sortBreaks_64 : decode cX9_sortBreaks 64 = .ok (.iload_n 2, 1) := by decide +kernel
theorem dX9_sortBreaks_65 : decode cX9_sortBreaks 65 = .ok (.invokestatic 44, 3) := by decide +kernel
theorem dX9_sortBreaks_68 : decode cX9_sortBreaks 68 = .ok (.iload_n 3, 1) := by decide +kernel
theorem dX9_sortBreaks_69 : decode cX9_sortBreaks 69 = .ok (.iadd, 1) := by decide +kernel
theorem dX9_sortBreaks_70 : decode cX9_sortBreaks 70 = .ok (.aload_n 0, 1) := by decide +kernel
theorem dX9_sortBreaks_71 : decode cX9_sortBreaks 71 = .ok (.getfield 20, 3) := by decide +kernel
theorem dX9_sortBreaks_74 : decode cX9_sortBreaks 74 = .ok (.iload_n 2, 1) := by decide +kernel
theorem dX9_sortBreaks_75 : decode cX9_sortBreaks 75 = .ok (.iconst 1, 1) := by decide +kernel
theorem dX9_sortBreaks_76 : decode cX9_sortBreaks 76 = .ok (.isub, 1) := by decide +kernel
theorem dX9_sortBreaks_77 : decode cX9_sortBreaks 77 = .ok (.invokestatic 44, 3) := by decide +kernel
theorem dX9_sortBreaks_80 : decode cX9_sortBreaks 80 = .ok (.iload_n 3, 1) := by decide +kernel
theorem dX9_sortBreaks_81 : decode cX9_sortBreaks 81 = .ok (.iadd, 1) := by decide +kernel
theorem dX9_sortBreaks_82 : decode cX9_sortBreaks 82 = .ok (.iaload, 1) := by decide +kernel
theorem dX9_sortBreaks_83 : decode cX9_sortBreaks 83 = .ok (.iastore, 1) := by decide +kernel
theorem dX9_sortBreaks_84 : decode cX9_sortBreaks 84 = .ok (.aload_n 0, 1) := by decide +kernel
theorem dX9_sortBreaks_85 : decode cX9_sortBreaks 85 = .ok (.getfield 20, 3) := by decide +kernel
theorem dX9_sortBreaks_88 : decode cX9_sortBreaks 88 = .ok (.iload_n 2, 1) := by decide +kernel
theorem dX9_sortBreaks_89 : decode cX9_sortBreaks 89 = .ok (.iconst 1, 1) := by decide +kernel
theorem dX9_sortBreaks_90 : decode cX9_sortBreaks 90 = .ok (.isub, 1) := by decide +kernel
theorem dX9_sortBreaks_91 : decode cX9_sortBreaks 91 = .ok (.invokestatic 44, 3) := by decide +kernel
theorem dX9_sortBreaks_94 : decode cX9_sortBreaks 94 = .ok (.iload_n 3, 1) := by decide +kernel
theorem dX9_sortBreaks_95 : decode cX9_sortBreaks 95 = .ok (.iadd, 1) := by decide +kernel
theorem dX9_sortBreaks_96 : decode cX9_sortBreaks 96 = .ok (.iload 4, 2) := by decide +kernel
theorem dX9_sortBreaks_98 : decode cX9_sortBreaks 98 = .ok (.iastore, 1) := by decide +kernel
theorem dX9_sortBreaks_99 : decode cX9_sortBreaks 99 = .ok (.iinc 3 1, 3) := by decide +kernel
theorem dX9_sortBreaks_102 : decode cX9_sortBreaks 102 = .ok (.goto (-61), 3) := by decide +kernel
theorem dX9_sortBreaks_105 : decode cX9_sortBreaks 105 = .ok (.iinc 2 (-1), 3) := by decide +kernel
theorem dX9_sortBreaks_108 : decode cX9_sortBreaks 108 = .ok (.goto (-94), 3) := by decide +kernel
theorem dX9_sortBreaks_111 : decode cX9_sortBreaks 111 = .ok (.iinc 1 1, 3) := by decide +kernel
theorem dX9_sortBreaks_114 : decode cX9_sortBreaks 114 = .ok (.goto (-112), 3) := by decide +kernel
theorem dX9_sortBreaks_117 : decode cX9_sortBreaks 117 = .ok (.return_, 1) := by decide +kernel
theorem dX9_load_0 : decode cX9_load 0 = .ok (.aload_n 0, 1) := by decide +kernel
theorem dX9_load_1 : decode cX9_load 1 = .ok (.iconst 0, 1) := by decide +kernel
theorem dX9_load_2 : decode cX9_load 2 = .ok (.putfield 41, 3) := by decide +kernel
theorem dX9_load_5 : decode cX9_load 5 = .ok (.aload_n 0, 1) := by decide +kernel
theorem dX9_load_6 : decode cX9_load 6 = .ok (.iload_n 1, 1) := by decide +kernel
theorem dX9_load_7 : decode cX9_load 7 = .ok (.iconst 0, 1) := by decide +kernel
theorem dX9_load_8 : decode cX9_load 8 = .ok (.aload_n 0, 1) := by decide +kernel
theorem dX9_load_9 : decode cX9_load 9 = .ok (.getfield 48, 3) := by decide +kernel
theorem dX9_load_12 : decode cX9_load 12 = .ok (.invokestatic 66, 3) := by decide +kernel
theorem dX9_load_15 : decode cX9_load 15 = .ok (.ifCond .ne 7, 3) := by decide +kernel
theorem dX9_load_18 : decode cX9_load 18 = .ok (.iconst 1, 1) := by decide +kernel
theorem dX9_load_19 : decode cX9_load 19 = .ok (.goto 4, 3) := by decide +kernel
theorem dX9_load_22 : decode cX9_load 22 = .ok (.iconst 0, 1) := by decide +kernel
theorem dX9_load_23 : decode cX9_load 23 = .ok (.iconst 1, 1) := by decide +kernel
theorem dX9_load_24 : decode cX9_load 24 = .ok (.invokevirtual 166, 3) := by decide +kernel
theorem dX9_load_27 : decode cX9_load 27 = .ok (.ifCond .eq 5, 3) := by decide +kernel
theorem dX9_load_30 : decode cX9_load 30 = .ok (.iconst 0, 1) := by decide +kernel
theorem dX9_load_31 : decode cX9_load 31 = .ok (.ireturn, 1) := by decide +kernel
theorem dX9_load_32 : decode cX9_load 32 = .ok (.aload_n 0, 1) := by decide +kernel
theorem dX9_load_33 : decode cX9_load 33 = .ok (.iconst 0, 1) := by decide +kernel
theorem dX9_load_34 : decode cX9_load 34 = .ok (.putfield 48, 3) := by decide +kernel
theorem dX9_load_37 : decode cX9_load 37 = .ok (.aload_n 0, 1) := by decide +kernel
theorem dX9_load_38 : decode cX9_load 38 = .ok (.iload_n 1, 1) := by decide +kernel
theorem dX9_load_39 : decode cX9_load 39 = .ok (.putfield 51, 3) := by decide +kernel
theorem dX9_load_42 : decode cX9_load 42 = .ok (.aload_n 0, 1) := by decide +kernel
theorem dX9_load_43 : decode cX9_load 43 = .ok (.iconst 0, 1) := by decide +kernel
theorem dX9_load_44 : decode cX9_load 44 = .ok (.putfield 54, 3) := by decide +kernel
theorem dX9_load_47 : decode cX9_load 47 = .ok (.aload_n 0, 1) := by decide +kernel
theorem dX9_load_48 : decode cX9_load 48 = .ok (.iconst 0, 1) := by decide +kernel
theorem dX9_load_49 : decode cX9_load 49 = .ok (.putfield 60, 3) := by decide +kernel
theorem dX9_load_52 : decode cX9_load 52 = .ok (.aload_n 0, 1) := by decide +kernel
theorem dX9_load_53 : decode cX9_load 53 = .ok (.iconst (-1), 1) := by decide +kernel
theorem dX9_load_54 : decode cX9_load 54 = .ok (.putfield 63, 3) := by decide +kernel
theorem dX9_load_57 : decode cX9_load 57 = .ok (.aload_n 0, 1) := by decide +kernel
theorem dX9_load_58 : decode cX9_load 58 = .ok (.iconst 0, 1) := by decide +kernel
theorem dX9_load_59 : decode cX9_load 59 = .ok (.putfield 103, 3) := by decide +kernel
theorem dX9_load_62 : decode cX9_load 62 = .ok (.aload_n 0, 1) := by decide +kernel
theorem dX9_load_63 : decode cX9_load 63 = .ok (.iconst 0, 1) := by decide +kernel
theorem dX9_load_64 : decode cX9_load 64 = .ok (.putfield 139, 3) := by decide +kernel
theorem dX9_load_67 : decode cX9_load 67 = .ok (.iconst 0, 1) := by decide +kernel
theorem dX9_load_68 : decode cX9_load 68 = .ok (.istore_n 2, 1) := by decide +kernel
theorem dX9_load_69 : decode cX9_load 69 = .ok (.iload_n 2, 1) := by decide +kernel
theorem dX9_load_70 : decode cX9_load 70 = .ok (.sipush 2663, 3) := by decide +kernel
theorem dX9_load_73 : decode cX9_load 73 = .ok (.if_icmp .ge 16, 3) := by decide +kernel
theorem dX9_load_76 : decode cX9_load 76 = .ok (.aload_n 0, 1) := by decide +kernel
theorem dX9_load_77 : decode cX9_load 77 = .ok (.getfield 20, 3) := by decide +kernel
theorem dX9_load_80 : decode cX9_load 80 = .ok (.iload_n 2, 1) := by decide +kernel
theorem dX9_load_81 : decode cX9_load 81 = .ok (.iconst 0, 1) := by decide +kernel
theorem dX9_load_82 : decode cX9_load 82 = .ok (.iastore, 1) := by decide +kernel
theorem dX9_load_83 : decode cX9_load 83 = .ok (.iinc 2 1, 3) := by decide +kernel
theorem dX9_load_86 : decode cX9_load 86 = .ok (.goto (-17), 3) := by decide +kernel
theorem dX9_load_89 : decode cX9_load 89 = .ok (.aload_n 0, 1) := by decide +kernel
theorem dX9_load_90 : decode cX9_load 90 = .ok (.ldc 170, 2) := by decide +kernel
theorem dX9_load_92 : decode cX9_load 92 = .ok (.invokevirtual 115, 3) := by decide +kernel
theorem dX9_load_95 : decode cX9_load 95 = .ok (.ifCond .ne 13, 3) := by decide +kernel
theorem dX9_load_98 : decode cX9_load 98 = .ok (.aload_n 0, 1) := by decide +kernel
theorem dX9_load_99 : decode cX9_load 99 = .ok (.bipush (-2), 2) := by decide +kernel
theorem dX9_load_101 : decode cX9_load 101 = .ok (.aload_n 0, 1) := by decide +kernel
theorem dX9_load_102 : decode cX9_load 102 = .ok (.getfield 54, 3) := by decide +kernel
theorem dX9_load_105 : decode cX9_load 105 = .ok (.invokevirtual 87, 3) := by decide +kernel
theorem dX9_load_108 : decode cX9_load 108 = .ok (.aload_n 0, 1) := by decide +kernel
theorem dX9_load_109 : decode cX9_load 109 = .ok (.bipush 59, 2) := by decide +kernel
theorem dX9_load_111 : decode cX9_load 111 = .ok (.invokevirtual 109, 3) := by decide +kernel
theorem dX9_load_114 : decode cX9_load 114 = .ok (.aload_n 0, 1) := by decide +kernel
theorem dX9_load_115 : decode cX9_load 115 = .ok (.invokevirtual 70, 3) := by decide +kernel
theorem dX9_load_118 : decode cX9_load 118 = .ok (.ifCond .eq 18, 3) := by decide +kernel
theorem dX9_load_121 : decode cX9_load 121 = .ok (.aload_n 0, 1) := by decide +kernel
theorem dX9_load_122 : decode cX9_load 122 = .ok (.invokevirtual 74, 3) := by decide +kernel
theorem dX9_load_125 : decode cX9_load 125 = .ok (.iconst (-1), 1) := by decide +kernel
theorem dX9_load_126 : decode cX9_load 126 = .ok (.if_icmp .eq 10, 3) := by decide +kernel
theorem dX9_load_129 : decode cX9_load 129 = .ok (.aload_n 0, 1) := by decide +kernel
theorem dX9_load_130 : decode cX9_load 130 = .ok (.invokevirtual 172, 3) := by decide +kernel
theorem dX9_load_133 : decode cX9_load 133 = .ok (.goto (-19), 3) := by decide +kernel
theorem dX9_load_136 : decode cX9_load 136 = .ok (.aload_n 0, 1) := by decide +kernel
theorem dX9_load_137 : decode cX9_load 137 = .ok (.aload_n 0, 1) := by decide +kernel
theorem dX9_load_138 : decode cX9_load 138 = .ok (.getfield 63, 3) := by decide +kernel
theorem dX9_load_141 : decode cX9_load 141 = .ok (.putfield 13, 3) := by decide +kernel
theorem dX9_load_144 : decode cX9_load 144 = .ok (.aload_n 0, 1) := by decide +kernel
theorem dX9_load_145 : decode cX9_load 145 = .ok (.invokevirtual 70, 3) := by decide +kernel
theorem dX9_load_148 : decode cX9_load 148 = .ok (.ifCond .ne 8, 3) := by decide +kernel
theorem dX9_load_151 : decode cX9_load 151 = .ok (.aload_n 0, 1) := by decide +kernel
theorem dX9_load_152 : decode cX9_load 152 = .ok (.getfield 60, 3) := by decide +kernel
theorem dX9_load_155 : decode cX9_load 155 = .ok (.ireturn, 1) := by decide +kernel
theorem dX9_load_156 : decode cX9_load 156 = .ok (.aload_n 0, 1) := by decide +kernel
theorem dX9_load_157 : decode cX9_load 157 = .ok (.invokevirtual 175, 3) := by decide +kernel
theorem dX9_load_160 : decode cX9_load 160 = .ok (.aload_n 0, 1) := by decide +kernel
theorem dX9_load_161 : decode cX9_load 161 = .ok (.invokevirtual 178, 3) := by decide +kernel
theorem dX9_load_164 : decode cX9_load 164 = .ok (.aload_n 0, 1) := by decide +kernel
theorem dX9_load_165 : decode cX9_load 165 = .ok (.getfield 20, 3) := by decide +kernel
theorem dX9_load_168 : decode cX9_load 168 = .ok (.aload_n 0, 1) := by decide +kernel
theorem dX9_load_169 : decode cX9_load 169 = .ok (.getfield 17, 3) := by decide +kernel
theorem dX9_load_172 : decode cX9_load 172 = .ok (.invokestatic 181, 3) := by decide +kernel
theorem dX9_load_175 : decode cX9_load 175 = .ok (.aload_n 0, 1) := by decide +kernel
theorem dX9_load_176 : decode cX9_load 176 = .ok (.getfield 17, 3) := by decide +kernel
theorem dX9_load_179 : decode cX9_load 179 = .ok (.iconst 0, 1) := by decide +kernel
theorem dX9_load_180 : decode cX9_load 180 = .ok (.iaload, 1) := by decide +kernel
theorem dX9_load_181 : decode cX9_load 181 = .ok (.ireturn, 1) := by decide +kernel
theorem dX9_errorOffset_0 : decode cX9_errorOffset 0 = .ok (.aload_n 0, 1) := by decide +kernel
theorem dX9_errorOffset_1 : decode cX9_errorOffset 1 = .ok (.iconst 0, 1) := by decide +kernel
theorem dX9_errorOffset_2 : decode cX9_errorOffset 2 = .ok (.putfield 41, 3) := by decide +kernel
theorem dX9_errorOffset_5 : decode cX9_errorOffset 5 = .ok (.aload_n 0, 1) := by decide +kernel
theorem dX9_errorOffset_6 : decode cX9_errorOffset 6 = .ok (.getfield 13, 3) := by decide +kernel
theorem dX9_errorOffset_9 : decode cX9_errorOffset 9 = .ok (.ireturn, 1) := by decide +kernel
theorem dX9_spotAt_0 : decode cX9_spotAt 0 = .ok (.iload_n 0, 1) := by decide +kernel
theorem dX9_spotAt_1 : decode cX9_spotAt 1 = .ok (.invokestatic 44, 3) := by decide +kernel
theorem dX9_spotAt_4 : decode cX9_spotAt 4 = .ok (.bipush 6, 2) := by decide +kernel
theorem dX9_spotAt_6 : decode cX9_spotAt 6 = .ok (.iadd, 1) := by decide +kernel
theorem dX9_spotAt_7 : decode cX9_spotAt 7 = .ok (.iconst 3, 1) := by decide +kernel
theorem dX9_spotAt_8 : decode cX9_spotAt 8 = .ok (.iload_n 1, 1) := by decide +kernel
theorem dX9_spotAt_9 : decode cX9_spotAt 9 = .ok (.imul, 1) := by decide +kernel
theorem dX9_spotAt_10 : decode cX9_spotAt 10 = .ok (.iadd, 1) := by decide +kernel
theorem dX9_spotAt_11 : decode cX9_spotAt 11 = .ok (.ireturn, 1) := by decide +kernel
theorem dX9_countOf_0 : decode cX9_countOf 0 = .ok (.aload_n 0, 1) := by decide +kernel
theorem dX9_countOf_1 : decode cX9_countOf 1 = .ok (.getfield 17, 3) := by decide +kernel
theorem dX9_countOf_4 : decode cX9_countOf 4 = .ok (.iload_n 1, 1) := by decide +kernel
theorem dX9_countOf_5 : decode cX9_countOf 5 = .ok (.invokestatic 44, 3) := by decide +kernel
theorem dX9_countOf_8 : decode cX9_countOf 8 = .ok (.iconst 5, 1) := by decide +kernel
theorem dX9_countOf_9 : decode cX9_countOf 9 = .ok (.iadd, 1) := by decide +kernel
theorem dX9_countOf_10 : decode cX9_countOf 10 = .ok (.iaload, 1) := by decide +kernel
theorem dX9_countOf_11 : decode cX9_countOf 11 = .ok (.ireturn, 1) := by decide +kernel
theorem dX9_usedOf_0 : decode cX9_usedOf 0 = .ok (.iconst 0, 1) := by decide +kernel
theorem dX9_usedOf_1 : decode cX9_usedOf 1 = .ok (.istore_n 2, 1) := by decide +kernel
theorem dX9_usedOf_2 : decode cX9_usedOf 2 = .ok (.iconst 0, 1) := by decide +kernel
theorem dX9_usedOf_3 : decode cX9_usedOf 3 = .ok (.istore_n 3, 1) := by decide +kernel
theorem dX9_usedOf_4 : decode cX9_usedOf 4 = .ok (.iload_n 3, 1) := by decide +kernel
theorem dX9_usedOf_5 : decode cX9_usedOf 5 = .ok (.aload_n 0, 1) := by decide +kernel
theorem dX9_usedOf_6 : decode cX9_usedOf 6 = .ok (.iload_n 1, 1) := by decide +kernel
theorem dX9_usedOf_7 : decode cX9_usedOf 7 = .ok (.invokevirtual 185, 3) := by decide +kernel
theorem dX9_usedOf_10 : decode cX9_usedOf 10 = .ok (.if_icmp .ge 24, 3) := by decide +kernel
theorem dX9_usedOf_13 : decode cX9_usedOf 13 = .ok (.iload_n 2, 1) := by decide +kernel
theorem dX9_usedOf_14 : decode cX9_usedOf 14 = .ok (.aload_n 0, 1) := by decide +kernel
theorem dX9_usedOf_15 : decode cX9_usedOf 15 = .ok (.getfield 17, 3) := by decide +kernel
theorem dX9_usedOf_18 : decode cX9_usedOf 18 = .ok (.iload_n 1, 1) := by decide +kernel
theorem dX9_usedOf_19 : decode cX9_usedOf 19 = .ok (.iload_n 3, 1) := by decide +kernel
theorem dX9_usedOf_20 : decode cX9_usedOf 20 = .ok (.invokestatic 188, 3) := by decide +kernel
theorem dX9_usedOf_23 : decode cX9_usedOf 23 = .ok (.iconst 1, 1) := by decide +kernel
theorem dX9_usedOf_24 : decode cX9_usedOf 24 = .ok (.iadd, 1) := by decide +kernel
theorem dX9_usedOf_25 : decode cX9_usedOf 25 = .ok (.iaload, 1) := by decide +kernel
theorem dX9_usedOf_26 : decode cX9_usedOf 26 = .ok (.iadd, 1) := by decide +kernel
theorem dX9_usedOf_27 : decode cX9_usedOf 27 = .ok (.istore_n 2, 1) := by decide +kernel
theorem dX9_usedOf_28 : decode cX9_usedOf 28 = .ok (.iinc 3 1, 3) := by decide +kernel
theorem dX9_usedOf_31 : decode cX9_usedOf 31 = .ok (.goto (-27), 3) := by decide +kernel
theorem dX9_usedOf_34 : decode cX9_usedOf 34 = .ok (.iload_n 2, 1) := by decide +kernel
theorem dX9_usedOf_35 : decode cX9_usedOf 35 = .ok (.ireturn, 1) := by decide +kernel
theorem dX9_hasSpot_0 : decode cX9_hasSpot 0 = .ok (.iconst 0, 1) := by decide +kernel
theorem dX9_hasSpot_1 : decode cX9_hasSpot 1 = .ok (.istore_n 3, 1) := by decide +kernel
theorem dX9_hasSpot_2 : decode cX9_hasSpot 2 = .ok (.iload_n 3, 1) := by decide +kernel
theorem dX9_hasSpot_3 : decode cX9_hasSpot 3 = .ok (.aload_n 0, 1) := by decide +kernel
theorem dX9_hasSpot_4 : decode cX9_hasSpot 4 = .ok (.iload_n 1, 1) := by decide +kernel
theorem dX9_hasSpot_5 : decode cX9_hasSpot 5 = .ok (.invokevirtual 185, 3) := by decide +kernel
theorem dX9_hasSpot_8 : decode cX9_hasSpot 8 = .ok (.if_icmp .ge 25, 3) := by decide +kernel
theorem dX9_hasSpot_11 : decode cX9_hasSpot 11 = .ok (.aload_n 0, 1) := by decide +kernel
theorem dX9_hasSpot_12 : decode cX9_hasSpot 12 = .ok (.getfield 17, 3) := by decide +kernel
theorem dX9_hasSpot_15 : decode cX9_hasSpot 15 = .ok (.iload_n 1, 1) := by decide +kernel
theorem dX9_hasSpot_16 : decode cX9_hasSpot 16 = .ok (.iload_n 3, 1) := by decide +kernel
theorem dX9_hasSpot_17 : decode cX9_hasSpot 17 = .ok (.invokestatic 188, 3) := by decide +kernel
theorem dX9_hasSpot_20 : decode cX9_hasSpot 20 = .ok (.iaload, 1) := by decide +kernel
theorem dX9_hasSpot_21 : decode cX9_hasSpot 21 = .ok (.iload_n 2, 1) := by decide +kernel
theorem dX9_hasSpot_22 : decode cX9_hasSpot 22 = .ok (.if_icmp .ne 5, 3) := by decide +kernel
theorem dX9_hasSpot_25 : decode cX9_hasSpot 25 = .ok (.iconst 1, 1) := by decide +kernel
theorem dX9_hasSpot_26 : decode cX9_hasSpot 26 = .ok (.ireturn, 1) := by decide +kernel
theorem dX9_hasSpot_27 : decode cX9_hasSpot 27 = .ok (.iinc 3 1, 3) := by decide +kernel
theorem dX9_hasSpot_30 : decode cX9_hasSpot 30 = .ok (.goto (-28), 3) := by decide +kernel
theorem dX9_hasSpot_33 : decode cX9_hasSpot 33 = .ok (.iconst 0, 1) := by decide +kernel
theorem dX9_hasSpot_34 : decode cX9_hasSpot 34 = .ok (.ireturn, 1) := by decide +kernel
theorem dX9_spotsOf_0 : decode cX9_spotsOf 0 = .ok (.iconst 0, 1) := by decide +kernel
theorem dX9_spotsOf_1 : decode cX9_spotsOf 1 = .ok (.istore 5, 2) := by decide +kernel
theorem dX9_spotsOf_3 : decode cX9_spotsOf 3 = .ok (.iconst 0, 1) := by decide +kernel
theorem dX9_spotsOf_4 : decode cX9_spotsOf 4 = .ok (.istore 6, 2) := by decide +kernel
theorem dX9_spotsOf_6 : decode cX9_spotsOf 6 = .ok (.iload 6, 2) := by decide +kernel
theorem dX9_spotsOf_8 : decode cX9_spotsOf 8 = .ok (.aload_n 0, 1) := by decide +kernel
theorem dX9_spotsOf_9 : decode cX9_spotsOf 9 = .ok (.getfield 17, 3) := by decide +kernel
theorem dX9_spotsOf_12 : decode cX9_spotsOf 12 = .ok (.iconst 0, 1) := by decide +kernel
theorem dX9_spotsOf_13 : decode cX9_spotsOf 13 = .ok (.iaload, 1) := by decide +kernel
theorem dX9_spotsOf_14 : decode cX9_spotsOf 14 = .ok (.if_icmp .ge 68, 3) := by decide +kernel
theorem dX9_spotsOf_17 : decode cX9_spotsOf 17 = .ok (.aload_n 0, 1) := by decide +kernel
theorem dX9_spotsOf_18 : decode cX9_spotsOf 18 = .ok (.getfield 17, 3) := by decide +kernel
theorem dX9_spotsOf_21 : decode cX9_spotsOf 21 = .ok (.iload 6, 2) := by decide +kernel
theorem dX9_spotsOf_23 : decode cX9_spotsOf 23 = .ok (.invokestatic 44, 3) := by decide +kernel
theorem dX9_spotsOf_26 : decode cX9_spotsOf 26 = .ok (.iconst 4, 1) := by decide +kernel
theorem dX9_spotsOf_27 : decode cX9_spotsOf 27 = .ok (.iadd, 1) := by decide +kernel
theorem dX9_spotsOf_28 : decode cX9_spotsOf 28 = .ok (.iaload, 1) := by decide +kernel
theorem dX9_spotsOf_29 : decode cX9_spotsOf 29 = .ok (.istore 7, 2) := by decide +kernel
theorem dX9_spotsOf_31 : decode cX9_spotsOf 31 = .ok (.iload_n 2, 1) := by decide +kernel
theorem dX9_spotsOf_32 : decode cX9_spotsOf 32 = .ok (.iconst (-1), 1) := by decide +kernel
theorem dX9_spotsOf_33 : decode cX9_spotsOf 33 = .ok (.if_icmp .eq 17, 3) := by decide +kernel
theorem dX9_spotsOf_36 : decode cX9_spotsOf 36 = .ok (.aload_n 0, 1) := by decide +kernel
theorem dX9_spotsOf_37 : decode cX9_spotsOf 37 = .ok (.getfield 17, 3) := by decide +kernel
theorem dX9_spotsOf_40 : decode cX9_spotsOf 40 = .ok (.iload 6, 2) := by decide +kernel
theorem dX9_spotsOf_42 : decode cX9_spotsOf 42 = .ok (.invokestatic 44, 3) := by decide +kernel
theorem dX9_spotsOf_45 : decode cX9_spotsOf 45 = .ok (.iaload, 1) := by decide +kernel
theorem dX9_spotsOf_46 : decode cX9_spotsOf 46 = .ok (.iload_n 2, 1) := by decide +kernel
theorem dX9_spotsOf_47 : decode cX9_spotsOf 47 = .ok (.if_icmp .ne 29, 3) := by decide +kernel
theorem dX9_spotsOf_50 : decode cX9_spotsOf 50 = .ok (.iload 7, 2) := by decide +kernel
theorem dX9_spotsOf_52 : decode cX9_spotsOf 52 = .ok (.iload_n 3, 1) := by decide +kernel
theorem dX9_spotsOf_53 : decode cX9_spotsOf 53 = .ok (.if_icmp .eq 10, 3) := by decide +kernel
theorem dX9_spotsOf_56 : decode cX9_spotsOf 56 = .ok (.iload 7, 2) := by decide +kernel
theorem dX9_spotsOf_58 : decode cX9_spotsOf 58 = .ok (.iload 4, 2) := by decide +kernel
theorem dX9_spotsOf_60 : decode cX9_spotsOf 60 = .ok (.if_icmp .ne 16, 3) := by decide +kernel
theorem dX9_spotsOf_63 : decode cX9_spotsOf 63 = .ok (.aload_n 0, 1) := by decide +kernel
theorem dX9_spotsOf_64 : decode cX9_spotsOf 64 = .ok (.iload 6, 2) := by decide +kernel
theorem dX9_spotsOf_66 : decode cX9_spotsOf 66 = .ok (.iload_n 1, 1) := by decide +kernel
theorem dX9_spotsOf_67 : decode cX9_spotsOf 67 = .ok (.invokevirtual 191, 3) := by decide +kernel
theorem dX9_spotsOf_70 : decode cX9_spotsOf 70 = .ok (.ifCond .eq 6, 3) := by decide +kernel
theorem dX9_spotsOf_73 : decode cX9_spotsOf 73 = .ok (.iinc 5 1, 3) := by decide +kernel
theorem dX9_spotsOf_76 : decode cX9_spotsOf 76 = .ok (.iinc 6 1, 3) := by decide +kernel
theorem dX9_spotsOf_79 : decode cX9_spotsOf 79 = .ok (.goto (-73), 3) := by decide +kernel
theorem dX9_spotsOf_82 : decode cX9_spotsOf 82 = .ok (.iload 5, 2) := by decide +kernel
theorem dX9_spotsOf_84 : decode cX9_spotsOf 84 = .ok (.ireturn, 1) := by decide +kernel
theorem dX9_clash_0 : decode cX9_clash 0 = .ok (.aload_n 0, 1) := by decide +kernel
theorem dX9_clash_1 : decode cX9_clash 1 = .ok (.getfield 17, 3) := by decide +kernel
theorem dX9_clash_4 : decode cX9_clash 4 = .ok (.sipush 623, 3) := by decide +kernel
theorem dX9_clash_7 : decode cX9_clash 7 = .ok (.bipush 10, 2) := by decide +kernel
theorem dX9_clash_9 : decode cX9_clash 9 = .ok (.aload_n 0, 1) := by decide +kernel
theorem dX9_clash_10 : decode cX9_clash 10 = .ok (.getfield 17, 3) := by decide +kernel
theorem dX9_clash_13 : decode cX9_clash 13 = .ok (.sipush 607, 3) := by decide +kernel
theorem dX9_clash_16 : decode cX9_clash 16 = .ok (.iconst 2, 1) := by decide +kernel
theorem dX9_clash_17 : decode cX9_clash 17 = .ok (.iload_n 1, 1) := by decide +kernel
theorem dX9_clash_18 : decode cX9_clash 18 = .ok (.imul, 1) := by decide +kernel
theorem dX9_clash_19 : decode cX9_clash 19 = .ok (.iadd, 1) := by decide +kernel
theorem dX9_clash_20 : decode cX9_clash 20 = .ok (.iaload, 1) := by decide +kernel
theorem dX9_clash_21 : decode cX9_clash 21 = .ok (.imul, 1) := by decide +kernel
theorem dX9_clash_22 : decode cX9_clash 22 = .ok (.iadd, 1) := by decide +kernel
theorem dX9_clash_23 : decode cX9_clash 23 = .ok (.aload_n 0, 1) := by decide +kernel
theorem dX9_clash_24 : decode cX9_clash 24 = .ok (.getfield 17, 3) := by decide +kernel
theorem dX9_clash_27 : decode cX9_clash 27 = .ok (.sipush 607, 3) := by decide +kernel
theorem dX9_clash_30 : decode cX9_clash 30 = .ok (.iconst 2, 1) := by decide +kernel
theorem dX9_clash_31 : decode cX9_clash 31 = .ok (.iload_n 2, 1) := by decide +kernel
theorem dX9_clash_32 : decode cX9_clash 32 = .ok (.imul, 1) := by decide +kernel
theorem dX9_clash_33 : decode cX9_clash 33 = .ok (.iadd, 1) := by decide +kernel
theorem dX9_clash_34 : decode cX9_clash 34 = .ok (.iaload, 1) := by decide +kernel
theorem dX9_clash_35 : decode cX9_clash 35 = .ok (.iadd, 1) := by decide +kernel
theorem dX9_clash_36 : decode cX9_clash 36 = .ok (.iaload, 1) := by decide +kernel
theorem dX9_clash_37 : decode cX9_clash 37 = .ok (.iconst 1, 1) := by decide +kernel
theorem dX9_clash_38 : decode cX9_clash 38 = .ok (.if_icmp .ne 7, 3) := by decide +kernel
theorem dX9_clash_41 : decode cX9_clash 41 = .ok (.iconst 1, 1) := by decide +kernel
theorem dX9_clash_42 : decode cX9_clash 42 = .ok (.goto 4, 3) := by decide +kernel
theorem dX9_clash_45 : decode cX9_clash 45 = .ok (.iconst 0, 1) := by decide +kernel
theorem dX9_clash_46 : decode cX9_clash 46 = .ok (.ireturn, 1) := by decide +kernel
theorem dX9_placeFor_0 : decode cX9_placeFor 0 = .ok (.iconst 0, 1) := by decide +kernel
theorem dX9_placeFor_1 : decode cX9_placeFor 1 = .ok (.istore_n 3, 1) := by decide +kernel
theorem dX9_placeFor_2 : decode cX9_placeFor 2 = .ok (.iload_n 3, 1) := by decide +kernel
theorem dX9_placeFor_3 : decode cX9_placeFor 3 = .ok (.aload_n 0, 1) := by decide +kernel
theorem dX9_placeFor_4 : decode cX9_placeFor 4 = .ok (.iload_n 2, 1) := by decide +kernel
theorem dX9_placeFor_5 : decode cX9_placeFor 5 = .ok (.invokevirtual 185, 3) := by decide +kernel
theorem dX9_placeFor_8 : decode cX9_placeFor 8 = .ok (.if_icmp .gt 74, 3) := by decide +kernel
theorem dX9_placeFor_11 : decode cX9_placeFor 11 = .ok (.iload_n 3, 1) := by decide +kernel
theorem dX9_placeFor_12 : decode cX9_placeFor 12 = .ok (.ifCond .eq 23, 3) := by decide +kernel
theorem dX9_placeFor_15 : decode cX9_placeFor 15 = .ok (.aload_n 0, 1) := by decide +kernel
theorem dX9_placeFor_16 : decode cX9_placeFor 16 = .ok (.aload_n 0, 1) := by decide +kernel
theorem dX9_placeFor_17 : decode cX9_placeFor 17 = .ok (.getfield 17, 3) := by decide +kernel
theorem dX9_placeFor_20 : decode cX9_placeFor 20 = .ok (.iload_n 2, 1) := by decide +kernel
theorem dX9_placeFor_21 : decode cX9_placeFor 21 = .ok (.iload_n 3, 1) := by decide +kernel
theorem dX9_placeFor_22 : decode cX9_placeFor 22 = .ok (.iconst 1, 1) := by decide +kernel
theorem dX9_placeFor_23 : decode cX9_placeFor 23 = .ok (.isub, 1) := by decide +kernel
theorem dX9_placeFor_24 : decode cX9_placeFor 24 = .ok (.invokestatic 188, 3) := by decide +kernel
theorem dX9_placeFor_27 : decode cX9_placeFor 27 = .ok (.iaload, 1) := by decide +kernel
theorem dX9_placeFor_28 : decode cX9_placeFor 28 = .ok (.iload_n 1, 1) := by decide +kernel
theorem dX9_placeFor_29 : decode cX9_placeFor 29 = .ok (.invokevirtual 195, 3) := by decide +kernel
theorem dX9_placeFor_32 : decode cX9_placeFor 32 = .ok (.ifCond .ne 7, 3) := by decide +kernel
theorem dX9_placeFor_35 : decode cX9_placeFor 35 = .ok (.iconst 1, 1) := by decide +kernel
theorem dX9_placeFor_36 : decode cX9_placeFor 36 = .ok (.goto 4, 3) := by decide +kernel
theorem dX9_placeFor_39 : decode cX9_placeFor 39 = .ok (.iconst 0, 1) := by decide +kernel
theorem dX9_placeFor_40 : decode cX9_placeFor 40 = .ok (.istore 4, 2) := by decide +kernel
theorem dX9_placeFor_42 : decode cX9_placeFor 42 = .ok (.iload 4, 2) := by decide +kernel
theorem dX9_placeFor_44 : decode cX9_placeFor 44 = .ok (.ifCond .eq 32, 3) := by decide +kernel
theorem dX9_placeFor_47 : decode cX9_placeFor 47 = .ok (.iload_n 3, 1) := by decide +kernel
theorem dX9_placeFor_48 : decode cX9_placeFor 48 = .ok (.aload_n 0, 1) := by decide +kernel
theorem dX9_placeFor_49 : decode cX9_placeFor 49 = .ok (.iload_n 2, 1) := by decide +kernel
theorem dX9_placeFor_50 : decode cX9_placeFor 50 = .ok (.invokevirtual 185, 3) := by decide +kernel
theorem dX9_placeFor_53 : decode cX9_placeFor 53 = .ok (.if_icmp .eq 21, 3) := by decide +kernel
theorem dX9_placeFor_56 : decode cX9_placeFor 56 = .ok (.aload_n 0, 1) := by decide +kernel
theorem dX9_placeFor_57 : decode cX9_placeFor 57 = .ok (.iload_n 1, 1) := by decide +kernel
theorem dX9_placeFor_58 : decode cX9_placeFor 58 = .ok (.aload_n 0, 1) := by decide +kernel
theorem dX9_placeFor_59 : decode cX9_placeFor 59 = .ok (.getfield 17, 3) := by decide +kernel
theorem dX9_placeFor_62 : decode cX9_placeFor 62 = .ok (.iload_n 2, 1) := by decide +kernel
theorem dX9_placeFor_63 : decode cX9_placeFor 63 = .ok (.iload_n 3, 1) := by decide +kernel
theorem dX9_placeFor_64 : decode cX9_placeFor 64 = .ok (.invokestatic 188, 3) := by decide +kernel
theorem dX9_placeFor_67 : decode cX9_placeFor 67 = .ok (.iaload, 1) := by decide +kernel
theorem dX9_placeFor_68 : decode cX9_placeFor 68 = .ok (.invokevirtual 195, 3) := by decide +kernel
theorem dX9_placeFor_71 : decode cX9_placeFor 71 = .ok (.ifCond .ne 5, 3) := by decide +kernel
theorem dX9_placeFor_74 : decode cX9_placeFor 74 = .ok (.iload_n 3, 1) := by decide +kernel
theorem dX9_placeFor_75 : decode cX9_placeFor 75 = .ok (.ireturn, 1) := by decide +kernel
theorem dX9_placeFor_76 : decode cX9_placeFor 76 = .ok (.iinc 3 1, 3) := by decide +kernel
theorem dX9_placeFor_79 : decode cX9_placeFor 79 = .ok (.goto (-77), 3) := by decide +kernel
theorem dX9_placeFor_82 : decode cX9_placeFor 82 = .ok (.iconst (-1), 1) := by decide +kernel
theorem dX9_placeFor_83 : decode cX9_placeFor 83 = .ok (.ireturn, 1) := by decide +kernel
theorem dX9_reasonOf_0 : decode cX9_reasonOf 0 = .ok (.iload_n 3, 1) := by decide +kernel
theorem dX9_reasonOf_1 : decode cX9_reasonOf 1 = .ok (.invokestatic 44, 3) := by decide +kernel
theorem dX9_reasonOf_4 : decode cX9_reasonOf 4 = .ok (.istore 4, 2) := by decide +kernel
theorem dX9_reasonOf_6 : decode cX9_reasonOf 6 = .ok (.aload_n 0, 1) := by decide +kernel
theorem dX9_reasonOf_7 : decode cX9_reasonOf 7 = .ok (.getfield 17, 3) := by decide +kernel
theorem dX9_reasonOf_10 : decode cX9_reasonOf 10 = .ok (.iload 4, 2) := by decide +kernel
theorem dX9_reasonOf_12 : decode cX9_reasonOf 12 = .ok (.iconst 4, 1) := by decide +kernel
theorem dX9_reasonOf_13 : decode cX9_reasonOf 13 = .ok (.iadd, 1) := by decide +kernel
theorem dX9_reasonOf_14 : decode cX9_reasonOf 14 = .ok (.iaload, 1) := by decide +kernel
theorem dX9_reasonOf_15 : decode cX9_reasonOf 15 = .ok (.ifCond .eq 5, 3) := by decide +kernel
theorem dX9_reasonOf_18 : decode cX9_reasonOf 18 = .ok (.iconst 1, 1) := by decide +kernel
theorem dX9_reasonOf_19 : decode cX9_reasonOf 19 = .ok (.ireturn, 1) := by decide +kernel
theorem dX9_reasonOf_20 : decode cX9_reasonOf 20 = .ok (.aload_n 0, 1) := by decide +kernel
theorem dX9_reasonOf_21 : decode cX9_reasonOf 21 = .ok (.iload_n 3, 1) := by decide +kernel
theorem dX9_reasonOf_22 : decode cX9_reasonOf 22 = .ok (.iload_n 1, 1) := by decide +kernel
theorem dX9_reasonOf_23 : decode cX9_reasonOf 23 = .ok (.invokevirtual 191, 3) := by decide +kernel
theorem dX9_reasonOf_26 : decode cX9_reasonOf 26 = .ok (.ifCond .eq 5, 3) := by decide +kernel
theorem dX9_reasonOf_29 : decode cX9_reasonOf 29 = .ok (.iconst 2, 1) := by decide +kernel
theorem dX9_reasonOf_30 : decode cX9_reasonOf 30 = .ok (.ireturn, 1) := by decide +kernel
theorem dX9_reasonOf_31 : decode cX9_reasonOf 31 = .ok (.aload_n 0, 1) := by decide +kernel
theorem dX9_reasonOf_32 : decode cX9_reasonOf 32 = .ok (.iload_n 1, 1) := by decide +kernel
theorem dX9_reasonOf_33 : decode cX9_reasonOf 33 = .ok (.aload_n 0, 1) := by decide +kernel
theorem dX9_reasonOf_34 : decode cX9_reasonOf 34 = .ok (.getfield 17, 3) := by decide +kernel
theorem dX9_reasonOf_37 : decode cX9_reasonOf 37 = .ok (.iload 4, 2) := by decide +kernel
theorem dX9_reasonOf_39 : decode cX9_reasonOf 39 = .ok (.iaload, 1) := by decide +kernel
theorem dX9_reasonOf_40 : decode cX9_reasonOf 40 = .ok (.iconst 0, 1) := by decide +kernel
theorem dX9_reasonOf_41 : decode cX9_reasonOf 41 = .ok (.iconst 1, 1) := by decide +kernel
theorem dX9_reasonOf_42 : decode cX9_reasonOf 42 = .ok (.invokevirtual 198, 3) := by decide +kernel
theorem dX9_reasonOf_45 : decode cX9_reasonOf 45 = .ok (.aload_n 0, 1) := by decide +kernel
theorem dX9_reasonOf_46 : decode cX9_reasonOf 46 = .ok (.getfield 17, 3) := by decide +kernel
theorem dX9_reasonOf_49 : decode cX9_reasonOf 49 = .ok (.sipush 607, 3) := by decide +kernel
theorem dX9_reasonOf_52 : decode cX9_reasonOf 52 = .ok (.iconst 2, 1) := by decide +kernel
theorem dX9_reasonOf_53 : decode cX9_reasonOf 53 = .ok (.iload_n 1, 1) := by decide +kernel
theorem dX9_reasonOf_54 : decode cX9_reasonOf 54 = .ok (.imul, 1) := by decide +kernel
theorem dX9_reasonOf_55 : decode cX9_reasonOf 55 = .ok (.iadd, 1) := by decide +kernel
theorem dX9_reasonOf_56 : decode cX9_reasonOf 56 = .ok (.iconst 1, 1) := by decide +kernel
theorem dX9_reasonOf_57 : decode cX9_reasonOf 57 = .ok (.iadd, 1) := by decide +kernel
theorem dX9_reasonOf_58 : decode cX9_reasonOf 58 = .ok (.iaload, 1) := by decide +kernel
theorem dX9_reasonOf_59 : decode cX9_reasonOf 59 = .ok (.if_icmp .lt 5, 3) := by decide +kernel
theorem dX9_reasonOf_62 : decode cX9_reasonOf 62 = .ok (.iconst 3, 1) := by decide +kernel
theorem dX9_reasonOf_63 : decode cX9_reasonOf 63 = .ok (.ireturn, 1) := by decide +kernel
theorem dX9_reasonOf_64 : decode cX9_reasonOf 64 = .ok (.aload_n 0, 1) := by decide +kernel
theorem dX9_reasonOf_65 : decode cX9_reasonOf 65 = .ok (.iload_n 3, 1) := by decide +kernel
theorem dX9_reasonOf_66 : decode cX9_reasonOf 66 = .ok (.invokevirtual 202, 3) := by decide +kernel
theorem dX9_reasonOf_69 : decode cX9_reasonOf 69 = .ok (.iload_n 2, 1) := by decide +kernel
theorem dX9_reasonOf_70 : decode cX9_reasonOf 70 = .ok (.iadd, 1) := by decide +kernel
theorem dX9_reasonOf_71 : decode cX9_reasonOf 71 = .ok (.aload_n 0, 1) := by decide +kernel
theorem dX9_reasonOf_72 : decode cX9_reasonOf 72 = .ok (.getfield 17, 3) := by decide +kernel
theorem dX9_reasonOf_75 : decode cX9_reasonOf 75 = .ok (.iload 4, 2) := by decide +kernel
theorem dX9_reasonOf_77 : decode cX9_reasonOf 77 = .ok (.iconst 2, 1) := by decide +kernel
theorem dX9_reasonOf_78 : decode cX9_reasonOf 78 = .ok (.iadd, 1) := by decide +kernel
theorem dX9_reasonOf_79 : decode cX9_reasonOf 79 = .ok (.iaload, 1) := by decide +kernel
theorem dX9_reasonOf_80 : decode cX9_reasonOf 80 = .ok (.if_icmp .le 5, 3) := by decide +kernel
theorem dX9_reasonOf_83 : decode cX9_reasonOf 83 = .ok (.iconst 4, 1) := by decide +kernel
theorem dX9_reasonOf_84 : decode cX9_reasonOf 84 = .ok (.ireturn, 1) := by decide +kernel
theorem dX9_reasonOf_85 : decode cX9_reasonOf 85 = .ok (.aload_n 0, 1) := by decide +kernel
theorem dX9_reasonOf_86 : decode cX9_reasonOf 86 = .ok (.iload_n 1, 1) := by decide +kernel
theorem dX9_reasonOf_87 : decode cX9_reasonOf 87 = .ok (.iload_n 3, 1) := by decide +kernel
theorem dX9_reasonOf_88 : decode cX9_reasonOf 88 = .ok (.invokevirtual 205, 3) := by decide +kernel
theorem dX9_reasonOf_91 : decode cX9_reasonOf 91 = .ok (.iconst (-1), 1) := by decide +kernel
theorem dX9_reasonOf_92 : decode cX9_reasonOf 92 = .ok (.if_icmp .ne 7, 3) := by decide +kernel
theorem dX9_reasonOf_95 : decode cX9_reasonOf 95 = .ok (.iconst 5, 1) := by decide +kernel
theorem dX9_reasonOf_96 : decode cX9_reasonOf 96 = .ok (.goto 4, 3) := by decide +kernel
theorem dX9_reasonOf_99 : decode cX9_reasonOf 99 = .ok (.iconst 0, 1) := by decide +kernel
theorem dX9_reasonOf_100 : decode cX9_reasonOf 100 = .ok (.ireturn, 1) := by decide +kernel
theorem dX9_put_0 : decode cX9_put 0 = .ok (.aload_n 0, 1) := by decide +kernel
theorem dX9_put_1 : decode cX9_put 1 = .ok (.iload_n 1, 1) := by decide +kernel
theorem dX9_put_2 : decode cX9_put 2 = .ok (.invokevirtual 185, 3) := by decide +kernel
theorem dX9_put_5 : decode cX9_put 5 = .ok (.istore 6, 2) := by decide +kernel
theorem dX9_put_7 : decode cX9_put 7 = .ok (.iload 6, 2) := by decide +kernel
theorem dX9_put_9 : decode cX9_put 9 = .ok (.iload_n 2, 1) := by decide +kernel
theorem dX9_put_10 : decode cX9_put 10 = .ok (.if_icmp .le 54, 3) := by decide +kernel
theorem dX9_put_13 : decode cX9_put 13 = .ok (.iconst 0, 1) := by decide +kernel
theorem dX9_put_14 : decode cX9_put 14 = .ok (.istore 7, 2) := by decide +kernel
theorem dX9_put_16 : decode cX9_put 16 = .ok (.iload 7, 2) := by decide +kernel
theorem dX9_put_18 : decode cX9_put 18 = .ok (.iconst 3, 1) := by decide +kernel
theorem dX9_put_19 : decode cX9_put 19 = .ok (.if_icmp .ge 39, 3) := by decide +kernel
theorem dX9_put_22 : decode cX9_put 22 = .ok (.aload_n 0, 1) := by decide +kernel
theorem dX9_put_23 : decode cX9_put 23 = .ok (.getfield 17, 3) := by decide +kernel
theorem dX9_put_26 : decode cX9_put 26 = .ok (.iload_n 1, 1) := by decide +kernel
theorem dX9_put_27 : decode cX9_put 27 = .ok (.iload 6, 2) := by decide +kernel
theorem dX9_put_29 : decode cX9_put 29 = .ok (.invokestatic 188, 3) := by decide +kernel
theorem dX9_put_32 : decode cX9_put 32 = .ok (.iload 7, 2) := by decide +kernel
theorem dX9_put_34 : decode cX9_put 34 = .ok (.iadd, 1) := by decide +kernel
theorem dX9_put_35 : decode cX9_put 35 = .ok (.aload_n 0, 1) := by decide +kernel
theorem dX9_put_36 : decode cX9_put 36 = .ok (.getfield 17, 3) := by decide +kernel
theorem dX9_put_39 : decode cX9_put 39 = .ok (.iload_n 1, 1) := by decide +kernel
theorem dX9_put_40 : decode cX9_put 40 = .ok (.iload 6, 2) := by decide +kernel
theorem dX9_put_42 : decode cX9_put 42 = .ok (.iconst 1, 1) := by decide +kernel
theorem dX9_put_43 : decode cX9_put 43 = .ok (.isub, 1) := by decide +kernel
theorem dX9_put_44 : decode cX9_put 44 = .ok (.invokestatic 188, 3) := by decide +kernel
theorem dX9_put_47 : decode cX9_put 47 = .ok (.iload 7, 2) := by decide +kernel
theorem dX9_put_49 : decode cX9_put 49 = .ok (.iadd, 1) := by decide +kernel
theorem dX9_put_50 : decode cX9_put 50 = .ok (.iaload, 1) := by decide +kernel
theorem dX9_put_51 : decode cX9_put 51 = .ok (.iastore, 1) := by decide +kernel
theorem dX9_put_52 : decode cX9_put 52 = .ok (.iinc 7 1, 3) := by decide +kernel
theorem dX9_put_55 : decode cX9_put 55 = .ok (.goto (-39), 3) := by decide +kernel
theorem dX9_put_58 : decode cX9_put 58 = .ok (.iinc 6 (-1), 3) := by decide +kernel
theorem dX9_put_61 : decode cX9_put 61 = .ok (.goto (-54), 3) := by decide +kernel
theorem dX9_put_64 : decode cX9_put 64 = .ok (.aload_n 0, 1) := by decide +kernel
theorem dX9_put_65 : decode cX9_put 65 = .ok (.getfield 17, 3) := by decide +kernel
theorem dX9_put_68 : decode cX9_put 68 = .ok (.iload_n 1, 1) := by decide +kernel
theorem dX9_put_69 : decode cX9_put 69 = .ok (.iload_n 2, 1) := by decide +kernel
theorem dX9_put_70 : decode cX9_put 70 = .ok (.invokestatic 188, 3) := by decide +kernel
theorem dX9_put_73 : decode cX9_put 73 = .ok (.iload_n 3, 1) := by decide +kernel
theorem dX9_put_74 : decode cX9_put 74 = .ok (.iastore, 1) := by decide +kernel
theorem dX9_put_75 : decode cX9_put 75 = .ok (.aload_n 0, 1) := by decide +kernel
theorem dX9_put_76 : decode cX9_put 76 = .ok (.getfield 17, 3) := by decide +kernel
theorem dX9_put_79 : decode cX9_put 79 = .ok (.iload_n 1, 1) := by decide +kernel
theorem dX9_put_80 : decode cX9_put 80 = .ok (.iload_n 2, 1) := by decide +kernel
theorem dX9_put_81 : decode cX9_put 81 = .ok (.invokestatic 188, 3) := by decide +kernel
theorem dX9_put_84 : decode cX9_put 84 = .ok (.iconst 1, 1) := by decide +kernel
theorem dX9_put_85 : decode cX9_put 85 = .ok (.iadd, 1) := by decide +kernel
theorem dX9_put_86 : decode cX9_put 86 = .ok (.iload 4, 2) := by decide +kernel
theorem dX9_put_88 : decode cX9_put 88 = .ok (.iastore, 1) := by decide +kernel
theorem dX9_put_89 : decode cX9_put 89 = .ok (.aload_n 0, 1) := by decide +kernel
theorem dX9_put_90 : decode cX9_put 90 = .ok (.getfield 17, 3) := by decide +kernel
theorem dX9_put_93 : decode cX9_put 93 = .ok (.iload_n 1, 1) := by decide +kernel
theorem dX9_put_94 : decode cX9_put 94 = .ok (.iload_n 2, 1) := by decide +kernel
theorem dX9_put_95 : decode cX9_put 95 = .ok (.invokestatic 188, 3) := by decide +kernel
theorem dX9_put_98 : decode cX9_put 98 = .ok (.iconst 2, 1) := by decide +kernel
theorem dX9_put_99 : decode cX9_put 99 = .ok (.iadd, 1) := by decide +kernel
theorem dX9_put_100 : decode cX9_put 100 = .ok (.iload 5, 2) := by decide +kernel
theorem dX9_put_102 : decode cX9_put 102 = .ok (.iastore, 1) := by decide +kernel
theorem dX9_put_103 : decode cX9_put 103 = .ok (.aload_n 0, 1) := by decide +kernel
theorem dX9_put_104 : decode cX9_put 104 = .ok (.getfield 17, 3) := by decide +kernel
theorem dX9_put_107 : decode cX9_put 107 = .ok (.iload_n 1, 1) := by decide +kernel
theorem dX9_put_108 : decode cX9_put 108 = .ok (.invokestatic 44, 3) := by decide +kernel
theorem dX9_put_111 : decode cX9_put 111 = .ok (.iconst 5, 1) := by decide +kernel
theorem dX9_put_112 : decode cX9_put 112 = .ok (.iadd, 1) := by decide +kernel
theorem dX9_put_113 : decode cX9_put 113 = .ok (.dup2, 1) := by decide +kernel
theorem dX9_put_114 : decode cX9_put 114 = .ok (.iaload, 1) := by decide +kernel
theorem dX9_put_115 : decode cX9_put 115 = .ok (.iconst 1, 1) := by decide +kernel
theorem dX9_put_116 : decode cX9_put 116 = .ok (.iadd, 1) := by decide +kernel
theorem dX9_put_117 : decode cX9_put 117 = .ok (.iastore, 1) := by decide +kernel
theorem dX9_put_118 : decode cX9_put 118 = .ok (.return_, 1) := by decide +kernel
theorem dX9_limited_0 : decode cX9_limited 0 = .ok (.lload_n 0, 1) := by decide +kernel
theorem dX9_limited_1 : decode cX9_limited 1 = .ok (.ldc2_w 208, 3) := by decide +kernel
theorem dX9_limited_4 : decode cX9_limited 4 = .ok (.lcmp, 1) := by decide +kernel
theorem dX9_limited_5 : decode cX9_limited 5 = .ok (.ifCond .le 9, 3) := by decide +kernel
theorem dX9_limited_8 : decode cX9_limited 8 = .ok (.ldc2_w 208, 3) := by decide +kernel
theorem dX9_limited_11 : decode cX9_limited 11 = .ok (.goto 18, 3) := by decide +kernel
theorem dX9_limited_14 : decode cX9_limited 14 = .ok (.lload_n 0, 1) := by decide +kernel
theorem dX9_limited_15 : decode cX9_limited 15 = .ok (.ldc2_w 210, 3) := by decide +kernel
theorem dX9_limited_18 : decode cX9_limited 18 = .ok (.lcmp, 1) := by decide +kernel
theorem dX9_limited_19 : decode cX9_limited 19 = .ok (.ifCond .ge 9, 3) := by decide +kernel
theorem dX9_limited_22 : decode cX9_limited 22 = .ok (.ldc2_w 210, 3) := by decide +kernel
theorem dX9_limited_25 : decode cX9_limited 25 = .ok (.goto 4, 3) := by decide +kernel
theorem dX9_limited_28 : decode cX9_limited 28 = .ok (.lload_n 0, 1) := by decide +kernel
theorem dX9_limited_29 : decode cX9_limited 29 = .ok (.lreturn, 1) := by decide +kernel
theorem dX9_operate_0 : decode cX9_operate 0 = .ok (.iload_n 0, 1) := by decide +kernel
theorem dX9_operate_1 : decode cX9_operate 1 = .ok (.iconst 5, 1) := by decide +kernel
theorem dX9_operate_2 : decode cX9_operate 2 = .ok (.if_icmp .ne 17, 3) := by decide +kernel
theorem dX9_operate_5 : decode cX9_operate 5 = .ok (.lload_n 3, 1) := by decide +kernel
theorem dX9_operate_6 : decode cX9_operate 6 = .ok (.lconst 0, 1) := by decide +kernel
theorem dX9_operate_7 : decode cX9_operate 7 = .ok (.lcmp, 1) := by decide +kernel
theorem dX9_operate_8 : decode cX9_operate 8 = .ok (.ifCond .ne 7, 3) := by decide +kernel
theorem dX9_operate_11 : decode cX9_operate 11 = .ok (.lconst 0, 1) := by decide +kernel
theorem dX9_operate_12 : decode cX9_operate 12 = .ok (.goto 6, 3) := by decide +kernel
theorem dX9_operate_15 : decode cX9_operate 15 = .ok (.lload_n 1, 1) := by decide +kernel
theorem dX9_operate_16 : decode cX9_operate 16 = .ok (.lload_n 3, 1) := by decide +kernel
theorem dX9_operate_17 : decode cX9_operate 17 = .ok (.ldiv, 1) := by decide +kernel
theorem dX9_operate_18 : decode cX9_operate 18 = .ok (.lreturn, 1) := by decide +kernel
theorem dX9_operate_19 : decode cX9_operate 19 = .ok (.iload_n 0, 1) := by decide +kernel
theorem dX9_operate_20 : decode cX9_operate 20 = .ok (.iconst 2, 1) := by decide +kernel
theorem dX9_operate_21 : decode cX9_operate 21 = .ok (.if_icmp .ne 9, 3) := by decide +kernel
theorem dX9_operate_24 : decode cX9_operate 24 = .ok (.lload_n 1, 1) := by decide +kernel
theorem dX9_operate_25 : decode cX9_operate 25 = .ok (.lload_n 3, 1) := by decide +kernel
theorem dX9_operate_26 : decode cX9_operate 26 = .ok (.ladd, 1) := by decide +kernel
theorem dX9_operate_27 : decode cX9_operate 27 = .ok (.goto 17, 3) := by decide +kernel
theorem dX9_operate_30 : decode cX9_operate 30 = .ok (.iload_n 0, 1) := by decide +kernel
theorem dX9_operate_31 : decode cX9_operate 31 = .ok (.iconst 3, 1) := by decide +kernel
theorem dX9_operate_32 : decode cX9_operate 32 = .ok (.if_icmp .ne 9, 3) := by decide +kernel
theorem dX9_operate_35 : decode cX9_operate 35 = .ok (.lload_n 1, 1) := by decide +kernel
theorem dX9_operate_36 : decode cX9_operate 36 = .ok (.lload_n 3, 1) := by decide +kernel
theorem dX9_operate_37 : decode cX9_operate 37 = .ok (.lsub, 1) := by decide +kernel
theorem dX9_operate_38 : decode cX9_operate 38 = .ok (.goto 6, 3) := by decide +kernel
theorem dX9_operate_41 : decode cX9_operate 41 = .ok (.lload_n 1, 1) := by decide +kernel
theorem dX9_operate_42 : decode cX9_operate 42 = .ok (.lload_n 3, 1) := by decide +kernel
theorem dX9_operate_43 : decode cX9_operate 43 = .ok (.lmul, 1) := by decide +kernel
theorem dX9_operate_44 : decode cX9_operate 44 = .ok (.invokestatic 212, 3) := by decide +kernel
theorem dX9_operate_47 : decode cX9_operate 47 = .ok (.lreturn, 1) := by decide +kernel
theorem dX9_priceOf_0 : decode cX9_priceOf 0 = .ok (.iconst 0, 1) := by decide +kernel
theorem dX9_priceOf_1 : decode cX9_priceOf 1 = .ok (.istore 4, 2) := by decide +kernel
theorem dX9_priceOf_3 : decode cX9_priceOf 3 = .ok (.aload_n 0, 1) := by decide +kernel
theorem dX9_priceOf_4 : decode cX9_priceOf 4 = .ok (.getfield 17, 3) := by decide +kernel
theorem dX9_priceOf_7 : decode cX9_priceOf 7 = .ok (.iload_n 3, 1) := by decide +kernel
theorem dX9_priceOf_8 : decode cX9_priceOf 8 = .ok (.invokestatic 44, 3) := by decide +kernel
theorem dX9_priceOf_11 : decode cX9_priceOf 11 = .ok (.iconst 3, 1) := by decide +kernel
theorem dX9_priceOf_12 : decode cX9_priceOf 12 = .ok (.iadd, 1) := by decide +kernel
theorem dX9_priceOf_13 : decode cX9_priceOf 13 = .ok (.iaload, 1) := by decide +kernel
theorem dX9_priceOf_14 : decode cX9_priceOf 14 = .ok (.istore 5, 2) := by decide +kernel
theorem dX9_priceOf_16 : decode cX9_priceOf 16 = .ok (.aload_n 0, 1) := by decide +kernel
theorem dX9_priceOf_17 : decode cX9_priceOf 17 = .ok (.getfield 28, 3) := by decide +kernel
theorem dX9_priceOf_20 : decode cX9_priceOf 20 = .ok (.iconst 0, 1) := by decide +kernel
theorem dX9_priceOf_21 : decode cX9_priceOf 21 = .ok (.iload 5, 2) := by decide +kernel
theorem dX9_priceOf_23 : decode cX9_priceOf 23 = .ok (.i2l, 1) := by decide +kernel
theorem dX9_priceOf_24 : decode cX9_priceOf 24 = .ok (.iload_n 2, 1) := by decide +kernel
theorem dX9_priceOf_25 : decode cX9_priceOf 25 = .ok (.i2l, 1) := by decide +kernel
theorem dX9_priceOf_26 : decode cX9_priceOf 26 = .ok (.lmul, 1) := by decide +kernel
theorem dX9_priceOf_27 : decode cX9_priceOf 27 = .ok (.ldc2_w 216, 3) := by decide +kernel
theorem dX9_priceOf_30 : decode cX9_priceOf 30 = .ok (.ldiv, 1) := by decide +kernel
theorem dX9_priceOf_31 : decode cX9_priceOf 31 = .ok (.lastore, 1) := by decide +kernel
theorem dX9_priceOf_32 : decode cX9_priceOf 32 = .ok (.iconst 0, 1) := by decide +kernel
theorem dX9_priceOf_33 : decode cX9_priceOf 33 = .ok (.istore 6, 2) := by decide +kernel
theorem dX9_priceOf_35 : decode cX9_priceOf 35 = .ok (.iload 6, 2) := by decide +kernel
theorem dX9_priceOf_37 : decode cX9_priceOf 37 = .ok (.aload_n 0, 1) := by decide +kernel
theorem dX9_priceOf_38 : decode cX9_priceOf 38 = .ok (.getfield 17, 3) := by decide +kernel
theorem dX9_priceOf_41 : decode cX9_priceOf 41 = .ok (.iconst 4, 1) := by decide +kernel
theorem dX9_priceOf_42 : decode cX9_priceOf 42 = .ok (.iaload, 1) := by decide +kernel
theorem dX9_priceOf_43 : decode cX9_priceOf 43 = .ok (.if_icmp .ge 168, 3) := by decide +kernel
theorem dX9_priceOf_46 : decode cX9_priceOf 46 = .ok (.aload_n 0, 1) := by decide +kernel
theorem dX9_priceOf_47 : decode cX9_priceOf 47 = .ok (.getfield 17, 3) := by decide +kernel
theorem dX9_priceOf_50 : decode cX9_priceOf 50 = .ok (.sipush 1363, 3) := by decide +kernel
theorem dX9_priceOf_53 : decode cX9_priceOf 53 = .ok (.iload 6, 2) := by decide +kernel
theorem dX9_priceOf_55 : decode cX9_priceOf 55 = .ok (.iadd, 1) := by decide +kernel
theorem dX9_priceOf_56 : decode cX9_priceOf 56 = .ok (.iaload, 1) := by decide +kernel
theorem dX9_priceOf_57 : decode cX9_priceOf 57 = .ok (.istore 7, 2) := by decide +kernel
theorem dX9_priceOf_59 : decode cX9_priceOf 59 = .ok (.iload 7, 2) := by decide +kernel
theorem dX9_priceOf_61 : decode cX9_priceOf 61 = .ok (.iconst 1, 1) := by decide +kernel
theorem dX9_priceOf_62 : decode cX9_priceOf 62 = .ok (.if_icmp .gt 110, 3) := by decide +kernel
theorem dX9_priceOf_65 : decode cX9_priceOf 65 = .ok (.iinc 6 1, 3) := by decide +kernel
theorem dX9_priceOf_68 : decode cX9_priceOf 68 = .ok (.aload_n 0, 1) := by decide +kernel
theorem dX9_priceOf_69 : decode cX9_priceOf 69 = .ok (.getfield 17, 3) := by decide +kernel
theorem dX9_priceOf_72 : decode cX9_priceOf 72 = .ok (.sipush 1363, 3) := by decide +kernel
theorem dX9_priceOf_75 : decode cX9_priceOf 75 = .ok (.iload 6, 2) := by decide +kernel
theorem dX9_priceOf_77 : decode cX9_priceOf 77 = .ok (.iadd, 1) := by decide +kernel
theorem dX9_priceOf_78 : decode cX9_priceOf 78 = .ok (.iaload, 1) := by decide +kernel
theorem dX9_priceOf_79 : decode cX9_priceOf 79 = .ok (.istore 8, 2) := by decide +kernel
theorem dX9_priceOf_81 : decode cX9_priceOf 81 = .ok (.aload_n 0, 1) := by decide +kernel
theorem dX9_priceOf_82 : decode cX9_priceOf 82 = .ok (.getfield 28, 3) := by decide +kernel
theorem dX9_priceOf_85 : decode cX9_priceOf 85 = .ok (.iload 4, 2) := by decide +kernel
theorem dX9_priceOf_87 : decode cX9_priceOf 87 = .ok (.iload 7, 2) := by decide +kernel
theorem dX9_priceOf_89 : decode cX9_priceOf 89 = .ok (.ifCond .ne 9, 3) := by decide +kernel
theorem dX9_priceOf_92 : decode cX9_priceOf 92 = .ok (.iload 8, 2) := by decide +kernel
theorem dX9_priceOf_94 : decode cX9_priceOf 94 = .ok (.i2l, 1) := by decide +kernel
theorem dX9_priceOf_95 : decode cX9_priceOf 95 = .ok (.goto 70, 3) := by decide +kernel
theorem dX9_priceOf_98 : decode cX9_priceOf 98 = .ok (.iload 8, 2) := by decide +kernel
theorem dX9_priceOf_100 : decode cX9_priceOf 100 = .ok (.ifCond .ne 9, 3) := by decide +kernel
theorem dX9_priceOf_103 : decode cX9_priceOf 103 = .ok (.iload 5, 2) := by decide +kernel
theorem dX9_priceOf_105 : decode cX9_priceOf 105 = .ok (.i2l, 1) := by decide +kernel
theorem dX9_priceOf_106 : decode cX9_priceOf 106 = .ok (.goto 59, 3) := by decide +kernel
theorem dX9_priceOf_109 : decode cX9_priceOf 109 = .ok (.iload 8, 2) := by decide +kernel
theorem dX9_priceOf_111 : decode cX9_priceOf 111 = .ok (.iconst 1, 1) := by decide +kernel
theorem dX9_priceOf_112 : decode cX9_priceOf 112 = .ok (.if_icmp .ne 18, 3) := by decide +kernel
theorem dX9_priceOf_115 : decode cX9_priceOf 115 = .ok (.aload_n 0, 1) := by decide +kernel
theorem dX9_priceOf_116 : decode cX9_priceOf 116 = .ok (.getfield 17, 3) := by decide +kernel
theorem dX9_priceOf_119 : decode cX9_priceOf 119 = .ok (.iload_n 3, 1) := by decide +kernel
theorem dX9_priceOf_120 : decode cX9_priceOf 120 = .ok (.invokestatic 44, 3) := by decide +kernel
theorem dX9_priceOf_123 : decode cX9_priceOf 123 = .ok (.iconst 1, 1) := by decide +kernel
theorem dX9_priceOf_124 : decode cX9_priceOf 124 = .ok (.iadd, 1) := by decide +kernel
theorem dX9_priceOf_125 : decode cX9_priceOf 125 = .ok (.iaload, 1) := by decide +kernel
theorem dX9_priceOf_126 : decode cX9_priceOf 126 = .ok (.i2l, 1) := by decide +kernel
theorem dX9_priceOf_127 : decode cX9_priceOf 127 = .ok (.goto 38, 3) := by decide +kernel
theorem dX9_priceOf_130 : decode cX9_priceOf 130 = .ok (.iload 8, 2) := by decide +kernel
theorem dX9_priceOf_132 : decode cX9_priceOf 132 = .ok (.iconst 2, 1) := by decide +kernel
theorem dX9_priceOf_133 : decode cX9_priceOf 133 = .ok (.if_icmp .ne 8, 3) := by decide +kernel
theorem dX9_priceOf_136 : decode cX9_priceOf 136 = .ok (.iload_n 2, 1) := by decide +kernel
theorem dX9_priceOf_137 : decode cX9_priceOf 137 = .ok (.i2l, 1) := by decide +kernel
theorem dX9_priceOf_138 : decode cX9_priceOf 138 = .ok (.goto 27, 3) := by decide +kernel
theorem dX9_priceOf_141 : decode cX9_priceOf 141 = .ok (.iload 8, 2) := by decide +kernel
theorem dX9_priceOf_143 : decode cX9_priceOf 143 = .ok (.iconst 3, 1) := by decide +kernel
theorem dX9_priceOf_144 : decode cX9_priceOf 144 = .ok (.if_icmp .ne 12, 3) := by decide +kernel
theorem dX9_priceOf_147 : decode cX9_priceOf 147 = .ok (.aload_n 0, 1) := by decide +kernel
theorem dX9_priceOf_148 : decode cX9_priceOf 148 = .ok (.iload_n 3, 1) := by decide +kernel
theorem dX9_priceOf_149 : decode cX9_priceOf 149 = .ok (.invokevirtual 202, 3) := by decide +kernel
theorem dX9_priceOf_152 : decode cX9_priceOf 152 = .ok (.i2l, 1) := by decide +kernel
theorem dX9_priceOf_153 : decode cX9_priceOf 153 = .ok (.goto 12, 3) := by decide +kernel
theorem dX9_priceOf_156 : decode cX9_priceOf 156 = .ok (.aload_n 0, 1) := by decide +kernel
theorem dX9_priceOf_157 : decode cX9_priceOf 157 = .ok (.iload_n 1, 1) := by decide +kernel
theorem dX9_priceOf_158 : decode cX9_priceOf 158 = .ok (.iconst (-1), 1) := by decide +kernel
theorem dX9_priceOf_159 : decode cX9_priceOf 159 = .ok (.iconst 0, 1) := by decide +kernel
theorem dX9_priceOf_160 : decode cX9_priceOf 160 = .ok (.iconst 1, 1) := by decide +kernel
theorem dX9_priceOf_161 : decode cX9_priceOf 161 = .ok (.invokevirtual 198, 3) := by decide +kernel
theorem dX9_priceOf_164 : decode cX9_priceOf 164 = .ok (.i2l, 1) := by decide +kernel
theorem dX9_priceOf_165 : decode cX9_priceOf 165 = .ok (.lastore, 1) := by decide +kernel
theorem dX9_priceOf_166 : decode cX9_priceOf 166 = .ok (.iinc 4 1, 3) := by decide +kernel
theorem dX9_priceOf_169 : decode cX9_priceOf 169 = .ok (.goto 36, 3) := by decide +kernel
theorem dX9_priceOf_172 : decode cX9_priceOf 172 = .ok (.iinc 4 (-1), 3) := by decide +kernel
theorem dX9_priceOf_175 : decode cX9_priceOf 175 = .ok (.aload_n 0, 1) := by decide +kernel
theorem dX9_priceOf_176 : decode cX9_priceOf 176 = .ok (.getfield 28, 3) := by decide +kernel
theorem dX9_priceOf_179 : decode cX9_priceOf 179 = .ok (.iload 4, 2) := by decide +kernel
theorem dX9_priceOf_181 : decode cX9_priceOf 181 = .ok (.iconst 1, 1) := by decide +kernel
theorem dX9_priceOf_182 : decode cX9_priceOf 182 = .ok (.isub, 1) := by decide +kernel
theorem dX9_priceOf_183 : decode cX9_priceOf 183 = .ok (.iload 7, 2) := by decide +kernel
theorem dX9_priceOf_185 : decode cX9_priceOf 185 = .ok (.aload_n 0, 1) := by decide +kernel
theorem dX9_priceOf_186 : decode cX9_priceOf 186 = .ok (.getfield 28, 3) := by decide +kernel
theorem dX9_priceOf_189 : decode cX9_priceOf 189 = .ok (.iload 4, 2) := by decide +kernel
theorem dX9_priceOf_191 : decode cX9_priceOf 191 = .ok (.iconst 1, 1) := by decide +kernel
theorem dX9_priceOf_192 : decode cX9_priceOf 192 = .ok (.isub, 1) := by decide +kernel
theorem dX9_priceOf_193 : decode cX9_priceOf 193 = .ok (.laload, 1) := by decide +kernel
theorem dX9_priceOf_194 : decode cX9_priceOf 194 = .ok (.aload_n 0, 1) := by decide +kernel
theorem dX9_priceOf_195 : decode cX9_priceOf 195 = .ok (.getfield 28, 3) := by decide +kernel
theorem dX9_priceOf_198 : decode cX9_priceOf 198 = .ok (.iload 4, 2) := by decide +kernel
theorem dX9_priceOf_200 : decode cX9_priceOf 200 = .ok (.laload, 1) := by decide +kernel
theorem dX9_priceOf_201 : decode cX9_priceOf 201 = .ok (.invokestatic 218, 3) := by decide +kernel
theorem dX9_priceOf_204 : decode cX9_priceOf 204 = .ok (.lastore, 1) := by decide +kernel
theorem dX9_priceOf_205 : decode cX9_priceOf 205 = .ok (.iinc 6 1, 3) := by decide +kernel
theorem dX9_priceOf_208 : decode cX9_priceOf 208 = .ok (.goto (-173), 3) := by decide +kernel
theorem dX9_priceOf_211 : decode cX9_priceOf 211 = .ok (.aload_n 0, 1) := by decide +kernel
theorem dX9_priceOf_212 : decode cX9_priceOf 212 = .ok (.getfield 28, 3) := by decide +kernel
theorem dX9_priceOf_215 : decode cX9_priceOf 215 = .ok (.iconst 0, 1) := by decide +kernel
theorem dX9_priceOf_216 : decode cX9_priceOf 216 = .ok (.laload, 1) := by decide +kernel
theorem dX9_priceOf_217 : decode cX9_priceOf 217 = .ok (.lconst 0, 1) := by decide +kernel
theorem dX9_priceOf_218 : decode cX9_priceOf 218 = .ok (.lcmp, 1) := by decide +kernel
theorem dX9_priceOf_219 : decode cX9_priceOf 219 = .ok (.ifCond .ge 7, 3) := by decide +kernel
theorem dX9_priceOf_222 : decode cX9_priceOf 222 = .ok (.iconst 0, 1) := by decide +kernel
theorem dX9_priceOf_223 : decode cX9_priceOf 223 = .ok (.goto 28, 3) := by decide +kernel
theorem dX9_priceOf_226 : decode cX9_priceOf 226 = .ok (.aload_n 0, 1) := by decide +kernel
theorem dX9_priceOf_227 : decode cX9_priceOf 227 = .ok (.getfield 28, 3) := by decide +kernel
theorem dX9_priceOf_230 : decode cX9_priceOf 230 = .ok (.iconst 0, 1) := by decide +kernel
theorem dX9_priceOf_231 : decode cX9_priceOf 231 = .ok (.laload, 1) := by decide +kernel
theorem dX9_priceOf_232 : decode cX9_priceOf 232 = .ok (.ldc2_w 222, 3) := by decide +kernel
theorem dX9_priceOf_235 : decode cX9_priceOf 235 = .ok (.lcmp, 1) := by decide +kernel
theorem dX9_priceOf_236 : decode cX9_priceOf 236 = .ok (.ifCond .le 8, 3) := by decide +kernel
theorem dX9_priceOf_239 : decode cX9_priceOf 239 = .ok (.ldc 224, 2) := by decide +kernel
theorem dX9_priceOf_241 : decode cX9_priceOf 241 = .ok (.goto 10, 3) := by decide +kernel
theorem dX9_priceOf_244 : decode cX9_priceOf 244 = .ok (.aload_n 0, 1) := by decide +kernel
theorem dX9_priceOf_245 : decode cX9_priceOf 245 = .ok (.getfield 28, 3) := by decide +kernel
theorem dX9_priceOf_248 : decode cX9_priceOf 248 = .ok (.iconst 0, 1) := by decide +kernel
theorem dX9_priceOf_249 : decode cX9_priceOf 249 = .ok (.laload, 1) := by decide +kernel
theorem dX9_priceOf_250 : decode cX9_priceOf 250 = .ok (.l2i, 1) := by decide +kernel
theorem dX9_priceOf_251 : decode cX9_priceOf 251 = .ok (.ireturn, 1) := by decide +kernel
theorem dX9_findCheapest_0 : decode cX9_findCheapest 0 = .ok (.iconst (-1), 1) := by decide +kernel
theorem dX9_findCheapest_1 : decode cX9_findCheapest 1 = .ok (.istore_n 3, 1) := by decide +kernel
theorem dX9_findCheapest_2 : decode cX9_findCheapest 2 = .ok (.iconst 0, 1) := by decide +kernel
theorem dX9_findCheapest_3 : decode cX9_findCheapest 3 = .ok (.istore 4, 2) := by decide +kernel
theorem dX9_findCheapest_5 : decode cX9_findCheapest 5 = .ok (.iconst 0, 1) := by decide +kernel
theorem dX9_findCheapest_6 : decode cX9_findCheapest 6 = .ok (.istore 5, 2) := by decide +kernel
theorem dX9_findCheapest_8 : decode cX9_findCheapest 8 = .ok (.iload 5, 2) := by decide +kernel
theorem dX9_findCheapest_10 : decode cX9_findCheapest 10 = .ok (.aload_n 0, 1) := by decide +kernel
theorem dX9_findCheapest_11 : decode cX9_findCheapest 11 = .ok (.getfield 17, 3) := by decide +kernel
theorem dX9_findCheapest_14 : decode cX9_findCheapest 14 = .ok (.iconst 0, 1) := by decide +kernel
theorem dX9_findCheapest_15 : decode cX9_findCheapest 15 = .ok (.iaload, 1) := by decide +kernel
theorem dX9_findCheapest_16 : decode cX9_findCheapest 16 = .ok (.if_icmp .ge 55, 3) := by decide +kernel
theorem dX9_findCheapest_19 : decode cX9_findCheapest 19 = .ok (.aload_n 0, 1) := by decide +kernel
theorem dX9_findCheapest_20 : decode cX9_findCheapest 20 = .ok (.iload_n 1, 1) := by decide +kernel
theorem dX9_findCheapest_21 : decode cX9_findCheapest 21 = .ok (.iload_n 2, 1) := by decide +kernel
theorem dX9_findCheapest_22 : decode cX9_findCheapest 22 = .ok (.iload 5, 2) := by decide +kernel
theorem dX9_findCheapest_24 : decode cX9_findCheapest 24 = .ok (.invokevirtual 225, 3) := by decide +kernel
theorem dX9_findCheapest_27 : decode cX9_findCheapest 27 = .ok (.ifCond .eq 6, 3) := by decide +kernel
theorem dX9_findCheapest_30 : decode cX9_findCheapest 30 = .ok (.goto 35, 3) := by decide +kernel
theorem dX9_findCheapest_33 : decode cX9_findCheapest 33 = .ok (.aload_n 0, 1) := by decide +kernel
theorem dX9_findCheapest_34 : decode cX9_findCheapest 34 = .ok (.iload_n 1, 1) := by decide +kernel
theorem dX9_findCheapest_35 : decode cX9_findCheapest 35 = .ok (.iload_n 2, 1) := by decide +kernel
theorem dX9_findCheapest_36 : decode cX9_findCheapest 36 = .ok (.iload 5, 2) := by decide +kernel
theorem dX9_findCheapest_38 : decode cX9_findCheapest 38 = .ok (.invokevirtual 229, 3) := by decide +kernel
theorem dX9_findCheapest_41 : decode cX9_findCheapest 41 = .ok (.istore 6, 2) := by decide +kernel
theorem dX9_findCheapest_43 : decode cX9_findCheapest 43 = .ok (.iload_n 3, 1) := by decide +kernel
theorem dX9_findCheapest_44 : decode cX9_findCheapest 44 = .ok (.iconst (-1), 1) := by decide +kernel
theorem dX9_findCheapest_45 : decode cX9_findCheapest 45 = .ok (.if_icmp .eq 13, 3) := by decide +kernel
theorem dX9_findCheapest_48 : decode cX9_findCheapest 48 = .ok (.iload 6, 2) := by decide +kernel
theorem dX9_findCheapest_50 : decode cX9_findCheapest 50 = .ok (.iload 4, 2) := by decide +kernel
theorem dX9_findCheapest_52 : decode cX9_findCheapest 52 = .ok (.if_icmp .lt 6, 3) := by decide +kernel
theorem dX9_findCheapest_55 : decode cX9_findCheapest 55 = .ok (.goto 10, 3) := by decide +kernel
theorem dX9_findCheapest_58 : decode cX9_findCheapest 58 = .ok (.iload 5, 2) := by decide +kernel
theorem dX9_findCheapest_60 : decode cX9_findCheapest 60 = .ok (.istore_n 3, 1) := by decide +kernel
theorem dX9_findCheapest_61 : decode cX9_findCheapest 61 = .ok (.iload 6, 2) := by decide +kernel
theorem dX9_findCheapest_63 : decode cX9_findCheapest 63 = .ok (.istore 4, 2) := by decide +kernel
theorem dX9_findCheapest_65 : decode cX9_findCheapest 65 = .ok (.iinc 5 1, 3) := by decide +kernel
theorem dX9_findCheapest_68 : decode cX9_findCheapest 68 = .ok (.goto (-60), 3) := by decide +kernel
theorem dX9_findCheapest_71 : decode cX9_findCheapest 71 = .ok (.iload_n 3, 1) := by decide +kernel
theorem dX9_findCheapest_72 : decode cX9_findCheapest 72 = .ok (.ireturn, 1) := by decide +kernel
theorem dX9_layOrders_0 : decode cX9_layOrders 0 = .ok (.iconst 1, 1) := by decide +kernel
theorem dX9_layOrders_1 : decode cX9_layOrders 1 = .ok (.istore_n 1, 1) := by decide +kernel
theorem dX9_layOrders_2 : decode cX9_layOrders 2 = .ok (.iload_n 1, 1) := by decide +kernel
theorem dX9_layOrders_3 : decode cX9_layOrders 3 = .ok (.sipush 256, 3) := by decide +kernel
theorem dX9_layOrders_6 : decode cX9_layOrders 6 = .ok (.if_icmp .ge 118, 3) := by decide +kernel
theorem dX9_layOrders_9 : decode cX9_layOrders 9 = .ok (.iconst 0, 1) := by decide +kernel
theorem dX9_layOrders_10 : decode cX9_layOrders 10 = .ok (.istore_n 2, 1) := by decide +kernel
theorem dX9_layOrders_11 : decode cX9_layOrders 11 = .ok (.iload_n 2, 1) := by decide +kernel
theorem dX9_layOrders_12 : decode cX9_layOrders 12 = .ok (.bipush 8, 2) := by decide +kernel
theorem dX9_layOrders_14 : decode cX9_layOrders 14 = .ok (.if_icmp .ge 104, 3) := by decide +kernel
theorem dX9_layOrders_17 : decode cX9_layOrders 17 = .ok (.iload_n 1, 1) := by decide +kernel
theorem dX9_layOrders_18 : decode cX9_layOrders 18 = .ok (.iconst 1, 1) := by decide +kernel
theorem dX9_layOrders_19 : decode cX9_layOrders 19 = .ok (.iload_n 2, 1) := by decide +kernel
theorem dX9_layOrders_20 : decode cX9_layOrders 20 = .ok (.ishl, 1) := by decide +kernel
theorem dX9_layOrders_21 : decode cX9_layOrders 21 = .ok (.iconst (-1), 1) := by decide +kernel
theorem dX9_layOrders_22 : decode cX9_layOrders 22 = .ok (.ixor, 1) := by decide +kernel
theorem dX9_layOrders_23 : decode cX9_layOrders 23 = .ok (.iand, 1) := by decide +kernel
theorem dX9_layOrders_24 : decode cX9_layOrders 24 = .ok (.istore_n 3, 1) := by decide +kernel
theorem dX9_layOrders_25 : decode cX9_layOrders 25 = .ok (.aload_n 0, 1) := by decide +kernel
theorem dX9_layOrders_26 : decode cX9_layOrders 26 = .ok (.getfield 32, 3) := by decide +kernel
theorem dX9_layOrders_29 : decode cX9_layOrders 29 = .ok (.iload_n 1, 1) := by decide +kernel
theorem dX9_layOrders_30 : decode cX9_layOrders 30 = .ok (.aaload, 1) := by decide +kernel
theorem dX9_layOrders_31 : decode cX9_layOrders 31 = .ok (.iload_n 2, 1) := by decide +kernel
theorem dX9_layOrders_32 : decode cX9_layOrders 32 = .ok (.iload_n 3, 1) := by decide +kernel
theorem dX9_layOrders_33 : decode cX9_layOrders 33 = .ok (.iload_n 1, 1) := by decide +kernel
theorem dX9_layOrders_34 : decode cX9_layOrders 34 = .ok (.if_icmp .ne 7, 3) := by decide +kernel
theorem dX9_layOrders_37 : decode cX9_layOrders 37 = .ok (.iconst 0, 1) := by decide +kernel
theorem dX9_layOrders_38 : decode cX9_layOrders 38 = .ok (.goto 12, 3) := by decide +kernel
theorem dX9_layOrders_41 : decode cX9_layOrders 41 = .ok (.iload_n 3, 1) := by decide +kernel
theorem dX9_layOrders_42 : decode cX9_layOrders 42 = .ok (.ifCond .ne 7, 3) := by decide +kernel
theorem dX9_layOrders_45 : decode cX9_layOrders 45 = .ok (.iconst 1, 1) := by decide +kernel
theorem dX9_layOrders_46 : decode cX9_layOrders 46 = .ok (.goto 4, 3) := by decide +kernel
theorem dX9_layOrders_49 : decode cX9_layOrders 49 = .ok (.iconst 0, 1) := by decide +kernel
theorem dX9_layOrders_50 : decode cX9_layOrders 50 = .ok (.iastore, 1) := by decide +kernel
theorem dX9_layOrders_51 : decode cX9_layOrders 51 = .ok (.iconst 0, 1) := by decide +kernel
theorem dX9_layOrders_52 : decode cX9_layOrders 52 = .ok (.istore 4, 2) := by decide +kernel
theorem dX9_layOrders_54 : decode cX9_layOrders 54 = .ok (.iload 4, 2) := by decide +kernel
theorem dX9_layOrders_56 : decode cX9_layOrders 56 = .ok (.bipush 8, 2) := by decide +kernel
theorem dX9_layOrders_58 : decode cX9_layOrders 58 = .ok (.if_icmp .ge 54, 3) := by decide +kernel
theorem dX9_layOrders_61 : decode cX9_layOrders 61 = .ok (.iload_n 3, 1) := by decide +kernel
theorem dX9_layOrders_62 : decode cX9_layOrders 62 = .ok (.iload_n 1, 1) := by decide +kernel
theorem dX9_layOrders_63 : decode cX9_layOrders 63 = .ok (.if_icmp .eq 49, 3) := by decide +kernel
theorem dX9_layOrders_66 : decode cX9_layOrders 66 = .ok (.iload_n 3, 1) := by decide +kernel
theorem dX9_layOrders_67 : decode cX9_layOrders 67 = .ok (.iload 4, 2) := by decide +kernel
theorem dX9_layOrders_69 : decode cX9_layOrders 69 = .ok (.ishr, 1) := by decide +kernel
theorem dX9_layOrders_70 : decode cX9_layOrders 70 = .ok (.iconst 1, 1) := by decide +kernel
theorem dX9_layOrders_71 : decode cX9_layOrders 71 = .ok (.iand, 1) := by decide +kernel
theorem dX9_layOrders_72 : decode cX9_layOrders 72 = .ok (.iconst 1, 1) := by decide +kernel
theorem dX9_layOrders_73 : decode cX9_layOrders 73 = .ok (.if_icmp .ne 33, 3) := by decide +kernel
theorem dX9_layOrders_76 : decode cX9_layOrders 76 = .ok (.aload_n 0, 1) := by decide +kernel
theorem dX9_layOrders_77 : decode cX9_layOrders 77 = .ok (.iload_n 2, 1) := by decide +kernel
theorem dX9_layOrders_78 : decode cX9_layOrders 78 = .ok (.iload 4, 2) := by decide +kernel
theorem dX9_layOrders_80 : decode cX9_layOrders 80 = .ok (.invokevirtual 195, 3) := by decide +kernel
theorem dX9_layOrders_83 : decode cX9_layOrders 83 = .ok (.ifCond .ne 23, 3) := by decide +kernel
theorem dX9_layOrders_86 : decode cX9_layOrders 86 = .ok (.aload_n 0, 1) := by decide +kernel
theorem dX9_layOrders_87 : decode cX9_layOrders 87 = .ok (.getfield 32, 3) := by decide +kernel
theorem dX9_layOrders_90 : decode cX9_layOrders 90 = .ok (.iload_n 1, 1) := by decide +kernel
theorem dX9_layOrders_91 : decode cX9_layOrders 91 = .ok (.aaload, 1) := by decide +kernel
theorem dX9_layOrders_92 : decode cX9_layOrders 92 = .ok (.iload_n 2, 1) := by decide +kernel
theorem dX9_layOrders_93 : decode cX9_layOrders 93 = .ok (.dup2, 1) := by decide +kernel
theorem dX9_layOrders_94 : decode cX9_layOrders 94 = .ok (.iaload, 1) := by decide +kernel
theorem dX9_layOrders_95 : decode cX9_layOrders 95 = .ok (.aload_n 0, 1) := by decide +kernel
theorem dX9_layOrders_96 : decode cX9_layOrders 96 = .ok (.getfield 32, 3) := by decide +kernel
theorem dX9_layOrders_99 : decode cX9_layOrders 99 = .ok (.iload_n 3, 1) := by decide +kernel
theorem dX9_layOrders_100 : decode cX9_layOrders 100 = .ok (.aaload, 1) := by decide +kernel
theorem dX9_layOrders_101 : decode cX9_layOrders 101 = .ok (.iload 4, 2) := by decide +kernel
theorem dX9_layOrders_103 : decode cX9_layOrders 103 = .ok (.iaload, 1) := by decide +kernel
theorem dX9_layOrders_104 : decode cX9_layOrders 104 = .ok (.iadd, 1) := by decide +kernel
theorem dX9_layOrders_105 : decode cX9_layOrders 105 = .ok (.iastore, 1) := by decide +kernel
theorem dX9_layOrders_106 : decode cX9_layOrders 106 = .ok (.iinc 4 1, 3) := by decide +kernel
theorem dX9_layOrders_109 : decode cX9_layOrders 109 = .ok (.goto (-55), 3) := by decide +kernel
theorem dX9_layOrders_112 : decode cX9_layOrders 112 = .ok (.iinc 2 1, 3) := by decide +kernel
theorem dX9_layOrders_115 : decode cX9_layOrders 115 = .ok (.goto (-104), 3) := by decide +kernel
theorem dX9_layOrders_118 : decode cX9_layOrders 118 = .ok (.iinc 1 1, 3) := by decide +kernel
theorem dX9_layOrders_121 : decode cX9_layOrders 121 = .ok (.goto (-119), 3) := by decide +kernel
theorem dX9_layOrders_124 : decode cX9_layOrders 124 = .ok (.return_, 1) := by decide +kernel
theorem dX9_countOrders_0 : decode cX9_countOrders 0 = .ok (.iload_n 1, 1) := by decide +kernel
theorem dX9_countOrders_1 : decode cX9_countOrders 1 = .ok (.ifCond .ne 5, 3) := by decide +kernel
theorem dX9_countOrders_4 : decode cX9_countOrders 4 = .ok (.iconst 1, 1) := by decide +kernel
theorem dX9_countOrders_5 : decode cX9_countOrders 5 = .ok (.ireturn, 1) := by decide +kernel
theorem dX9_countOrders_6 : decode cX9_countOrders 6 = .ok (.iconst 0, 1) := by decide +kernel
theorem dX9_countOrders_7 : decode cX9_countOrders 7 = .ok (.istore_n 2, 1) := by decide +kernel
theorem dX9_countOrders_8 : decode cX9_countOrders 8 = .ok (.iconst 0, 1) := by decide +kernel
theorem dX9_countOrders_9 : decode cX9_countOrders 9 = .ok (.istore_n 3, 1) := by decide +kernel
theorem dX9_countOrders_10 : decode cX9_countOrders 10 = .ok (.iload_n 3, 1) := by decide +kernel
theorem dX9_countOrders_11 : decode cX9_countOrders 11 = .ok (.bipush 8, 2) := by decide +kernel
theorem dX9_countOrders_13 : decode cX9_countOrders 13 = .ok (.if_icmp .ge 20, 3) := by decide +kernel
theorem dX9_countOrders_16 : decode cX9_countOrders 16 = .ok (.iload_n 2, 1) := by decide +kernel
theorem dX9_countOrders_17 : decode cX9_countOrders 17 = .ok (.aload_n 0, 1) := by decide +kernel
theorem dX9_countOrders_18 : decode cX9_countOrders 18 = .ok (.getfield 32, 3) := by decide +kernel
theorem dX9_countOrders_21 : decode cX9_countOrders 21 = .ok (.iload_n 1, 1) := by decide +kernel
theorem dX9_countOrders_22 : decode cX9_countOrders 22 = .ok (.aaload, 1) := by decide +kernel
theorem dX9_countOrders_23 : decode cX9_countOrders 23 = .ok (.iload_n 3, 1) := by decide +kernel
theorem dX9_countOrders_24 : decode cX9_countOrders 24 = .ok (.iaload, 1) := by decide +kernel
theorem dX9_countOrders_25 : decode cX9_countOrders 25 = .ok (.iadd, 1) := by decide +kernel
theorem dX9_countOrders_26 : decode cX9_countOrders 26 = .ok (.istore_n 2, 1) := by decide +kernel
theorem dX9_countOrders_27 : decode cX9_countOrders 27 = .ok (.iinc 3 1, 3) := by decide +kernel
theorem dX9_countOrders_30 : decode cX9_countOrders 30 = .ok (.goto (-20), 3) := by decide +kernel
theorem dX9_countOrders_33 : decode cX9_countOrders 33 = .ok (.iload_n 2, 1) := by decide +kernel
theorem dX9_countOrders_34 : decode cX9_countOrders 34 = .ok (.ireturn, 1) := by decide +kernel
theorem dX9_layFirst_0 : decode cX9_layFirst 0 = .ok (.iconst 0, 1) := by decide +kernel
theorem dX9_layFirst_1 : decode cX9_layFirst 1 = .ok (.istore_n 2, 1) := by decide +kernel
theorem dX9_layFirst_2 : decode cX9_layFirst 2 = .ok (.iload_n 1, 1) := by decide +kernel
theorem dX9_layFirst_3 : decode cX9_layFirst 3 = .ok (.istore_n 3, 1) := by decide +kernel
theorem dX9_layFirst_4 : decode cX9_layFirst 4 = .ok (.iload_n 3, 1) := by decide +kernel
theorem dX9_layFirst_5 : decode cX9_layFirst 5 = .ok (.ifCond .eq 74, 3) := by decide +kernel
theorem dX9_layFirst_8 : decode cX9_layFirst 8 = .ok (.iconst 0, 1) := by decide +kernel
theorem dX9_layFirst_9 : decode cX9_layFirst 9 = .ok (.istore 4, 2) := by decide +kernel
theorem dX9_layFirst_11 : decode cX9_layFirst 11 = .ok (.aload_n 0, 1) := by decide +kernel
theorem dX9_layFirst_12 : decode cX9_layFirst 12 = .ok (.getfield 32, 3) := by decide +kernel
theorem dX9_layFirst_15 : decode cX9_layFirst 15 = .ok (.iload_n 3, 1) := by decide +kernel
theorem dX9_layFirst_16 : decode cX9_layFirst 16 = .ok (.aaload, 1) := by decide +kernel
theorem dX9_layFirst_17 : decode cX9_layFirst 17 = .ok (.iload 4, 2) := by decide +kernel
theorem dX9_layFirst_19 : decode cX9_layFirst 19 = .ok (.iaload, 1) := by decide +kernel
theorem dX9_layFirst_20 : decode cX9_layFirst 20 = .ok (.ifCond .eq 24, 3) := by decide +kernel
theorem dX9_layFirst_23 : decode cX9_layFirst 23 = .ok (.iload_n 2, 1) := by decide +kernel
theorem dX9_layFirst_24 : decode cX9_layFirst 24 = .ok (.ifCond .le 26, 3) := by decide +kernel
theorem dX9_layFirst_27 : decode cX9_layFirst 27 = .ok (.aload_n 0, 1) := by decide +kernel
theorem dX9_layFirst_28 : decode cX9_layFirst 28 = .ok (.aload_n 0, 1) := by decide +kernel
theorem dX9_layFirst_29 : decode cX9_layFirst 29 = .ok (.getfield 35, 3) := by decide +kernel
theorem dX9_layFirst_32 : decode cX9_layFirst 32 = .ok (.iload_n 2, 1) := by decide +kernel
theorem dX9_layFirst_33 : decode cX9_layFirst 33 = .ok (.iconst 1, 1) := by decide +kernel
theorem dX9_layFirst_34 : decode cX9_layFirst 34 = .ok (.isub, 1) := by decide +kernel
theorem dX9_layFirst_35 : decode cX9_layFirst 35 = .ok (.iaload, 1) := by decide +kernel
theorem dX9_layFirst_36 : decode cX9_layFirst 36 = .ok (.iload 4, 2) := by decide +kernel
theorem dX9_layFirst_38 : decode cX9_layFirst 38 = .ok (.invokevirtual 195, 3) := by decide +kernel
theorem dX9_layFirst_41 : decode cX9_layFirst 41 = .ok (.ifCond .eq 9, 3) := by decide +kernel
theorem dX9_layFirst_44 : decode cX9_layFirst 44 = .ok (.iinc 4 1, 3) := by decide +kernel
theorem dX9_layFirst_47 : decode cX9_layFirst 47 = .ok (.goto (-36), 3) := by decide +kernel
theorem dX9_layFirst_50 : decode cX9_layFirst 50 = .ok (.aload_n 0, 1) := by decide +kernel
theorem dX9_layFirst_51 : decode cX9_layFirst 51 = .ok (.getfield 35, 3) := by decide +kernel
theorem dX9_layFirst_54 : decode cX9_layFirst 54 = .ok (.iload_n 2, 1) := by decide +kernel
theorem dX9_layFirst_55 : decode cX9_layFirst 55 = .ok (.iload 4, 2) := by decide +kernel
theorem dX9_layFirst_57 : decode cX9_layFirst 57 = .ok (.iastore, 1) := by decide +kernel
theorem dX9_layFirst_58 : decode cX9_layFirst 58 = .ok (.iinc 2 1, 3) := by decide +kernel
theorem dX9_layFirst_61 : decode cX9_layFirst 61 = .ok (.iload_n 3, 1) := by decide +kernel
theorem dX9_layFirst_62 : decode cX9_layFirst 62 = .ok (.iconst 1, 1) := by decide +kernel
theorem dX9_layFirst_63 : decode cX9_layFirst 63 = .ok (.aload_n 0, 1) := by decide +kernel
theorem dX9_layFirst_64 : decode cX9_layFirst 64 = .ok (.getfield 35, 3) := by decide +kernel
theorem dX9_layFirst_67 : decode cX9_layFirst 67 = .ok (.iload_n 2, 1) := by decide +kernel
theorem dX9_layFirst_68 : decode cX9_layFirst 68 = .ok (.iconst 1, 1) := by decide +kernel
theorem dX9_layFirst_69 : decode cX9_layFirst 69 = .ok (.isub, 1) := by decide +kernel
theorem dX9_layFirst_70 : decode cX9_layFirst 70 = .ok (.iaload, 1) := by decide +kernel
theorem dX9_layFirst_71 : decode cX9_layFirst 71 = .ok (.ishl, 1) := by decide +kernel
theorem dX9_layFirst_72 : decode cX9_layFirst 72 = .ok (.iconst (-1), 1) := by decide +kernel
theorem dX9_layFirst_73 : decode cX9_layFirst 73 = .ok (.ixor, 1) := by decide +kernel
theorem dX9_layFirst_74 : decode cX9_layFirst 74 = .ok (.iand, 1) := by decide +kernel
theorem dX9_layFirst_75 : decode cX9_layFirst 75 = .ok (.istore_n 3, 1) := by decide +kernel
theorem dX9_layFirst_76 : decode cX9_layFirst 76 = .ok (.goto (-72), 3) := by decide +kernel
theorem dX9_layFirst_79 : decode cX9_layFirst 79 = .ok (.return_, 1) := by decide +kernel
theorem dX9_noBreak_0 : decode cX9_noBreak 0 = .ok (.aload_n 0, 1) := by decide +kernel
theorem dX9_noBreak_1 : decode cX9_noBreak 1 = .ok (.iload_n 1, 1) := by decide +kernel
theorem dX9_noBreak_2 : decode cX9_noBreak 2 = .ok (.iconst 0, 1) := by decide +kernel
theorem dX9_noBreak_3 : decode cX9_noBreak 3 = .ok (.aload_n 0, 1) := by decide +kernel
theorem dX9_noBreak_4 : decode cX9_noBreak 4 = .ok (.getfield 17, 3) := by decide +kernel
theorem dX9_noBreak_7 : decode cX9_noBreak 7 = .ok (.iconst 0, 1) := by decide +kernel
theorem dX9_noBreak_8 : decode cX9_noBreak 8 = .ok (.iaload, 1) := by decide +kernel
theorem dX9_noBreak_9 : decode cX9_noBreak 9 = .ok (.iconst 1, 1) := by decide +kernel
theorem dX9_noBreak_10 : decode cX9_noBreak 10 = .ok (.isub, 1) := by decide +kernel
theorem dX9_noBreak_11 : decode cX9_noBreak 11 = .ok (.invokestatic 66, 3) := by decide +kernel
theorem dX9_noBreak_14 : decode cX9_noBreak 14 = .ok (.ifCond .ne 7, 3) := by decide +kernel
theorem dX9_noBreak_17 : decode cX9_noBreak 17 = .ok (.iconst 1, 1) := by decide +kernel
theorem dX9_noBreak_18 : decode cX9_noBreak 18 = .ok (.goto 4, 3) := by decide +kernel
theorem dX9_noBreak_21 : decode cX9_noBreak 21 = .ok (.iconst 0, 1) := by decide +kernel
theorem dX9_noBreak_22 : decode cX9_noBreak 22 = .ok (.iconst 1, 1) := by decide +kernel
theorem dX9_noBreak_23 : decode cX9_noBreak 23 = .ok (.invokevirtual 166, 3) := by decide +kernel
theorem dX9_noBreak_26 : decode cX9_noBreak 26 = .ok (.ireturn, 1) := by decide +kernel
theorem dX9_noSponsor_0 : decode cX9_noSponsor 0 = .ok (.aload_n 0, 1) := by decide +kernel
theorem dX9_noSponsor_1 : decode cX9_noSponsor 1 = .ok (.iload_n 1, 1) := by decide +kernel
theorem dX9_noSponsor_2 : decode cX9_noSponsor 2 = .ok (.iconst 0, 1) := by decide +kernel
theorem dX9_noSponsor_3 : decode cX9_noSponsor 3 = .ok (.aload_n 0, 1) := by decide +kernel
theorem dX9_noSponsor_4 : decode cX9_noSponsor 4 = .ok (.getfield 17, 3) := by decide +kernel
theorem dX9_noSponsor_7 : decode cX9_noSponsor 7 = .ok (.iconst 1, 1) := by decide +kernel
theorem dX9_noSponsor_8 : decode cX9_noSponsor 8 = .ok (.iaload, 1) := by decide +kernel
theorem dX9_noSponsor_9 : decode cX9_noSponsor 9 = .ok (.iconst 1, 1) := by decide +kernel
theorem dX9_noSponsor_10 : decode cX9_noSponsor 10 = .ok (.isub, 1) := by decide +kernel
theorem dX9_noSponsor_11 : decode cX9_noSponsor 11 = .ok (.invokestatic 66, 3) := by decide +kernel
theorem dX9_noSponsor_14 : decode cX9_noSponsor 14 = .ok (.ifCond .ne 7, 3) := by decide +kernel
theorem dX9_noSponsor_17 : decode cX9_noSponsor 17 = .ok (.iconst 1, 1) := by decide +kernel
theorem dX9_noSponsor_18 : decode cX9_noSponsor 18 = .ok (.goto 4, 3) := by decide +kernel
theorem dX9_noSponsor_21 : decode cX9_noSponsor 21 = .ok (.iconst 0, 1) := by decide +kernel
theorem dX9_noSponsor_22 : decode cX9_noSponsor 22 = .ok (.iconst 1, 1) := by decide +kernel
theorem dX9_noSponsor_23 : decode cX9_noSponsor 23 = .ok (.invokevirtual 166, 3) := by decide +kernel
theorem dX9_noSponsor_26 : decode cX9_noSponsor 26 = .ok (.ireturn, 1) := by decide +kernel
theorem dX9_noSeconds_0 : decode cX9_noSeconds 0 = .ok (.aload_n 0, 1) := by decide +kernel
theorem dX9_noSeconds_1 : decode cX9_noSeconds 1 = .ok (.iload_n 1, 1) := by decide +kernel
theorem dX9_noSeconds_2 : decode cX9_noSeconds 2 = .ok (.iconst 5, 1) := by decide +kernel
theorem dX9_noSeconds_3 : decode cX9_noSeconds 3 = .ok (.bipush 60, 2) := by decide +kernel
theorem dX9_noSeconds_5 : decode cX9_noSeconds 5 = .ok (.invokestatic 66, 3) := by decide +kernel
theorem dX9_noSeconds_8 : decode cX9_noSeconds 8 = .ok (.ifCond .ne 7, 3) := by decide +kernel
theorem dX9_noSeconds_11 : decode cX9_noSeconds 11 = .ok (.iconst 1, 1) := by decide +kernel
theorem dX9_noSeconds_12 : decode cX9_noSeconds 12 = .ok (.goto 4, 3) := by decide +kernel
theorem dX9_noSeconds_15 : decode cX9_noSeconds 15 = .ok (.iconst 0, 1) := by decide +kernel
theorem dX9_noSeconds_16 : decode cX9_noSeconds 16 = .ok (.iconst 2, 1) := by decide +kernel
theorem dX9_noSeconds_17 : decode cX9_noSeconds 17 = .ok (.invokevirtual 166, 3) := by decide +kernel
theorem dX9_noSeconds_20 : decode cX9_noSeconds 20 = .ok (.ireturn, 1) := by decide +kernel
theorem dX9_noRequest_0 : decode cX9_noRequest 0 = .ok (.aload_n 0, 1) := by decide +kernel
theorem dX9_noRequest_1 : decode cX9_noRequest 1 = .ok (.iload_n 1, 1) := by decide +kernel
theorem dX9_noRequest_2 : decode cX9_noRequest 2 = .ok (.invokevirtual 232, 3) := by decide +kernel
theorem dX9_noRequest_5 : decode cX9_noRequest 5 = .ok (.ifCond .ne 19, 3) := by decide +kernel
theorem dX9_noRequest_8 : decode cX9_noRequest 8 = .ok (.aload_n 0, 1) := by decide +kernel
theorem dX9_noRequest_9 : decode cX9_noRequest 9 = .ok (.iload_n 3, 1) := by decide +kernel
theorem dX9_noRequest_10 : decode cX9_noRequest 10 = .ok (.invokevirtual 235, 3) := by decide +kernel
theorem dX9_noRequest_13 : decode cX9_noRequest 13 = .ok (.ifCond .ne 11, 3) := by decide +kernel
theorem dX9_noRequest_16 : decode cX9_noRequest 16 = .ok (.aload_n 0, 1) := by decide +kernel
theorem dX9_noRequest_17 : decode cX9_noRequest 17 = .ok (.iload_n 2, 1) := by decide +kernel
theorem dX9_noRequest_18 : decode cX9_noRequest 18 = .ok (.invokevirtual 238, 3) := by decide +kernel
theorem dX9_noRequest_21 : decode cX9_noRequest 21 = .ok (.ifCond .eq 7, 3) := by decide +kernel
theorem dX9_noRequest_24 : decode cX9_noRequest 24 = .ok (.iconst 1, 1) := by decide +kernel
theorem dX9_noRequest_25 : decode cX9_noRequest 25 = .ok (.goto 4, 3) := by decide +kernel
theorem dX9_noRequest_28 : decode cX9_noRequest 28 = .ok (.iconst 0, 1) := by decide +kernel
theorem dX9_noRequest_29 : decode cX9_noRequest 29 = .ok (.ireturn, 1) := by decide +kernel
theorem dX9_breaks_0 : decode cX9_breaks 0 = .ok (.aload_n 0, 1) := by decide +kernel
theorem dX9_breaks_1 : decode cX9_breaks 1 = .ok (.iconst 0, 1) := by decide +kernel
theorem dX9_breaks_2 : decode cX9_breaks 2 = .ok (.putfield 41, 3) := by decide +kernel
theorem dX9_breaks_5 : decode cX9_breaks 5 = .ok (.aload_n 0, 1) := by decide +kernel
theorem dX9_breaks_6 : decode cX9_breaks 6 = .ok (.getfield 17, 3) := by decide +kernel
theorem dX9_breaks_9 : decode cX9_breaks 9 = .ok (.iconst 0, 1) := by decide +kernel
theorem dX9_breaks_10 : decode cX9_breaks 10 = .ok (.iaload, 1) := by decide +kernel
theorem dX9_breaks_11 : decode cX9_breaks 11 = .ok (.ireturn, 1) := by decide +kernel
theorem dX9_sponsors_0 : decode cX9_sponsors 0 = .ok (.aload_n 0, 1) := by decide +kernel
theorem dX9_sponsors_1 : decode cX9_sponsors 1 = .ok (.iconst 0, 1) := by decide +kernel
theorem dX9_sponsors_2 : decode cX9_sponsors 2 = .ok (.putfield 41, 3) := by decide +kernel
theorem dX9_sponsors_5 : decode cX9_sponsors 5 = .ok (.aload_n 0, 1) := by decide +kernel
theorem dX9_sponsors_6 : decode cX9_sponsors 6 = .ok (.getfield 17, 3) := by decide +kernel
theorem dX9_sponsors_9 : decode cX9_sponsors 9 = .ok (.iconst 1, 1) := by decide +kernel
theorem dX9_sponsors_10 : decode cX9_sponsors 10 = .ok (.iaload, 1) := by decide +kernel
theorem dX9_sponsors_11 : decode cX9_sponsors 11 = .ok (.ireturn, 1) := by decide +kernel
theorem dX9_breakOf_0 : decode cX9_breakOf 0 = .ok (.aload_n 0, 1) := by decide +kernel
theorem dX9_breakOf_1 : decode cX9_breakOf 1 = .ok (.iconst 0, 1) := by decide +kernel
theorem dX9_breakOf_2 : decode cX9_breakOf 2 = .ok (.putfield 41, 3) := by decide +kernel
theorem dX9_breakOf_5 : decode cX9_breakOf 5 = .ok (.aload_n 0, 1) := by decide +kernel
theorem dX9_breakOf_6 : decode cX9_breakOf 6 = .ok (.iload_n 1, 1) := by decide +kernel
theorem dX9_breakOf_7 : decode cX9_breakOf 7 = .ok (.invokevirtual 235, 3) := by decide +kernel
theorem dX9_breakOf_10 : decode cX9_breakOf 10 = .ok (.ifCond .ne 26, 3) := by decide +kernel
theorem dX9_breakOf_13 : decode cX9_breakOf 13 = .ok (.aload_n 0, 1) := by decide +kernel
theorem dX9_breakOf_14 : decode cX9_breakOf 14 = .ok (.iload_n 2, 1) := by decide +kernel
theorem dX9_breakOf_15 : decode cX9_breakOf 15 = .ok (.iconst 0, 1) := by decide +kernel
theorem dX9_breakOf_16 : decode cX9_breakOf 16 = .ok (.bipush 6, 2) := by decide +kernel
theorem dX9_breakOf_18 : decode cX9_breakOf 18 = .ok (.invokestatic 66, 3) := by decide +kernel
theorem dX9_breakOf_21 : decode cX9_breakOf 21 = .ok (.ifCond .ne 7, 3) := by decide +kernel
theorem dX9_breakOf_24 : decode cX9_breakOf 24 = .ok (.iconst 1, 1) := by decide +kernel
theorem dX9_breakOf_25 : decode cX9_breakOf 25 = .ok (.goto 4, 3) := by decide +kernel
theorem dX9_breakOf_28 : decode cX9_breakOf 28 = .ok (.iconst 0, 1) := by decide +kernel
theorem dX9_breakOf_29 : decode cX9_breakOf 29 = .ok (.iconst 2, 1) := by decide +kernel
theorem dX9_breakOf_30 : decode cX9_breakOf 30 = .ok (.invokevirtual 166, 3) := by decide +kernel
theorem dX9_breakOf_33 : decode cX9_breakOf 33 = .ok (.ifCond .eq 5, 3) := by decide +kernel
theorem dX9_breakOf_36 : decode cX9_breakOf 36 = .ok (.iconst 0, 1) := by decide +kernel
theorem dX9_breakOf_37 : decode cX9_breakOf 37 = .ok (.ireturn, 1) := by decide +kernel
theorem dX9_breakOf_38 : decode cX9_breakOf 38 = .ok (.iload_n 2, 1) := by decide +kernel
theorem dX9_breakOf_39 : decode cX9_breakOf 39 = .ok (.bipush 6, 2) := by decide +kernel
theorem dX9_breakOf_41 : decode cX9_breakOf 41 = .ok (.if_icmp .ne 11, 3) := by decide +kernel
theorem dX9_breakOf_44 : decode cX9_breakOf 44 = .ok (.aload_n 0, 1) := by decide +kernel
theorem dX9_breakOf_45 : decode cX9_breakOf 45 = .ok (.iload_n 1, 1) := by decide +kernel
theorem dX9_breakOf_46 : decode cX9_breakOf 46 = .ok (.invokevirtual 202, 3) := by decide +kernel
theorem dX9_breakOf_49 : decode cX9_breakOf 49 = .ok (.goto 14, 3) := by decide +kernel
theorem dX9_breakOf_52 : decode cX9_breakOf 52 = .ok (.aload_n 0, 1) := by decide +kernel
theorem dX9_breakOf_53 : decode cX9_breakOf 53 = .ok (.getfield 17, 3) := by decide +kernel
theorem dX9_breakOf_56 : decode cX9_breakOf 56 = .ok (.iload_n 1, 1) := by decide +kernel
theorem dX9_breakOf_57 : decode cX9_breakOf 57 = .ok (.invokestatic 44, 3) := by decide +kernel
theorem dX9_breakOf_60 : decode cX9_breakOf 60 = .ok (.iload_n 2, 1) := by decide +kernel
theorem dX9_breakOf_61 : decode cX9_breakOf 61 = .ok (.iadd, 1) := by decide +kernel
theorem dX9_breakOf_62 : decode cX9_breakOf 62 = .ok (.iaload, 1) := by decide +kernel
theorem dX9_breakOf_63 : decode cX9_breakOf 63 = .ok (.ireturn, 1) := by decide +kernel
theorem dX9_spot_0 : decode cX9_spot 0 = .ok (.aload_n 0, 1) := by decide +kernel
theorem dX9_spot_1 : decode cX9_spot 1 = .ok (.iconst 0, 1) := by decide +kernel
theorem dX9_spot_2 : decode cX9_spot 2 = .ok (.putfield 41, 3) := by decide +kernel
theorem dX9_spot_5 : decode cX9_spot 5 = .ok (.aload_n 0, 1) := by decide +kernel
theorem dX9_spot_6 : decode cX9_spot 6 = .ok (.iload_n 1, 1) := by decide +kernel
theorem dX9_spot_7 : decode cX9_spot 7 = .ok (.invokevirtual 235, 3) := by decide +kernel
theorem dX9_spot_10 : decode cX9_spot 10 = .ok (.ifCond .ne 53, 3) := by decide +kernel
theorem dX9_spot_13 : decode cX9_spot 13 = .ok (.aload_n 0, 1) := by decide +kernel
theorem dX9_spot_14 : decode cX9_spot 14 = .ok (.iload_n 2, 1) := by decide +kernel
theorem dX9_spot_15 : decode cX9_spot 15 = .ok (.iconst 0, 1) := by decide +kernel
theorem dX9_spot_16 : decode cX9_spot 16 = .ok (.aload_n 0, 1) := by decide +kernel
theorem dX9_spot_17 : decode cX9_spot 17 = .ok (.iload_n 1, 1) := by decide +kernel
theorem dX9_spot_18 : decode cX9_spot 18 = .ok (.invokevirtual 185, 3) := by decide +kernel
theorem dX9_spot_21 : decode cX9_spot 21 = .ok (.iconst 1, 1) := by decide +kernel
theorem dX9_spot_22 : decode cX9_spot 22 = .ok (.isub, 1) := by decide +kernel
theorem dX9_spot_23 : decode cX9_spot 23 = .ok (.invokestatic 66, 3) := by decide +kernel
theorem dX9_spot_26 : decode cX9_spot 26 = .ok (.ifCond .ne 7, 3) := by decide +kernel
theorem dX9_spot_29 : decode cX9_spot 29 = .ok (.iconst 1, 1) := by decide +kernel
theorem dX9_spot_30 : decode cX9_spot 30 = .ok (.goto 4, 3) := by decide +kernel
theorem dX9_spot_33 : decode cX9_spot 33 = .ok (.iconst 0, 1) := by decide +kernel
theorem dX9_spot_34 : decode cX9_spot 34 = .ok (.iconst 2, 1) := by decide +kernel
theorem dX9_spot_35 : decode cX9_spot 35 = .ok (.invokevirtual 166, 3) := by decide +kernel
theorem dX9_spot_38 : decode cX9_spot 38 = .ok (.ifCond .ne 25, 3) := by decide +kernel
theorem dX9_spot_41 : decode cX9_spot 41 = .ok (.aload_n 0, 1) := by decide +kernel
theorem dX9_spot_42 : decode cX9_spot 42 = .ok (.iload_n 3, 1) := by decide +kernel
theorem dX9_spot_43 : decode cX9_spot 43 = .ok (.iconst 0, 1) := by decide +kernel
theorem dX9_spot_44 : decode cX9_spot 44 = .ok (.iconst 2, 1) := by decide +kernel
theorem dX9_spot_45 : decode cX9_spot 45 = .ok (.invokestatic 66, 3) := by decide +kernel
theorem dX9_spot_48 : decode cX9_spot 48 = .ok (.ifCond .ne 7, 3) := by decide +kernel
theorem dX9_spot_51 : decode cX9_spot 51 = .ok (.iconst 1, 1) := by decide +kernel
theorem dX9_spot_52 : decode cX9_spot 52 = .ok (.goto 4, 3) := by decide +kernel
theorem dX9_spot_55 : decode cX9_spot 55 = .ok (.iconst 0, 1) := by decide +kernel
theorem dX9_spot_56 : decode cX9_spot 56 = .ok (.iconst 3, 1) := by decide +kernel
theorem dX9_spot_57 : decode cX9_spot 57 = .ok (.invokevirtual 166, 3) := by decide +kernel
theorem dX9_spot_60 : decode cX9_spot 60 = .ok (.ifCond .eq 5, 3) := by decide +kernel
theorem dX9_spot_63 : decode cX9_spot 63 = .ok (.iconst 0, 1) := by decide +kernel
theorem dX9_spot_64 : decode cX9_spot 64 = .ok (.ireturn, 1) := by decide +kernel
theorem dX9_spot_65 : decode cX9_spot 65 = .ok (.aload_n 0, 1) := by decide +kernel
theorem dX9_spot_66 : decode cX9_spot 66 = .ok (.getfield 17, 3) := by decide +kernel
theorem dX9_spot_69 : decode cX9_spot 69 = .ok (.iload_n 1, 1) := by decide +kernel
theorem dX9_spot_70 : decode cX9_spot 70 = .ok (.iload_n 2, 1) := by decide +kernel
theorem dX9_spot_71 : decode cX9_spot 71 = .ok (.invokestatic 188, 3) := by decide +kernel
theorem dX9_spot_74 : decode cX9_spot 74 = .ok (.iload_n 3, 1) := by decide +kernel
theorem dX9_spot_75 : decode cX9_spot 75 = .ok (.iadd, 1) := by decide +kernel
theorem dX9_spot_76 : decode cX9_spot 76 = .ok (.iaload, 1) := by decide +kernel
theorem dX9_spot_77 : decode cX9_spot 77 = .ok (.ireturn, 1) := by decide +kernel
theorem dX9_owedOf_0 : decode cX9_owedOf 0 = .ok (.iconst 0, 1) := by decide +kernel
theorem dX9_owedOf_1 : decode cX9_owedOf 1 = .ok (.istore_n 2, 1) := by decide +kernel
theorem dX9_owedOf_2 : decode cX9_owedOf 2 = .ok (.iconst 0, 1) := by decide +kernel
theorem dX9_owedOf_3 : decode cX9_owedOf 3 = .ok (.istore_n 3, 1) := by decide +kernel
theorem dX9_owedOf_4 : decode cX9_owedOf 4 = .ok (.iload_n 3, 1) := by decide +kernel
theorem dX9_owedOf_5 : decode cX9_owedOf 5 = .ok (.aload_n 0, 1) := by decide +kernel
theorem dX9_owedOf_6 : decode cX9_owedOf 6 = .ok (.getfield 17, 3) := by decide +kernel
theorem dX9_owedOf_9 : decode cX9_owedOf 9 = .ok (.iconst 5, 1) := by decide +kernel
theorem dX9_owedOf_10 : decode cX9_owedOf 10 = .ok (.iaload, 1) := by decide +kernel
theorem dX9_owedOf_11 : decode cX9_owedOf 11 = .ok (.if_icmp .ge 33, 3) := by decide +kernel
theorem dX9_owedOf_14 : decode cX9_owedOf 14 = .ok (.iload_n 2, 1) := by decide +kernel
theorem dX9_owedOf_15 : decode cX9_owedOf 15 = .ok (.aload_n 0, 1) := by decide +kernel
theorem dX9_owedOf_16 : decode cX9_owedOf 16 = .ok (.getfield 17, 3) := by decide +kernel
theorem dX9_owedOf_19 : decode cX9_owedOf 19 = .ok (.sipush 723, 3) := by decide +kernel
theorem dX9_owedOf_22 : decode cX9_owedOf 22 = .ok (.iconst 4, 1) := by decide +kernel
theorem dX9_owedOf_23 : decode cX9_owedOf 23 = .ok (.iload_n 3, 1) := by decide +kernel
theorem dX9_owedOf_24 : decode cX9_owedOf 24 = .ok (.imul, 1) := by decide +kernel
theorem dX9_owedOf_25 : decode cX9_owedOf 25 = .ok (.iadd, 1) := by decide +kernel
theorem dX9_owedOf_26 : decode cX9_owedOf 26 = .ok (.iaload, 1) := by decide +kernel
theorem dX9_owedOf_27 : decode cX9_owedOf 27 = .ok (.iload_n 1, 1) := by decide +kernel
theorem dX9_owedOf_28 : decode cX9_owedOf 28 = .ok (.if_icmp .ne 7, 3) := by decide +kernel
theorem dX9_owedOf_31 : decode cX9_owedOf 31 = .ok (.iconst 1, 1) := by decide +kernel
theorem dX9_owedOf_32 : decode cX9_owedOf 32 = .ok (.goto 4, 3) := by decide +kernel
theorem dX9_owedOf_35 : decode cX9_owedOf 35 = .ok (.iconst 0, 1) := by decide +kernel
theorem dX9_owedOf_36 : decode cX9_owedOf 36 = .ok (.iadd, 1) := by decide +kernel
theorem dX9_owedOf_37 : decode cX9_owedOf 37 = .ok (.istore_n 2, 1) := by decide +kernel
theorem dX9_owedOf_38 : decode cX9_owedOf 38 = .ok (.iinc 3 1, 3) := by decide +kernel
theorem dX9_owedOf_41 : decode cX9_owedOf 41 = .ok (.goto (-37), 3) := by decide +kernel
theorem dX9_owedOf_44 : decode cX9_owedOf 44 = .ok (.iload_n 2, 1) := by decide +kernel
theorem dX9_owedOf_45 : decode cX9_owedOf 45 = .ok (.ireturn, 1) := by decide +kernel
theorem dX9_sponsor_0 : decode cX9_sponsor 0 = .ok (.aload_n 0, 1) := by decide +kernel
theorem dX9_sponsor_1 : decode cX9_sponsor 1 = .ok (.iconst 0, 1) := by decide +kernel
theorem dX9_sponsor_2 : decode cX9_sponsor 2 = .ok (.putfield 41, 3) := by decide +kernel
theorem dX9_sponsor_5 : decode cX9_sponsor 5 = .ok (.aload_n 0, 1) := by decide +kernel
theorem dX9_sponsor_6 : decode cX9_sponsor 6 = .ok (.iload_n 1, 1) := by decide +kernel
theorem dX9_sponsor_7 : decode cX9_sponsor 7 = .ok (.invokevirtual 232, 3) := by decide +kernel
theorem dX9_sponsor_10 : decode cX9_sponsor 10 = .ok (.ifCond .ne 25, 3) := by decide +kernel
theorem dX9_sponsor_13 : decode cX9_sponsor 13 = .ok (.aload_n 0, 1) := by decide +kernel
theorem dX9_sponsor_14 : decode cX9_sponsor 14 = .ok (.iload_n 2, 1) := by decide +kernel
theorem dX9_sponsor_15 : decode cX9_sponsor 15 = .ok (.iconst 0, 1) := by decide +kernel
theorem dX9_sponsor_16 : decode cX9_sponsor 16 = .ok (.iconst 4, 1) := by decide +kernel
theorem dX9_sponsor_17 : decode cX9_sponsor 17 = .ok (.invokestatic 66, 3) := by decide +kernel
theorem dX9_sponsor_20 : decode cX9_sponsor 20 = .ok (.ifCond .ne 7, 3) := by decide +kernel
theorem dX9_sponsor_23 : decode cX9_sponsor 23 = .ok (.iconst 1, 1) := by decide +kernel
theorem dX9_sponsor_24 : decode cX9_sponsor 24 = .ok (.goto 4, 3) := by decide +kernel
theorem dX9_sponsor_27 : decode cX9_sponsor 27 = .ok (.iconst 0, 1) := by decide +kernel
theorem dX9_sponsor_28 : decode cX9_sponsor 28 = .ok (.iconst 2, 1) := by decide +kernel
theorem dX9_sponsor_29 : decode cX9_sponsor 29 = .ok (.invokevirtual 166, 3) := by decide +kernel
theorem dX9_sponsor_32 : decode cX9_sponsor 32 = .ok (.ifCond .eq 5, 3) := by decide +kernel
theorem dX9_sponsor_35 : decode cX9_sponsor 35 = .ok (.iconst 0, 1) := by decide +kernel
theorem dX9_sponsor_36 : decode cX9_sponsor 36 = .ok (.ireturn, 1) := by decide +kernel
theorem dX9_sponsor_37 : decode cX9_sponsor 37 = .ok (.iload_n 2, 1) := by decide +kernel
theorem dX9_sponsor_38 : decode cX9_sponsor 38 = .ok (.iconst 2, 1) := by decide +kernel
theorem dX9_sponsor_39 : decode cX9_sponsor 39 = .ok (.if_icmp .ge 20, 3) := by decide +kernel
theorem dX9_sponsor_42 : decode cX9_sponsor 42 = .ok (.aload_n 0, 1) := by decide +kernel
theorem dX9_sponsor_43 : decode cX9_sponsor 43 = .ok (.getfield 17, 3) := by decide +kernel
theorem dX9_sponsor_46 : decode cX9_sponsor 46 = .ok (.sipush 607, 3) := by decide +kernel
theorem dX9_sponsor_49 : decode cX9_sponsor 49 = .ok (.iconst 2, 1) := by decide +kernel
theorem dX9_sponsor_50 : decode cX9_sponsor 50 = .ok (.iload_n 1, 1) := by decide +kernel
theorem dX9_sponsor_51 : decode cX9_sponsor 51 = .ok (.imul, 1) := by decide +kernel
theorem dX9_sponsor_52 : decode cX9_sponsor 52 = .ok (.iadd, 1) := by decide +kernel
theorem dX9_sponsor_53 : decode cX9_sponsor 53 = .ok (.iload_n 2, 1) := by decide +kernel
theorem dX9_sponsor_54 : decode cX9_sponsor 54 = .ok (.iadd, 1) := by decide +kernel
theorem dX9_sponsor_55 : decode cX9_sponsor 55 = .ok (.iaload, 1) := by decide +kernel
theorem dX9_sponsor_56 : decode cX9_sponsor 56 = .ok (.goto 40, 3) := by decide +kernel
theorem dX9_sponsor_59 : decode cX9_sponsor 59 = .ok (.iload_n 2, 1) := by decide +kernel
theorem dX9_sponsor_60 : decode cX9_sponsor 60 = .ok (.iconst 2, 1) := by decide +kernel
theorem dX9_sponsor_61 : decode cX9_sponsor 61 = .ok (.if_icmp .ne 14, 3) := by decide +kernel
theorem dX9_sponsor_64 : decode cX9_sponsor 64 = .ok (.aload_n 0, 1) := by decide +kernel
theorem dX9_sponsor_65 : decode cX9_sponsor 65 = .ok (.iload_n 1, 1) := by decide +kernel
theorem dX9_sponsor_66 : decode cX9_sponsor 66 = .ok (.iconst (-1), 1) := by decide +kernel
theorem dX9_sponsor_67 : decode cX9_sponsor 67 = .ok (.iconst 0, 1) := by decide +kernel
theorem dX9_sponsor_68 : decode cX9_sponsor 68 = .ok (.iconst 1, 1) := by decide +kernel
theorem dX9_sponsor_69 : decode cX9_sponsor 69 = .ok (.invokevirtual 198, 3) := by decide +kernel
theorem dX9_sponsor_72 : decode cX9_sponsor 72 = .ok (.goto 24, 3) := by decide +kernel
theorem dX9_sponsor_75 : decode cX9_sponsor 75 = .ok (.iload_n 2, 1) := by decide +kernel
theorem dX9_sponsor_76 : decode cX9_sponsor 76 = .ok (.iconst 3, 1) := by decide +kernel
theorem dX9_sponsor_77 : decode cX9_sponsor 77 = .ok (.if_icmp .ne 14, 3) := by decide +kernel
theorem dX9_sponsor_80 : decode cX9_sponsor 80 = .ok (.aload_n 0, 1) := by decide +kernel
theorem dX9_sponsor_81 : decode cX9_sponsor 81 = .ok (.iload_n 1, 1) := by decide +kernel
theorem dX9_sponsor_82 : decode cX9_sponsor 82 = .ok (.iconst (-1), 1) := by decide +kernel
theorem dX9_sponsor_83 : decode cX9_sponsor 83 = .ok (.iconst 1, 1) := by decide +kernel
theorem dX9_sponsor_84 : decode cX9_sponsor 84 = .ok (.iconst 1, 1) := by decide +kernel
theorem dX9_sponsor_85 : decode cX9_sponsor 85 = .ok (.invokevirtual 198, 3) := by decide +kernel
theorem dX9_sponsor_88 : decode cX9_sponsor 88 = .ok (.goto 8, 3) := by decide +kernel
theorem dX9_sponsor_91 : decode cX9_sponsor 91 = .ok (.aload_n 0, 1) := by decide +kernel
theorem dX9_sponsor_92 : decode cX9_sponsor 92 = .ok (.iload_n 1, 1) := by decide +kernel
theorem dX9_sponsor_93 : decode cX9_sponsor 93 = .ok (.invokevirtual 241, 3) := by decide +kernel
theorem dX9_sponsor_96 : decode cX9_sponsor 96 = .ok (.ireturn, 1) := by decide +kernel
theorem dX9_isBanned_0 : decode cX9_isBanned 0 = .ok (.aload_n 0, 1) := by decide +kernel
theorem dX9_isBanned_1 : decode cX9_isBanned 1 = .ok (.iconst 0, 1) := by decide +kernel
theorem dX9_isBanned_2 : decode cX9_isBanned 2 = .ok (.putfield 41, 3) := by decide +kernel
theorem dX9_isBanned_5 : decode cX9_isBanned 5 = .ok (.aload_n 0, 1) := by decide +kernel
theorem dX9_isBanned_6 : decode cX9_isBanned 6 = .ok (.iload_n 1, 1) := by decide +kernel
theorem dX9_isBanned_7 : decode cX9_isBanned 7 = .ok (.iconst 0, 1) := by decide +kernel
theorem dX9_isBanned_8 : decode cX9_isBanned 8 = .ok (.bipush 9, 2) := by decide +kernel
theorem dX9_isBanned_10 : decode cX9_isBanned 10 = .ok (.invokestatic 66, 3) := by decide +kernel
theorem dX9_isBanned_13 : decode cX9_isBanned 13 = .ok (.ifCond .eq 13, 3) := by decide +kernel
theorem dX9_isBanned_16 : decode cX9_isBanned 16 = .ok (.iload_n 2, 1) := by decide +kernel
theorem dX9_isBanned_17 : decode cX9_isBanned 17 = .ok (.iconst 0, 1) := by decide +kernel
theorem dX9_isBanned_18 : decode cX9_isBanned 18 = .ok (.bipush 9, 2) := by decide +kernel
theorem dX9_isBanned_20 : decode cX9_isBanned 20 = .ok (.invokestatic 66, 3) := by decide +kernel
theorem dX9_isBanned_23 : decode cX9_isBanned 23 = .ok (.ifCond .ne 7, 3) := by decide +kernel
theorem dX9_isBanned_26 : decode cX9_isBanned 26 = .ok (.iconst 1, 1) := by decide +kernel
theorem dX9_isBanned_27 : decode cX9_isBanned 27 = .ok (.goto 4, 3) := by decide +kernel
theorem dX9_isBanned_30 : decode cX9_isBanned 30 = .ok (.iconst 0, 1) := by decide +kernel
theorem dX9_isBanned_31 : decode cX9_isBanned 31 = .ok (.iconst 1, 1) := by decide +kernel
theorem dX9_isBanned_32 : decode cX9_isBanned 32 = .ok (.invokevirtual 166, 3) := by decide +kernel
theorem dX9_isBanned_35 : decode cX9_isBanned 35 = .ok (.ifCond .eq 5, 3) := by decide +kernel
theorem dX9_isBanned_38 : decode cX9_isBanned 38 = .ok (.iconst 0, 1) := by decide +kernel
theorem dX9_isBanned_39 : decode cX9_isBanned 39 = .ok (.ireturn, 1) := by decide +kernel
theorem dX9_isBanned_40 : decode cX9_isBanned 40 = .ok (.aload_n 0, 1) := by decide +kernel
theorem dX9_isBanned_41 : decode cX9_isBanned 41 = .ok (.getfield 17, 3) := by decide +kernel
theorem dX9_isBanned_44 : decode cX9_isBanned 44 = .ok (.sipush 623, 3) := by decide +kernel
theorem dX9_isBanned_47 : decode cX9_isBanned 47 = .ok (.bipush 10, 2) := by decide +kernel
theorem dX9_isBanned_49 : decode cX9_isBanned 49 = .ok (.iload_n 1, 1) := by decide +kernel
theorem dX9_isBanned_50 : decode cX9_isBanned 50 = .ok (.imul, 1) := by decide +kernel
theorem dX9_isBanned_51 : decode cX9_isBanned 51 = .ok (.iadd, 1) := by decide +kernel
theorem dX9_isBanned_52 : decode cX9_isBanned 52 = .ok (.iload_n 2, 1) := by decide +kernel
theorem dX9_isBanned_53 : decode cX9_isBanned 53 = .ok (.iadd, 1) := by decide +kernel
theorem dX9_isBanned_54 : decode cX9_isBanned 54 = .ok (.iaload, 1) := by decide +kernel
theorem dX9_isBanned_55 : decode cX9_isBanned 55 = .ok (.iconst 1, 1) := by decide +kernel
theorem dX9_isBanned_56 : decode cX9_isBanned 56 = .ok (.if_icmp .ne 7, 3) := by decide +kernel
theorem dX9_isBanned_59 : decode cX9_isBanned 59 = .ok (.iconst 1, 1) := by decide +kernel
theorem dX9_isBanned_60 : decode cX9_isBanned 60 = .ok (.goto 4, 3) := by decide +kernel
theorem dX9_isBanned_63 : decode cX9_isBanned 63 = .ok (.iconst 0, 1) := by decide +kernel
theorem dX9_isBanned_64 : decode cX9_isBanned 64 = .ok (.ireturn, 1) := by decide +kernel
theorem dX9_spotsOn_0 : decode cX9_spotsOn 0 = .ok (.aload_n 0, 1) := by decide +kernel
theorem dX9_spotsOn_1 : decode cX9_spotsOn 1 = .ok (.iconst 0, 1) := by decide +kernel
theorem dX9_spotsOn_2 : decode cX9_spotsOn 2 = .ok (.putfield 41, 3) := by decide +kernel
theorem dX9_spotsOn_5 : decode cX9_spotsOn 5 = .ok (.aload_n 0, 1) := by decide +kernel
theorem dX9_spotsOn_6 : decode cX9_spotsOn 6 = .ok (.iload_n 1, 1) := by decide +kernel
theorem dX9_spotsOn_7 : decode cX9_spotsOn 7 = .ok (.invokevirtual 232, 3) := by decide +kernel
theorem dX9_spotsOn_10 : decode cX9_spotsOn 10 = .ok (.ifCond .ne 26, 3) := by decide +kernel
theorem dX9_spotsOn_13 : decode cX9_spotsOn 13 = .ok (.aload_n 0, 1) := by decide +kernel
theorem dX9_spotsOn_14 : decode cX9_spotsOn 14 = .ok (.iload_n 2, 1) := by decide +kernel
theorem dX9_spotsOn_15 : decode cX9_spotsOn 15 = .ok (.iconst 0, 1) := by decide +kernel
theorem dX9_spotsOn_16 : decode cX9_spotsOn 16 = .ok (.bipush 6, 2) := by decide +kernel
theorem dX9_spotsOn_18 : decode cX9_spotsOn 18 = .ok (.invokestatic 66, 3) := by decide +kernel
theorem dX9_spotsOn_21 : decode cX9_spotsOn 21 = .ok (.ifCond .ne 7, 3) := by decide +kernel
theorem dX9_spotsOn_24 : decode cX9_spotsOn 24 = .ok (.iconst 1, 1) := by decide +kernel
theorem dX9_spotsOn_25 : decode cX9_spotsOn 25 = .ok (.goto 4, 3) := by decide +kernel
theorem dX9_spotsOn_28 : decode cX9_spotsOn 28 = .ok (.iconst 0, 1) := by decide +kernel
theorem dX9_spotsOn_29 : decode cX9_spotsOn 29 = .ok (.iconst 2, 1) := by decide +kernel
theorem dX9_spotsOn_30 : decode cX9_spotsOn 30 = .ok (.invokevirtual 166, 3) := by decide +kernel
theorem dX9_spotsOn_33 : decode cX9_spotsOn 33 = .ok (.ifCond .eq 7, 3) := by decide +kernel
theorem dX9_spotsOn_36 : decode cX9_spotsOn 36 = .ok (.iconst 0, 1) := by decide +kernel
theorem dX9_spotsOn_37 : decode cX9_spotsOn 37 = .ok (.goto 11, 3) := by decide +kernel
theorem dX9_spotsOn_40 : decode cX9_spotsOn 40 = .ok (.aload_n 0, 1) := by decide +kernel
theorem dX9_spotsOn_41 : decode cX9_spotsOn 41 = .ok (.iload_n 1, 1) := by decide +kernel
theorem dX9_spotsOn_42 : decode cX9_spotsOn 42 = .ok (.iload_n 2, 1) := by decide +kernel
theorem dX9_spotsOn_43 : decode cX9_spotsOn 43 = .ok (.iconst 0, 1) := by decide +kernel
theorem dX9_spotsOn_44 : decode cX9_spotsOn 44 = .ok (.iconst 1, 1) := by decide +kernel
theorem dX9_spotsOn_45 : decode cX9_spotsOn 45 = .ok (.invokevirtual 198, 3) := by decide +kernel
theorem dX9_spotsOn_48 : decode cX9_spotsOn 48 = .ok (.ireturn, 1) := by decide +kernel
theorem dX9_reason_0 : decode cX9_reason 0 = .ok (.aload_n 0, 1) := by decide +kernel
theorem dX9_reason_1 : decode cX9_reason 1 = .ok (.iconst 0, 1) := by decide +kernel
theorem dX9_reason_2 : decode cX9_reason 2 = .ok (.putfield 41, 3) := by decide +kernel
theorem dX9_reason_5 : decode cX9_reason 5 = .ok (.aload_n 0, 1) := by decide +kernel
theorem dX9_reason_6 : decode cX9_reason 6 = .ok (.iload_n 1, 1) := by decide +kernel
theorem dX9_reason_7 : decode cX9_reason 7 = .ok (.iload_n 2, 1) := by decide +kernel
theorem dX9_reason_8 : decode cX9_reason 8 = .ok (.iload_n 3, 1) := by decide +kernel
theorem dX9_reason_9 : decode cX9_reason 9 = .ok (.invokevirtual 244, 3) := by decide +kernel
theorem dX9_reason_12 : decode cX9_reason 12 = .ok (.ifCond .eq 7, 3) := by decide +kernel
theorem dX9_reason_15 : decode cX9_reason 15 = .ok (.iconst 0, 1) := by decide +kernel
theorem dX9_reason_16 : decode cX9_reason 16 = .ok (.goto 10, 3) := by decide +kernel
theorem dX9_reason_19 : decode cX9_reason 19 = .ok (.aload_n 0, 1) := by decide +kernel
theorem dX9_reason_20 : decode cX9_reason 20 = .ok (.iload_n 1, 1) := by decide +kernel
theorem dX9_reason_21 : decode cX9_reason 21 = .ok (.iload_n 2, 1) := by decide +kernel
theorem dX9_reason_22 : decode cX9_reason 22 = .ok (.iload_n 3, 1) := by decide +kernel
theorem dX9_reason_23 : decode cX9_reason 23 = .ok (.invokevirtual 225, 3) := by decide +kernel
theorem dX9_reason_26 : decode cX9_reason 26 = .ok (.ireturn, 1) := by decide +kernel
theorem dX9_price_0 : decode cX9_price 0 = .ok (.aload_n 0, 1) := by decide +kernel
theorem dX9_price_1 : decode cX9_price 1 = .ok (.iconst 0, 1) := by decide +kernel
theorem dX9_price_2 : decode cX9_price 2 = .ok (.putfield 41, 3) := by decide +kernel
theorem dX9_price_5 : decode cX9_price 5 = .ok (.aload_n 0, 1) := by decide +kernel
theorem dX9_price_6 : decode cX9_price 6 = .ok (.iload_n 1, 1) := by decide +kernel
theorem dX9_price_7 : decode cX9_price 7 = .ok (.iload_n 2, 1) := by decide +kernel
theorem dX9_price_8 : decode cX9_price 8 = .ok (.iload_n 3, 1) := by decide +kernel
theorem dX9_price_9 : decode cX9_price 9 = .ok (.invokevirtual 244, 3) := by decide +kernel
theorem dX9_price_12 : decode cX9_price 12 = .ok (.ifCond .eq 7, 3) := by decide +kernel
theorem dX9_price_15 : decode cX9_price 15 = .ok (.iconst 0, 1) := by decide +kernel
theorem dX9_price_16 : decode cX9_price 16 = .ok (.goto 10, 3) := by decide +kernel
theorem dX9_price_19 : decode cX9_price 19 = .ok (.aload_n 0, 1) := by decide +kernel
theorem dX9_price_20 : decode cX9_price 20 = .ok (.iload_n 1, 1) := by decide +kernel
theorem dX9_price_21 : decode cX9_price 21 = .ok (.iload_n 2, 1) := by decide +kernel
theorem dX9_price_22 : decode cX9_price 22 = .ok (.iload_n 3, 1) := by decide +kernel
theorem dX9_price_23 : decode cX9_price 23 = .ok (.invokevirtual 229, 3) := by decide +kernel
theorem dX9_price_26 : decode cX9_price 26 = .ok (.ireturn, 1) := by decide +kernel
theorem dX9_cheapest_0 : decode cX9_cheapest 0 = .ok (.aload_n 0, 1) := by decide +kernel
theorem dX9_cheapest_1 : decode cX9_cheapest 1 = .ok (.iconst 0, 1) := by decide +kernel
theorem dX9_cheapest_2 : decode cX9_cheapest 2 = .ok (.putfield 41, 3) := by decide +kernel
theorem dX9_cheapest_5 : decode cX9_cheapest 5 = .ok (.aload_n 0, 1) := by decide +kernel
theorem dX9_cheapest_6 : decode cX9_cheapest 6 = .ok (.iload_n 1, 1) := by decide +kernel
theorem dX9_cheapest_7 : decode cX9_cheapest 7 = .ok (.invokevirtual 232, 3) := by decide +kernel
theorem dX9_cheapest_10 : decode cX9_cheapest 10 = .ok (.ifCond .ne 11, 3) := by decide +kernel
theorem dX9_cheapest_13 : decode cX9_cheapest 13 = .ok (.aload_n 0, 1) := by decide +kernel
theorem dX9_cheapest_14 : decode cX9_cheapest 14 = .ok (.iload_n 2, 1) := by decide +kernel
theorem dX9_cheapest_15 : decode cX9_cheapest 15 = .ok (.invokevirtual 238, 3) := by decide +kernel
theorem dX9_cheapest_18 : decode cX9_cheapest 18 = .ok (.ifCond .eq 7, 3) := by decide +kernel
theorem dX9_cheapest_21 : decode cX9_cheapest 21 = .ok (.iconst 0, 1) := by decide +kernel
theorem dX9_cheapest_22 : decode cX9_cheapest 22 = .ok (.goto 9, 3) := by decide +kernel
theorem dX9_cheapest_25 : decode cX9_cheapest 25 = .ok (.aload_n 0, 1) := by decide +kernel
theorem dX9_cheapest_26 : decode cX9_cheapest 26 = .ok (.iload_n 1, 1) := by decide +kernel
theorem dX9_cheapest_27 : decode cX9_cheapest 27 = .ok (.iload_n 2, 1) := by decide +kernel
theorem dX9_cheapest_28 : decode cX9_cheapest 28 = .ok (.invokevirtual 247, 3) := by decide +kernel
theorem dX9_cheapest_31 : decode cX9_cheapest 31 = .ok (.ireturn, 1) := by decide +kernel
theorem dX9_widest_0 : decode cX9_widest 0 = .ok (.aload_n 0, 1) := by decide +kernel
theorem dX9_widest_1 : decode cX9_widest 1 = .ok (.iconst 0, 1) := by decide +kernel
theorem dX9_widest_2 : decode cX9_widest 2 = .ok (.putfield 41, 3) := by decide +kernel
theorem dX9_widest_5 : decode cX9_widest 5 = .ok (.aload_n 0, 1) := by decide +kernel
theorem dX9_widest_6 : decode cX9_widest 6 = .ok (.iload_n 1, 1) := by decide +kernel
theorem dX9_widest_7 : decode cX9_widest 7 = .ok (.invokevirtual 232, 3) := by decide +kernel
theorem dX9_widest_10 : decode cX9_widest 10 = .ok (.ifCond .ne 11, 3) := by decide +kernel
theorem dX9_widest_13 : decode cX9_widest 13 = .ok (.aload_n 0, 1) := by decide +kernel
theorem dX9_widest_14 : decode cX9_widest 14 = .ok (.iload_n 2, 1) := by decide +kernel
theorem dX9_widest_15 : decode cX9_widest 15 = .ok (.invokevirtual 238, 3) := by decide +kernel
theorem dX9_widest_18 : decode cX9_widest 18 = .ok (.ifCond .eq 5, 3) := by decide +kernel
theorem dX9_widest_21 : decode cX9_widest 21 = .ok (.iconst 0, 1) := by decide +kernel
theorem dX9_widest_22 : decode cX9_widest 22 = .ok (.ireturn, 1) := by decide +kernel
theorem dX9_widest_23 : decode cX9_widest 23 = .ok (.iconst (-1), 1) := by decide +kernel
theorem dX9_widest_24 : decode cX9_widest 24 = .ok (.istore_n 3, 1) := by decide +kernel
theorem dX9_widest_25 : decode cX9_widest 25 = .ok (.iconst 0, 1) := by decide +kernel
theorem dX9_widest_26 : decode cX9_widest 26 = .ok (.istore 4, 2) := by decide +kernel
theorem dX9_widest_28 : decode cX9_widest 28 = .ok (.iload 4, 2) := by decide +kernel
theorem dX9_widest_30 : decode cX9_widest 30 = .ok (.aload_n 0, 1) := by decide +kernel
theorem dX9_widest_31 : decode cX9_widest 31 = .ok (.getfield 17, 3) := by decide +kernel
theorem dX9_widest_34 : decode cX9_widest 34 = .ok (.iconst 0, 1) := by decide +kernel
theorem dX9_widest_35 : decode cX9_widest 35 = .ok (.iaload, 1) := by decide +kernel
theorem dX9_widest_36 : decode cX9_widest 36 = .ok (.if_icmp .ge 54, 3) := by decide +kernel
theorem dX9_widest_39 : decode cX9_widest 39 = .ok (.aload_n 0, 1) := by decide +kernel
theorem dX9_widest_40 : decode cX9_widest 40 = .ok (.iload_n 1, 1) := by decide +kernel
theorem dX9_widest_41 : decode cX9_widest 41 = .ok (.iload_n 2, 1) := by decide +kernel
theorem dX9_widest_42 : decode cX9_widest 42 = .ok (.iload 4, 2) := by decide +kernel
theorem dX9_widest_44 : decode cX9_widest 44 = .ok (.invokevirtual 225, 3) := by decide +kernel
theorem dX9_widest_47 : decode cX9_widest 47 = .ok (.ifCond .ne 37, 3) := by decide +kernel
theorem dX9_widest_50 : decode cX9_widest 50 = .ok (.iload_n 3, 1) := by decide +kernel
theorem dX9_widest_51 : decode cX9_widest 51 = .ok (.iconst (-1), 1) := by decide +kernel
theorem dX9_widest_52 : decode cX9_widest 52 = .ok (.if_icmp .eq 29, 3) := by decide +kernel
theorem dX9_widest_55 : decode cX9_widest 55 = .ok (.aload_n 0, 1) := by decide +kernel
theorem dX9_widest_56 : decode cX9_widest 56 = .ok (.getfield 17, 3) := by decide +kernel
theorem dX9_widest_59 : decode cX9_widest 59 = .ok (.iload 4, 2) := by decide +kernel
theorem dX9_widest_61 : decode cX9_widest 61 = .ok (.invokestatic 44, 3) := by decide +kernel
theorem dX9_widest_64 : decode cX9_widest 64 = .ok (.iconst 3, 1) := by decide +kernel
theorem dX9_widest_65 : decode cX9_widest 65 = .ok (.iadd, 1) := by decide +kernel
theorem dX9_widest_66 : decode cX9_widest 66 = .ok (.iaload, 1) := by decide +kernel
theorem dX9_widest_67 : decode cX9_widest 67 = .ok (.aload_n 0, 1) := by decide +kernel
theorem dX9_widest_68 : decode cX9_widest 68 = .ok (.getfield 17, 3) := by decide +kernel
theorem dX9_widest_71 : decode cX9_widest 71 = .ok (.iload_n 3, 1) := by decide +kernel
theorem dX9_widest_72 : decode cX9_widest 72 = .ok (.invokestatic 44, 3) := by decide +kernel
theorem dX9_widest_75 : decode cX9_widest 75 = .ok (.iconst 3, 1) := by decide +kernel
theorem dX9_widest_76 : decode cX9_widest 76 = .ok (.iadd, 1) := by decide +kernel
theorem dX9_widest_77 : decode cX9_widest 77 = .ok (.iaload, 1) := by decide +kernel
theorem dX9_widest_78 : decode cX9_widest 78 = .ok (.if_icmp .le 6, 3) := by decide +kernel
theorem dX9_widest_81 : decode cX9_widest 81 = .ok (.iload 4, 2) := by decide +kernel
theorem dX9_widest_83 : decode cX9_widest 83 = .ok (.istore_n 3, 1) := by decide +kernel
theorem dX9_widest_84 : decode cX9_widest 84 = .ok (.iinc 4 1, 3) := by decide +kernel
theorem dX9_widest_87 : decode cX9_widest 87 = .ok (.goto (-59), 3) := by decide +kernel
theorem dX9_widest_90 : decode cX9_widest 90 = .ok (.iload_n 3, 1) := by decide +kernel
theorem dX9_widest_91 : decode cX9_widest 91 = .ok (.ireturn, 1) := by decide +kernel
theorem dX9_income_0 : decode cX9_income 0 = .ok (.aload_n 0, 1) := by decide +kernel
theorem dX9_income_1 : decode cX9_income 1 = .ok (.iconst 0, 1) := by decide +kernel
theorem dX9_income_2 : decode cX9_income 2 = .ok (.putfield 41, 3) := by decide +kernel
theorem dX9_income_5 : decode cX9_income 5 = .ok (.aload_n 0, 1) := by decide +kernel
theorem dX9_income_6 : decode cX9_income 6 = .ok (.getfield 17, 3) := by decide +kernel
theorem dX9_income_9 : decode cX9_income 9 = .ok (.bipush 6, 2) := by decide +kernel
theorem dX9_income_11 : decode cX9_income 11 = .ok (.iaload, 1) := by decide +kernel
theorem dX9_income_12 : decode cX9_income 12 = .ok (.ireturn, 1) := by decide +kernel
theorem dX9_owed_0 : decode cX9_owed 0 = .ok (.aload_n 0, 1) := by decide +kernel
theorem dX9_owed_1 : decode cX9_owed 1 = .ok (.iconst 0, 1) := by decide +kernel
theorem dX9_owed_2 : decode cX9_owed 2 = .ok (.putfield 41, 3) := by decide +kernel
theorem dX9_owed_5 : decode cX9_owed 5 = .ok (.aload_n 0, 1) := by decide +kernel
theorem dX9_owed_6 : decode cX9_owed 6 = .ok (.getfield 17, 3) := by decide +kernel
theorem dX9_owed_9 : decode cX9_owed 9 = .ok (.iconst 5, 1) := by decide +kernel
theorem dX9_owed_10 : decode cX9_owed 10 = .ok (.iaload, 1) := by decide +kernel
theorem dX9_owed_11 : decode cX9_owed 11 = .ok (.ireturn, 1) := by decide +kernel
theorem dX9_owedSpot_0 : decode cX9_owedSpot 0 = .ok (.aload_n 0, 1) := by decide +kernel
theorem dX9_owedSpot_1 : decode cX9_owedSpot 1 = .ok (.iconst 0, 1) := by decide +kernel
theorem dX9_owedSpot_2 : decode cX9_owedSpot 2 = .ok (.putfield 41, 3) := by decide +kernel
theorem dX9_owedSpot_5 : decode cX9_owedSpot 5 = .ok (.aload_n 0, 1) := by decide +kernel
theorem dX9_owedSpot_6 : decode cX9_owedSpot 6 = .ok (.iload_n 1, 1) := by decide +kernel
theorem dX9_owedSpot_7 : decode cX9_owedSpot 7 = .ok (.iconst 0, 1) := by decide +kernel
theorem dX9_owedSpot_8 : decode cX9_owedSpot 8 = .ok (.aload_n 0, 1) := by decide +kernel
theorem dX9_owedSpot_9 : decode cX9_owedSpot 9 = .ok (.getfield 17, 3) := by decide +kernel
theorem dX9_owedSpot_12 : decode cX9_owedSpot 12 = .ok (.iconst 5, 1) := by decide +kernel
theorem dX9_owedSpot_13 : decode cX9_owedSpot 13 = .ok (.iaload, 1) := by decide +kernel
theorem dX9_owedSpot_14 : decode cX9_owedSpot 14 = .ok (.iconst 1, 1) := by decide +kernel
theorem dX9_owedSpot_15 : decode cX9_owedSpot 15 = .ok (.isub, 1) := by decide +kernel
theorem dX9_owedSpot_16 : decode cX9_owedSpot 16 = .ok (.invokestatic 66, 3) := by decide +kernel
theorem dX9_owedSpot_19 : decode cX9_owedSpot 19 = .ok (.ifCond .ne 7, 3) := by decide +kernel
theorem dX9_owedSpot_22 : decode cX9_owedSpot 22 = .ok (.iconst 1, 1) := by decide +kernel
theorem dX9_owedSpot_23 : decode cX9_owedSpot 23 = .ok (.goto 4, 3) := by decide +kernel
theorem dX9_owedSpot_26 : decode cX9_owedSpot 26 = .ok (.iconst 0, 1) := by decide +kernel
theorem dX9_owedSpot_27 : decode cX9_owedSpot 27 = .ok (.iconst 1, 1) := by decide +kernel
theorem dX9_owedSpot_28 : decode cX9_owedSpot 28 = .ok (.invokevirtual 166, 3) := by decide +kernel
theorem dX9_owedSpot_31 : decode cX9_owedSpot 31 = .ok (.ifCond .ne 25, 3) := by decide +kernel
theorem dX9_owedSpot_34 : decode cX9_owedSpot 34 = .ok (.aload_n 0, 1) := by decide +kernel
theorem dX9_owedSpot_35 : decode cX9_owedSpot 35 = .ok (.iload_n 2, 1) := by decide +kernel
theorem dX9_owedSpot_36 : decode cX9_owedSpot 36 = .ok (.iconst 0, 1) := by decide +kernel
theorem dX9_owedSpot_37 : decode cX9_owedSpot 37 = .ok (.iconst 3, 1) := by decide +kernel
theorem dX9_owedSpot_38 : decode cX9_owedSpot 38 = .ok (.invokestatic 66, 3) := by decide +kernel
theorem dX9_owedSpot_41 : decode cX9_owedSpot 41 = .ok (.ifCond .ne 7, 3) := by decide +kernel
theorem dX9_owedSpot_44 : decode cX9_owedSpot 44 = .ok (.iconst 1, 1) := by decide +kernel
theorem dX9_owedSpot_45 : decode cX9_owedSpot 45 = .ok (.goto 4, 3) := by decide +kernel
theorem dX9_owedSpot_48 : decode cX9_owedSpot 48 = .ok (.iconst 0, 1) := by decide +kernel
theorem dX9_owedSpot_49 : decode cX9_owedSpot 49 = .ok (.iconst 2, 1) := by decide +kernel
theorem dX9_owedSpot_50 : decode cX9_owedSpot 50 = .ok (.invokevirtual 166, 3) := by decide +kernel
theorem dX9_owedSpot_53 : decode cX9_owedSpot 53 = .ok (.ifCond .eq 7, 3) := by decide +kernel
theorem dX9_owedSpot_56 : decode cX9_owedSpot 56 = .ok (.iconst 0, 1) := by decide +kernel
theorem dX9_owedSpot_57 : decode cX9_owedSpot 57 = .ok (.goto 17, 3) := by decide +kernel
theorem dX9_owedSpot_60 : decode cX9_owedSpot 60 = .ok (.aload_n 0, 1) := by decide +kernel
theorem dX9_owedSpot_61 : decode cX9_owedSpot 61 = .ok (.getfield 17, 3) := by decide +kernel
theorem dX9_owedSpot_64 : decode cX9_owedSpot 64 = .ok (.sipush 723, 3) := by decide +kernel
theorem dX9_owedSpot_67 : decode cX9_owedSpot 67 = .ok (.iconst 4, 1) := by decide +kernel
theorem dX9_owedSpot_68 : decode cX9_owedSpot 68 = .ok (.iload_n 1, 1) := by decide +kernel
theorem dX9_owedSpot_69 : decode cX9_owedSpot 69 = .ok (.imul, 1) := by decide +kernel
theorem dX9_owedSpot_70 : decode cX9_owedSpot 70 = .ok (.iadd, 1) := by decide +kernel
theorem dX9_owedSpot_71 : decode cX9_owedSpot 71 = .ok (.iload_n 2, 1) := by decide +kernel
theorem dX9_owedSpot_72 : decode cX9_owedSpot 72 = .ok (.iadd, 1) := by decide +kernel
theorem dX9_owedSpot_73 : decode cX9_owedSpot 73 = .ok (.iaload, 1) := by decide +kernel
theorem dX9_owedSpot_74 : decode cX9_owedSpot 74 = .ok (.ireturn, 1) := by decide +kernel
theorem dX9_noSet_0 : decode cX9_noSet 0 = .ok (.aload_n 0, 1) := by decide +kernel
theorem dX9_noSet_1 : decode cX9_noSet 1 = .ok (.iload_n 1, 1) := by decide +kernel
theorem dX9_noSet_2 : decode cX9_noSet 2 = .ok (.iconst 0, 1) := by decide +kernel
theorem dX9_noSet_3 : decode cX9_noSet 3 = .ok (.iconst 1, 1) := by decide +kernel
theorem dX9_noSet_4 : decode cX9_noSet 4 = .ok (.aload_n 0, 1) := by decide +kernel
