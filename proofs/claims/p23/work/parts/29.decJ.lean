theorem dJ7_equals_bbcde_0 : decode cJ7_equals_bbcde 0 = .ok (.aload_n 0, 1) := by decide +kernel
theorem dJ7_equals_bbcde_1 : decode cJ7_equals_bbcde 1 = .ok (.aload_n 1, 1) := by decide +kernel
theorem dJ7_equals_bbcde_2 : decode cJ7_equals_bbcde 2 = .ok (.if_acmp .ne 5, 3) := by decide +kernel
theorem dJ7_equals_bbcde_5 : decode cJ7_equals_bbcde 5 = .ok (.iconst 1, 1) := by decide +kernel
theorem dJ7_equals_bbcde_6 : decode cJ7_equals_bbcde 6 = .ok (.ireturn, 1) := by decide +kernel
theorem dJ7_equals_bbcde_7 : decode cJ7_equals_bbcde 7 = .ok (.aload_n 0, 1) := by decide +kernel
theorem dJ7_equals_bbcde_8 : decode cJ7_equals_bbcde 8 = .ok (.ifnull 7, 3) := by decide +kernel
theorem dJ7_equals_bbcde_11 : decode cJ7_equals_bbcde 11 = .ok (.aload_n 1, 1) := by decide +kernel
theorem dJ7_equals_bbcde_12 : decode cJ7_equals_bbcde 12 = .ok (.ifnonnull 5, 3) := by decide +kernel
theorem dJ7_equals_bbcde_15 : decode cJ7_equals_bbcde 15 = .ok (.iconst 0, 1) := by decide +kernel
theorem dJ7_equals_bbcde_16 : decode cJ7_equals_bbcde 16 = .ok (.ireturn, 1) := by decide +kernel
theorem dJ7_equals_bbcde_17 : decode cJ7_equals_bbcde 17 = .ok (.aload_n 0, 1) := by decide +kernel
theorem dJ7_equals_bbcde_18 : decode cJ7_equals_bbcde 18 = .ok (.arraylength, 1) := by decide +kernel
theorem dJ7_equals_bbcde_19 : decode cJ7_equals_bbcde 19 = .ok (.istore_n 2, 1) := by decide +kernel
theorem dJ7_equals_bbcde_20 : decode cJ7_equals_bbcde 20 = .ok (.aload_n 1, 1) := by decide +kernel
theorem dJ7_equals_bbcde_21 : decode cJ7_equals_bbcde 21 = .ok (.arraylength, 1) := by decide +kernel
theorem dJ7_equals_bbcde_22 : decode cJ7_equals_bbcde 22 = .ok (.iload_n 2, 1) := by decide +kernel
theorem dJ7_equals_bbcde_23 : decode cJ7_equals_bbcde 23 = .ok (.if_icmp .eq 5, 3) := by decide +kernel
theorem dJ7_equals_bbcde_26 : decode cJ7_equals_bbcde 26 = .ok (.iconst 0, 1) := by decide +kernel
theorem dJ7_equals_bbcde_27 : decode cJ7_equals_bbcde 27 = .ok (.ireturn, 1) := by decide +kernel
theorem dJ7_equals_bbcde_28 : decode cJ7_equals_bbcde 28 = .ok (.aload_n 0, 1) := by decide +kernel
theorem dJ7_equals_bbcde_29 : decode cJ7_equals_bbcde 29 = .ok (.aload_n 1, 1) := by decide +kernel
theorem dJ7_equals_bbcde_30 : decode cJ7_equals_bbcde 30 = .ok (.iload_n 2, 1) := by decide +kernel
theorem dJ7_equals_bbcde_31 : decode cJ7_equals_bbcde 31 = .ok (.invokestatic 254, 3) := by decide +kernel
theorem dJ7_equals_bbcde_34 : decode cJ7_equals_bbcde 34 = .ok (.ifCond .ge 7, 3) := by decide +kernel
theorem dJ7_equals_bbcde_37 : decode cJ7_equals_bbcde 37 = .ok (.iconst 1, 1) := by decide +kernel
theorem dJ7_equals_bbcde_38 : decode cJ7_equals_bbcde 38 = .ok (.goto 4, 3) := by decide +kernel
theorem dJ7_equals_bbcde_41 : decode cJ7_equals_bbcde 41 = .ok (.iconst 0, 1) := by decide +kernel
theorem dJ7_equals_bbcde_42 : decode cJ7_equals_bbcde 42 = .ok (.ireturn, 1) := by decide +kernel
theorem dJx9a822_getLongUnaligned_f02c6_0 : decode cJx9a822_getLongUnaligned_f02c6 0 = .ok (.lload_n 2, 1) := by decide +kernel
theorem dJx9a822_getLongUnaligned_f02c6_1 : decode cJx9a822_getLongUnaligned_f02c6 1 = .ok (.ldc2_w 696, 3) := by decide +kernel
theorem dJx9a822_getLongUnaligned_f02c6_4 : decode cJx9a822_getLongUnaligned_f02c6 4 = .ok (.land, 1) := by decide +kernel
theorem dJx9a822_getLongUnaligned_f02c6_5 : decode cJx9a822_getLongUnaligned_f02c6 5 = .ok (.lconst 0, 1) := by decide +kernel
theorem dJx9a822_getLongUnaligned_f02c6_6 : decode cJx9a822_getLongUnaligned_f02c6 6 = .ok (.lcmp, 1) := by decide +kernel
theorem dJx9a822_getLongUnaligned_f02c6_7 : decode cJx9a822_getLongUnaligned_f02c6 7 = .ok (.ifCond .ne 10, 3) := by decide +kernel
theorem dJx9a822_getLongUnaligned_f02c6_10 : decode cJx9a822_getLongUnaligned_f02c6 10 = .ok (.aload_n 0, 1) := by decide +kernel
theorem dJx9a822_getLongUnaligned_f02c6_11 : decode cJx9a822_getLongUnaligned_f02c6 11 = .ok (.aload_n 1, 1) := by decide +kernel
theorem dJx9a822_getLongUnaligned_f02c6_12 : decode cJx9a822_getLongUnaligned_f02c6 12 = .ok (.lload_n 2, 1) := by decide +kernel
theorem dJx9a822_getLongUnaligned_f02c6_13 : decode cJx9a822_getLongUnaligned_f02c6 13 = .ok (.invokevirtual 27, 3) := by decide +kernel
theorem dJx9a822_getLongUnaligned_f02c6_16 : decode cJx9a822_getLongUnaligned_f02c6 16 = .ok (.lreturn, 1) := by decide +kernel
theorem dJx9a822_getLongUnaligned_f02c6_17 : decode cJx9a822_getLongUnaligned_f02c6 17 = .ok (.lload_n 2, 1) := by decide +kernel
theorem dJx9a822_getLongUnaligned_f02c6_18 : decode cJx9a822_getLongUnaligned_f02c6 18 = .ok (.ldc2_w 349, 3) := by decide +kernel
theorem dJx9a822_getLongUnaligned_f02c6_21 : decode cJx9a822_getLongUnaligned_f02c6 21 = .ok (.land, 1) := by decide +kernel
theorem dJx9a822_getLongUnaligned_f02c6_22 : decode cJx9a822_getLongUnaligned_f02c6 22 = .ok (.lconst 0, 1) := by decide +kernel
theorem dJx9a822_getLongUnaligned_f02c6_23 : decode cJx9a822_getLongUnaligned_f02c6 23 = .ok (.lcmp, 1) := by decide +kernel
theorem dJx9a822_getLongUnaligned_f02c6_24 : decode cJx9a822_getLongUnaligned_f02c6 24 = .ok (.ifCond .ne 23, 3) := by decide +kernel
theorem dJx9a822_getLongUnaligned_f02c6_27 : decode cJx9a822_getLongUnaligned_f02c6 27 = .ok (.aload_n 0, 1) := by decide +kernel
theorem dJx9a822_getLongUnaligned_f02c6_28 : decode cJx9a822_getLongUnaligned_f02c6 28 = .ok (.aload_n 1, 1) := by decide +kernel
theorem dJx9a822_getLongUnaligned_f02c6_29 : decode cJx9a822_getLongUnaligned_f02c6 29 = .ok (.lload_n 2, 1) := by decide +kernel
theorem dJx9a822_getLongUnaligned_f02c6_30 : decode cJx9a822_getLongUnaligned_f02c6 30 = .ok (.invokevirtual 17, 3) := by decide +kernel
theorem dJx9a822_getLongUnaligned_f02c6_33 : decode cJx9a822_getLongUnaligned_f02c6 33 = .ok (.aload_n 0, 1) := by decide +kernel
theorem dJx9a822_getLongUnaligned_f02c6_34 : decode cJx9a822_getLongUnaligned_f02c6 34 = .ok (.aload_n 1, 1) := by decide +kernel
theorem dJx9a822_getLongUnaligned_f02c6_35 : decode cJx9a822_getLongUnaligned_f02c6 35 = .ok (.lload_n 2, 1) := by decide +kernel
theorem dJx9a822_getLongUnaligned_f02c6_36 : decode cJx9a822_getLongUnaligned_f02c6 36 = .ok (.ldc2_w 205, 3) := by decide +kernel
theorem dJx9a822_getLongUnaligned_f02c6_39 : decode cJx9a822_getLongUnaligned_f02c6 39 = .ok (.ladd, 1) := by decide +kernel
theorem dJx9a822_getLongUnaligned_f02c6_40 : decode cJx9a822_getLongUnaligned_f02c6 40 = .ok (.invokevirtual 17, 3) := by decide +kernel
theorem dJx9a822_getLongUnaligned_f02c6_43 : decode cJx9a822_getLongUnaligned_f02c6 43 = .ok (.invokestatic 698, 3) := by decide +kernel
theorem dJx9a822_getLongUnaligned_f02c6_46 : decode cJx9a822_getLongUnaligned_f02c6 46 = .ok (.lreturn, 1) := by decide +kernel
theorem dJx9a822_getLongUnaligned_f02c6_47 : decode cJx9a822_getLongUnaligned_f02c6 47 = .ok (.lload_n 2, 1) := by decide +kernel
theorem dJx9a822_getLongUnaligned_f02c6_48 : decode cJx9a822_getLongUnaligned_f02c6 48 = .ok (.lconst 1, 1) := by decide +kernel
theorem dJx9a822_getLongUnaligned_f02c6_49 : decode cJx9a822_getLongUnaligned_f02c6 49 = .ok (.land, 1) := by decide +kernel
theorem dJx9a822_getLongUnaligned_f02c6_50 : decode cJx9a822_getLongUnaligned_f02c6 50 = .ok (.lconst 0, 1) := by decide +kernel
theorem dJx9a822_getLongUnaligned_f02c6_51 : decode cJx9a822_getLongUnaligned_f02c6 51 = .ok (.lcmp, 1) := by decide +kernel
theorem dJx9a822_getLongUnaligned_f02c6_52 : decode cJx9a822_getLongUnaligned_f02c6 52 = .ok (.ifCond .ne 43, 3) := by decide +kernel
theorem dJx9a822_getLongUnaligned_f02c6_55 : decode cJx9a822_getLongUnaligned_f02c6 55 = .ok (.aload_n 0, 1) := by decide +kernel
theorem dJx9a822_getLongUnaligned_f02c6_56 : decode cJx9a822_getLongUnaligned_f02c6 56 = .ok (.aload_n 1, 1) := by decide +kernel
theorem dJx9a822_getLongUnaligned_f02c6_57 : decode cJx9a822_getLongUnaligned_f02c6 57 = .ok (.lload_n 2, 1) := by decide +kernel
theorem dJx9a822_getLongUnaligned_f02c6_58 : decode cJx9a822_getLongUnaligned_f02c6 58 = .ok (.invokevirtual 47, 3) := by decide +kernel
theorem dJx9a822_getLongUnaligned_f02c6_61 : decode cJx9a822_getLongUnaligned_f02c6 61 = .ok (.aload_n 0, 1) := by decide +kernel
theorem dJx9a822_getLongUnaligned_f02c6_62 : decode cJx9a822_getLongUnaligned_f02c6 62 = .ok (.aload_n 1, 1) := by decide +kernel
theorem dJx9a822_getLongUnaligned_f02c6_63 : decode cJx9a822_getLongUnaligned_f02c6 63 = .ok (.lload_n 2, 1) := by decide +kernel
theorem dJx9a822_getLongUnaligned_f02c6_64 : decode cJx9a822_getLongUnaligned_f02c6 64 = .ok (.ldc2_w 203, 3) := by decide +kernel
theorem dJx9a822_getLongUnaligned_f02c6_67 : decode cJx9a822_getLongUnaligned_f02c6 67 = .ok (.ladd, 1) := by decide +kernel
theorem dJx9a822_getLongUnaligned_f02c6_68 : decode cJx9a822_getLongUnaligned_f02c6 68 = .ok (.invokevirtual 47, 3) := by decide +kernel
theorem dJx9a822_getLongUnaligned_f02c6_71 : decode cJx9a822_getLongUnaligned_f02c6 71 = .ok (.aload_n 0, 1) := by decide +kernel
theorem dJx9a822_getLongUnaligned_f02c6_72 : decode cJx9a822_getLongUnaligned_f02c6 72 = .ok (.aload_n 1, 1) := by decide +kernel
theorem dJx9a822_getLongUnaligned_f02c6_73 : decode cJx9a822_getLongUnaligned_f02c6 73 = .ok (.lload_n 2, 1) := by decide +kernel
theorem dJx9a822_getLongUnaligned_f02c6_74 : decode cJx9a822_getLongUnaligned_f02c6 74 = .ok (.ldc2_w 205, 3) := by decide +kernel
theorem dJx9a822_getLongUnaligned_f02c6_77 : decode cJx9a822_getLongUnaligned_f02c6 77 = .ok (.ladd, 1) := by decide +kernel
theorem dJx9a822_getLongUnaligned_f02c6_78 : decode cJx9a822_getLongUnaligned_f02c6 78 = .ok (.invokevirtual 47, 3) := by decide +kernel
theorem dJx9a822_getLongUnaligned_f02c6_81 : decode cJx9a822_getLongUnaligned_f02c6 81 = .ok (.aload_n 0, 1) := by decide +kernel
theorem dJx9a822_getLongUnaligned_f02c6_82 : decode cJx9a822_getLongUnaligned_f02c6 82 = .ok (.aload_n 1, 1) := by decide +kernel
theorem dJx9a822_getLongUnaligned_f02c6_83 : decode cJx9a822_getLongUnaligned_f02c6 83 = .ok (.lload_n 2, 1) := by decide +kernel
theorem dJx9a822_getLongUnaligned_f02c6_84 : decode cJx9a822_getLongUnaligned_f02c6 84 = .ok (.ldc2_w 702, 3) := by decide +kernel
theorem dJx9a822_getLongUnaligned_f02c6_87 : decode cJx9a822_getLongUnaligned_f02c6 87 = .ok (.ladd, 1) := by decide +kernel
theorem dJx9a822_getLongUnaligned_f02c6_88 : decode cJx9a822_getLongUnaligned_f02c6 88 = .ok (.invokevirtual 47, 3) := by decide +kernel
theorem dJx9a822_getLongUnaligned_f02c6_91 : decode cJx9a822_getLongUnaligned_f02c6 91 = .ok (.invokestatic 704, 3) := by decide +kernel
theorem dJx9a822_getLongUnaligned_f02c6_94 : decode cJx9a822_getLongUnaligned_f02c6 94 = .ok (.lreturn, 1) := by decide +kernel
theorem dJx9a822_getLongUnaligned_f02c6_95 : decode cJx9a822_getLongUnaligned_f02c6 95 = .ok (.aload_n 0, 1) := by decide +kernel
theorem dJx9a822_getLongUnaligned_f02c6_96 : decode cJx9a822_getLongUnaligned_f02c6 96 = .ok (.aload_n 1, 1) := by decide +kernel
theorem dJx9a822_getLongUnaligned_f02c6_97 : decode cJx9a822_getLongUnaligned_f02c6 97 = .ok (.lload_n 2, 1) := by decide +kernel
theorem dJx9a822_getLongUnaligned_f02c6_98 : decode cJx9a822_getLongUnaligned_f02c6 98 = .ok (.invokevirtual 39, 3) := by decide +kernel
theorem dJx9a822_getLongUnaligned_f02c6_101 : decode cJx9a822_getLongUnaligned_f02c6 101 = .ok (.aload_n 0, 1) := by decide +kernel
theorem dJx9a822_getLongUnaligned_f02c6_102 : decode cJx9a822_getLongUnaligned_f02c6 102 = .ok (.aload_n 1, 1) := by decide +kernel
theorem dJx9a822_getLongUnaligned_f02c6_103 : decode cJx9a822_getLongUnaligned_f02c6 103 = .ok (.lload_n 2, 1) := by decide +kernel
theorem dJx9a822_getLongUnaligned_f02c6_104 : decode cJx9a822_getLongUnaligned_f02c6 104 = .ok (.lconst 1, 1) := by decide +kernel
theorem dJx9a822_getLongUnaligned_f02c6_105 : decode cJx9a822_getLongUnaligned_f02c6 105 = .ok (.ladd, 1) := by decide +kernel
theorem dJx9a822_getLongUnaligned_f02c6_106 : decode cJx9a822_getLongUnaligned_f02c6 106 = .ok (.invokevirtual 39, 3) := by decide +kernel
theorem dJx9a822_getLongUnaligned_f02c6_109 : decode cJx9a822_getLongUnaligned_f02c6 109 = .ok (.aload_n 0, 1) := by decide +kernel
theorem dJx9a822_getLongUnaligned_f02c6_110 : decode cJx9a822_getLongUnaligned_f02c6 110 = .ok (.aload_n 1, 1) := by decide +kernel
theorem dJx9a822_getLongUnaligned_f02c6_111 : decode cJx9a822_getLongUnaligned_f02c6 111 = .ok (.lload_n 2, 1) := by decide +kernel
theorem dJx9a822_getLongUnaligned_f02c6_112 : decode cJx9a822_getLongUnaligned_f02c6 112 = .ok (.ldc2_w 203, 3) := by decide +kernel
theorem dJx9a822_getLongUnaligned_f02c6_115 : decode cJx9a822_getLongUnaligned_f02c6 115 = .ok (.ladd, 1) := by decide +kernel
theorem dJx9a822_getLongUnaligned_f02c6_116 : decode cJx9a822_getLongUnaligned_f02c6 116 = .ok (.invokevirtual 39, 3) := by decide +kernel
theorem dJx9a822_getLongUnaligned_f02c6_119 : decode cJx9a822_getLongUnaligned_f02c6 119 = .ok (.aload_n 0, 1) := by decide +kernel
theorem dJx9a822_getLongUnaligned_f02c6_120 : decode cJx9a822_getLongUnaligned_f02c6 120 = .ok (.aload_n 1, 1) := by decide +kernel
theorem dJx9a822_getLongUnaligned_f02c6_121 : decode cJx9a822_getLongUnaligned_f02c6 121 = .ok (.lload_n 2, 1) := by decide +kernel
theorem dJx9a822_getLongUnaligned_f02c6_122 : decode cJx9a822_getLongUnaligned_f02c6 122 = .ok (.ldc2_w 349, 3) := by decide +kernel
theorem dJx9a822_getLongUnaligned_f02c6_125 : decode cJx9a822_getLongUnaligned_f02c6 125 = .ok (.ladd, 1) := by decide +kernel
theorem dJx9a822_getLongUnaligned_f02c6_126 : decode cJx9a822_getLongUnaligned_f02c6 126 = .ok (.invokevirtual 39, 3) := by decide +kernel
theorem dJx9a822_getLongUnaligned_f02c6_129 : decode cJx9a822_getLongUnaligned_f02c6 129 = .ok (.aload_n 0, 1) := by decide +kernel
theorem dJx9a822_getLongUnaligned_f02c6_130 : decode cJx9a822_getLongUnaligned_f02c6 130 = .ok (.aload_n 1, 1) := by decide +kernel
theorem dJx9a822_getLongUnaligned_f02c6_131 : decode cJx9a822_getLongUnaligned_f02c6 131 = .ok (.lload_n 2, 1) := by decide +kernel
theorem dJx9a822_getLongUnaligned_f02c6_132 : decode cJx9a822_getLongUnaligned_f02c6 132 = .ok (.ldc2_w 205, 3) := by decide +kernel
theorem dJx9a822_getLongUnaligned_f02c6_135 : decode cJx9a822_getLongUnaligned_f02c6 135 = .ok (.ladd, 1) := by decide +kernel
theorem dJx9a822_getLongUnaligned_f02c6_136 : decode cJx9a822_getLongUnaligned_f02c6 136 = .ok (.invokevirtual 39, 3) := by decide +kernel
theorem dJx9a822_getLongUnaligned_f02c6_139 : decode cJx9a822_getLongUnaligned_f02c6 139 = .ok (.aload_n 0, 1) := by decide +kernel
theorem dJx9a822_getLongUnaligned_f02c6_140 : decode cJx9a822_getLongUnaligned_f02c6 140 = .ok (.aload_n 1, 1) := by decide +kernel
theorem dJx9a822_getLongUnaligned_f02c6_141 : decode cJx9a822_getLongUnaligned_f02c6 141 = .ok (.lload_n 2, 1) := by decide +kernel
theorem dJx9a822_getLongUnaligned_f02c6_142 : decode cJx9a822_getLongUnaligned_f02c6 142 = .ok (.ldc2_w 707, 3) := by decide +kernel
theorem dJx9a822_getLongUnaligned_f02c6_145 : decode cJx9a822_getLongUnaligned_f02c6 145 = .ok (.ladd, 1) := by decide +kernel
theorem dJx9a822_getLongUnaligned_f02c6_146 : decode cJx9a822_getLongUnaligned_f02c6 146 = .ok (.invokevirtual 39, 3) := by decide +kernel
theorem dJx9a822_getLongUnaligned_f02c6_149 : decode cJx9a822_getLongUnaligned_f02c6 149 = .ok (.aload_n 0, 1) := by decide +kernel
theorem dJx9a822_getLongUnaligned_f02c6_150 : decode cJx9a822_getLongUnaligned_f02c6 150 = .ok (.aload_n 1, 1) := by decide +kernel
theorem dJx9a822_getLongUnaligned_f02c6_151 : decode cJx9a822_getLongUnaligned_f02c6 151 = .ok (.lload_n 2, 1) := by decide +kernel
theorem dJx9a822_getLongUnaligned_f02c6_152 : decode cJx9a822_getLongUnaligned_f02c6 152 = .ok (.ldc2_w 702, 3) := by decide +kernel
theorem dJx9a822_getLongUnaligned_f02c6_155 : decode cJx9a822_getLongUnaligned_f02c6 155 = .ok (.ladd, 1) := by decide +kernel
theorem dJx9a822_getLongUnaligned_f02c6_156 : decode cJx9a822_getLongUnaligned_f02c6 156 = .ok (.invokevirtual 39, 3) := by decide +kernel
theorem dJx9a822_getLongUnaligned_f02c6_159 : decode cJx9a822_getLongUnaligned_f02c6 159 = .ok (.aload_n 0, 1) := by decide +kernel
theorem dJx9a822_getLongUnaligned_f02c6_160 : decode cJx9a822_getLongUnaligned_f02c6 160 = .ok (.aload_n 1, 1) := by decide +kernel
theorem dJx9a822_getLongUnaligned_f02c6_161 : decode cJx9a822_getLongUnaligned_f02c6 161 = .ok (.lload_n 2, 1) := by decide +kernel
theorem dJx9a822_getLongUnaligned_f02c6_162 : decode cJx9a822_getLongUnaligned_f02c6 162 = .ok (.ldc2_w 696, 3) := by decide +kernel
theorem dJx9a822_getLongUnaligned_f02c6_165 : decode cJx9a822_getLongUnaligned_f02c6 165 = .ok (.ladd, 1) := by decide +kernel
theorem dJx9a822_getLongUnaligned_f02c6_166 : decode cJx9a822_getLongUnaligned_f02c6 166 = .ok (.invokevirtual 39, 3) := by decide +kernel
theorem dJx9a822_getLongUnaligned_f02c6_169 : decode cJx9a822_getLongUnaligned_f02c6 169 = .ok (.invokestatic 709, 3) := by decide +kernel
theorem dJx9a822_getLongUnaligned_f02c6_172 : decode cJx9a822_getLongUnaligned_f02c6 172 = .ok (.lreturn, 1) := by decide +kernel
theorem dJ8_vectorizedMismatch_456ae_0 : decode cJ8_vectorizedMismatch_456ae 0 = .ok (.getstatic 20, 3) := by decide +kernel
theorem dJ8_vectorizedMismatch_456ae_3 : decode cJ8_vectorizedMismatch_456ae 3 = .ok (.iload 7, 2) := by decide +kernel
theorem dJ8_vectorizedMismatch_456ae_5 : decode cJ8_vectorizedMismatch_456ae 5 = .ok (.isub, 1) := by decide +kernel
theorem dJ8_vectorizedMismatch_456ae_6 : decode cJ8_vectorizedMismatch_456ae 6 = .ok (.istore 8, 2) := by decide +kernel
theorem dJ8_vectorizedMismatch_456ae_8 : decode cJ8_vectorizedMismatch_456ae 8 = .ok (.iconst 0, 1) := by decide +kernel
theorem dJ8_vectorizedMismatch_456ae_9 : decode cJ8_vectorizedMismatch_456ae 9 = .ok (.istore 9, 2) := by decide +kernel
theorem dJ8_vectorizedMismatch_456ae_11 : decode cJ8_vectorizedMismatch_456ae 11 = .ok (.iload 9, 2) := by decide +kernel
theorem dJ8_vectorizedMismatch_456ae_13 : decode cJ8_vectorizedMismatch_456ae 13 = .ok (.iload 6, 2) := by decide +kernel
theorem dJ8_vectorizedMismatch_456ae_15 : decode cJ8_vectorizedMismatch_456ae 15 = .ok (.iload 8, 2) := by decide +kernel
theorem dJ8_vectorizedMismatch_456ae_17 : decode cJ8_vectorizedMismatch_456ae 17 = .ok (.ishr, 1) := by decide +kernel
theorem dJ8_vectorizedMismatch_456ae_18 : decode cJ8_vectorizedMismatch_456ae 18 = .ok (.if_icmp .ge 104, 3) := by decide +kernel
theorem dJ8_vectorizedMismatch_456ae_21 : decode cJ8_vectorizedMismatch_456ae 21 = .ok (.iload 9, 2) := by decide +kernel
theorem dJ8_vectorizedMismatch_456ae_23 : decode cJ8_vectorizedMismatch_456ae 23 = .ok (.i2l, 1) := by decide +kernel
theorem dJ8_vectorizedMismatch_456ae_24 : decode cJ8_vectorizedMismatch_456ae 24 = .ok (.getstatic 20, 3) := by decide +kernel
theorem dJ8_vectorizedMismatch_456ae_27 : decode cJ8_vectorizedMismatch_456ae 27 = .ok (.lshl, 1) := by decide +kernel
theorem dJ8_vectorizedMismatch_456ae_28 : decode cJ8_vectorizedMismatch_456ae 28 = .ok (.lstore 10, 2) := by decide +kernel
theorem dJ8_vectorizedMismatch_456ae_30 : decode cJ8_vectorizedMismatch_456ae 30 = .ok (.getstatic 26, 3) := by decide +kernel
theorem dJ8_vectorizedMismatch_456ae_33 : decode cJ8_vectorizedMismatch_456ae 33 = .ok (.aload_n 0, 1) := by decide +kernel
theorem dJ8_vectorizedMismatch_456ae_34 : decode cJ8_vectorizedMismatch_456ae 34 = .ok (.lload_n 1, 1) := by decide +kernel
theorem dJ8_vectorizedMismatch_456ae_35 : decode cJ8_vectorizedMismatch_456ae 35 = .ok (.lload 10, 2) := by decide +kernel
theorem dJ8_vectorizedMismatch_456ae_37 : decode cJ8_vectorizedMismatch_456ae 37 = .ok (.ladd, 1) := by decide +kernel
theorem dJ8_vectorizedMismatch_456ae_38 : decode cJ8_vectorizedMismatch_456ae 38 = .ok (.invokevirtual 30, 3) := by decide +kernel
theorem dJ8_vectorizedMismatch_456ae_41 : decode cJ8_vectorizedMismatch_456ae 41 = .ok (.lstore 12, 2) := by decide +kernel
theorem dJ8_vectorizedMismatch_456ae_43 : decode cJ8_vectorizedMismatch_456ae 43 = .ok (.getstatic 26, 3) := by decide +kernel
theorem dJ8_vectorizedMismatch_456ae_46 : decode cJ8_vectorizedMismatch_456ae 46 = .ok (.aload_n 3, 1) := by decide +kernel
theorem dJ8_vectorizedMismatch_456ae_47 : decode cJ8_vectorizedMismatch_456ae 47 = .ok (.lload 4, 2) := by decide +kernel
theorem dJ8_vectorizedMismatch_456ae_49 : decode cJ8_vectorizedMismatch_456ae 49 = .ok (.lload 10, 2) := by decide +kernel
theorem dJ8_vectorizedMismatch_456ae_51 : decode cJ8_vectorizedMismatch_456ae 51 = .ok (.ladd, 1) := by decide +kernel
theorem dJ8_vectorizedMismatch_456ae_52 : decode cJ8_vectorizedMismatch_456ae 52 = .ok (.invokevirtual 30, 3) := by decide +kernel
theorem dJ8_vectorizedMismatch_456ae_55 : decode cJ8_vectorizedMismatch_456ae 55 = .ok (.lstore 14, 2) := by decide +kernel
theorem dJ8_vectorizedMismatch_456ae_57 : decode cJ8_vectorizedMismatch_456ae 57 = .ok (.lload 12, 2) := by decide +kernel
theorem dJ8_vectorizedMismatch_456ae_59 : decode cJ8_vectorizedMismatch_456ae 59 = .ok (.lload 14, 2) := by decide +kernel
theorem dJ8_vectorizedMismatch_456ae_61 : decode cJ8_vectorizedMismatch_456ae 61 = .ok (.lcmp, 1) := by decide +kernel
theorem dJ8_vectorizedMismatch_456ae_62 : decode cJ8_vectorizedMismatch_456ae 62 = .ok (.ifCond .eq 54, 3) := by decide +kernel
theorem dJ8_vectorizedMismatch_456ae_65 : decode cJ8_vectorizedMismatch_456ae 65 = .ok (.lload 12, 2) := by decide +kernel
theorem dJ8_vectorizedMismatch_456ae_67 : decode cJ8_vectorizedMismatch_456ae 67 = .ok (.lload 14, 2) := by decide +kernel
theorem dJ8_vectorizedMismatch_456ae_69 : decode cJ8_vectorizedMismatch_456ae 69 = .ok (.lxor, 1) := by decide +kernel
theorem dJ8_vectorizedMismatch_456ae_70 : decode cJ8_vectorizedMismatch_456ae 70 = .ok (.lstore 16, 2) := by decide +kernel
theorem dJ8_vectorizedMismatch_456ae_72 : decode cJ8_vectorizedMismatch_456ae 72 = .ok (.getstatic 36, 3) := by decide +kernel
theorem dJ8_vectorizedMismatch_456ae_75 : decode cJ8_vectorizedMismatch_456ae 75 = .ok (.ifCond .eq 18, 3) := by decide +kernel
theorem dJ8_vectorizedMismatch_456ae_78 : decode cJ8_vectorizedMismatch_456ae 78 = .ok (.lload 16, 2) := by decide +kernel
theorem dJ8_vectorizedMismatch_456ae_80 : decode cJ8_vectorizedMismatch_456ae 80 = .ok (.invokestatic 40, 3) := by decide +kernel
theorem dJ8_vectorizedMismatch_456ae_83 : decode cJ8_vectorizedMismatch_456ae 83 = .ok (.getstatic 46, 3) := by decide +kernel
theorem dJ8_vectorizedMismatch_456ae_86 : decode cJ8_vectorizedMismatch_456ae 86 = .ok (.iload 7, 2) := by decide +kernel
theorem dJ8_vectorizedMismatch_456ae_88 : decode cJ8_vectorizedMismatch_456ae 88 = .ok (.iadd, 1) := by decide +kernel
theorem dJ8_vectorizedMismatch_456ae_89 : decode cJ8_vectorizedMismatch_456ae 89 = .ok (.ishr, 1) := by decide +kernel
theorem dJ8_vectorizedMismatch_456ae_90 : decode cJ8_vectorizedMismatch_456ae 90 = .ok (.goto 15, 3) := by decide +kernel
theorem dJ8_vectorizedMismatch_456ae_93 : decode cJ8_vectorizedMismatch_456ae 93 = .ok (.lload 16, 2) := by decide +kernel
theorem dJ8_vectorizedMismatch_456ae_95 : decode cJ8_vectorizedMismatch_456ae 95 = .ok (.invokestatic 49, 3) := by decide +kernel
theorem dJ8_vectorizedMismatch_456ae_98 : decode cJ8_vectorizedMismatch_456ae 98 = .ok (.getstatic 46, 3) := by decide +kernel
theorem dJ8_vectorizedMismatch_456ae_101 : decode cJ8_vectorizedMismatch_456ae 101 = .ok (.iload 7, 2) := by decide +kernel
theorem dJ8_vectorizedMismatch_456ae_103 : decode cJ8_vectorizedMismatch_456ae 103 = .ok (.iadd, 1) := by decide +kernel
theorem dJ8_vectorizedMismatch_456ae_104 : decode cJ8_vectorizedMismatch_456ae 104 = .ok (.ishr, 1) := by decide +kernel
theorem dJ8_vectorizedMismatch_456ae_105 : decode cJ8_vectorizedMismatch_456ae 105 = .ok (.istore 18, 2) := by decide +kernel
theorem dJ8_vectorizedMismatch_456ae_107 : decode cJ8_vectorizedMismatch_456ae 107 = .ok (.iload 9, 2) := by decide +kernel
theorem dJ8_vectorizedMismatch_456ae_109 : decode cJ8_vectorizedMismatch_456ae 109 = .ok (.iload 8, 2) := by decide +kernel
theorem dJ8_vectorizedMismatch_456ae_111 : decode cJ8_vectorizedMismatch_456ae 111 = .ok (.ishl, 1) := by decide +kernel
theorem dJ8_vectorizedMismatch_456ae_112 : decode cJ8_vectorizedMismatch_456ae 112 = .ok (.iload 18, 2) := by decide +kernel
theorem dJ8_vectorizedMismatch_456ae_114 : decode cJ8_vectorizedMismatch_456ae 114 = .ok (.iadd, 1) := by decide +kernel
theorem dJ8_vectorizedMismatch_456ae_115 : decode cJ8_vectorizedMismatch_456ae 115 = .ok (.ireturn, 1) := by decide +kernel
theorem dJ8_vectorizedMismatch_456ae_116 : decode cJ8_vectorizedMismatch_456ae 116 = .ok (.iinc 9 1, 3) := by decide +kernel
theorem dJ8_vectorizedMismatch_456ae_119 : decode cJ8_vectorizedMismatch_456ae 119 = .ok (.goto (-108), 3) := by decide +kernel
theorem dJ8_vectorizedMismatch_456ae_122 : decode cJ8_vectorizedMismatch_456ae 122 = .ok (.iload 6, 2) := by decide +kernel
theorem dJ8_vectorizedMismatch_456ae_124 : decode cJ8_vectorizedMismatch_456ae 124 = .ok (.iload 9, 2) := by decide +kernel
theorem dJ8_vectorizedMismatch_456ae_126 : decode cJ8_vectorizedMismatch_456ae 126 = .ok (.iload 8, 2) := by decide +kernel
theorem dJ8_vectorizedMismatch_456ae_128 : decode cJ8_vectorizedMismatch_456ae 128 = .ok (.ishl, 1) := by decide +kernel
theorem dJ8_vectorizedMismatch_456ae_129 : decode cJ8_vectorizedMismatch_456ae 129 = .ok (.isub, 1) := by decide +kernel
theorem dJ8_vectorizedMismatch_456ae_130 : decode cJ8_vectorizedMismatch_456ae 130 = .ok (.istore 10, 2) := by decide +kernel
theorem dJ8_vectorizedMismatch_456ae_132 : decode cJ8_vectorizedMismatch_456ae 132 = .ok (.iload 7, 2) := by decide +kernel
theorem dJ8_vectorizedMismatch_456ae_134 : decode cJ8_vectorizedMismatch_456ae 134 = .ok (.getstatic 51, 3) := by decide +kernel
theorem dJ8_vectorizedMismatch_456ae_137 : decode cJ8_vectorizedMismatch_456ae 137 = .ok (.if_icmp .ge 126, 3) := by decide +kernel
theorem dJ8_vectorizedMismatch_456ae_140 : decode cJ8_vectorizedMismatch_456ae 140 = .ok (.iconst 1, 1) := by decide +kernel
theorem dJ8_vectorizedMismatch_456ae_141 : decode cJ8_vectorizedMismatch_456ae 141 = .ok (.getstatic 51, 3) := by decide +kernel
theorem dJ8_vectorizedMismatch_456ae_144 : decode cJ8_vectorizedMismatch_456ae 144 = .ok (.iload 7, 2) := by decide +kernel
theorem dJ8_vectorizedMismatch_456ae_146 : decode cJ8_vectorizedMismatch_456ae 146 = .ok (.isub, 1) := by decide +kernel
theorem dJ8_vectorizedMismatch_456ae_147 : decode cJ8_vectorizedMismatch_456ae 147 = .ok (.ishl, 1) := by decide +kernel
theorem dJ8_vectorizedMismatch_456ae_148 : decode cJ8_vectorizedMismatch_456ae 148 = .ok (.istore 11, 2) := by decide +kernel
theorem dJ8_vectorizedMismatch_456ae_150 : decode cJ8_vectorizedMismatch_456ae 150 = .ok (.iload 10, 2) := by decide +kernel
theorem dJ8_vectorizedMismatch_456ae_152 : decode cJ8_vectorizedMismatch_456ae 152 = .ok (.iload 11, 2) := by decide +kernel
theorem dJ8_vectorizedMismatch_456ae_154 : decode cJ8_vectorizedMismatch_456ae 154 = .ok (.if_icmp .lt 104, 3) := by decide +kernel
theorem dJ8_vectorizedMismatch_456ae_157 : decode cJ8_vectorizedMismatch_456ae 157 = .ok (.iload 9, 2) := by decide +kernel
theorem dJ8_vectorizedMismatch_456ae_159 : decode cJ8_vectorizedMismatch_456ae 159 = .ok (.i2l, 1) := by decide +kernel
theorem dJ8_vectorizedMismatch_456ae_160 : decode cJ8_vectorizedMismatch_456ae 160 = .ok (.getstatic 20, 3) := by decide +kernel
theorem dJ8_vectorizedMismatch_456ae_163 : decode cJ8_vectorizedMismatch_456ae 163 = .ok (.lshl, 1) := by decide +kernel
theorem dJ8_vectorizedMismatch_456ae_164 : decode cJ8_vectorizedMismatch_456ae 164 = .ok (.lstore 12, 2) := by decide +kernel
theorem dJ8_vectorizedMismatch_456ae_166 : decode cJ8_vectorizedMismatch_456ae 166 = .ok (.getstatic 26, 3) := by decide +kernel
theorem dJ8_vectorizedMismatch_456ae_169 : decode cJ8_vectorizedMismatch_456ae 169 = .ok (.aload_n 0, 1) := by decide +kernel
theorem dJ8_vectorizedMismatch_456ae_170 : decode cJ8_vectorizedMismatch_456ae 170 = .ok (.lload_n 1, 1) := by decide +kernel
theorem dJ8_vectorizedMismatch_456ae_171 : decode cJ8_vectorizedMismatch_456ae 171 = .ok (.lload 12, 2) := by decide +kernel
theorem dJ8_vectorizedMismatch_456ae_173 : decode cJ8_vectorizedMismatch_456ae 173 = .ok (.ladd, 1) := by decide +kernel
theorem dJ8_vectorizedMismatch_456ae_174 : decode cJ8_vectorizedMismatch_456ae 174 = .ok (.invokevirtual 54, 3) := by decide +kernel
theorem dJ8_vectorizedMismatch_456ae_177 : decode cJ8_vectorizedMismatch_456ae 177 = .ok (.istore 14, 2) := by decide +kernel
theorem dJ8_vectorizedMismatch_456ae_179 : decode cJ8_vectorizedMismatch_456ae 179 = .ok (.getstatic 26, 3) := by decide +kernel
theorem dJ8_vectorizedMismatch_456ae_182 : decode cJ8_vectorizedMismatch_456ae 182 = .ok (.aload_n 3, 1) := by decide +kernel
theorem dJ8_vectorizedMismatch_456ae_183 : decode cJ8_vectorizedMismatch_456ae 183 = .ok (.lload 4, 2) := by decide +kernel
theorem dJ8_vectorizedMismatch_456ae_185 : decode cJ8_vectorizedMismatch_456ae 185 = .ok (.lload 12, 2) := by decide +kernel
theorem dJ8_vectorizedMismatch_456ae_187 : decode cJ8_vectorizedMismatch_456ae 187 = .ok (.ladd, 1) := by decide +kernel
theorem dJ8_vectorizedMismatch_456ae_188 : decode cJ8_vectorizedMismatch_456ae 188 = .ok (.invokevirtual 54, 3) := by decide +kernel
theorem dJ8_vectorizedMismatch_456ae_191 : decode cJ8_vectorizedMismatch_456ae 191 = .ok (.istore 15, 2) := by decide +kernel
theorem dJ8_vectorizedMismatch_456ae_193 : decode cJ8_vectorizedMismatch_456ae 193 = .ok (.iload 14, 2) := by decide +kernel
theorem dJ8_vectorizedMismatch_456ae_195 : decode cJ8_vectorizedMismatch_456ae 195 = .ok (.iload 15, 2) := by decide +kernel
theorem dJ8_vectorizedMismatch_456ae_197 : decode cJ8_vectorizedMismatch_456ae 197 = .ok (.if_icmp .eq 54, 3) := by decide +kernel
theorem dJ8_vectorizedMismatch_456ae_200 : decode cJ8_vectorizedMismatch_456ae 200 = .ok (.iload 14, 2) := by decide +kernel
theorem dJ8_vectorizedMismatch_456ae_202 : decode cJ8_vectorizedMismatch_456ae 202 = .ok (.iload 15, 2) := by decide +kernel
theorem dJ8_vectorizedMismatch_456ae_204 : decode cJ8_vectorizedMismatch_456ae 204 = .ok (.ixor, 1) := by decide +kernel
theorem dJ8_vectorizedMismatch_456ae_205 : decode cJ8_vectorizedMismatch_456ae 205 = .ok (.istore 16, 2) := by decide +kernel
theorem dJ8_vectorizedMismatch_456ae_207 : decode cJ8_vectorizedMismatch_456ae 207 = .ok (.getstatic 36, 3) := by decide +kernel
theorem dJ8_vectorizedMismatch_456ae_210 : decode cJ8_vectorizedMismatch_456ae 210 = .ok (.ifCond .eq 18, 3) := by decide +kernel
theorem dJ8_vectorizedMismatch_456ae_213 : decode cJ8_vectorizedMismatch_456ae 213 = .ok (.iload 16, 2) := by decide +kernel
theorem dJ8_vectorizedMismatch_456ae_215 : decode cJ8_vectorizedMismatch_456ae 215 = .ok (.invokestatic 58, 3) := by decide +kernel
theorem dJ8_vectorizedMismatch_456ae_218 : decode cJ8_vectorizedMismatch_456ae 218 = .ok (.getstatic 46, 3) := by decide +kernel
theorem dJ8_vectorizedMismatch_456ae_221 : decode cJ8_vectorizedMismatch_456ae 221 = .ok (.iload 7, 2) := by decide +kernel
theorem dJ8_vectorizedMismatch_456ae_223 : decode cJ8_vectorizedMismatch_456ae 223 = .ok (.iadd, 1) := by decide +kernel
theorem dJ8_vectorizedMismatch_456ae_224 : decode cJ8_vectorizedMismatch_456ae 224 = .ok (.ishr, 1) := by decide +kernel
theorem dJ8_vectorizedMismatch_456ae_225 : decode cJ8_vectorizedMismatch_456ae 225 = .ok (.goto 15, 3) := by decide +kernel
theorem dJ8_vectorizedMismatch_456ae_228 : decode cJ8_vectorizedMismatch_456ae 228 = .ok (.iload 16, 2) := by decide +kernel
theorem dJ8_vectorizedMismatch_456ae_230 : decode cJ8_vectorizedMismatch_456ae 230 = .ok (.invokestatic 11, 3) := by decide +kernel
theorem dJ8_vectorizedMismatch_456ae_233 : decode cJ8_vectorizedMismatch_456ae 233 = .ok (.getstatic 46, 3) := by decide +kernel
theorem dJ8_vectorizedMismatch_456ae_236 : decode cJ8_vectorizedMismatch_456ae 236 = .ok (.iload 7, 2) := by decide +kernel
theorem dJ8_vectorizedMismatch_456ae_238 : decode cJ8_vectorizedMismatch_456ae 238 = .ok (.iadd, 1) := by decide +kernel
theorem dJ8_vectorizedMismatch_456ae_239 : decode cJ8_vectorizedMismatch_456ae 239 = .ok (.ishr, 1) := by decide +kernel
theorem dJ8_vectorizedMismatch_456ae_240 : decode cJ8_vectorizedMismatch_456ae 240 = .ok (.istore 17, 2) := by decide +kernel
theorem dJ8_vectorizedMismatch_456ae_242 : decode cJ8_vectorizedMismatch_456ae 242 = .ok (.iload 9, 2) := by decide +kernel
theorem dJ8_vectorizedMismatch_456ae_244 : decode cJ8_vectorizedMismatch_456ae 244 = .ok (.iload 8, 2) := by decide +kernel
theorem dJ8_vectorizedMismatch_456ae_246 : decode cJ8_vectorizedMismatch_456ae 246 = .ok (.ishl, 1) := by decide +kernel
theorem dJ8_vectorizedMismatch_456ae_247 : decode cJ8_vectorizedMismatch_456ae 247 = .ok (.iload 17, 2) := by decide +kernel
theorem dJ8_vectorizedMismatch_456ae_249 : decode cJ8_vectorizedMismatch_456ae 249 = .ok (.iadd, 1) := by decide +kernel
theorem dJ8_vectorizedMismatch_456ae_250 : decode cJ8_vectorizedMismatch_456ae 250 = .ok (.ireturn, 1) := by decide +kernel
theorem dJ8_vectorizedMismatch_456ae_251 : decode cJ8_vectorizedMismatch_456ae 251 = .ok (.iload 10, 2) := by decide +kernel
theorem dJ8_vectorizedMismatch_456ae_253 : decode cJ8_vectorizedMismatch_456ae 253 = .ok (.iload 11, 2) := by decide +kernel
theorem dJ8_vectorizedMismatch_456ae_255 : decode cJ8_vectorizedMismatch_456ae 255 = .ok (.isub, 1) := by decide +kernel
theorem dJ8_vectorizedMismatch_456ae_256 : decode cJ8_vectorizedMismatch_456ae 256 = .ok (.istore 10, 2) := by decide +kernel
theorem dJ8_vectorizedMismatch_456ae_258 : decode cJ8_vectorizedMismatch_456ae 258 = .ok (.iload 10, 2) := by decide +kernel
theorem dJ8_vectorizedMismatch_456ae_260 : decode cJ8_vectorizedMismatch_456ae 260 = .ok (.iconst (-1), 1) := by decide +kernel
theorem dJ8_vectorizedMismatch_456ae_261 : decode cJ8_vectorizedMismatch_456ae 261 = .ok (.ixor, 1) := by decide +kernel
theorem dJ8_vectorizedMismatch_456ae_262 : decode cJ8_vectorizedMismatch_456ae 262 = .ok (.ireturn, 1) := by decide +kernel
theorem dJ8_vectorizedMismatch_456ae_263 : decode cJ8_vectorizedMismatch_456ae 263 = .ok (.iload 10, 2) := by decide +kernel
theorem dJ8_vectorizedMismatch_456ae_265 : decode cJ8_vectorizedMismatch_456ae 265 = .ok (.iconst (-1), 1) := by decide +kernel
theorem dJ8_vectorizedMismatch_456ae_266 : decode cJ8_vectorizedMismatch_456ae 266 = .ok (.ixor, 1) := by decide +kernel
theorem dJ8_vectorizedMismatch_456ae_267 : decode cJ8_vectorizedMismatch_456ae 267 = .ok (.ireturn, 1) := by decide +kernel
theorem dJ8_mismatch_05dfe_0 : decode cJ8_mismatch_05dfe 0 = .ok (.iconst 0, 1) := by decide +kernel
theorem dJ8_mismatch_05dfe_1 : decode cJ8_mismatch_05dfe 1 = .ok (.istore_n 3, 1) := by decide +kernel
theorem dJ8_mismatch_05dfe_2 : decode cJ8_mismatch_05dfe 2 = .ok (.iload_n 2, 1) := by decide +kernel
theorem dJ8_mismatch_05dfe_3 : decode cJ8_mismatch_05dfe 3 = .ok (.iconst 1, 1) := by decide +kernel
theorem dJ8_mismatch_05dfe_4 : decode cJ8_mismatch_05dfe 4 = .ok (.if_icmp .le 44, 3) := by decide +kernel
theorem dJ8_mismatch_05dfe_7 : decode cJ8_mismatch_05dfe 7 = .ok (.aload_n 0, 1) := by decide +kernel
theorem dJ8_mismatch_05dfe_8 : decode cJ8_mismatch_05dfe 8 = .ok (.iconst 0, 1) := by decide +kernel
theorem dJ8_mismatch_05dfe_9 : decode cJ8_mismatch_05dfe 9 = .ok (.iaload, 1) := by decide +kernel
theorem dJ8_mismatch_05dfe_10 : decode cJ8_mismatch_05dfe 10 = .ok (.aload_n 1, 1) := by decide +kernel
theorem dJ8_mismatch_05dfe_11 : decode cJ8_mismatch_05dfe 11 = .ok (.iconst 0, 1) := by decide +kernel
theorem dJ8_mismatch_05dfe_12 : decode cJ8_mismatch_05dfe 12 = .ok (.iaload, 1) := by decide +kernel
theorem dJ8_mismatch_05dfe_13 : decode cJ8_mismatch_05dfe 13 = .ok (.if_icmp .eq 5, 3) := by decide +kernel
theorem dJ8_mismatch_05dfe_16 : decode cJ8_mismatch_05dfe 16 = .ok (.iconst 0, 1) := by decide +kernel
theorem dJ8_mismatch_05dfe_17 : decode cJ8_mismatch_05dfe 17 = .ok (.ireturn, 1) := by decide +kernel
theorem dJ8_mismatch_05dfe_18 : decode cJ8_mismatch_05dfe 18 = .ok (.aload_n 0, 1) := by decide +kernel
theorem dJ8_mismatch_05dfe_19 : decode cJ8_mismatch_05dfe 19 = .ok (.getstatic 144, 3) := by decide +kernel
theorem dJ8_mismatch_05dfe_22 : decode cJ8_mismatch_05dfe 22 = .ok (.i2l, 1) := by decide +kernel
theorem dJ8_mismatch_05dfe_23 : decode cJ8_mismatch_05dfe 23 = .ok (.aload_n 1, 1) := by decide +kernel
theorem dJ8_mismatch_05dfe_24 : decode cJ8_mismatch_05dfe 24 = .ok (.getstatic 144, 3) := by decide +kernel
theorem dJ8_mismatch_05dfe_27 : decode cJ8_mismatch_05dfe 27 = .ok (.i2l, 1) := by decide +kernel
theorem dJ8_mismatch_05dfe_28 : decode cJ8_mismatch_05dfe 28 = .ok (.iload_n 2, 1) := by decide +kernel
theorem dJ8_mismatch_05dfe_29 : decode cJ8_mismatch_05dfe 29 = .ok (.getstatic 51, 3) := by decide +kernel
theorem dJ8_mismatch_05dfe_32 : decode cJ8_mismatch_05dfe 32 = .ok (.invokestatic 122, 3) := by decide +kernel
theorem dJ8_mismatch_05dfe_35 : decode cJ8_mismatch_05dfe 35 = .ok (.istore_n 3, 1) := by decide +kernel
theorem dJ8_mismatch_05dfe_36 : decode cJ8_mismatch_05dfe 36 = .ok (.iload_n 3, 1) := by decide +kernel
theorem dJ8_mismatch_05dfe_37 : decode cJ8_mismatch_05dfe 37 = .ok (.ifCond .lt 5, 3) := by decide +kernel
theorem dJ8_mismatch_05dfe_40 : decode cJ8_mismatch_05dfe 40 = .ok (.iload_n 3, 1) := by decide +kernel
theorem dJ8_mismatch_05dfe_41 : decode cJ8_mismatch_05dfe 41 = .ok (.ireturn, 1) := by decide +kernel
theorem dJ8_mismatch_05dfe_42 : decode cJ8_mismatch_05dfe 42 = .ok (.iload_n 2, 1) := by decide +kernel
theorem dJ8_mismatch_05dfe_43 : decode cJ8_mismatch_05dfe 43 = .ok (.iload_n 3, 1) := by decide +kernel
theorem dJ8_mismatch_05dfe_44 : decode cJ8_mismatch_05dfe 44 = .ok (.iconst (-1), 1) := by decide +kernel
theorem dJ8_mismatch_05dfe_45 : decode cJ8_mismatch_05dfe 45 = .ok (.ixor, 1) := by decide +kernel
theorem dJ8_mismatch_05dfe_46 : decode cJ8_mismatch_05dfe 46 = .ok (.isub, 1) := by decide +kernel
theorem dJ8_mismatch_05dfe_47 : decode cJ8_mismatch_05dfe 47 = .ok (.istore_n 3, 1) := by decide +kernel
theorem dJ8_mismatch_05dfe_48 : decode cJ8_mismatch_05dfe 48 = .ok (.iload_n 3, 1) := by decide +kernel
theorem dJ8_mismatch_05dfe_49 : decode cJ8_mismatch_05dfe 49 = .ok (.iload_n 2, 1) := by decide +kernel
theorem dJ8_mismatch_05dfe_50 : decode cJ8_mismatch_05dfe 50 = .ok (.if_icmp .ge 20, 3) := by decide +kernel
theorem dJ8_mismatch_05dfe_53 : decode cJ8_mismatch_05dfe 53 = .ok (.aload_n 0, 1) := by decide +kernel
theorem dJ8_mismatch_05dfe_54 : decode cJ8_mismatch_05dfe 54 = .ok (.iload_n 3, 1) := by decide +kernel
theorem dJ8_mismatch_05dfe_55 : decode cJ8_mismatch_05dfe 55 = .ok (.iaload, 1) := by decide +kernel
theorem dJ8_mismatch_05dfe_56 : decode cJ8_mismatch_05dfe 56 = .ok (.aload_n 1, 1) := by decide +kernel
theorem dJ8_mismatch_05dfe_57 : decode cJ8_mismatch_05dfe 57 = .ok (.iload_n 3, 1) := by decide +kernel
theorem dJ8_mismatch_05dfe_58 : decode cJ8_mismatch_05dfe 58 = .ok (.iaload, 1) := by decide +kernel
theorem dJ8_mismatch_05dfe_59 : decode cJ8_mismatch_05dfe 59 = .ok (.if_icmp .eq 5, 3) := by decide +kernel
theorem dJ8_mismatch_05dfe_62 : decode cJ8_mismatch_05dfe 62 = .ok (.iload_n 3, 1) := by decide +kernel
theorem dJ8_mismatch_05dfe_63 : decode cJ8_mismatch_05dfe 63 = .ok (.ireturn, 1) := by decide +kernel
theorem dJ8_mismatch_05dfe_64 : decode cJ8_mismatch_05dfe 64 = .ok (.iinc 3 1, 3) := by decide +kernel
theorem dJ8_mismatch_05dfe_67 : decode cJ8_mismatch_05dfe 67 = .ok (.goto (-19), 3) := by decide +kernel
theorem dJ8_mismatch_05dfe_70 : decode cJ8_mismatch_05dfe 70 = .ok (.iconst (-1), 1) := by decide +kernel
theorem dJ8_mismatch_05dfe_71 : decode cJ8_mismatch_05dfe 71 = .ok (.ireturn, 1) := by decide +kernel
