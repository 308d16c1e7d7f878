theorem dX12_press_10 : decode cX12_press 10 = .ok (.aload_n 0, 1) := by decide +kernel
theorem dX12_press_11 : decode cX12_press 11 = .ok (.iload_n 1, 1) := by decide +kernel
theorem dX12_press_12 : decode cX12_press 12 = .ok (.invokevirtual 164, 3) := by decide +kernel
theorem dX12_press_15 : decode cX12_press 15 = .ok (.invokevirtual 185, 3) := by decide +kernel
theorem dX12_press_18 : decode cX12_press 18 = .ok (.invokevirtual 123, 3) := by decide +kernel
theorem dX12_press_21 : decode cX12_press 21 = .ok (.goto 4, 3) := by decide +kernel
theorem dX12_press_24 : decode cX12_press 24 = .ok (.iconst (-1), 1) := by decide +kernel
theorem dX12_press_25 : decode cX12_press 25 = .ok (.ireturn, 1) := by decide +kernel
theorem dX12_rounds_0 : decode cX12_rounds 0 = .ok (.aload_n 0, 1) := by decide +kernel
theorem dX12_rounds_1 : decode cX12_rounds 1 = .ok (.iload_n 1, 1) := by decide +kernel
theorem dX12_rounds_2 : decode cX12_rounds 2 = .ok (.invokevirtual 127, 3) := by decide +kernel
theorem dX12_rounds_5 : decode cX12_rounds 5 = .ok (.ifCond .ne 5, 3) := by decide +kernel
theorem dX12_rounds_8 : decode cX12_rounds 8 = .ok (.iconst (-1), 1) := by decide +kernel
theorem dX12_rounds_9 : decode cX12_rounds 9 = .ok (.ireturn, 1) := by decide +kernel
theorem dX12_rounds_10 : decode cX12_rounds 10 = .ok (.aload_n 0, 1) := by decide +kernel
theorem dX12_rounds_11 : decode cX12_rounds 11 = .ok (.aload_n 0, 1) := by decide +kernel
theorem dX12_rounds_12 : decode cX12_rounds 12 = .ok (.iload_n 1, 1) := by decide +kernel
theorem dX12_rounds_13 : decode cX12_rounds 13 = .ok (.invokevirtual 164, 3) := by decide +kernel
theorem dX12_rounds_16 : decode cX12_rounds 16 = .ok (.invokevirtual 185, 3) := by decide +kernel
theorem dX12_rounds_19 : decode cX12_rounds 19 = .ok (.lstore_n 2, 1) := by decide +kernel
theorem dX12_rounds_20 : decode cX12_rounds 20 = .ok (.aload_n 0, 1) := by decide +kernel
theorem dX12_rounds_21 : decode cX12_rounds 21 = .ok (.getfield 178, 3) := by decide +kernel
theorem dX12_rounds_24 : decode cX12_rounds 24 = .ok (.ireturn, 1) := by decide +kernel
theorem dX12_is_0 : decode cX12_is 0 = .ok (.aload_n 0, 1) := by decide +kernel
theorem dX12_is_1 : decode cX12_is 1 = .ok (.iload_n 1, 1) := by decide +kernel
theorem dX12_is_2 : decode cX12_is 2 = .ok (.invokevirtual 127, 3) := by decide +kernel
theorem dX12_is_5 : decode cX12_is 5 = .ok (.ifCond .eq 15, 3) := by decide +kernel
theorem dX12_is_8 : decode cX12_is 8 = .ok (.iload_n 2, 1) := by decide +kernel
theorem dX12_is_9 : decode cX12_is 9 = .ok (.i2l, 1) := by decide +kernel
theorem dX12_is_10 : decode cX12_is 10 = .ok (.lconst 0, 1) := by decide +kernel
theorem dX12_is_11 : decode cX12_is 11 = .ok (.ldc2_w 188, 3) := by decide +kernel
theorem dX12_is_14 : decode cX12_is 14 = .ok (.invokestatic 100, 3) := by decide +kernel
theorem dX12_is_17 : decode cX12_is 17 = .ok (.ifCond .ne 5, 3) := by decide +kernel
theorem dX12_is_20 : decode cX12_is 20 = .ok (.iconst (-1), 1) := by decide +kernel
theorem dX12_is_21 : decode cX12_is 21 = .ok (.ireturn, 1) := by decide +kernel
theorem dX12_is_22 : decode cX12_is 22 = .ok (.aload_n 0, 1) := by decide +kernel
theorem dX12_is_23 : decode cX12_is 23 = .ok (.iload_n 1, 1) := by decide +kernel
theorem dX12_is_24 : decode cX12_is 24 = .ok (.invokevirtual 164, 3) := by decide +kernel
theorem dX12_is_27 : decode cX12_is 27 = .ok (.lstore_n 3, 1) := by decide +kernel
theorem dX12_is_28 : decode cX12_is 28 = .ok (.iload_n 2, 1) := by decide +kernel
theorem dX12_is_29 : decode cX12_is 29 = .ok (.iconst 3, 1) := by decide +kernel
theorem dX12_is_30 : decode cX12_is 30 = .ok (.if_icmp .ne 17, 3) := by decide +kernel
theorem dX12_is_33 : decode cX12_is 33 = .ok (.aload_n 0, 1) := by decide +kernel
theorem dX12_is_34 : decode cX12_is 34 = .ok (.lload_n 3, 1) := by decide +kernel
theorem dX12_is_35 : decode cX12_is 35 = .ok (.invokevirtual 181, 3) := by decide +kernel
theorem dX12_is_38 : decode cX12_is 38 = .ok (.ifCond .eq 7, 3) := by decide +kernel
theorem dX12_is_41 : decode cX12_is 41 = .ok (.iconst 1, 1) := by decide +kernel
theorem dX12_is_42 : decode cX12_is 42 = .ok (.goto 4, 3) := by decide +kernel
theorem dX12_is_45 : decode cX12_is 45 = .ok (.iconst 0, 1) := by decide +kernel
theorem dX12_is_46 : decode cX12_is 46 = .ok (.ireturn, 1) := by decide +kernel
theorem dX12_is_47 : decode cX12_is 47 = .ok (.iconst 1, 1) := by decide +kernel
theorem dX12_is_48 : decode cX12_is 48 = .ok (.istore 5, 2) := by decide +kernel
theorem dX12_is_50 : decode cX12_is 50 = .ok (.iconst 0, 1) := by decide +kernel
theorem dX12_is_51 : decode cX12_is 51 = .ok (.istore 6, 2) := by decide +kernel
theorem dX12_is_53 : decode cX12_is 53 = .ok (.iload 6, 2) := by decide +kernel
theorem dX12_is_55 : decode cX12_is 55 = .ok (.aload_n 0, 1) := by decide +kernel
theorem dX12_is_56 : decode cX12_is 56 = .ok (.invokevirtual 115, 3) := by decide +kernel
theorem dX12_is_59 : decode cX12_is 59 = .ok (.if_icmp .ge 129, 3) := by decide +kernel
theorem dX12_is_62 : decode cX12_is 62 = .ok (.iconst 0, 1) := by decide +kernel
theorem dX12_is_63 : decode cX12_is 63 = .ok (.istore 7, 2) := by decide +kernel
theorem dX12_is_65 : decode cX12_is 65 = .ok (.iload 7, 2) := by decide +kernel
theorem dX12_is_67 : decode cX12_is 67 = .ok (.aload_n 0, 1) := by decide +kernel
theorem dX12_is_68 : decode cX12_is 68 = .ok (.invokevirtual 115, 3) := by decide +kernel
theorem dX12_is_71 : decode cX12_is 71 = .ok (.if_icmp .ge 111, 3) := by decide +kernel
theorem dX12_is_74 : decode cX12_is 74 = .ok (.lload_n 3, 1) := by decide +kernel
theorem dX12_is_75 : decode cX12_is 75 = .ok (.iload 6, 2) := by decide +kernel
theorem dX12_is_77 : decode cX12_is 77 = .ok (.invokestatic 139, 3) := by decide +kernel
theorem dX12_is_80 : decode cX12_is 80 = .ok (.ifCond .eq 102, 3) := by decide +kernel
theorem dX12_is_83 : decode cX12_is 83 = .ok (.iload_n 2, 1) := by decide +kernel
theorem dX12_is_84 : decode cX12_is 84 = .ok (.iconst 2, 1) := by decide +kernel
theorem dX12_is_85 : decode cX12_is 85 = .ok (.if_icmp .ne 35, 3) := by decide +kernel
theorem dX12_is_88 : decode cX12_is 88 = .ok (.iload 5, 2) := by decide +kernel
theorem dX12_is_90 : decode cX12_is 90 = .ok (.iload 6, 2) := by decide +kernel
theorem dX12_is_92 : decode cX12_is 92 = .ok (.iload 7, 2) := by decide +kernel
theorem dX12_is_94 : decode cX12_is 94 = .ok (.iand, 1) := by decide +kernel
theorem dX12_is_95 : decode cX12_is 95 = .ok (.iload 7, 2) := by decide +kernel
theorem dX12_is_97 : decode cX12_is 97 = .ok (.if_icmp .ne 12, 3) := by decide +kernel
theorem dX12_is_100 : decode cX12_is 100 = .ok (.lload_n 3, 1) := by decide +kernel
theorem dX12_is_101 : decode cX12_is 101 = .ok (.iload 7, 2) := by decide +kernel
theorem dX12_is_103 : decode cX12_is 103 = .ok (.invokestatic 139, 3) := by decide +kernel
theorem dX12_is_106 : decode cX12_is 106 = .ok (.ifCond .eq 7, 3) := by decide +kernel
theorem dX12_is_109 : decode cX12_is 109 = .ok (.iconst 1, 1) := by decide +kernel
theorem dX12_is_110 : decode cX12_is 110 = .ok (.goto 4, 3) := by decide +kernel
theorem dX12_is_113 : decode cX12_is 113 = .ok (.iconst 0, 1) := by decide +kernel
theorem dX12_is_114 : decode cX12_is 114 = .ok (.iand, 1) := by decide +kernel
theorem dX12_is_115 : decode cX12_is 115 = .ok (.istore 5, 2) := by decide +kernel
theorem dX12_is_117 : decode cX12_is 117 = .ok (.goto 59, 3) := by decide +kernel
theorem dX12_is_120 : decode cX12_is 120 = .ok (.lload_n 3, 1) := by decide +kernel
theorem dX12_is_121 : decode cX12_is 121 = .ok (.iload 7, 2) := by decide +kernel
theorem dX12_is_123 : decode cX12_is 123 = .ok (.invokestatic 139, 3) := by decide +kernel
theorem dX12_is_126 : decode cX12_is 126 = .ok (.ifCond .eq 50, 3) := by decide +kernel
theorem dX12_is_129 : decode cX12_is 129 = .ok (.iload 5, 2) := by decide +kernel
theorem dX12_is_131 : decode cX12_is 131 = .ok (.iload_n 2, 1) := by decide +kernel
theorem dX12_is_132 : decode cX12_is 132 = .ok (.ifCond .ne 28, 3) := by decide +kernel
theorem dX12_is_135 : decode cX12_is 135 = .ok (.iload 6, 2) := by decide +kernel
theorem dX12_is_137 : decode cX12_is 137 = .ok (.iload 7, 2) := by decide +kernel
theorem dX12_is_139 : decode cX12_is 139 = .ok (.if_icmp .eq 13, 3) := by decide +kernel
theorem dX12_is_142 : decode cX12_is 142 = .ok (.iload 6, 2) := by decide +kernel
theorem dX12_is_144 : decode cX12_is 144 = .ok (.iload 7, 2) := by decide +kernel
theorem dX12_is_146 : decode cX12_is 146 = .ok (.iand, 1) := by decide +kernel
theorem dX12_is_147 : decode cX12_is 147 = .ok (.iload 6, 2) := by decide +kernel
theorem dX12_is_149 : decode cX12_is 149 = .ok (.if_icmp .eq 7, 3) := by decide +kernel
theorem dX12_is_152 : decode cX12_is 152 = .ok (.iconst 1, 1) := by decide +kernel
theorem dX12_is_153 : decode cX12_is 153 = .ok (.goto 20, 3) := by decide +kernel
theorem dX12_is_156 : decode cX12_is 156 = .ok (.iconst 0, 1) := by decide +kernel
theorem dX12_is_157 : decode cX12_is 157 = .ok (.goto 16, 3) := by decide +kernel
theorem dX12_is_160 : decode cX12_is 160 = .ok (.iload 6, 2) := by decide +kernel
theorem dX12_is_162 : decode cX12_is 162 = .ok (.iload 7, 2) := by decide +kernel
theorem dX12_is_164 : decode cX12_is 164 = .ok (.iand, 1) := by decide +kernel
theorem dX12_is_165 : decode cX12_is 165 = .ok (.ifCond .eq 7, 3) := by decide +kernel
theorem dX12_is_168 : decode cX12_is 168 = .ok (.iconst 1, 1) := by decide +kernel
theorem dX12_is_169 : decode cX12_is 169 = .ok (.goto 4, 3) := by decide +kernel
theorem dX12_is_172 : decode cX12_is 172 = .ok (.iconst 0, 1) := by decide +kernel
theorem dX12_is_173 : decode cX12_is 173 = .ok (.iand, 1) := by decide +kernel
theorem dX12_is_174 : decode cX12_is 174 = .ok (.istore 5, 2) := by decide +kernel
theorem dX12_is_176 : decode cX12_is 176 = .ok (.iinc 7 1, 3) := by decide +kernel
theorem dX12_is_179 : decode cX12_is 179 = .ok (.goto (-114), 3) := by decide +kernel
theorem dX12_is_182 : decode cX12_is 182 = .ok (.iinc 6 1, 3) := by decide +kernel
theorem dX12_is_185 : decode cX12_is 185 = .ok (.goto (-132), 3) := by decide +kernel
theorem dX12_is_188 : decode cX12_is 188 = .ok (.iload 5, 2) := by decide +kernel
theorem dX12_is_190 : decode cX12_is 190 = .ok (.ifCond .eq 7, 3) := by decide +kernel
theorem dX12_is_193 : decode cX12_is 193 = .ok (.iconst 1, 1) := by decide +kernel
theorem dX12_is_194 : decode cX12_is 194 = .ok (.goto 4, 3) := by decide +kernel
theorem dX12_is_197 : decode cX12_is 197 = .ok (.iconst 0, 1) := by decide +kernel
theorem dX12_is_198 : decode cX12_is 198 = .ok (.ireturn, 1) := by decide +kernel
theorem dX12_profileOf_0 : decode cX12_profileOf 0 = .ok (.iconst 0, 1) := by decide +kernel
theorem dX12_profileOf_1 : decode cX12_profileOf 1 = .ok (.istore 4, 2) := by decide +kernel
theorem dX12_profileOf_3 : decode cX12_profileOf 3 = .ok (.iconst 0, 1) := by decide +kernel
theorem dX12_profileOf_4 : decode cX12_profileOf 4 = .ok (.istore 5, 2) := by decide +kernel
theorem dX12_profileOf_6 : decode cX12_profileOf 6 = .ok (.iload 5, 2) := by decide +kernel
theorem dX12_profileOf_8 : decode cX12_profileOf 8 = .ok (.aload_n 0, 1) := by decide +kernel
theorem dX12_profileOf_9 : decode cX12_profileOf 9 = .ok (.invokevirtual 115, 3) := by decide +kernel
theorem dX12_profileOf_12 : decode cX12_profileOf 12 = .ok (.if_icmp .ge 38, 3) := by decide +kernel
theorem dX12_profileOf_15 : decode cX12_profileOf 15 = .ok (.iload 4, 2) := by decide +kernel
theorem dX12_profileOf_17 : decode cX12_profileOf 17 = .ok (.lload_n 1, 1) := by decide +kernel
theorem dX12_profileOf_18 : decode cX12_profileOf 18 = .ok (.iload 5, 2) := by decide +kernel
theorem dX12_profileOf_20 : decode cX12_profileOf 20 = .ok (.invokestatic 139, 3) := by decide +kernel
theorem dX12_profileOf_23 : decode cX12_profileOf 23 = .ok (.ifCond .eq 17, 3) := by decide +kernel
theorem dX12_profileOf_26 : decode cX12_profileOf 26 = .ok (.iload 5, 2) := by decide +kernel
theorem dX12_profileOf_28 : decode cX12_profileOf 28 = .ok (.i2l, 1) := by decide +kernel
theorem dX12_profileOf_29 : decode cX12_profileOf 29 = .ok (.invokestatic 147, 3) := by decide +kernel
theorem dX12_profileOf_32 : decode cX12_profileOf 32 = .ok (.iload_n 3, 1) := by decide +kernel
theorem dX12_profileOf_33 : decode cX12_profileOf 33 = .ok (.if_icmp .ne 7, 3) := by decide +kernel
theorem dX12_profileOf_36 : decode cX12_profileOf 36 = .ok (.iconst 1, 1) := by decide +kernel
theorem dX12_profileOf_37 : decode cX12_profileOf 37 = .ok (.goto 4, 3) := by decide +kernel
theorem dX12_profileOf_40 : decode cX12_profileOf 40 = .ok (.iconst 0, 1) := by decide +kernel
theorem dX12_profileOf_41 : decode cX12_profileOf 41 = .ok (.iadd, 1) := by decide +kernel
theorem dX12_profileOf_42 : decode cX12_profileOf 42 = .ok (.istore 4, 2) := by decide +kernel
theorem dX12_profileOf_44 : decode cX12_profileOf 44 = .ok (.iinc 5 1, 3) := by decide +kernel
theorem dX12_profileOf_47 : decode cX12_profileOf 47 = .ok (.goto (-41), 3) := by decide +kernel
theorem dX12_profileOf_50 : decode cX12_profileOf 50 = .ok (.iload 4, 2) := by decide +kernel
theorem dX12_profileOf_52 : decode cX12_profileOf 52 = .ok (.ireturn, 1) := by decide +kernel
theorem dX12_profile_0 : decode cX12_profile 0 = .ok (.aload_n 0, 1) := by decide +kernel
theorem dX12_profile_1 : decode cX12_profile 1 = .ok (.iload_n 1, 1) := by decide +kernel
theorem dX12_profile_2 : decode cX12_profile 2 = .ok (.invokevirtual 127, 3) := by decide +kernel
theorem dX12_profile_5 : decode cX12_profile 5 = .ok (.ifCond .eq 30, 3) := by decide +kernel
theorem dX12_profile_8 : decode cX12_profile 8 = .ok (.iload_n 2, 1) := by decide +kernel
theorem dX12_profile_9 : decode cX12_profile 9 = .ok (.i2l, 1) := by decide +kernel
theorem dX12_profile_10 : decode cX12_profile 10 = .ok (.lconst 0, 1) := by decide +kernel
theorem dX12_profile_11 : decode cX12_profile 11 = .ok (.aload_n 0, 1) := by decide +kernel
theorem dX12_profile_12 : decode cX12_profile 12 = .ok (.getfield 9, 3) := by decide +kernel
theorem dX12_profile_15 : decode cX12_profile 15 = .ok (.i2l, 1) := by decide +kernel
theorem dX12_profile_16 : decode cX12_profile 16 = .ok (.invokestatic 100, 3) := by decide +kernel
theorem dX12_profile_19 : decode cX12_profile 19 = .ok (.ifCond .eq 16, 3) := by decide +kernel
theorem dX12_profile_22 : decode cX12_profile 22 = .ok (.aload_n 0, 1) := by decide +kernel
theorem dX12_profile_23 : decode cX12_profile 23 = .ok (.aload_n 0, 1) := by decide +kernel
theorem dX12_profile_24 : decode cX12_profile 24 = .ok (.iload_n 1, 1) := by decide +kernel
theorem dX12_profile_25 : decode cX12_profile 25 = .ok (.invokevirtual 164, 3) := by decide +kernel
theorem dX12_profile_28 : decode cX12_profile 28 = .ok (.iload_n 2, 1) := by decide +kernel
theorem dX12_profile_29 : decode cX12_profile 29 = .ok (.invokevirtual 190, 3) := by decide +kernel
theorem dX12_profile_32 : decode cX12_profile 32 = .ok (.goto 4, 3) := by decide +kernel
theorem dX12_profile_35 : decode cX12_profile 35 = .ok (.iconst (-1), 1) := by decide +kernel
theorem dX12_profile_36 : decode cX12_profile 36 = .ok (.ireturn, 1) := by decide +kernel
theorem dX12_hasLeast_0 : decode cX12_hasLeast 0 = .ok (.iload_n 0, 1) := by decide +kernel
theorem dX12_hasLeast_1 : decode cX12_hasLeast 1 = .ok (.iload_n 1, 1) := by decide +kernel
theorem dX12_hasLeast_2 : decode cX12_hasLeast 2 = .ok (.ixor, 1) := by decide +kernel
theorem dX12_hasLeast_3 : decode cX12_hasLeast 3 = .ok (.istore_n 2, 1) := by decide +kernel
theorem dX12_hasLeast_4 : decode cX12_hasLeast 4 = .ok (.iload_n 0, 1) := by decide +kernel
theorem dX12_hasLeast_5 : decode cX12_hasLeast 5 = .ok (.iload_n 2, 1) := by decide +kernel
theorem dX12_hasLeast_6 : decode cX12_hasLeast 6 = .ok (.iand, 1) := by decide +kernel
theorem dX12_hasLeast_7 : decode cX12_hasLeast 7 = .ok (.iload_n 2, 1) := by decide +kernel
theorem dX12_hasLeast_8 : decode cX12_hasLeast 8 = .ok (.ineg, 1) := by decide +kernel
theorem dX12_hasLeast_9 : decode cX12_hasLeast 9 = .ok (.iand, 1) := by decide +kernel
theorem dX12_hasLeast_10 : decode cX12_hasLeast 10 = .ok (.ifCond .eq 7, 3) := by decide +kernel
theorem dX12_hasLeast_13 : decode cX12_hasLeast 13 = .ok (.iconst 1, 1) := by decide +kernel
theorem dX12_hasLeast_14 : decode cX12_hasLeast 14 = .ok (.goto 4, 3) := by decide +kernel
theorem dX12_hasLeast_17 : decode cX12_hasLeast 17 = .ok (.iconst 0, 1) := by decide +kernel
theorem dX12_hasLeast_18 : decode cX12_hasLeast 18 = .ok (.ireturn, 1) := by decide +kernel
theorem dX12_isAhead_0 : decode cX12_isAhead 0 = .ok (.iload_n 1, 1) := by decide +kernel
theorem dX12_isAhead_1 : decode cX12_isAhead 1 = .ok (.istore 4, 2) := by decide +kernel
theorem dX12_isAhead_3 : decode cX12_isAhead 3 = .ok (.iload_n 2, 1) := by decide +kernel
theorem dX12_isAhead_4 : decode cX12_isAhead 4 = .ok (.istore 5, 2) := by decide +kernel
theorem dX12_isAhead_6 : decode cX12_isAhead 6 = .ok (.iload_n 0, 1) := by decide +kernel
theorem dX12_isAhead_7 : decode cX12_isAhead 7 = .ok (.iconst 3, 1) := by decide +kernel
theorem dX12_isAhead_8 : decode cX12_isAhead 8 = .ok (.if_icmp .ne 39, 3) := by decide +kernel
theorem dX12_isAhead_11 : decode cX12_isAhead 11 = .ok (.iload_n 1, 1) := by decide +kernel
theorem dX12_isAhead_12 : decode cX12_isAhead 12 = .ok (.iload_n 2, 1) := by decide +kernel
theorem dX12_isAhead_13 : decode cX12_isAhead 13 = .ok (.ixor, 1) := by decide +kernel
theorem dX12_isAhead_14 : decode cX12_isAhead 14 = .ok (.iload_n 3, 1) := by decide +kernel
theorem dX12_isAhead_15 : decode cX12_isAhead 15 = .ok (.iand, 1) := by decide +kernel
theorem dX12_isAhead_16 : decode cX12_isAhead 16 = .ok (.ifCond .eq 15, 3) := by decide +kernel
theorem dX12_isAhead_19 : decode cX12_isAhead 19 = .ok (.iload_n 1, 1) := by decide +kernel
theorem dX12_isAhead_20 : decode cX12_isAhead 20 = .ok (.iload_n 3, 1) := by decide +kernel
theorem dX12_isAhead_21 : decode cX12_isAhead 21 = .ok (.iand, 1) := by decide +kernel
theorem dX12_isAhead_22 : decode cX12_isAhead 22 = .ok (.ifCond .ne 7, 3) := by decide +kernel
theorem dX12_isAhead_25 : decode cX12_isAhead 25 = .ok (.iconst 1, 1) := by decide +kernel
theorem dX12_isAhead_26 : decode cX12_isAhead 26 = .ok (.goto 4, 3) := by decide +kernel
theorem dX12_isAhead_29 : decode cX12_isAhead 29 = .ok (.iconst 0, 1) := by decide +kernel
theorem dX12_isAhead_30 : decode cX12_isAhead 30 = .ok (.ireturn, 1) := by decide +kernel
theorem dX12_isAhead_31 : decode cX12_isAhead 31 = .ok (.iload 4, 2) := by decide +kernel
theorem dX12_isAhead_33 : decode cX12_isAhead 33 = .ok (.iload_n 3, 1) := by decide +kernel
theorem dX12_isAhead_34 : decode cX12_isAhead 34 = .ok (.iconst (-1), 1) := by decide +kernel
theorem dX12_isAhead_35 : decode cX12_isAhead 35 = .ok (.ixor, 1) := by decide +kernel
theorem dX12_isAhead_36 : decode cX12_isAhead 36 = .ok (.iand, 1) := by decide +kernel
theorem dX12_isAhead_37 : decode cX12_isAhead 37 = .ok (.istore 4, 2) := by decide +kernel
theorem dX12_isAhead_39 : decode cX12_isAhead 39 = .ok (.iload 5, 2) := by decide +kernel
theorem dX12_isAhead_41 : decode cX12_isAhead 41 = .ok (.iload_n 3, 1) := by decide +kernel
theorem dX12_isAhead_42 : decode cX12_isAhead 42 = .ok (.iconst (-1), 1) := by decide +kernel
theorem dX12_isAhead_43 : decode cX12_isAhead 43 = .ok (.ixor, 1) := by decide +kernel
theorem dX12_isAhead_44 : decode cX12_isAhead 44 = .ok (.iand, 1) := by decide +kernel
theorem dX12_isAhead_45 : decode cX12_isAhead 45 = .ok (.istore 5, 2) := by decide +kernel
theorem dX12_isAhead_47 : decode cX12_isAhead 47 = .ok (.iload_n 0, 1) := by decide +kernel
theorem dX12_isAhead_48 : decode cX12_isAhead 48 = .ok (.ifCond .eq 23, 3) := by decide +kernel
theorem dX12_isAhead_51 : decode cX12_isAhead 51 = .ok (.iload 4, 2) := by decide +kernel
theorem dX12_isAhead_53 : decode cX12_isAhead 53 = .ok (.i2l, 1) := by decide +kernel
theorem dX12_isAhead_54 : decode cX12_isAhead 54 = .ok (.invokestatic 147, 3) := by decide +kernel
theorem dX12_isAhead_57 : decode cX12_isAhead 57 = .ok (.iload 5, 2) := by decide +kernel
theorem dX12_isAhead_59 : decode cX12_isAhead 59 = .ok (.i2l, 1) := by decide +kernel
theorem dX12_isAhead_60 : decode cX12_isAhead 60 = .ok (.invokestatic 147, 3) := by decide +kernel
theorem dX12_isAhead_63 : decode cX12_isAhead 63 = .ok (.if_icmp .ne 21, 3) := by decide +kernel
theorem dX12_isAhead_66 : decode cX12_isAhead 66 = .ok (.iload_n 0, 1) := by decide +kernel
theorem dX12_isAhead_67 : decode cX12_isAhead 67 = .ok (.iconst 2, 1) := by decide +kernel
theorem dX12_isAhead_68 : decode cX12_isAhead 68 = .ok (.if_icmp .ne 16, 3) := by decide +kernel
theorem dX12_isAhead_71 : decode cX12_isAhead 71 = .ok (.iload 4, 2) := by decide +kernel
theorem dX12_isAhead_73 : decode cX12_isAhead 73 = .ok (.iload 5, 2) := by decide +kernel
theorem dX12_isAhead_75 : decode cX12_isAhead 75 = .ok (.if_icmp .ge 7, 3) := by decide +kernel
theorem dX12_isAhead_78 : decode cX12_isAhead 78 = .ok (.iconst 1, 1) := by decide +kernel
theorem dX12_isAhead_79 : decode cX12_isAhead 79 = .ok (.goto 4, 3) := by decide +kernel
theorem dX12_isAhead_82 : decode cX12_isAhead 82 = .ok (.iconst 0, 1) := by decide +kernel
theorem dX12_isAhead_83 : decode cX12_isAhead 83 = .ok (.ireturn, 1) := by decide +kernel
theorem dX12_isAhead_84 : decode cX12_isAhead 84 = .ok (.iload 4, 2) := by decide +kernel
theorem dX12_isAhead_86 : decode cX12_isAhead 86 = .ok (.i2l, 1) := by decide +kernel
theorem dX12_isAhead_87 : decode cX12_isAhead 87 = .ok (.invokestatic 147, 3) := by decide +kernel
theorem dX12_isAhead_90 : decode cX12_isAhead 90 = .ok (.iload 5, 2) := by decide +kernel
theorem dX12_isAhead_92 : decode cX12_isAhead 92 = .ok (.i2l, 1) := by decide +kernel
theorem dX12_isAhead_93 : decode cX12_isAhead 93 = .ok (.invokestatic 147, 3) := by decide +kernel
theorem dX12_isAhead_96 : decode cX12_isAhead 96 = .ok (.if_icmp .eq 26, 3) := by decide +kernel
theorem dX12_isAhead_99 : decode cX12_isAhead 99 = .ok (.iload 4, 2) := by decide +kernel
theorem dX12_isAhead_101 : decode cX12_isAhead 101 = .ok (.i2l, 1) := by decide +kernel
theorem dX12_isAhead_102 : decode cX12_isAhead 102 = .ok (.invokestatic 147, 3) := by decide +kernel
theorem dX12_isAhead_105 : decode cX12_isAhead 105 = .ok (.iload 5, 2) := by decide +kernel
theorem dX12_isAhead_107 : decode cX12_isAhead 107 = .ok (.i2l, 1) := by decide +kernel
theorem dX12_isAhead_108 : decode cX12_isAhead 108 = .ok (.invokestatic 147, 3) := by decide +kernel
theorem dX12_isAhead_111 : decode cX12_isAhead 111 = .ok (.if_icmp .ge 7, 3) := by decide +kernel
theorem dX12_isAhead_114 : decode cX12_isAhead 114 = .ok (.iconst 1, 1) := by decide +kernel
theorem dX12_isAhead_115 : decode cX12_isAhead 115 = .ok (.goto 14, 3) := by decide +kernel
theorem dX12_isAhead_118 : decode cX12_isAhead 118 = .ok (.iconst 0, 1) := by decide +kernel
theorem dX12_isAhead_119 : decode cX12_isAhead 119 = .ok (.goto 10, 3) := by decide +kernel
theorem dX12_isAhead_122 : decode cX12_isAhead 122 = .ok (.iload 4, 2) := by decide +kernel
theorem dX12_isAhead_124 : decode cX12_isAhead 124 = .ok (.iload 5, 2) := by decide +kernel
theorem dX12_isAhead_126 : decode cX12_isAhead 126 = .ok (.invokestatic 194, 3) := by decide +kernel
theorem dX12_isAhead_129 : decode cX12_isAhead 129 = .ok (.ireturn, 1) := by decide +kernel
theorem dX12_placeOf_0 : decode cX12_placeOf 0 = .ok (.iconst 0, 1) := by decide +kernel
theorem dX12_placeOf_1 : decode cX12_placeOf 1 = .ok (.istore_n 3, 1) := by decide +kernel
theorem dX12_placeOf_2 : decode cX12_placeOf 2 = .ok (.iconst 0, 1) := by decide +kernel
theorem dX12_placeOf_3 : decode cX12_placeOf 3 = .ok (.istore 4, 2) := by decide +kernel
theorem dX12_placeOf_5 : decode cX12_placeOf 5 = .ok (.iload 4, 2) := by decide +kernel
theorem dX12_placeOf_7 : decode cX12_placeOf 7 = .ok (.aload_n 0, 1) := by decide +kernel
theorem dX12_placeOf_8 : decode cX12_placeOf 8 = .ok (.invokevirtual 115, 3) := by decide +kernel
theorem dX12_placeOf_11 : decode cX12_placeOf 11 = .ok (.if_icmp .ge 41, 3) := by decide +kernel
theorem dX12_placeOf_14 : decode cX12_placeOf 14 = .ok (.iload_n 3, 1) := by decide +kernel
theorem dX12_placeOf_15 : decode cX12_placeOf 15 = .ok (.iload 4, 2) := by decide +kernel
theorem dX12_placeOf_17 : decode cX12_placeOf 17 = .ok (.iload_n 2, 1) := by decide +kernel
theorem dX12_placeOf_18 : decode cX12_placeOf 18 = .ok (.if_icmp .eq 25, 3) := by decide +kernel
theorem dX12_placeOf_21 : decode cX12_placeOf 21 = .ok (.iload_n 1, 1) := by decide +kernel
theorem dX12_placeOf_22 : decode cX12_placeOf 22 = .ok (.iload 4, 2) := by decide +kernel
theorem dX12_placeOf_24 : decode cX12_placeOf 24 = .ok (.iload_n 2, 1) := by decide +kernel
theorem dX12_placeOf_25 : decode cX12_placeOf 25 = .ok (.iconst 1, 1) := by decide +kernel
theorem dX12_placeOf_26 : decode cX12_placeOf 26 = .ok (.aload_n 0, 1) := by decide +kernel
theorem dX12_placeOf_27 : decode cX12_placeOf 27 = .ok (.getfield 9, 3) := by decide +kernel
theorem dX12_placeOf_30 : decode cX12_placeOf 30 = .ok (.iconst 1, 1) := by decide +kernel
theorem dX12_placeOf_31 : decode cX12_placeOf 31 = .ok (.isub, 1) := by decide +kernel
theorem dX12_placeOf_32 : decode cX12_placeOf 32 = .ok (.ishl, 1) := by decide +kernel
theorem dX12_placeOf_33 : decode cX12_placeOf 33 = .ok (.invokestatic 198, 3) := by decide +kernel
theorem dX12_placeOf_36 : decode cX12_placeOf 36 = .ok (.ifCond .eq 7, 3) := by decide +kernel
theorem dX12_placeOf_39 : decode cX12_placeOf 39 = .ok (.iconst 1, 1) := by decide +kernel
theorem dX12_placeOf_40 : decode cX12_placeOf 40 = .ok (.goto 4, 3) := by decide +kernel
theorem dX12_placeOf_43 : decode cX12_placeOf 43 = .ok (.iconst 0, 1) := by decide +kernel
theorem dX12_placeOf_44 : decode cX12_placeOf 44 = .ok (.iadd, 1) := by decide +kernel
theorem dX12_placeOf_45 : decode cX12_placeOf 45 = .ok (.istore_n 3, 1) := by decide +kernel
theorem dX12_placeOf_46 : decode cX12_placeOf 46 = .ok (.iinc 4 1, 3) := by decide +kernel
theorem dX12_placeOf_49 : decode cX12_placeOf 49 = .ok (.goto (-44), 3) := by decide +kernel
theorem dX12_placeOf_52 : decode cX12_placeOf 52 = .ok (.iload_n 3, 1) := by decide +kernel
theorem dX12_placeOf_53 : decode cX12_placeOf 53 = .ok (.ireturn, 1) := by decide +kernel
theorem dX12_firsts_0 : decode cX12_firsts 0 = .ok (.lconst 0, 1) := by decide +kernel
theorem dX12_firsts_1 : decode cX12_firsts 1 = .ok (.lstore_n 3, 1) := by decide +kernel
theorem dX12_firsts_2 : decode cX12_firsts 2 = .ok (.iconst 0, 1) := by decide +kernel
theorem dX12_firsts_3 : decode cX12_firsts 3 = .ok (.istore 5, 2) := by decide +kernel
theorem dX12_firsts_5 : decode cX12_firsts 5 = .ok (.iload 5, 2) := by decide +kernel
theorem dX12_firsts_7 : decode cX12_firsts 7 = .ok (.aload_n 0, 1) := by decide +kernel
theorem dX12_firsts_8 : decode cX12_firsts 8 = .ok (.invokevirtual 115, 3) := by decide +kernel
theorem dX12_firsts_11 : decode cX12_firsts 11 = .ok (.if_icmp .ge 31, 3) := by decide +kernel
theorem dX12_firsts_14 : decode cX12_firsts 14 = .ok (.lload_n 3, 1) := by decide +kernel
theorem dX12_firsts_15 : decode cX12_firsts 15 = .ok (.aload_n 0, 1) := by decide +kernel
theorem dX12_firsts_16 : decode cX12_firsts 16 = .ok (.iload_n 1, 1) := by decide +kernel
theorem dX12_firsts_17 : decode cX12_firsts 17 = .ok (.iload 5, 2) := by decide +kernel
theorem dX12_firsts_19 : decode cX12_firsts 19 = .ok (.invokevirtual 202, 3) := by decide +kernel
theorem dX12_firsts_22 : decode cX12_firsts 22 = .ok (.iload_n 2, 1) := by decide +kernel
theorem dX12_firsts_23 : decode cX12_firsts 23 = .ok (.if_icmp .ge 10, 3) := by decide +kernel
theorem dX12_firsts_26 : decode cX12_firsts 26 = .ok (.lconst 1, 1) := by decide +kernel
theorem dX12_firsts_27 : decode cX12_firsts 27 = .ok (.iload 5, 2) := by decide +kernel
theorem dX12_firsts_29 : decode cX12_firsts 29 = .ok (.lshl, 1) := by decide +kernel
theorem dX12_firsts_30 : decode cX12_firsts 30 = .ok (.goto 4, 3) := by decide +kernel
theorem dX12_firsts_33 : decode cX12_firsts 33 = .ok (.lconst 0, 1) := by decide +kernel
theorem dX12_firsts_34 : decode cX12_firsts 34 = .ok (.lor, 1) := by decide +kernel
theorem dX12_firsts_35 : decode cX12_firsts 35 = .ok (.lstore_n 3, 1) := by decide +kernel
theorem dX12_firsts_36 : decode cX12_firsts 36 = .ok (.iinc 5 1, 3) := by decide +kernel
theorem dX12_firsts_39 : decode cX12_firsts 39 = .ok (.goto (-34), 3) := by decide +kernel
theorem dX12_firsts_42 : decode cX12_firsts 42 = .ok (.lload_n 3, 1) := by decide +kernel
theorem dX12_firsts_43 : decode cX12_firsts 43 = .ok (.lreturn, 1) := by decide +kernel
theorem dX12_isOrder_0 : decode cX12_isOrder 0 = .ok (.iload_n 0, 1) := by decide +kernel
theorem dX12_isOrder_1 : decode cX12_isOrder 1 = .ok (.i2l, 1) := by decide +kernel
theorem dX12_isOrder_2 : decode cX12_isOrder 2 = .ok (.lconst 0, 1) := by decide +kernel
theorem dX12_isOrder_3 : decode cX12_isOrder 3 = .ok (.ldc2_w 188, 3) := by decide +kernel
theorem dX12_isOrder_6 : decode cX12_isOrder 6 = .ok (.invokestatic 100, 3) := by decide +kernel
theorem dX12_isOrder_9 : decode cX12_isOrder 9 = .ok (.ireturn, 1) := by decide +kernel
theorem dX12_ordered_0 : decode cX12_ordered 0 = .ok (.iload_n 1, 1) := by decide +kernel
theorem dX12_ordered_1 : decode cX12_ordered 1 = .ok (.invokestatic 206, 3) := by decide +kernel
theorem dX12_ordered_4 : decode cX12_ordered 4 = .ok (.ifCond .ne 5, 3) := by decide +kernel
theorem dX12_ordered_7 : decode cX12_ordered 7 = .ok (.iconst (-1), 1) := by decide +kernel
theorem dX12_ordered_8 : decode cX12_ordered 8 = .ok (.ireturn, 1) := by decide +kernel
theorem dX12_ordered_9 : decode cX12_ordered 9 = .ok (.iconst 0, 1) := by decide +kernel
theorem dX12_ordered_10 : decode cX12_ordered 10 = .ok (.istore_n 3, 1) := by decide +kernel
theorem dX12_ordered_11 : decode cX12_ordered 11 = .ok (.iload_n 3, 1) := by decide +kernel
theorem dX12_ordered_12 : decode cX12_ordered 12 = .ok (.aload_n 0, 1) := by decide +kernel
theorem dX12_ordered_13 : decode cX12_ordered 13 = .ok (.invokevirtual 115, 3) := by decide +kernel
theorem dX12_ordered_16 : decode cX12_ordered 16 = .ok (.if_icmp .ge 21, 3) := by decide +kernel
theorem dX12_ordered_19 : decode cX12_ordered 19 = .ok (.aload_n 0, 1) := by decide +kernel
theorem dX12_ordered_20 : decode cX12_ordered 20 = .ok (.iload_n 1, 1) := by decide +kernel
theorem dX12_ordered_21 : decode cX12_ordered 21 = .ok (.iload_n 3, 1) := by decide +kernel
theorem dX12_ordered_22 : decode cX12_ordered 22 = .ok (.invokevirtual 202, 3) := by decide +kernel
theorem dX12_ordered_25 : decode cX12_ordered 25 = .ok (.iload_n 2, 1) := by decide +kernel
theorem dX12_ordered_26 : decode cX12_ordered 26 = .ok (.if_icmp .ne 5, 3) := by decide +kernel
theorem dX12_ordered_29 : decode cX12_ordered 29 = .ok (.iload_n 3, 1) := by decide +kernel
theorem dX12_ordered_30 : decode cX12_ordered 30 = .ok (.ireturn, 1) := by decide +kernel
theorem dX12_ordered_31 : decode cX12_ordered 31 = .ok (.iinc 3 1, 3) := by decide +kernel
theorem dX12_ordered_34 : decode cX12_ordered 34 = .ok (.goto (-23), 3) := by decide +kernel
theorem dX12_ordered_37 : decode cX12_ordered 37 = .ok (.bipush (-2), 2) := by decide +kernel
theorem dX12_ordered_39 : decode cX12_ordered 39 = .ok (.ireturn, 1) := by decide +kernel
theorem dX12_first_0 : decode cX12_first 0 = .ok (.iload_n 1, 1) := by decide +kernel
theorem dX12_first_1 : decode cX12_first 1 = .ok (.invokestatic 206, 3) := by decide +kernel
theorem dX12_first_4 : decode cX12_first 4 = .ok (.ifCond .eq 30, 3) := by decide +kernel
theorem dX12_first_7 : decode cX12_first 7 = .ok (.iload_n 2, 1) := by decide +kernel
theorem dX12_first_8 : decode cX12_first 8 = .ok (.i2l, 1) := by decide +kernel
theorem dX12_first_9 : decode cX12_first 9 = .ok (.lconst 0, 1) := by decide +kernel
theorem dX12_first_10 : decode cX12_first 10 = .ok (.aload_n 0, 1) := by decide +kernel
theorem dX12_first_11 : decode cX12_first 11 = .ok (.invokevirtual 115, 3) := by decide +kernel
theorem dX12_first_14 : decode cX12_first 14 = .ok (.i2l, 1) := by decide +kernel
theorem dX12_first_15 : decode cX12_first 15 = .ok (.invokestatic 100, 3) := by decide +kernel
theorem dX12_first_18 : decode cX12_first 18 = .ok (.ifCond .eq 16, 3) := by decide +kernel
theorem dX12_first_21 : decode cX12_first 21 = .ok (.aload_n 0, 1) := by decide +kernel
theorem dX12_first_22 : decode cX12_first 22 = .ok (.aload_n 0, 1) := by decide +kernel
theorem dX12_first_23 : decode cX12_first 23 = .ok (.iload_n 1, 1) := by decide +kernel
theorem dX12_first_24 : decode cX12_first 24 = .ok (.iload_n 2, 1) := by decide +kernel
theorem dX12_first_25 : decode cX12_first 25 = .ok (.invokevirtual 209, 3) := by decide +kernel
theorem dX12_first_28 : decode cX12_first 28 = .ok (.invokevirtual 123, 3) := by decide +kernel
theorem dX12_first_31 : decode cX12_first 31 = .ok (.goto 4, 3) := by decide +kernel
theorem dX12_first_34 : decode cX12_first 34 = .ok (.iconst (-1), 1) := by decide +kernel
theorem dX12_first_35 : decode cX12_first 35 = .ok (.ireturn, 1) := by decide +kernel
theorem dX12_choices_0 : decode cX12_choices 0 = .ok (.iload_n 1, 1) := by decide +kernel
theorem dX12_choices_1 : decode cX12_choices 1 = .ok (.iload_n 0, 1) := by decide +kernel
theorem dX12_choices_2 : decode cX12_choices 2 = .ok (.if_icmp .le 5, 3) := by decide +kernel
theorem dX12_choices_5 : decode cX12_choices 5 = .ok (.lconst 0, 1) := by decide +kernel
theorem dX12_choices_6 : decode cX12_choices 6 = .ok (.lreturn, 1) := by decide +kernel
theorem dX12_choices_7 : decode cX12_choices 7 = .ok (.lconst 1, 1) := by decide +kernel
theorem dX12_choices_8 : decode cX12_choices 8 = .ok (.lstore_n 2, 1) := by decide +kernel
theorem dX12_choices_9 : decode cX12_choices 9 = .ok (.iconst 1, 1) := by decide +kernel
theorem dX12_choices_10 : decode cX12_choices 10 = .ok (.istore 4, 2) := by decide +kernel
theorem dX12_choices_12 : decode cX12_choices 12 = .ok (.iload 4, 2) := by decide +kernel
theorem dX12_choices_14 : decode cX12_choices 14 = .ok (.iload_n 1, 1) := by decide +kernel
theorem dX12_choices_15 : decode cX12_choices 15 = .ok (.if_icmp .gt 23, 3) := by decide +kernel
theorem dX12_choices_18 : decode cX12_choices 18 = .ok (.lload_n 2, 1) := by decide +kernel
theorem dX12_choices_19 : decode cX12_choices 19 = .ok (.iload_n 0, 1) := by decide +kernel
theorem dX12_choices_20 : decode cX12_choices 20 = .ok (.iload_n 1, 1) := by decide +kernel
theorem dX12_choices_21 : decode cX12_choices 21 = .ok (.isub, 1) := by decide +kernel
theorem dX12_choices_22 : decode cX12_choices 22 = .ok (.iload 4, 2) := by decide +kernel
theorem dX12_choices_24 : decode cX12_choices 24 = .ok (.iadd, 1) := by decide +kernel
theorem dX12_choices_25 : decode cX12_choices 25 = .ok (.i2l, 1) := by decide +kernel
theorem dX12_choices_26 : decode cX12_choices 26 = .ok (.lmul, 1) := by decide +kernel
theorem dX12_choices_27 : decode cX12_choices 27 = .ok (.iload 4, 2) := by decide +kernel
theorem dX12_choices_29 : decode cX12_choices 29 = .ok (.i2l, 1) := by decide +kernel
theorem dX12_choices_30 : decode cX12_choices 30 = .ok (.ldiv, 1) := by decide +kernel
theorem dX12_choices_31 : decode cX12_choices 31 = .ok (.lstore_n 2, 1) := by decide +kernel
theorem dX12_choices_32 : decode cX12_choices 32 = .ok (.iinc 4 1, 3) := by decide +kernel
theorem dX12_choices_35 : decode cX12_choices 35 = .ok (.goto (-23), 3) := by decide +kernel
theorem dX12_choices_38 : decode cX12_choices 38 = .ok (.lload_n 2, 1) := by decide +kernel
theorem dX12_choices_39 : decode cX12_choices 39 = .ok (.lreturn, 1) := by decide +kernel
theorem dX12_finds_0 : decode cX12_finds 0 = .ok (.aload_n 0, 1) := by decide +kernel
theorem dX12_finds_1 : decode cX12_finds 1 = .ok (.bipush (-2), 2) := by decide +kernel
theorem dX12_finds_3 : decode cX12_finds 3 = .ok (.putfield 213, 3) := by decide +kernel
theorem dX12_finds_6 : decode cX12_finds 6 = .ok (.iconst 0, 1) := by decide +kernel
theorem dX12_finds_7 : decode cX12_finds 7 = .ok (.istore 4, 2) := by decide +kernel
theorem dX12_finds_9 : decode cX12_finds 9 = .ok (.iload 4, 2) := by decide +kernel
theorem dX12_finds_11 : decode cX12_finds 11 = .ok (.iconst 1, 1) := by decide +kernel
theorem dX12_finds_12 : decode cX12_finds 12 = .ok (.iload_n 1, 1) := by decide +kernel
theorem dX12_finds_13 : decode cX12_finds 13 = .ok (.ishl, 1) := by decide +kernel
theorem dX12_finds_14 : decode cX12_finds 14 = .ok (.if_icmp .ge 197, 3) := by decide +kernel
theorem dX12_finds_17 : decode cX12_finds 17 = .ok (.iload 4, 2) := by decide +kernel
theorem dX12_finds_19 : decode cX12_finds 19 = .ok (.i2l, 1) := by decide +kernel
theorem dX12_finds_20 : decode cX12_finds 20 = .ok (.invokestatic 147, 3) := by decide +kernel
theorem dX12_finds_23 : decode cX12_finds 23 = .ok (.iload_n 2, 1) := by decide +kernel
theorem dX12_finds_24 : decode cX12_finds 24 = .ok (.if_icmp .eq 6, 3) := by decide +kernel
theorem dX12_finds_27 : decode cX12_finds 27 = .ok (.goto 178, 3) := by decide +kernel
theorem dX12_finds_30 : decode cX12_finds 30 = .ok (.lconst 0, 1) := by decide +kernel
theorem dX12_finds_31 : decode cX12_finds 31 = .ok (.lstore 5, 2) := by decide +kernel
theorem dX12_finds_33 : decode cX12_finds 33 = .ok (.lconst 0, 1) := by decide +kernel
theorem dX12_finds_34 : decode cX12_finds 34 = .ok (.lstore 7, 2) := by decide +kernel
theorem dX12_finds_36 : decode cX12_finds 36 = .ok (.iconst 0, 1) := by decide +kernel
theorem dX12_finds_37 : decode cX12_finds 37 = .ok (.istore 9, 2) := by decide +kernel
theorem dX12_finds_39 : decode cX12_finds 39 = .ok (.iload 9, 2) := by decide +kernel
theorem dX12_finds_41 : decode cX12_finds 41 = .ok (.iload_n 1, 1) := by decide +kernel
theorem dX12_finds_42 : decode cX12_finds 42 = .ok (.if_icmp .ge 46, 3) := by decide +kernel
theorem dX12_finds_45 : decode cX12_finds 45 = .ok (.iload 4, 2) := by decide +kernel
theorem dX12_finds_47 : decode cX12_finds 47 = .ok (.iload 9, 2) := by decide +kernel
theorem dX12_finds_49 : decode cX12_finds 49 = .ok (.ishr, 1) := by decide +kernel
theorem dX12_finds_50 : decode cX12_finds 50 = .ok (.iconst 1, 1) := by decide +kernel
theorem dX12_finds_51 : decode cX12_finds 51 = .ok (.iand, 1) := by decide +kernel
theorem dX12_finds_52 : decode cX12_finds 52 = .ok (.iconst 1, 1) := by decide +kernel
theorem dX12_finds_53 : decode cX12_finds 53 = .ok (.if_icmp .ne 29, 3) := by decide +kernel
theorem dX12_finds_56 : decode cX12_finds 56 = .ok (.lload 5, 2) := by decide +kernel
theorem dX12_finds_58 : decode cX12_finds 58 = .ok (.lconst 1, 1) := by decide +kernel
theorem dX12_finds_59 : decode cX12_finds 59 = .ok (.aload_n 0, 1) := by decide +kernel
theorem dX12_finds_60 : decode cX12_finds 60 = .ok (.getfield 38, 3) := by decide +kernel
theorem dX12_finds_63 : decode cX12_finds 63 = .ok (.iload 9, 2) := by decide +kernel
theorem dX12_finds_65 : decode cX12_finds 65 = .ok (.iaload, 1) := by decide +kernel
theorem dX12_finds_66 : decode cX12_finds 66 = .ok (.lshl, 1) := by decide +kernel
theorem dX12_finds_67 : decode cX12_finds 67 = .ok (.lor, 1) := by decide +kernel
theorem dX12_finds_68 : decode cX12_finds 68 = .ok (.lstore 5, 2) := by decide +kernel
theorem dX12_finds_70 : decode cX12_finds 70 = .ok (.lload 7, 2) := by decide +kernel
theorem dX12_finds_72 : decode cX12_finds 72 = .ok (.aload_n 0, 1) := by decide +kernel
theorem dX12_finds_73 : decode cX12_finds 73 = .ok (.getfield 41, 3) := by decide +kernel
theorem dX12_finds_76 : decode cX12_finds 76 = .ok (.iload 9, 2) := by decide +kernel
theorem dX12_finds_78 : decode cX12_finds 78 = .ok (.laload, 1) := by decide +kernel
theorem dX12_finds_79 : decode cX12_finds 79 = .ok (.lor, 1) := by decide +kernel
theorem dX12_finds_80 : decode cX12_finds 80 = .ok (.lstore 7, 2) := by decide +kernel
theorem dX12_finds_82 : decode cX12_finds 82 = .ok (.iinc 9 1, 3) := by decide +kernel
theorem dX12_finds_85 : decode cX12_finds 85 = .ok (.goto (-46), 3) := by decide +kernel
theorem dX12_finds_88 : decode cX12_finds 88 = .ok (.iload_n 3, 1) := by decide +kernel
theorem dX12_finds_89 : decode cX12_finds 89 = .ok (.iconst 2, 1) := by decide +kernel
theorem dX12_finds_90 : decode cX12_finds 90 = .ok (.if_icmp .ne 11, 3) := by decide +kernel
theorem dX12_finds_93 : decode cX12_finds 93 = .ok (.lload 7, 2) := by decide +kernel
theorem dX12_finds_95 : decode cX12_finds 95 = .ok (.invokestatic 147, 3) := by decide +kernel
theorem dX12_finds_98 : decode cX12_finds 98 = .ok (.goto 15, 3) := by decide +kernel
theorem dX12_finds_101 : decode cX12_finds 101 = .ok (.lload 7, 2) := by decide +kernel
theorem dX12_finds_103 : decode cX12_finds 103 = .ok (.lload 5, 2) := by decide +kernel
theorem dX12_finds_105 : decode cX12_finds 105 = .ok (.ldc2_w 95, 3) := by decide +kernel
theorem dX12_finds_108 : decode cX12_finds 108 = .ok (.lxor, 1) := by decide +kernel
theorem dX12_finds_109 : decode cX12_finds 109 = .ok (.land, 1) := by decide +kernel
theorem dX12_finds_110 : decode cX12_finds 110 = .ok (.invokestatic 147, 3) := by decide +kernel
theorem dX12_finds_113 : decode cX12_finds 113 = .ok (.istore 9, 2) := by decide +kernel
theorem dX12_finds_115 : decode cX12_finds 115 = .ok (.iload_n 3, 1) := by decide +kernel
theorem dX12_finds_116 : decode cX12_finds 116 = .ok (.iconst 1, 1) := by decide +kernel
theorem dX12_finds_117 : decode cX12_finds 117 = .ok (.if_icmp .ne 58, 3) := by decide +kernel
theorem dX12_finds_120 : decode cX12_finds 120 = .ok (.iconst 0, 1) := by decide +kernel
theorem dX12_finds_121 : decode cX12_finds 121 = .ok (.istore 9, 2) := by decide +kernel
theorem dX12_finds_123 : decode cX12_finds 123 = .ok (.iconst 0, 1) := by decide +kernel
theorem dX12_finds_124 : decode cX12_finds 124 = .ok (.istore 10, 2) := by decide +kernel
theorem dX12_finds_126 : decode cX12_finds 126 = .ok (.iload 10, 2) := by decide +kernel
theorem dX12_finds_128 : decode cX12_finds 128 = .ok (.iload_n 1, 1) := by decide +kernel
theorem dX12_finds_129 : decode cX12_finds 129 = .ok (.if_icmp .ge 46, 3) := by decide +kernel
theorem dX12_finds_132 : decode cX12_finds 132 = .ok (.iload 9, 2) := by decide +kernel
theorem dX12_finds_134 : decode cX12_finds 134 = .ok (.iload 4, 2) := by decide +kernel
theorem dX12_finds_136 : decode cX12_finds 136 = .ok (.iload 10, 2) := by decide +kernel
theorem dX12_finds_138 : decode cX12_finds 138 = .ok (.ishr, 1) := by decide +kernel
theorem dX12_finds_139 : decode cX12_finds 139 = .ok (.iconst 1, 1) := by decide +kernel
theorem dX12_finds_140 : decode cX12_finds 140 = .ok (.iand, 1) := by decide +kernel
theorem dX12_finds_141 : decode cX12_finds 141 = .ok (.iconst 1, 1) := by decide +kernel
theorem dX12_finds_142 : decode cX12_finds 142 = .ok (.if_icmp .ne 23, 3) := by decide +kernel
theorem dX12_finds_145 : decode cX12_finds 145 = .ok (.aload_n 0, 1) := by decide +kernel
theorem dX12_finds_146 : decode cX12_finds 146 = .ok (.getfield 41, 3) := by decide +kernel
theorem dX12_finds_149 : decode cX12_finds 149 = .ok (.iload 10, 2) := by decide +kernel
theorem dX12_finds_151 : decode cX12_finds 151 = .ok (.laload, 1) := by decide +kernel
theorem dX12_finds_152 : decode cX12_finds 152 = .ok (.lload 5, 2) := by decide +kernel
theorem dX12_finds_154 : decode cX12_finds 154 = .ok (.ldc2_w 95, 3) := by decide +kernel
theorem dX12_finds_157 : decode cX12_finds 157 = .ok (.lxor, 1) := by decide +kernel
theorem dX12_finds_158 : decode cX12_finds 158 = .ok (.land, 1) := by decide +kernel
theorem dX12_finds_159 : decode cX12_finds 159 = .ok (.invokestatic 147, 3) := by decide +kernel
theorem dX12_finds_162 : decode cX12_finds 162 = .ok (.goto 4, 3) := by decide +kernel
theorem dX12_finds_165 : decode cX12_finds 165 = .ok (.iconst 0, 1) := by decide +kernel
theorem dX12_finds_166 : decode cX12_finds 166 = .ok (.iadd, 1) := by decide +kernel
theorem dX12_finds_167 : decode cX12_finds 167 = .ok (.istore 9, 2) := by decide +kernel
theorem dX12_finds_169 : decode cX12_finds 169 = .ok (.iinc 10 1, 3) := by decide +kernel
theorem dX12_finds_172 : decode cX12_finds 172 = .ok (.goto (-46), 3) := by decide +kernel
theorem dX12_finds_175 : decode cX12_finds 175 = .ok (.aload_n 0, 1) := by decide +kernel
theorem dX12_finds_176 : decode cX12_finds 176 = .ok (.getfield 213, 3) := by decide +kernel
theorem dX12_finds_179 : decode cX12_finds 179 = .ok (.bipush (-2), 2) := by decide +kernel
theorem dX12_finds_181 : decode cX12_finds 181 = .ok (.if_icmp .eq 12, 3) := by decide +kernel
theorem dX12_finds_184 : decode cX12_finds 184 = .ok (.iload 9, 2) := by decide +kernel
theorem dX12_finds_186 : decode cX12_finds 186 = .ok (.aload_n 0, 1) := by decide +kernel
theorem dX12_finds_187 : decode cX12_finds 187 = .ok (.getfield 213, 3) := by decide +kernel
theorem dX12_finds_190 : decode cX12_finds 190 = .ok (.if_icmp .ge 15, 3) := by decide +kernel
theorem dX12_finds_193 : decode cX12_finds 193 = .ok (.aload_n 0, 1) := by decide +kernel
theorem dX12_finds_194 : decode cX12_finds 194 = .ok (.iload 9, 2) := by decide +kernel
theorem dX12_finds_196 : decode cX12_finds 196 = .ok (.putfield 213, 3) := by decide +kernel
theorem dX12_finds_199 : decode cX12_finds 199 = .ok (.aload_n 0, 1) := by decide +kernel
theorem dX12_finds_200 : decode cX12_finds 200 = .ok (.lload 5, 2) := by decide +kernel
theorem dX12_finds_202 : decode cX12_finds 202 = .ok (.putfield 216, 3) := by decide +kernel
theorem dX12_finds_205 : decode cX12_finds 205 = .ok (.iinc 4 1, 3) := by decide +kernel
theorem dX12_finds_208 : decode cX12_finds 208 = .ok (.goto (-199), 3) := by decide +kernel
theorem dX12_finds_211 : decode cX12_finds 211 = .ok (.return_, 1) := by decide +kernel
theorem dX12_leastOf_0 : decode cX12_leastOf 0 = .ok (.iload_n 1, 1) := by decide +kernel
theorem dX12_leastOf_1 : decode cX12_leastOf 1 = .ok (.i2l, 1) := by decide +kernel
theorem dX12_leastOf_2 : decode cX12_leastOf 2 = .ok (.lconst 0, 1) := by decide +kernel
theorem dX12_leastOf_3 : decode cX12_leastOf 3 = .ok (.ldc2_w 220, 3) := by decide +kernel
theorem dX12_leastOf_6 : decode cX12_leastOf 6 = .ok (.invokestatic 100, 3) := by decide +kernel
theorem dX12_leastOf_9 : decode cX12_leastOf 9 = .ok (.ifCond .eq 52, 3) := by decide +kernel
theorem dX12_leastOf_12 : decode cX12_leastOf 12 = .ok (.iload_n 1, 1) := by decide +kernel
theorem dX12_leastOf_13 : decode cX12_leastOf 13 = .ok (.iconst 2, 1) := by decide +kernel
theorem dX12_leastOf_14 : decode cX12_leastOf 14 = .ok (.if_icmp .ne 17, 3) := by decide +kernel
theorem dX12_leastOf_17 : decode cX12_leastOf 17 = .ok (.iload_n 3, 1) := by decide +kernel
theorem dX12_leastOf_18 : decode cX12_leastOf 18 = .ok (.i2l, 1) := by decide +kernel
theorem dX12_leastOf_19 : decode cX12_leastOf 19 = .ok (.lconst 0, 1) := by decide +kernel
theorem dX12_leastOf_20 : decode cX12_leastOf 20 = .ok (.aload_n 0, 1) := by decide +kernel
theorem dX12_leastOf_21 : decode cX12_leastOf 21 = .ok (.getfield 9, 3) := by decide +kernel
theorem dX12_leastOf_24 : decode cX12_leastOf 24 = .ok (.i2l, 1) := by decide +kernel
theorem dX12_leastOf_25 : decode cX12_leastOf 25 = .ok (.invokestatic 100, 3) := by decide +kernel
theorem dX12_leastOf_28 : decode cX12_leastOf 28 = .ok (.ifCond .eq 33, 3) := by decide +kernel
theorem dX12_leastOf_31 : decode cX12_leastOf 31 = .ok (.iload_n 2, 1) := by decide +kernel
theorem dX12_leastOf_32 : decode cX12_leastOf 32 = .ok (.i2l, 1) := by decide +kernel
theorem dX12_leastOf_33 : decode cX12_leastOf 33 = .ok (.lconst 0, 1) := by decide +kernel
theorem dX12_leastOf_34 : decode cX12_leastOf 34 = .ok (.iload_n 1, 1) := by decide +kernel
theorem dX12_leastOf_35 : decode cX12_leastOf 35 = .ok (.iconst 2, 1) := by decide +kernel
theorem dX12_leastOf_36 : decode cX12_leastOf 36 = .ok (.if_icmp .ne 14, 3) := by decide +kernel
theorem dX12_leastOf_39 : decode cX12_leastOf 39 = .ok (.aload_n 0, 1) := by decide +kernel
theorem dX12_leastOf_40 : decode cX12_leastOf 40 = .ok (.getfield 9, 3) := by decide +kernel
theorem dX12_leastOf_43 : decode cX12_leastOf 43 = .ok (.iload_n 3, 1) := by decide +kernel
theorem dX12_leastOf_44 : decode cX12_leastOf 44 = .ok (.invokestatic 222, 3) := by decide +kernel
theorem dX12_leastOf_47 : decode cX12_leastOf 47 = .ok (.goto 8, 3) := by decide +kernel
theorem dX12_leastOf_50 : decode cX12_leastOf 50 = .ok (.aload_n 0, 1) := by decide +kernel
theorem dX12_leastOf_51 : decode cX12_leastOf 51 = .ok (.invokevirtual 115, 3) := by decide +kernel
theorem dX12_leastOf_54 : decode cX12_leastOf 54 = .ok (.i2l, 1) := by decide +kernel
theorem dX12_leastOf_55 : decode cX12_leastOf 55 = .ok (.invokestatic 100, 3) := by decide +kernel
theorem dX12_leastOf_58 : decode cX12_leastOf 58 = .ok (.ifCond .ne 5, 3) := by decide +kernel
theorem dX12_leastOf_61 : decode cX12_leastOf 61 = .ok (.iconst (-1), 1) := by decide +kernel
theorem dX12_leastOf_62 : decode cX12_leastOf 62 = .ok (.ireturn, 1) := by decide +kernel
theorem dX12_leastOf_63 : decode cX12_leastOf 63 = .ok (.iload_n 1, 1) := by decide +kernel
theorem dX12_leastOf_64 : decode cX12_leastOf 64 = .ok (.iconst 2, 1) := by decide +kernel
theorem dX12_leastOf_65 : decode cX12_leastOf 65 = .ok (.if_icmp .ge 11, 3) := by decide +kernel
theorem dX12_leastOf_68 : decode cX12_leastOf 68 = .ok (.aload_n 0, 1) := by decide +kernel
theorem dX12_leastOf_69 : decode cX12_leastOf 69 = .ok (.getfield 9, 3) := by decide +kernel
theorem dX12_leastOf_72 : decode cX12_leastOf 72 = .ok (.iconst 4, 1) := by decide +kernel
theorem dX12_leastOf_73 : decode cX12_leastOf 73 = .ok (.if_icmp .gt 23, 3) := by decide +kernel
theorem dX12_leastOf_76 : decode cX12_leastOf 76 = .ok (.iload_n 1, 1) := by decide +kernel
theorem dX12_leastOf_77 : decode cX12_leastOf 77 = .ok (.iconst 2, 1) := by decide +kernel
theorem dX12_leastOf_78 : decode cX12_leastOf 78 = .ok (.if_icmp .ne 21, 3) := by decide +kernel
theorem dX12_leastOf_81 : decode cX12_leastOf 81 = .ok (.aload_n 0, 1) := by decide +kernel
theorem dX12_leastOf_82 : decode cX12_leastOf 82 = .ok (.getfield 9, 3) := by decide +kernel
theorem dX12_leastOf_85 : decode cX12_leastOf 85 = .ok (.iload_n 3, 1) := by decide +kernel
theorem dX12_leastOf_86 : decode cX12_leastOf 86 = .ok (.invokestatic 222, 3) := by decide +kernel
theorem dX12_leastOf_89 : decode cX12_leastOf 89 = .ok (.ldc2_w 225, 3) := by decide +kernel
theorem dX12_leastOf_92 : decode cX12_leastOf 92 = .ok (.lcmp, 1) := by decide +kernel
theorem dX12_leastOf_93 : decode cX12_leastOf 93 = .ok (.ifCond .le 6, 3) := by decide +kernel
theorem dX12_leastOf_96 : decode cX12_leastOf 96 = .ok (.bipush (-5), 2) := by decide +kernel
theorem dX12_leastOf_98 : decode cX12_leastOf 98 = .ok (.ireturn, 1) := by decide +kernel
theorem dX12_leastOf_99 : decode cX12_leastOf 99 = .ok (.iconst 0, 1) := by decide +kernel
theorem dX12_leastOf_100 : decode cX12_leastOf 100 = .ok (.istore 4, 2) := by decide +kernel
theorem dX12_leastOf_102 : decode cX12_leastOf 102 = .ok (.iconst 0, 1) := by decide +kernel
theorem dX12_leastOf_103 : decode cX12_leastOf 103 = .ok (.istore 5, 2) := by decide +kernel
theorem dX12_leastOf_105 : decode cX12_leastOf 105 = .ok (.iload 5, 2) := by decide +kernel
theorem dX12_leastOf_107 : decode cX12_leastOf 107 = .ok (.aload_n 0, 1) := by decide +kernel
theorem dX12_leastOf_108 : decode cX12_leastOf 108 = .ok (.invokevirtual 115, 3) := by decide +kernel
theorem dX12_leastOf_111 : decode cX12_leastOf 111 = .ok (.if_icmp .ge 79, 3) := by decide +kernel
theorem dX12_leastOf_114 : decode cX12_leastOf 114 = .ok (.iload_n 1, 1) := by decide +kernel
theorem dX12_leastOf_115 : decode cX12_leastOf 115 = .ok (.iconst 2, 1) := by decide +kernel
theorem dX12_leastOf_116 : decode cX12_leastOf 116 = .ok (.if_icmp .lt 13, 3) := by decide +kernel
theorem dX12_leastOf_119 : decode cX12_leastOf 119 = .ok (.iload 5, 2) := by decide +kernel
theorem dX12_leastOf_121 : decode cX12_leastOf 121 = .ok (.i2l, 1) := by decide +kernel
theorem dX12_leastOf_122 : decode cX12_leastOf 122 = .ok (.invokestatic 147, 3) := by decide +kernel
theorem dX12_leastOf_125 : decode cX12_leastOf 125 = .ok (.iload_n 3, 1) := by decide +kernel
theorem dX12_leastOf_126 : decode cX12_leastOf 126 = .ok (.if_icmp .ne 58, 3) := by decide +kernel
theorem dX12_leastOf_129 : decode cX12_leastOf 129 = .ok (.aload_n 0, 1) := by decide +kernel
theorem dX12_leastOf_130 : decode cX12_leastOf 130 = .ok (.getfield 38, 3) := by decide +kernel
theorem dX12_leastOf_133 : decode cX12_leastOf 133 = .ok (.iload 4, 2) := by decide +kernel
theorem dX12_leastOf_135 : decode cX12_leastOf 135 = .ok (.iload 5, 2) := by decide +kernel
theorem dX12_leastOf_137 : decode cX12_leastOf 137 = .ok (.iastore, 1) := by decide +kernel
theorem dX12_leastOf_138 : decode cX12_leastOf 138 = .ok (.aload_n 0, 1) := by decide +kernel
theorem dX12_leastOf_139 : decode cX12_leastOf 139 = .ok (.getfield 41, 3) := by decide +kernel
theorem dX12_leastOf_142 : decode cX12_leastOf 142 = .ok (.iload 4, 2) := by decide +kernel
theorem dX12_leastOf_144 : decode cX12_leastOf 144 = .ok (.iload_n 1, 1) := by decide +kernel
theorem dX12_leastOf_145 : decode cX12_leastOf 145 = .ok (.iconst 2, 1) := by decide +kernel
theorem dX12_leastOf_146 : decode cX12_leastOf 146 = .ok (.if_icmp .ge 25, 3) := by decide +kernel
theorem dX12_leastOf_149 : decode cX12_leastOf 149 = .ok (.aload_n 0, 1) := by decide +kernel
theorem dX12_leastOf_150 : decode cX12_leastOf 150 = .ok (.lconst 1, 1) := by decide +kernel
theorem dX12_leastOf_151 : decode cX12_leastOf 151 = .ok (.iload 5, 2) := by decide +kernel
theorem dX12_leastOf_153 : decode cX12_leastOf 153 = .ok (.lshl, 1) := by decide +kernel
theorem dX12_leastOf_154 : decode cX12_leastOf 154 = .ok (.iconst 0, 1) := by decide +kernel
theorem dX12_leastOf_155 : decode cX12_leastOf 155 = .ok (.invokevirtual 158, 3) := by decide +kernel
theorem dX12_leastOf_158 : decode cX12_leastOf 158 = .ok (.aload_n 0, 1) := by decide +kernel
theorem dX12_leastOf_159 : decode cX12_leastOf 159 = .ok (.lconst 1, 1) := by decide +kernel
theorem dX12_leastOf_160 : decode cX12_leastOf 160 = .ok (.iload 5, 2) := by decide +kernel
theorem dX12_leastOf_162 : decode cX12_leastOf 162 = .ok (.lshl, 1) := by decide +kernel
theorem dX12_leastOf_163 : decode cX12_leastOf 163 = .ok (.iconst 1, 1) := by decide +kernel
theorem dX12_leastOf_164 : decode cX12_leastOf 164 = .ok (.invokevirtual 158, 3) := by decide +kernel
theorem dX12_leastOf_167 : decode cX12_leastOf 167 = .ok (.lor, 1) := by decide +kernel
theorem dX12_leastOf_168 : decode cX12_leastOf 168 = .ok (.goto 12, 3) := by decide +kernel
theorem dX12_leastOf_171 : decode cX12_leastOf 171 = .ok (.aload_n 0, 1) := by decide +kernel
theorem dX12_leastOf_172 : decode cX12_leastOf 172 = .ok (.lconst 1, 1) := by decide +kernel
theorem dX12_leastOf_173 : decode cX12_leastOf 173 = .ok (.iload 5, 2) := by decide +kernel
theorem dX12_leastOf_175 : decode cX12_leastOf 175 = .ok (.lshl, 1) := by decide +kernel
theorem dX12_leastOf_176 : decode cX12_leastOf 176 = .ok (.iconst 0, 1) := by decide +kernel
theorem dX12_leastOf_177 : decode cX12_leastOf 177 = .ok (.invokevirtual 158, 3) := by decide +kernel
theorem dX12_leastOf_180 : decode cX12_leastOf 180 = .ok (.lastore, 1) := by decide +kernel
theorem dX12_leastOf_181 : decode cX12_leastOf 181 = .ok (.iinc 4 1, 3) := by decide +kernel
theorem dX12_leastOf_184 : decode cX12_leastOf 184 = .ok (.iinc 5 1, 3) := by decide +kernel
theorem dX12_leastOf_187 : decode cX12_leastOf 187 = .ok (.goto (-82), 3) := by decide +kernel
theorem dX12_leastOf_190 : decode cX12_leastOf 190 = .ok (.aload_n 0, 1) := by decide +kernel
theorem dX12_leastOf_191 : decode cX12_leastOf 191 = .ok (.iload 4, 2) := by decide +kernel
theorem dX12_leastOf_193 : decode cX12_leastOf 193 = .ok (.iload_n 2, 1) := by decide +kernel
theorem dX12_leastOf_194 : decode cX12_leastOf 194 = .ok (.iload_n 1, 1) := by decide +kernel
theorem dX12_leastOf_195 : decode cX12_leastOf 195 = .ok (.invokevirtual 227, 3) := by decide +kernel
theorem dX12_leastOf_198 : decode cX12_leastOf 198 = .ok (.aload_n 0, 1) := by decide +kernel
theorem dX12_leastOf_199 : decode cX12_leastOf 199 = .ok (.getfield 213, 3) := by decide +kernel
theorem dX12_leastOf_202 : decode cX12_leastOf 202 = .ok (.ireturn, 1) := by decide +kernel
theorem dX12_least_0 : decode cX12_least 0 = .ok (.aload_n 0, 1) := by decide +kernel
theorem dX12_least_1 : decode cX12_least 1 = .ok (.iload_n 1, 1) := by decide +kernel
theorem dX12_least_2 : decode cX12_least 2 = .ok (.iload_n 2, 1) := by decide +kernel
theorem dX12_least_3 : decode cX12_least 3 = .ok (.iload_n 3, 1) := by decide +kernel
theorem dX12_least_4 : decode cX12_least 4 = .ok (.invokevirtual 230, 3) := by decide +kernel
theorem dX12_least_7 : decode cX12_least 7 = .ok (.ireturn, 1) := by decide +kernel
theorem dX12_leastSets_0 : decode cX12_leastSets 0 = .ok (.aload_n 0, 1) := by decide +kernel
theorem dX12_leastSets_1 : decode cX12_leastSets 1 = .ok (.iload_n 1, 1) := by decide +kernel
theorem dX12_leastSets_2 : decode cX12_leastSets 2 = .ok (.iload_n 2, 1) := by decide +kernel
theorem dX12_leastSets_3 : decode cX12_leastSets 3 = .ok (.iload_n 3, 1) := by decide +kernel
theorem dX12_leastSets_4 : decode cX12_leastSets 4 = .ok (.invokevirtual 230, 3) := by decide +kernel
theorem dX12_leastSets_7 : decode cX12_leastSets 7 = .ok (.ifCond .ge 9, 3) := by decide +kernel
theorem dX12_leastSets_10 : decode cX12_leastSets 10 = .ok (.ldc2_w 162, 3) := by decide +kernel
theorem dX12_leastSets_13 : decode cX12_leastSets 13 = .ok (.goto 7, 3) := by decide +kernel
theorem dX12_leastSets_16 : decode cX12_leastSets 16 = .ok (.aload_n 0, 1) := by decide +kernel
theorem dX12_leastSets_17 : decode cX12_leastSets 17 = .ok (.getfield 216, 3) := by decide +kernel
theorem dX12_leastSets_20 : decode cX12_leastSets 20 = .ok (.lreturn, 1) := by decide +kernel
theorem dX12_meets_0 : decode cX12_meets 0 = .ok (.iload_n 1, 1) := by decide +kernel
theorem dX12_meets_1 : decode cX12_meets 1 = .ok (.invokestatic 206, 3) := by decide +kernel
theorem dX12_meets_4 : decode cX12_meets 4 = .ok (.ifCond .eq 27, 3) := by decide +kernel
theorem dX12_meets_7 : decode cX12_meets 7 = .ok (.iload_n 2, 1) := by decide +kernel
theorem dX12_meets_8 : decode cX12_meets 8 = .ok (.i2l, 1) := by decide +kernel
theorem dX12_meets_9 : decode cX12_meets 9 = .ok (.lconst 0, 1) := by decide +kernel
theorem dX12_meets_10 : decode cX12_meets 10 = .ok (.lconst 1, 1) := by decide +kernel
theorem dX12_meets_11 : decode cX12_meets 11 = .ok (.invokestatic 100, 3) := by decide +kernel
theorem dX12_meets_14 : decode cX12_meets 14 = .ok (.ifCond .eq 17, 3) := by decide +kernel
theorem dX12_meets_17 : decode cX12_meets 17 = .ok (.iload_n 3, 1) := by decide +kernel
theorem dX12_meets_18 : decode cX12_meets 18 = .ok (.i2l, 1) := by decide +kernel
theorem dX12_meets_19 : decode cX12_meets 19 = .ok (.lconst 0, 1) := by decide +kernel
theorem dX12_meets_20 : decode cX12_meets 20 = .ok (.aload_n 0, 1) := by decide +kernel
theorem dX12_meets_21 : decode cX12_meets 21 = .ok (.invokevirtual 115, 3) := by decide +kernel
theorem dX12_meets_24 : decode cX12_meets 24 = .ok (.i2l, 1) := by decide +kernel
theorem dX12_meets_25 : decode cX12_meets 25 = .ok (.invokestatic 100, 3) := by decide +kernel
theorem dX12_meets_28 : decode cX12_meets 28 = .ok (.ifCond .ne 5, 3) := by decide +kernel
theorem dX12_meets_31 : decode cX12_meets 31 = .ok (.iconst (-1), 1) := by decide +kernel
theorem dX12_meets_32 : decode cX12_meets 32 = .ok (.ireturn, 1) := by decide +kernel
theorem dX12_meets_33 : decode cX12_meets 33 = .ok (.aload_n 0, 1) := by decide +kernel
theorem dX12_meets_34 : decode cX12_meets 34 = .ok (.getfield 9, 3) := by decide +kernel
theorem dX12_meets_37 : decode cX12_meets 37 = .ok (.iconst 4, 1) := by decide +kernel
theorem dX12_meets_38 : decode cX12_meets 38 = .ok (.if_icmp .le 6, 3) := by decide +kernel
theorem dX12_meets_41 : decode cX12_meets 41 = .ok (.bipush (-5), 2) := by decide +kernel
theorem dX12_meets_43 : decode cX12_meets 43 = .ok (.ireturn, 1) := by decide +kernel
theorem dX12_meets_44 : decode cX12_meets 44 = .ok (.aload_n 0, 1) := by decide +kernel
theorem dX12_meets_45 : decode cX12_meets 45 = .ok (.iload_n 1, 1) := by decide +kernel
theorem dX12_meets_46 : decode cX12_meets 46 = .ok (.iload_n 3, 1) := by decide +kernel
theorem dX12_meets_47 : decode cX12_meets 47 = .ok (.invokevirtual 209, 3) := by decide +kernel
theorem dX12_meets_50 : decode cX12_meets 50 = .ok (.lstore 4, 2) := by decide +kernel
theorem dX12_meets_52 : decode cX12_meets 52 = .ok (.iload_n 2, 1) := by decide +kernel
theorem dX12_meets_53 : decode cX12_meets 53 = .ok (.ifCond .ne 15, 3) := by decide +kernel
theorem dX12_meets_56 : decode cX12_meets 56 = .ok (.aload_n 0, 1) := by decide +kernel
theorem dX12_meets_57 : decode cX12_meets 57 = .ok (.lload 4, 2) := by decide +kernel
theorem dX12_meets_59 : decode cX12_meets 59 = .ok (.invokevirtual 167, 3) := by decide +kernel
theorem dX12_meets_62 : decode cX12_meets 62 = .ok (.invokestatic 147, 3) := by decide +kernel
theorem dX12_meets_65 : decode cX12_meets 65 = .ok (.goto 9, 3) := by decide +kernel
theorem dX12_meets_68 : decode cX12_meets 68 = .ok (.aload_n 0, 1) := by decide +kernel
theorem dX12_meets_69 : decode cX12_meets 69 = .ok (.lload 4, 2) := by decide +kernel
theorem dX12_meets_71 : decode cX12_meets 71 = .ok (.invokevirtual 171, 3) := by decide +kernel
theorem dX12_meets_74 : decode cX12_meets 74 = .ok (.istore 6, 2) := by decide +kernel
theorem dX12_meets_76 : decode cX12_meets 76 = .ok (.iload 6, 2) := by decide +kernel
theorem dX12_meets_78 : decode cX12_meets 78 = .ok (.aload_n 0, 1) := by decide +kernel
theorem dX12_meets_79 : decode cX12_meets 79 = .ok (.iload_n 2, 1) := by decide +kernel
theorem dX12_meets_80 : decode cX12_meets 80 = .ok (.iload_n 3, 1) := by decide +kernel
theorem dX12_meets_81 : decode cX12_meets 81 = .ok (.iconst 0, 1) := by decide +kernel
theorem dX12_meets_82 : decode cX12_meets 82 = .ok (.invokevirtual 230, 3) := by decide +kernel
theorem dX12_meets_85 : decode cX12_meets 85 = .ok (.if_icmp .ne 7, 3) := by decide +kernel
theorem dX12_meets_88 : decode cX12_meets 88 = .ok (.iconst 1, 1) := by decide +kernel
theorem dX12_meets_89 : decode cX12_meets 89 = .ok (.goto 4, 3) := by decide +kernel
theorem dX12_meets_92 : decode cX12_meets 92 = .ok (.iconst 0, 1) := by decide +kernel
theorem dX12_meets_93 : decode cX12_meets 93 = .ok (.ireturn, 1) := by decide +kernel
theorem dX12_greatest_0 : decode cX12_greatest 0 = .ok (.iload_n 2, 1) := by decide +kernel
theorem dX12_greatest_1 : decode cX12_greatest 1 = .ok (.iconst 1, 1) := by decide +kernel
theorem dX12_greatest_2 : decode cX12_greatest 2 = .ok (.if_icmp .ne 6, 3) := by decide +kernel
theorem dX12_greatest_5 : decode cX12_greatest 5 = .ok (.lload_n 0, 1) := by decide +kernel
theorem dX12_greatest_6 : decode cX12_greatest 6 = .ok (.l2i, 1) := by decide +kernel
theorem dX12_greatest_7 : decode cX12_greatest 7 = .ok (.ireturn, 1) := by decide +kernel
theorem dX12_greatest_8 : decode cX12_greatest 8 = .ok (.iload_n 2, 1) := by decide +kernel
theorem dX12_greatest_9 : decode cX12_greatest 9 = .ok (.istore_n 3, 1) := by decide +kernel
theorem dX12_greatest_10 : decode cX12_greatest 10 = .ok (.lconst 1, 1) := by decide +kernel
theorem dX12_greatest_11 : decode cX12_greatest 11 = .ok (.lstore 4, 2) := by decide +kernel
theorem dX12_greatest_13 : decode cX12_greatest 13 = .ok (.iconst 1, 1) := by decide +kernel
theorem dX12_greatest_14 : decode cX12_greatest 14 = .ok (.istore 6, 2) := by decide +kernel
theorem dX12_greatest_16 : decode cX12_greatest 16 = .ok (.iload 6, 2) := by decide +kernel
theorem dX12_greatest_18 : decode cX12_greatest 18 = .ok (.ifCond .eq 63, 3) := by decide +kernel
theorem dX12_greatest_21 : decode cX12_greatest 21 = .ok (.lload 4, 2) := by decide +kernel
theorem dX12_greatest_23 : decode cX12_greatest 23 = .ok (.iload_n 3, 1) := by decide +kernel
theorem dX12_greatest_24 : decode cX12_greatest 24 = .ok (.iconst 1, 1) := by decide +kernel
theorem dX12_greatest_25 : decode cX12_greatest 25 = .ok (.iadd, 1) := by decide +kernel
theorem dX12_greatest_26 : decode cX12_greatest 26 = .ok (.i2l, 1) := by decide +kernel
theorem dX12_greatest_27 : decode cX12_greatest 27 = .ok (.lmul, 1) := by decide +kernel
theorem dX12_greatest_28 : decode cX12_greatest 28 = .ok (.iload_n 3, 1) := by decide +kernel
theorem dX12_greatest_29 : decode cX12_greatest 29 = .ok (.iconst 1, 1) := by decide +kernel
theorem dX12_greatest_30 : decode cX12_greatest 30 = .ok (.iadd, 1) := by decide +kernel
theorem dX12_greatest_31 : decode cX12_greatest 31 = .ok (.iload_n 2, 1) := by decide +kernel
theorem dX12_greatest_32 : decode cX12_greatest 32 = .ok (.isub, 1) := by decide +kernel
theorem dX12_greatest_33 : decode cX12_greatest 33 = .ok (.i2l, 1) := by decide +kernel
theorem dX12_greatest_34 : decode cX12_greatest 34 = .ok (.ldiv, 1) := by decide +kernel
theorem dX12_greatest_35 : decode cX12_greatest 35 = .ok (.lstore 7, 2) := by decide +kernel
theorem dX12_greatest_37 : decode cX12_greatest 37 = .ok (.lload 7, 2) := by decide +kernel
theorem dX12_greatest_39 : decode cX12_greatest 39 = .ok (.lload_n 0, 1) := by decide +kernel
theorem dX12_greatest_40 : decode cX12_greatest 40 = .ok (.lcmp, 1) := by decide +kernel
theorem dX12_greatest_41 : decode cX12_greatest 41 = .ok (.ifCond .gt 7, 3) := by decide +kernel
theorem dX12_greatest_44 : decode cX12_greatest 44 = .ok (.iconst 1, 1) := by decide +kernel
theorem dX12_greatest_45 : decode cX12_greatest 45 = .ok (.goto 4, 3) := by decide +kernel
theorem dX12_greatest_48 : decode cX12_greatest 48 = .ok (.iconst 0, 1) := by decide +kernel
theorem dX12_greatest_49 : decode cX12_greatest 49 = .ok (.istore 6, 2) := by decide +kernel
theorem dX12_greatest_51 : decode cX12_greatest 51 = .ok (.iload 6, 2) := by decide +kernel
theorem dX12_greatest_53 : decode cX12_greatest 53 = .ok (.ifCond .eq 8, 3) := by decide +kernel
theorem dX12_greatest_56 : decode cX12_greatest 56 = .ok (.lload 7, 2) := by decide +kernel
theorem dX12_greatest_58 : decode cX12_greatest 58 = .ok (.goto 5, 3) := by decide +kernel
theorem dX12_greatest_61 : decode cX12_greatest 61 = .ok (.lload 4, 2) := by decide +kernel
theorem dX12_greatest_63 : decode cX12_greatest 63 = .ok (.lstore 4, 2) := by decide +kernel
theorem dX12_greatest_65 : decode cX12_greatest 65 = .ok (.iload_n 3, 1) := by decide +kernel
theorem dX12_greatest_66 : decode cX12_greatest 66 = .ok (.iload 6, 2) := by decide +kernel
theorem dX12_greatest_68 : decode cX12_greatest 68 = .ok (.ifCond .eq 7, 3) := by decide +kernel
theorem dX12_greatest_71 : decode cX12_greatest 71 = .ok (.iconst 1, 1) := by decide +kernel
theorem dX12_greatest_72 : decode cX12_greatest 72 = .ok (.goto 4, 3) := by decide +kernel
theorem dX12_greatest_75 : decode cX12_greatest 75 = .ok (.iconst 0, 1) := by decide +kernel
theorem dX12_greatest_76 : decode cX12_greatest 76 = .ok (.iadd, 1) := by decide +kernel
theorem dX12_greatest_77 : decode cX12_greatest 77 = .ok (.istore_n 3, 1) := by decide +kernel
theorem dX12_greatest_78 : decode cX12_greatest 78 = .ok (.goto (-62), 3) := by decide +kernel
theorem dX12_greatest_81 : decode cX12_greatest 81 = .ok (.iload_n 3, 1) := by decide +kernel
theorem dX12_greatest_82 : decode cX12_greatest 82 = .ok (.ireturn, 1) := by decide +kernel
theorem dX12_cascades_0 : decode cX12_cascades 0 = .ok (.iload_n 1, 1) := by decide +kernel
theorem dX12_cascades_1 : decode cX12_cascades 1 = .ok (.i2l, 1) := by decide +kernel
theorem dX12_cascades_2 : decode cX12_cascades 2 = .ok (.lconst 0, 1) := by decide +kernel
theorem dX12_cascades_3 : decode cX12_cascades 3 = .ok (.ldc2_w 234, 3) := by decide +kernel
theorem dX12_cascades_6 : decode cX12_cascades 6 = .ok (.invokestatic 100, 3) := by decide +kernel
theorem dX12_cascades_9 : decode cX12_cascades 9 = .ok (.ifCond .eq 15, 3) := by decide +kernel
theorem dX12_cascades_12 : decode cX12_cascades 12 = .ok (.iload_n 2, 1) := by decide +kernel
theorem dX12_cascades_13 : decode cX12_cascades 13 = .ok (.i2l, 1) := by decide +kernel
theorem dX12_cascades_14 : decode cX12_cascades 14 = .ok (.lconst 1, 1) := by decide +kernel
theorem dX12_cascades_15 : decode cX12_cascades 15 = .ok (.ldc2_w 236, 3) := by decide +kernel
theorem dX12_cascades_18 : decode cX12_cascades 18 = .ok (.invokestatic 100, 3) := by decide +kernel
theorem dX12_cascades_21 : decode cX12_cascades 21 = .ok (.ifCond .ne 5, 3) := by decide +kernel
theorem dX12_cascades_24 : decode cX12_cascades 24 = .ok (.iconst 0, 1) := by decide +kernel
theorem dX12_cascades_25 : decode cX12_cascades 25 = .ok (.ireturn, 1) := by decide +kernel
theorem dX12_cascades_26 : decode cX12_cascades 26 = .ok (.iload_n 1, 1) := by decide +kernel
theorem dX12_cascades_27 : decode cX12_cascades 27 = .ok (.i2l, 1) := by decide +kernel
theorem dX12_cascades_28 : decode cX12_cascades 28 = .ok (.lstore_n 3, 1) := by decide +kernel
theorem dX12_cascades_29 : decode cX12_cascades 29 = .ok (.aload_n 0, 1) := by decide +kernel
theorem dX12_cascades_30 : decode cX12_cascades 30 = .ok (.iconst 0, 1) := by decide +kernel
theorem dX12_cascades_31 : decode cX12_cascades 31 = .ok (.putfield 238, 3) := by decide +kernel
theorem dX12_cascades_34 : decode cX12_cascades 34 = .ok (.aload_n 0, 1) := by decide +kernel
theorem dX12_cascades_35 : decode cX12_cascades 35 = .ok (.lconst 0, 1) := by decide +kernel
theorem dX12_cascades_36 : decode cX12_cascades 36 = .ok (.putfield 241, 3) := by decide +kernel
theorem dX12_cascades_39 : decode cX12_cascades 39 = .ok (.iload_n 2, 1) := by decide +kernel
theorem dX12_cascades_40 : decode cX12_cascades 40 = .ok (.istore 5, 2) := by decide +kernel
theorem dX12_cascades_42 : decode cX12_cascades 42 = .ok (.iload 5, 2) := by decide +kernel
theorem dX12_cascades_44 : decode cX12_cascades 44 = .ok (.ifCond .le 84, 3) := by decide +kernel
theorem dX12_cascades_47 : decode cX12_cascades 47 = .ok (.lload_n 3, 1) := by decide +kernel
theorem dX12_cascades_48 : decode cX12_cascades 48 = .ok (.lconst 0, 1) := by decide +kernel
theorem dX12_cascades_49 : decode cX12_cascades 49 = .ok (.lcmp, 1) := by decide +kernel
theorem dX12_cascades_50 : decode cX12_cascades 50 = .ok (.ifCond .le 78, 3) := by decide +kernel
theorem dX12_cascades_53 : decode cX12_cascades 53 = .ok (.lload_n 3, 1) := by decide +kernel
theorem dX12_cascades_54 : decode cX12_cascades 54 = .ok (.iload 5, 2) := by decide +kernel
theorem dX12_cascades_56 : decode cX12_cascades 56 = .ok (.invokestatic 244, 3) := by decide +kernel
theorem dX12_cascades_59 : decode cX12_cascades 59 = .ok (.istore 6, 2) := by decide +kernel
theorem dX12_cascades_61 : decode cX12_cascades 61 = .ok (.aload_n 0, 1) := by decide +kernel
theorem dX12_cascades_62 : decode cX12_cascades 62 = .ok (.getfield 44, 3) := by decide +kernel
theorem dX12_cascades_65 : decode cX12_cascades 65 = .ok (.aload_n 0, 1) := by decide +kernel
theorem dX12_cascades_66 : decode cX12_cascades 66 = .ok (.getfield 238, 3) := by decide +kernel
theorem dX12_cascades_69 : decode cX12_cascades 69 = .ok (.iload 6, 2) := by decide +kernel
theorem dX12_cascades_71 : decode cX12_cascades 71 = .ok (.iastore, 1) := by decide +kernel
theorem dX12_cascades_72 : decode cX12_cascades 72 = .ok (.aload_n 0, 1) := by decide +kernel
theorem dX12_cascades_73 : decode cX12_cascades 73 = .ok (.dup, 1) := by decide +kernel
theorem dX12_cascades_74 : decode cX12_cascades 74 = .ok (.getfield 238, 3) := by decide +kernel
theorem dX12_cascades_77 : decode cX12_cascades 77 = .ok (.iconst 1, 1) := by decide +kernel
theorem dX12_cascades_78 : decode cX12_cascades 78 = .ok (.iadd, 1) := by decide +kernel
theorem dX12_cascades_79 : decode cX12_cascades 79 = .ok (.putfield 238, 3) := by decide +kernel
theorem dX12_cascades_82 : decode cX12_cascades 82 = .ok (.lload_n 3, 1) := by decide +kernel
theorem dX12_cascades_83 : decode cX12_cascades 83 = .ok (.iload 5, 2) := by decide +kernel
theorem dX12_cascades_85 : decode cX12_cascades 85 = .ok (.iconst 1, 1) := by decide +kernel
theorem dX12_cascades_86 : decode cX12_cascades 86 = .ok (.if_icmp .ne 9, 3) := by decide +kernel
theorem dX12_cascades_89 : decode cX12_cascades 89 = .ok (.iload 6, 2) := by decide +kernel
theorem dX12_cascades_91 : decode cX12_cascades 91 = .ok (.i2l, 1) := by decide +kernel
theorem dX12_cascades_92 : decode cX12_cascades 92 = .ok (.goto 10, 3) := by decide +kernel
theorem dX12_cascades_95 : decode cX12_cascades 95 = .ok (.iload 6, 2) := by decide +kernel
theorem dX12_cascades_97 : decode cX12_cascades 97 = .ok (.iload 5, 2) := by decide +kernel
theorem dX12_cascades_99 : decode cX12_cascades 99 = .ok (.invokestatic 222, 3) := by decide +kernel
theorem dX12_cascades_102 : decode cX12_cascades 102 = .ok (.lsub, 1) := by decide +kernel
theorem dX12_cascades_103 : decode cX12_cascades 103 = .ok (.lstore_n 3, 1) := by decide +kernel
theorem dX12_cascades_104 : decode cX12_cascades 104 = .ok (.aload_n 0, 1) := by decide +kernel
theorem dX12_cascades_105 : decode cX12_cascades 105 = .ok (.dup, 1) := by decide +kernel
theorem dX12_cascades_106 : decode cX12_cascades 106 = .ok (.getfield 241, 3) := by decide +kernel
theorem dX12_cascades_109 : decode cX12_cascades 109 = .ok (.iload 6, 2) := by decide +kernel
theorem dX12_cascades_111 : decode cX12_cascades 111 = .ok (.iload 5, 2) := by decide +kernel
theorem dX12_cascades_113 : decode cX12_cascades 113 = .ok (.iconst 1, 1) := by decide +kernel
theorem dX12_cascades_114 : decode cX12_cascades 114 = .ok (.isub, 1) := by decide +kernel
theorem dX12_cascades_115 : decode cX12_cascades 115 = .ok (.invokestatic 222, 3) := by decide +kernel
theorem dX12_cascades_118 : decode cX12_cascades 118 = .ok (.ladd, 1) := by decide +kernel
theorem dX12_cascades_119 : decode cX12_cascades 119 = .ok (.putfield 241, 3) := by decide +kernel
theorem dX12_cascades_122 : decode cX12_cascades 122 = .ok (.iinc 5 (-1), 3) := by decide +kernel
theorem dX12_cascades_125 : decode cX12_cascades 125 = .ok (.goto (-83), 3) := by decide +kernel
theorem dX12_cascades_128 : decode cX12_cascades 128 = .ok (.iconst 1, 1) := by decide +kernel
theorem dX12_cascades_129 : decode cX12_cascades 129 = .ok (.ireturn, 1) := by decide +kernel
theorem dX12_cascade_0 : decode cX12_cascade 0 = .ok (.aload_n 0, 1) := by decide +kernel
theorem dX12_cascade_1 : decode cX12_cascade 1 = .ok (.iload_n 1, 1) := by decide +kernel
theorem dX12_cascade_2 : decode cX12_cascade 2 = .ok (.iload_n 2, 1) := by decide +kernel
theorem dX12_cascade_3 : decode cX12_cascade 3 = .ok (.invokevirtual 247, 3) := by decide +kernel
theorem dX12_cascade_6 : decode cX12_cascade 6 = .ok (.ifCond .eq 8, 3) := by decide +kernel
theorem dX12_cascade_9 : decode cX12_cascade 9 = .ok (.iload_n 3, 1) := by decide +kernel
theorem dX12_cascade_10 : decode cX12_cascade 10 = .ok (.iconst (-1), 1) := by decide +kernel
theorem dX12_cascade_11 : decode cX12_cascade 11 = .ok (.if_icmp .ge 5, 3) := by decide +kernel
theorem dX12_cascade_14 : decode cX12_cascade 14 = .ok (.iconst (-1), 1) := by decide +kernel
theorem dX12_cascade_15 : decode cX12_cascade 15 = .ok (.ireturn, 1) := by decide +kernel
theorem dX12_cascade_16 : decode cX12_cascade 16 = .ok (.iload_n 3, 1) := by decide +kernel
theorem dX12_cascade_17 : decode cX12_cascade 17 = .ok (.ifCond .ge 10, 3) := by decide +kernel
theorem dX12_cascade_20 : decode cX12_cascade 20 = .ok (.aload_n 0, 1) := by decide +kernel
theorem dX12_cascade_21 : decode cX12_cascade 21 = .ok (.getfield 238, 3) := by decide +kernel
theorem dX12_cascade_24 : decode cX12_cascade 24 = .ok (.goto 22, 3) := by decide +kernel
theorem dX12_cascade_27 : decode cX12_cascade 27 = .ok (.iload_n 3, 1) := by decide +kernel
theorem dX12_cascade_28 : decode cX12_cascade 28 = .ok (.aload_n 0, 1) := by decide +kernel
theorem dX12_cascade_29 : decode cX12_cascade 29 = .ok (.getfield 238, 3) := by decide +kernel
theorem dX12_cascade_32 : decode cX12_cascade 32 = .ok (.if_icmp .ge 12, 3) := by decide +kernel
theorem dX12_cascade_35 : decode cX12_cascade 35 = .ok (.aload_n 0, 1) := by decide +kernel
theorem dX12_cascade_36 : decode cX12_cascade 36 = .ok (.getfield 44, 3) := by decide +kernel
theorem dX12_cascade_39 : decode cX12_cascade 39 = .ok (.iload_n 3, 1) := by decide +kernel
theorem dX12_cascade_40 : decode cX12_cascade 40 = .ok (.iaload, 1) := by decide +kernel
theorem dX12_cascade_41 : decode cX12_cascade 41 = .ok (.goto 5, 3) := by decide +kernel
theorem dX12_cascade_44 : decode cX12_cascade 44 = .ok (.bipush (-2), 2) := by decide +kernel
theorem dX12_cascade_46 : decode cX12_cascade 46 = .ok (.ireturn, 1) := by decide +kernel
theorem dX12_bound_0 : decode cX12_bound 0 = .ok (.aload_n 0, 1) := by decide +kernel
theorem dX12_bound_1 : decode cX12_bound 1 = .ok (.iload_n 1, 1) := by decide +kernel
theorem dX12_bound_2 : decode cX12_bound 2 = .ok (.iload_n 2, 1) := by decide +kernel
theorem dX12_bound_3 : decode cX12_bound 3 = .ok (.invokevirtual 247, 3) := by decide +kernel
theorem dX12_bound_6 : decode cX12_bound 6 = .ok (.ifCond .eq 11, 3) := by decide +kernel
theorem dX12_bound_9 : decode cX12_bound 9 = .ok (.aload_n 0, 1) := by decide +kernel
theorem dX12_bound_10 : decode cX12_bound 10 = .ok (.getfield 241, 3) := by decide +kernel
theorem dX12_bound_13 : decode cX12_bound 13 = .ok (.l2i, 1) := by decide +kernel
theorem dX12_bound_14 : decode cX12_bound 14 = .ok (.goto 4, 3) := by decide +kernel
theorem dX12_bound_17 : decode cX12_bound 17 = .ok (.iconst (-1), 1) := by decide +kernel
theorem dX12_bound_18 : decode cX12_bound 18 = .ok (.ireturn, 1) := by decide +kernel
theorem dX12_scaled_0 : decode cX12_scaled 0 = .ok (.aload_n 0, 1) := by decide +kernel
theorem dX12_scaled_1 : decode cX12_scaled 1 = .ok (.iload_n 1, 1) := by decide +kernel
theorem dX12_scaled_2 : decode cX12_scaled 2 = .ok (.iload_n 2, 1) := by decide +kernel
theorem dX12_scaled_3 : decode cX12_scaled 3 = .ok (.invokevirtual 247, 3) := by decide +kernel
theorem dX12_scaled_6 : decode cX12_scaled 6 = .ok (.ifCond .eq 15, 3) := by decide +kernel
theorem dX12_scaled_9 : decode cX12_scaled 9 = .ok (.iload_n 3, 1) := by decide +kernel
theorem dX12_scaled_10 : decode cX12_scaled 10 = .ok (.i2l, 1) := by decide +kernel
theorem dX12_scaled_11 : decode cX12_scaled 11 = .ok (.lconst 1, 1) := by decide +kernel
theorem dX12_scaled_12 : decode cX12_scaled 12 = .ok (.ldc2_w 234, 3) := by decide +kernel
theorem dX12_scaled_15 : decode cX12_scaled 15 = .ok (.invokestatic 100, 3) := by decide +kernel
theorem dX12_scaled_18 : decode cX12_scaled 18 = .ok (.ifCond .ne 5, 3) := by decide +kernel
theorem dX12_scaled_21 : decode cX12_scaled 21 = .ok (.iconst (-1), 1) := by decide +kernel
theorem dX12_scaled_22 : decode cX12_scaled 22 = .ok (.ireturn, 1) := by decide +kernel
theorem dX12_scaled_23 : decode cX12_scaled 23 = .ok (.aload_n 0, 1) := by decide +kernel
theorem dX12_scaled_24 : decode cX12_scaled 24 = .ok (.getfield 241, 3) := by decide +kernel
theorem dX12_scaled_27 : decode cX12_scaled 27 = .ok (.iload_n 3, 1) := by decide +kernel
theorem dX12_scaled_28 : decode cX12_scaled 28 = .ok (.i2l, 1) := by decide +kernel
theorem dX12_scaled_29 : decode cX12_scaled 29 = .ok (.lmul, 1) := by decide +kernel
theorem dX12_scaled_30 : decode cX12_scaled 30 = .ok (.lstore 4, 2) := by decide +kernel
theorem dX12_scaled_32 : decode cX12_scaled 32 = .ok (.lload 4, 2) := by decide +kernel
theorem dX12_scaled_34 : decode cX12_scaled 34 = .ok (.lload 4, 2) := by decide +kernel
theorem dX12_scaled_36 : decode cX12_scaled 36 = .ok (.l2i, 1) := by decide +kernel
theorem dX12_scaled_37 : decode cX12_scaled 37 = .ok (.i2l, 1) := by decide +kernel
theorem dX12_scaled_38 : decode cX12_scaled 38 = .ok (.lcmp, 1) := by decide +kernel
theorem dX12_scaled_39 : decode cX12_scaled 39 = .ok (.ifCond .ne 9, 3) := by decide +kernel
theorem dX12_scaled_42 : decode cX12_scaled 42 = .ok (.lload 4, 2) := by decide +kernel
theorem dX12_scaled_44 : decode cX12_scaled 44 = .ok (.l2i, 1) := by decide +kernel
theorem dX12_scaled_45 : decode cX12_scaled 45 = .ok (.goto 5, 3) := by decide +kernel
theorem dX12_scaled_48 : decode cX12_scaled 48 = .ok (.bipush (-6), 2) := by decide +kernel
theorem dX12_scaled_50 : decode cX12_scaled 50 = .ok (.ireturn, 1) := by decide +kernel
theorem dX12_manyCells_0 : decode cX12_manyCells 0 = .ok (.aload_n 0, 1) := by decide +kernel
theorem dX12_manyCells_1 : decode cX12_manyCells 1 = .ok (.getfield 47, 3) := by decide +kernel
theorem dX12_manyCells_4 : decode cX12_manyCells 4 = .ok (.aload_n 0, 1) := by decide +kernel
theorem dX12_manyCells_5 : decode cX12_manyCells 5 = .ok (.getfield 50, 3) := by decide +kernel
theorem dX12_manyCells_8 : decode cX12_manyCells 8 = .ok (.imul, 1) := by decide +kernel
theorem dX12_manyCells_9 : decode cX12_manyCells 9 = .ok (.ireturn, 1) := by decide +kernel
theorem dX12_grid_0 : decode cX12_grid 0 = .ok (.iload_n 1, 1) := by decide +kernel
theorem dX12_grid_1 : decode cX12_grid 1 = .ok (.i2l, 1) := by decide +kernel
theorem dX12_grid_2 : decode cX12_grid 2 = .ok (.lconst 1, 1) := by decide +kernel
theorem dX12_grid_3 : decode cX12_grid 3 = .ok (.ldc2_w 250, 3) := by decide +kernel
theorem dX12_grid_6 : decode cX12_grid 6 = .ok (.invokestatic 100, 3) := by decide +kernel
theorem dX12_grid_9 : decode cX12_grid 9 = .ok (.ifCond .eq 15, 3) := by decide +kernel
theorem dX12_grid_12 : decode cX12_grid 12 = .ok (.iload_n 2, 1) := by decide +kernel
theorem dX12_grid_13 : decode cX12_grid 13 = .ok (.i2l, 1) := by decide +kernel
theorem dX12_grid_14 : decode cX12_grid 14 = .ok (.lconst 1, 1) := by decide +kernel
theorem dX12_grid_15 : decode cX12_grid 15 = .ok (.ldc2_w 250, 3) := by decide +kernel
theorem dX12_grid_18 : decode cX12_grid 18 = .ok (.invokestatic 100, 3) := by decide +kernel
theorem dX12_grid_21 : decode cX12_grid 21 = .ok (.ifCond .ne 5, 3) := by decide +kernel
theorem dX12_grid_24 : decode cX12_grid 24 = .ok (.iconst (-1), 1) := by decide +kernel
theorem dX12_grid_25 : decode cX12_grid 25 = .ok (.ireturn, 1) := by decide +kernel
theorem dX12_grid_26 : decode cX12_grid 26 = .ok (.bipush 10, 2) := by decide +kernel
theorem dX12_grid_28 : decode cX12_grid 28 = .ok (.aload_n 0, 1) := by decide +kernel
theorem dX12_grid_29 : decode cX12_grid 29 = .ok (.getfield 47, 3) := by decide +kernel
theorem dX12_grid_32 : decode cX12_grid 32 = .ok (.imul, 1) := by decide +kernel
theorem dX12_grid_33 : decode cX12_grid 33 = .ok (.aload_n 0, 1) := by decide +kernel
theorem dX12_grid_34 : decode cX12_grid 34 = .ok (.getfield 50, 3) := by decide +kernel
theorem dX12_grid_37 : decode cX12_grid 37 = .ok (.iadd, 1) := by decide +kernel
theorem dX12_grid_38 : decode cX12_grid 38 = .ok (.istore_n 3, 1) := by decide +kernel
theorem dX12_grid_39 : decode cX12_grid 39 = .ok (.aload_n 0, 1) := by decide +kernel
theorem dX12_grid_40 : decode cX12_grid 40 = .ok (.iload_n 1, 1) := by decide +kernel
theorem dX12_grid_41 : decode cX12_grid 41 = .ok (.putfield 47, 3) := by decide +kernel
theorem dX12_grid_44 : decode cX12_grid 44 = .ok (.aload_n 0, 1) := by decide +kernel
theorem dX12_grid_45 : decode cX12_grid 45 = .ok (.iload_n 2, 1) := by decide +kernel
theorem dX12_grid_46 : decode cX12_grid 46 = .ok (.putfield 50, 3) := by decide +kernel
theorem dX12_grid_49 : decode cX12_grid 49 = .ok (.iload_n 3, 1) := by decide +kernel
theorem dX12_grid_50 : decode cX12_grid 50 = .ok (.ireturn, 1) := by decide +kernel
theorem dX12_beside_0 : decode cX12_beside 0 = .ok (.iload_n 1, 1) := by decide +kernel
theorem dX12_beside_1 : decode cX12_beside 1 = .ok (.aload_n 0, 1) := by decide +kernel
theorem dX12_beside_2 : decode cX12_beside 2 = .ok (.getfield 47, 3) := by decide +kernel
theorem dX12_beside_5 : decode cX12_beside 5 = .ok (.irem, 1) := by decide +kernel
theorem dX12_beside_6 : decode cX12_beside 6 = .ok (.istore_n 2, 1) := by decide +kernel
theorem dX12_beside_7 : decode cX12_beside 7 = .ok (.iload_n 2, 1) := by decide +kernel
theorem dX12_beside_8 : decode cX12_beside 8 = .ok (.ifCond .le 11, 3) := by decide +kernel
theorem dX12_beside_11 : decode cX12_beside 11 = .ok (.lconst 1, 1) := by decide +kernel
theorem dX12_beside_12 : decode cX12_beside 12 = .ok (.iload_n 1, 1) := by decide +kernel
theorem dX12_beside_13 : decode cX12_beside 13 = .ok (.iconst 1, 1) := by decide +kernel
theorem dX12_beside_14 : decode cX12_beside 14 = .ok (.isub, 1) := by decide +kernel
theorem dX12_beside_15 : decode cX12_beside 15 = .ok (.lshl, 1) := by decide +kernel
theorem dX12_beside_16 : decode cX12_beside 16 = .ok (.goto 4, 3) := by decide +kernel
theorem dX12_beside_19 : decode cX12_beside 19 = .ok (.lconst 0, 1) := by decide +kernel
theorem dX12_beside_20 : decode cX12_beside 20 = .ok (.lstore_n 3, 1) := by decide +kernel
theorem dX12_beside_21 : decode cX12_beside 21 = .ok (.lload_n 3, 1) := by decide +kernel
theorem dX12_beside_22 : decode cX12_beside 22 = .ok (.iload_n 2, 1) := by decide +kernel
theorem dX12_beside_23 : decode cX12_beside 23 = .ok (.aload_n 0, 1) := by decide +kernel
theorem dX12_beside_24 : decode cX12_beside 24 = .ok (.getfield 47, 3) := by decide +kernel
theorem dX12_beside_27 : decode cX12_beside 27 = .ok (.iconst 1, 1) := by decide +kernel
theorem dX12_beside_28 : decode cX12_beside 28 = .ok (.isub, 1) := by decide +kernel
theorem dX12_beside_29 : decode cX12_beside 29 = .ok (.if_icmp .ge 11, 3) := by decide +kernel
theorem dX12_beside_32 : decode cX12_beside 32 = .ok (.lconst 1, 1) := by decide +kernel
theorem dX12_beside_33 : decode cX12_beside 33 = .ok (.iload_n 1, 1) := by decide +kernel
theorem dX12_beside_34 : decode cX12_beside 34 = .ok (.iconst 1, 1) := by decide +kernel
theorem dX12_beside_35 : decode cX12_beside 35 = .ok (.iadd, 1) := by decide +kernel
theorem dX12_beside_36 : decode cX12_beside 36 = .ok (.lshl, 1) := by decide +kernel
theorem dX12_beside_37 : decode cX12_beside 37 = .ok (.goto 4, 3) := by decide +kernel
theorem dX12_beside_40 : decode cX12_beside 40 = .ok (.lconst 0, 1) := by decide +kernel
theorem dX12_beside_41 : decode cX12_beside 41 = .ok (.lor, 1) := by decide +kernel
theorem dX12_beside_42 : decode cX12_beside 42 = .ok (.lstore_n 3, 1) := by decide +kernel
theorem dX12_beside_43 : decode cX12_beside 43 = .ok (.lload_n 3, 1) := by decide +kernel
theorem dX12_beside_44 : decode cX12_beside 44 = .ok (.iload_n 1, 1) := by decide +kernel
theorem dX12_beside_45 : decode cX12_beside 45 = .ok (.aload_n 0, 1) := by decide +kernel
theorem dX12_beside_46 : decode cX12_beside 46 = .ok (.getfield 47, 3) := by decide +kernel
theorem dX12_beside_49 : decode cX12_beside 49 = .ok (.if_icmp .lt 14, 3) := by decide +kernel
theorem dX12_beside_52 : decode cX12_beside 52 = .ok (.lconst 1, 1) := by decide +kernel
theorem dX12_beside_53 : decode cX12_beside 53 = .ok (.iload_n 1, 1) := by decide +kernel
theorem dX12_beside_54 : decode cX12_beside 54 = .ok (.aload_n 0, 1) := by decide +kernel
theorem dX12_beside_55 : decode cX12_beside 55 = .ok (.getfield 47, 3) := by decide +kernel
theorem dX12_beside_58 : decode cX12_beside 58 = .ok (.isub, 1) := by decide +kernel
theorem dX12_beside_59 : decode cX12_beside 59 = .ok (.lshl, 1) := by decide +kernel
theorem dX12_beside_60 : decode cX12_beside 60 = .ok (.goto 4, 3) := by decide +kernel
theorem dX12_beside_63 : decode cX12_beside 63 = .ok (.lconst 0, 1) := by decide +kernel
theorem dX12_beside_64 : decode cX12_beside 64 = .ok (.lor, 1) := by decide +kernel
theorem dX12_beside_65 : decode cX12_beside 65 = .ok (.lstore_n 3, 1) := by decide +kernel
theorem dX12_beside_66 : decode cX12_beside 66 = .ok (.lload_n 3, 1) := by decide +kernel
theorem dX12_beside_67 : decode cX12_beside 67 = .ok (.iload_n 1, 1) := by decide +kernel
theorem dX12_beside_68 : decode cX12_beside 68 = .ok (.aload_n 0, 1) := by decide +kernel
theorem dX12_beside_69 : decode cX12_beside 69 = .ok (.getfield 47, 3) := by decide +kernel
theorem dX12_beside_72 : decode cX12_beside 72 = .ok (.iadd, 1) := by decide +kernel
theorem dX12_beside_73 : decode cX12_beside 73 = .ok (.aload_n 0, 1) := by decide +kernel
theorem dX12_beside_74 : decode cX12_beside 74 = .ok (.invokevirtual 252, 3) := by decide +kernel
theorem dX12_beside_77 : decode cX12_beside 77 = .ok (.if_icmp .ge 14, 3) := by decide +kernel
theorem dX12_beside_80 : decode cX12_beside 80 = .ok (.lconst 1, 1) := by decide +kernel
theorem dX12_beside_81 : decode cX12_beside 81 = .ok (.iload_n 1, 1) := by decide +kernel
theorem dX12_beside_82 : decode cX12_beside 82 = .ok (.aload_n 0, 1) := by decide +kernel
theorem dX12_beside_83 : decode cX12_beside 83 = .ok (.getfield 47, 3) := by decide +kernel
theorem dX12_beside_86 : decode cX12_beside 86 = .ok (.iadd, 1) := by decide +kernel
theorem dX12_beside_87 : decode cX12_beside 87 = .ok (.lshl, 1) := by decide +kernel
theorem dX12_beside_88 : decode cX12_beside 88 = .ok (.goto 4, 3) := by decide +kernel
theorem dX12_beside_91 : decode cX12_beside 91 = .ok (.lconst 0, 1) := by decide +kernel
theorem dX12_beside_92 : decode cX12_beside 92 = .ok (.lor, 1) := by decide +kernel
theorem dX12_beside_93 : decode cX12_beside 93 = .ok (.lreturn, 1) := by decide +kernel
theorem dX12_borderCells_0 : decode cX12_borderCells 0 = .ok (.lconst 0, 1) := by decide +kernel
theorem dX12_borderCells_1 : decode cX12_borderCells 1 = .ok (.lstore_n 3, 1) := by decide +kernel
theorem dX12_borderCells_2 : decode cX12_borderCells 2 = .ok (.iconst 0, 1) := by decide +kernel
theorem dX12_borderCells_3 : decode cX12_borderCells 3 = .ok (.istore 5, 2) := by decide +kernel
theorem dX12_borderCells_5 : decode cX12_borderCells 5 = .ok (.iload 5, 2) := by decide +kernel
theorem dX12_borderCells_7 : decode cX12_borderCells 7 = .ok (.aload_n 0, 1) := by decide +kernel
theorem dX12_borderCells_8 : decode cX12_borderCells 8 = .ok (.invokevirtual 252, 3) := by decide +kernel
theorem dX12_borderCells_11 : decode cX12_borderCells 11 = .ok (.if_icmp .ge 31, 3) := by decide +kernel
theorem dX12_borderCells_14 : decode cX12_borderCells 14 = .ok (.lload_n 3, 1) := by decide +kernel
theorem dX12_borderCells_15 : decode cX12_borderCells 15 = .ok (.lload_n 1, 1) := by decide +kernel
theorem dX12_borderCells_16 : decode cX12_borderCells 16 = .ok (.iload 5, 2) := by decide +kernel
theorem dX12_borderCells_18 : decode cX12_borderCells 18 = .ok (.invokestatic 139, 3) := by decide +kernel
theorem dX12_borderCells_21 : decode cX12_borderCells 21 = .ok (.ifCond .eq 12, 3) := by decide +kernel
theorem dX12_borderCells_24 : decode cX12_borderCells 24 = .ok (.aload_n 0, 1) := by decide +kernel
theorem dX12_borderCells_25 : decode cX12_borderCells 25 = .ok (.iload 5, 2) := by decide +kernel
theorem dX12_borderCells_27 : decode cX12_borderCells 27 = .ok (.invokevirtual 255, 3) := by decide +kernel
theorem dX12_borderCells_30 : decode cX12_borderCells 30 = .ok (.goto 4, 3) := by decide +kernel
theorem dX12_borderCells_33 : decode cX12_borderCells 33 = .ok (.lconst 0, 1) := by decide +kernel
theorem dX12_borderCells_34 : decode cX12_borderCells 34 = .ok (.lor, 1) := by decide +kernel
theorem dX12_borderCells_35 : decode cX12_borderCells 35 = .ok (.lstore_n 3, 1) := by decide +kernel
theorem dX12_borderCells_36 : decode cX12_borderCells 36 = .ok (.iinc 5 1, 3) := by decide +kernel
theorem dX12_borderCells_39 : decode cX12_borderCells 39 = .ok (.goto (-34), 3) := by decide +kernel
theorem dX12_borderCells_42 : decode cX12_borderCells 42 = .ok (.lload_n 3, 1) := by decide +kernel
theorem dX12_borderCells_43 : decode cX12_borderCells 43 = .ok (.lload_n 1, 1) := by decide +kernel
theorem dX12_borderCells_44 : decode cX12_borderCells 44 = .ok (.ldc2_w 95, 3) := by decide +kernel
theorem dX12_borderCells_47 : decode cX12_borderCells 47 = .ok (.lxor, 1) := by decide +kernel
theorem dX12_borderCells_48 : decode cX12_borderCells 48 = .ok (.land, 1) := by decide +kernel
theorem dX12_borderCells_49 : decode cX12_borderCells 49 = .ok (.lreturn, 1) := by decide +kernel
theorem dX12_edgesOfCells_0 : decode cX12_edgesOfCells 0 = .ok (.iconst 0, 1) := by decide +kernel
theorem dX12_edgesOfCells_1 : decode cX12_edgesOfCells 1 = .ok (.istore_n 3, 1) := by decide +kernel
theorem dX12_edgesOfCells_2 : decode cX12_edgesOfCells 2 = .ok (.iconst 0, 1) := by decide +kernel
theorem dX12_edgesOfCells_3 : decode cX12_edgesOfCells 3 = .ok (.istore 4, 2) := by decide +kernel
theorem dX12_edgesOfCells_5 : decode cX12_edgesOfCells 5 = .ok (.iload 4, 2) := by decide +kernel
theorem dX12_edgesOfCells_7 : decode cX12_edgesOfCells 7 = .ok (.aload_n 0, 1) := by decide +kernel
theorem dX12_edgesOfCells_8 : decode cX12_edgesOfCells 8 = .ok (.invokevirtual 252, 3) := by decide +kernel
theorem dX12_edgesOfCells_11 : decode cX12_edgesOfCells 11 = .ok (.if_icmp .ge 40, 3) := by decide +kernel
theorem dX12_edgesOfCells_14 : decode cX12_edgesOfCells 14 = .ok (.iload_n 3, 1) := by decide +kernel
theorem dX12_edgesOfCells_15 : decode cX12_edgesOfCells 15 = .ok (.lload_n 1, 1) := by decide +kernel
theorem dX12_edgesOfCells_16 : decode cX12_edgesOfCells 16 = .ok (.iload 4, 2) := by decide +kernel
theorem dX12_edgesOfCells_18 : decode cX12_edgesOfCells 18 = .ok (.invokestatic 139, 3) := by decide +kernel
theorem dX12_edgesOfCells_21 : decode cX12_edgesOfCells 21 = .ok (.ifCond .eq 21, 3) := by decide +kernel
theorem dX12_edgesOfCells_24 : decode cX12_edgesOfCells 24 = .ok (.aload_n 0, 1) := by decide +kernel
theorem dX12_edgesOfCells_25 : decode cX12_edgesOfCells 25 = .ok (.iload 4, 2) := by decide +kernel
theorem dX12_edgesOfCells_27 : decode cX12_edgesOfCells 27 = .ok (.invokevirtual 255, 3) := by decide +kernel
theorem dX12_edgesOfCells_30 : decode cX12_edgesOfCells 30 = .ok (.lload_n 1, 1) := by decide +kernel
theorem dX12_edgesOfCells_31 : decode cX12_edgesOfCells 31 = .ok (.ldc2_w 95, 3) := by decide +kernel
theorem dX12_edgesOfCells_34 : decode cX12_edgesOfCells 34 = .ok (.lxor, 1) := by decide +kernel
theorem dX12_edgesOfCells_35 : decode cX12_edgesOfCells 35 = .ok (.land, 1) := by decide +kernel
theorem dX12_edgesOfCells_36 : decode cX12_edgesOfCells 36 = .ok (.invokestatic 147, 3) := by decide +kernel
theorem dX12_edgesOfCells_39 : decode cX12_edgesOfCells 39 = .ok (.goto 4, 3) := by decide +kernel
theorem dX12_edgesOfCells_42 : decode cX12_edgesOfCells 42 = .ok (.iconst 0, 1) := by decide +kernel
theorem dX12_edgesOfCells_43 : decode cX12_edgesOfCells 43 = .ok (.iadd, 1) := by decide +kernel
theorem dX12_edgesOfCells_44 : decode cX12_edgesOfCells 44 = .ok (.istore_n 3, 1) := by decide +kernel
theorem dX12_edgesOfCells_45 : decode cX12_edgesOfCells 45 = .ok (.iinc 4 1, 3) := by decide +kernel
theorem dX12_edgesOfCells_48 : decode cX12_edgesOfCells 48 = .ok (.goto (-43), 3) := by decide +kernel
theorem dX12_edgesOfCells_51 : decode cX12_edgesOfCells 51 = .ok (.iload_n 3, 1) := by decide +kernel
theorem dX12_edgesOfCells_52 : decode cX12_edgesOfCells 52 = .ok (.ireturn, 1) := by decide +kernel
theorem dX12_areCells_0 : decode cX12_areCells 0 = .ok (.lload_n 1, 1) := by decide +kernel
theorem dX12_areCells_1 : decode cX12_areCells 1 = .ok (.aload_n 0, 1) := by decide +kernel
theorem dX12_areCells_2 : decode cX12_areCells 2 = .ok (.invokevirtual 252, 3) := by decide +kernel
theorem dX12_areCells_5 : decode cX12_areCells 5 = .ok (.invokestatic 119, 3) := by decide +kernel
theorem dX12_areCells_8 : decode cX12_areCells 8 = .ok (.ldc2_w 95, 3) := by decide +kernel
theorem dX12_areCells_11 : decode cX12_areCells 11 = .ok (.lxor, 1) := by decide +kernel
theorem dX12_areCells_12 : decode cX12_areCells 12 = .ok (.land, 1) := by decide +kernel
theorem dX12_areCells_13 : decode cX12_areCells 13 = .ok (.lconst 0, 1) := by decide +kernel
theorem dX12_areCells_14 : decode cX12_areCells 14 = .ok (.lcmp, 1) := by decide +kernel
theorem dX12_areCells_15 : decode cX12_areCells 15 = .ok (.ifCond .ne 7, 3) := by decide +kernel
theorem dX12_areCells_18 : decode cX12_areCells 18 = .ok (.iconst 1, 1) := by decide +kernel
theorem dX12_areCells_19 : decode cX12_areCells 19 = .ok (.goto 4, 3) := by decide +kernel
theorem dX12_areCells_22 : decode cX12_areCells 22 = .ok (.iconst 0, 1) := by decide +kernel
theorem dX12_areCells_23 : decode cX12_areCells 23 = .ok (.ireturn, 1) := by decide +kernel
theorem dX12_cells_0 : decode cX12_cells 0 = .ok (.aload_n 0, 1) := by decide +kernel
theorem dX12_cells_1 : decode cX12_cells 1 = .ok (.lload_n 1, 1) := by decide +kernel
theorem dX12_cells_2 : decode cX12_cells 2 = .ok (.invokevirtual 258, 3) := by decide +kernel
theorem dX12_cells_5 : decode cX12_cells 5 = .ok (.ifCond .eq 13, 3) := by decide +kernel
theorem dX12_cells_8 : decode cX12_cells 8 = .ok (.iload_n 3, 1) := by decide +kernel
theorem dX12_cells_9 : decode cX12_cells 9 = .ok (.i2l, 1) := by decide +kernel
theorem dX12_cells_10 : decode cX12_cells 10 = .ok (.lconst 0, 1) := by decide +kernel
theorem dX12_cells_11 : decode cX12_cells 11 = .ok (.lconst 1, 1) := by decide +kernel
theorem dX12_cells_12 : decode cX12_cells 12 = .ok (.invokestatic 100, 3) := by decide +kernel
theorem dX12_cells_15 : decode cX12_cells 15 = .ok (.ifCond .ne 5, 3) := by decide +kernel
theorem dX12_cells_18 : decode cX12_cells 18 = .ok (.iconst (-1), 1) := by decide +kernel
theorem dX12_cells_19 : decode cX12_cells 19 = .ok (.ireturn, 1) := by decide +kernel
theorem dX12_cells_20 : decode cX12_cells 20 = .ok (.iload_n 3, 1) := by decide +kernel
theorem dX12_cells_21 : decode cX12_cells 21 = .ok (.ifCond .ne 14, 3) := by decide +kernel
theorem dX12_cells_24 : decode cX12_cells 24 = .ok (.aload_n 0, 1) := by decide +kernel
theorem dX12_cells_25 : decode cX12_cells 25 = .ok (.lload_n 1, 1) := by decide +kernel
theorem dX12_cells_26 : decode cX12_cells 26 = .ok (.invokevirtual 261, 3) := by decide +kernel
theorem dX12_cells_29 : decode cX12_cells 29 = .ok (.invokestatic 147, 3) := by decide +kernel
theorem dX12_cells_32 : decode cX12_cells 32 = .ok (.goto 8, 3) := by decide +kernel
theorem dX12_cells_35 : decode cX12_cells 35 = .ok (.aload_n 0, 1) := by decide +kernel
theorem dX12_cells_36 : decode cX12_cells 36 = .ok (.lload_n 1, 1) := by decide +kernel
theorem dX12_cells_37 : decode cX12_cells 37 = .ok (.invokevirtual 264, 3) := by decide +kernel
theorem dX12_cells_40 : decode cX12_cells 40 = .ok (.ireturn, 1) := by decide +kernel
theorem dX12_border_0 : decode cX12_border 0 = .ok (.aload_n 0, 1) := by decide +kernel
theorem dX12_border_1 : decode cX12_border 1 = .ok (.lload_n 1, 1) := by decide +kernel
theorem dX12_border_2 : decode cX12_border 2 = .ok (.invokevirtual 258, 3) := by decide +kernel
theorem dX12_border_5 : decode cX12_border 5 = .ok (.ifCond .eq 11, 3) := by decide +kernel
theorem dX12_border_8 : decode cX12_border 8 = .ok (.aload_n 0, 1) := by decide +kernel
theorem dX12_border_9 : decode cX12_border 9 = .ok (.lload_n 1, 1) := by decide +kernel
theorem dX12_border_10 : decode cX12_border 10 = .ok (.invokevirtual 261, 3) := by decide +kernel
theorem dX12_border_13 : decode cX12_border 13 = .ok (.goto 6, 3) := by decide +kernel
theorem dX12_border_16 : decode cX12_border 16 = .ok (.ldc2_w 162, 3) := by decide +kernel
theorem dX12_border_19 : decode cX12_border 19 = .ok (.lreturn, 1) := by decide +kernel
theorem dX12_rank_0 : decode cX12_rank 0 = .ok (.iload_n 2, 1) := by decide +kernel
theorem dX12_rank_1 : decode cX12_rank 1 = .ok (.aload_n 0, 1) := by decide +kernel
theorem dX12_rank_2 : decode cX12_rank 2 = .ok (.getfield 47, 3) := by decide +kernel
theorem dX12_rank_5 : decode cX12_rank 5 = .ok (.irem, 1) := by decide +kernel
theorem dX12_rank_6 : decode cX12_rank 6 = .ok (.istore_n 3, 1) := by decide +kernel
theorem dX12_rank_7 : decode cX12_rank 7 = .ok (.iload_n 2, 1) := by decide +kernel
theorem dX12_rank_8 : decode cX12_rank 8 = .ok (.aload_n 0, 1) := by decide +kernel
theorem dX12_rank_9 : decode cX12_rank 9 = .ok (.getfield 47, 3) := by decide +kernel
theorem dX12_rank_12 : decode cX12_rank 12 = .ok (.idiv, 1) := by decide +kernel
theorem dX12_rank_13 : decode cX12_rank 13 = .ok (.istore 4, 2) := by decide +kernel
theorem dX12_rank_15 : decode cX12_rank 15 = .ok (.iload_n 1, 1) := by decide +kernel
theorem dX12_rank_16 : decode cX12_rank 16 = .ok (.ifCond .ne 7, 3) := by decide +kernel
theorem dX12_rank_19 : decode cX12_rank 19 = .ok (.iload_n 2, 1) := by decide +kernel
theorem dX12_rank_20 : decode cX12_rank 20 = .ok (.goto 31, 3) := by decide +kernel
theorem dX12_rank_23 : decode cX12_rank 23 = .ok (.iload_n 1, 1) := by decide +kernel
theorem dX12_rank_24 : decode cX12_rank 24 = .ok (.iconst 1, 1) := by decide +kernel
theorem dX12_rank_25 : decode cX12_rank 25 = .ok (.if_icmp .ne 15, 3) := by decide +kernel
theorem dX12_rank_28 : decode cX12_rank 28 = .ok (.bipush 64, 2) := by decide +kernel
theorem dX12_rank_30 : decode cX12_rank 30 = .ok (.iload_n 3, 1) := by decide +kernel
theorem dX12_rank_31 : decode cX12_rank 31 = .ok (.iload 4, 2) := by decide +kernel
theorem dX12_rank_33 : decode cX12_rank 33 = .ok (.iadd, 1) := by decide +kernel
theorem dX12_rank_34 : decode cX12_rank 34 = .ok (.imul, 1) := by decide +kernel
theorem dX12_rank_35 : decode cX12_rank 35 = .ok (.iload_n 3, 1) := by decide +kernel
theorem dX12_rank_36 : decode cX12_rank 36 = .ok (.iadd, 1) := by decide +kernel
theorem dX12_rank_37 : decode cX12_rank 37 = .ok (.goto 14, 3) := by decide +kernel
theorem dX12_rank_40 : decode cX12_rank 40 = .ok (.bipush 64, 2) := by decide +kernel
theorem dX12_rank_42 : decode cX12_rank 42 = .ok (.iload_n 3, 1) := by decide +kernel
theorem dX12_rank_43 : decode cX12_rank 43 = .ok (.iload 4, 2) := by decide +kernel
theorem dX12_rank_45 : decode cX12_rank 45 = .ok (.invokestatic 267, 3) := by decide +kernel
theorem dX12_rank_48 : decode cX12_rank 48 = .ok (.imul, 1) := by decide +kernel
theorem dX12_rank_49 : decode cX12_rank 49 = .ok (.iload_n 2, 1) := by decide +kernel
theorem dX12_rank_50 : decode cX12_rank 50 = .ok (.iadd, 1) := by decide +kernel
theorem dX12_rank_51 : decode cX12_rank 51 = .ok (.ireturn, 1) := by decide +kernel
theorem dX12_firstsOfCells_0 : decode cX12_firstsOfCells 0 = .ok (.lconst 0, 1) := by decide +kernel
theorem dX12_firstsOfCells_1 : decode cX12_firstsOfCells 1 = .ok (.lstore_n 3, 1) := by decide +kernel
theorem dX12_firstsOfCells_2 : decode cX12_firstsOfCells 2 = .ok (.iconst 0, 1) := by decide +kernel
theorem dX12_firstsOfCells_3 : decode cX12_firstsOfCells 3 = .ok (.istore 5, 2) := by decide +kernel
theorem dX12_firstsOfCells_5 : decode cX12_firstsOfCells 5 = .ok (.iload 5, 2) := by decide +kernel
theorem dX12_firstsOfCells_7 : decode cX12_firstsOfCells 7 = .ok (.aload_n 0, 1) := by decide +kernel
theorem dX12_firstsOfCells_8 : decode cX12_firstsOfCells 8 = .ok (.invokevirtual 252, 3) := by decide +kernel
theorem dX12_firstsOfCells_11 : decode cX12_firstsOfCells 11 = .ok (.if_icmp .ge 74, 3) := by decide +kernel
theorem dX12_firstsOfCells_14 : decode cX12_firstsOfCells 14 = .ok (.iconst 0, 1) := by decide +kernel
theorem dX12_firstsOfCells_15 : decode cX12_firstsOfCells 15 = .ok (.istore 6, 2) := by decide +kernel
theorem dX12_firstsOfCells_17 : decode cX12_firstsOfCells 17 = .ok (.iconst 0, 1) := by decide +kernel
theorem dX12_firstsOfCells_18 : decode cX12_firstsOfCells 18 = .ok (.istore 7, 2) := by decide +kernel
theorem dX12_firstsOfCells_20 : decode cX12_firstsOfCells 20 = .ok (.iload 7, 2) := by decide +kernel
theorem dX12_firstsOfCells_22 : decode cX12_firstsOfCells 22 = .ok (.aload_n 0, 1) := by decide +kernel
theorem dX12_firstsOfCells_23 : decode cX12_firstsOfCells 23 = .ok (.invokevirtual 252, 3) := by decide +kernel
theorem dX12_firstsOfCells_26 : decode cX12_firstsOfCells 26 = .ok (.if_icmp .ge 36, 3) := by decide +kernel
theorem dX12_firstsOfCells_29 : decode cX12_firstsOfCells 29 = .ok (.iload 6, 2) := by decide +kernel
theorem dX12_firstsOfCells_31 : decode cX12_firstsOfCells 31 = .ok (.aload_n 0, 1) := by decide +kernel
theorem dX12_firstsOfCells_32 : decode cX12_firstsOfCells 32 = .ok (.iload_n 1, 1) := by decide +kernel
theorem dX12_firstsOfCells_33 : decode cX12_firstsOfCells 33 = .ok (.iload 7, 2) := by decide +kernel
theorem dX12_firstsOfCells_35 : decode cX12_firstsOfCells 35 = .ok (.invokevirtual 272, 3) := by decide +kernel
theorem dX12_firstsOfCells_38 : decode cX12_firstsOfCells 38 = .ok (.aload_n 0, 1) := by decide +kernel
theorem dX12_firstsOfCells_39 : decode cX12_firstsOfCells 39 = .ok (.iload_n 1, 1) := by decide +kernel
theorem dX12_firstsOfCells_40 : decode cX12_firstsOfCells 40 = .ok (.iload 5, 2) := by decide +kernel
theorem dX12_firstsOfCells_42 : decode cX12_firstsOfCells 42 = .ok (.invokevirtual 272, 3) := by decide +kernel
theorem dX12_firstsOfCells_45 : decode cX12_firstsOfCells 45 = .ok (.if_icmp .ge 7, 3) := by decide +kernel
theorem dX12_firstsOfCells_48 : decode cX12_firstsOfCells 48 = .ok (.iconst 1, 1) := by decide +kernel
theorem dX12_firstsOfCells_49 : decode cX12_firstsOfCells 49 = .ok (.goto 4, 3) := by decide +kernel
theorem dX12_firstsOfCells_52 : decode cX12_firstsOfCells 52 = .ok (.iconst 0, 1) := by decide +kernel
theorem dX12_firstsOfCells_53 : decode cX12_firstsOfCells 53 = .ok (.iadd, 1) := by decide +kernel
theorem dX12_firstsOfCells_54 : decode cX12_firstsOfCells 54 = .ok (.istore 6, 2) := by decide +kernel
theorem dX12_firstsOfCells_56 : decode cX12_firstsOfCells 56 = .ok (.iinc 7 1, 3) := by decide +kernel
theorem dX12_firstsOfCells_59 : decode cX12_firstsOfCells 59 = .ok (.goto (-39), 3) := by decide +kernel
theorem dX12_firstsOfCells_62 : decode cX12_firstsOfCells 62 = .ok (.lload_n 3, 1) := by decide +kernel
theorem dX12_firstsOfCells_63 : decode cX12_firstsOfCells 63 = .ok (.iload 6, 2) := by decide +kernel
theorem dX12_firstsOfCells_65 : decode cX12_firstsOfCells 65 = .ok (.iload_n 2, 1) := by decide +kernel
theorem dX12_firstsOfCells_66 : decode cX12_firstsOfCells 66 = .ok (.if_icmp .ge 10, 3) := by decide +kernel
theorem dX12_firstsOfCells_69 : decode cX12_firstsOfCells 69 = .ok (.lconst 1, 1) := by decide +kernel
theorem dX12_firstsOfCells_70 : decode cX12_firstsOfCells 70 = .ok (.iload 5, 2) := by decide +kernel
theorem dX12_firstsOfCells_72 : decode cX12_firstsOfCells 72 = .ok (.lshl, 1) := by decide +kernel
theorem dX12_firstsOfCells_73 : decode cX12_firstsOfCells 73 = .ok (.goto 4, 3) := by decide +kernel
theorem dX12_firstsOfCells_76 : decode cX12_firstsOfCells 76 = .ok (.lconst 0, 1) := by decide +kernel
theorem dX12_firstsOfCells_77 : decode cX12_firstsOfCells 77 = .ok (.lor, 1) := by decide +kernel
theorem dX12_firstsOfCells_78 : decode cX12_firstsOfCells 78 = .ok (.lstore_n 3, 1) := by decide +kernel
theorem dX12_firstsOfCells_79 : decode cX12_firstsOfCells 79 = .ok (.iinc 5 1, 3) := by decide +kernel
theorem dX12_firstsOfCells_82 : decode cX12_firstsOfCells 82 = .ok (.goto (-77), 3) := by decide +kernel
theorem dX12_firstsOfCells_85 : decode cX12_firstsOfCells 85 = .ok (.lload_n 3, 1) := by decide +kernel
theorem dX12_firstsOfCells_86 : decode cX12_firstsOfCells 86 = .ok (.lreturn, 1) := by decide +kernel
theorem dX12_firstCells_0 : decode cX12_firstCells 0 = .ok (.iload_n 1, 1) := by decide +kernel
theorem dX12_firstCells_1 : decode cX12_firstCells 1 = .ok (.i2l, 1) := by decide +kernel
theorem dX12_firstCells_2 : decode cX12_firstCells 2 = .ok (.lconst 0, 1) := by decide +kernel
theorem dX12_firstCells_3 : decode cX12_firstCells 3 = .ok (.ldc2_w 220, 3) := by decide +kernel
theorem dX12_firstCells_6 : decode cX12_firstCells 6 = .ok (.invokestatic 100, 3) := by decide +kernel
theorem dX12_firstCells_9 : decode cX12_firstCells 9 = .ok (.ifCond .eq 26, 3) := by decide +kernel
theorem dX12_firstCells_12 : decode cX12_firstCells 12 = .ok (.iload_n 2, 1) := by decide +kernel
theorem dX12_firstCells_13 : decode cX12_firstCells 13 = .ok (.i2l, 1) := by decide +kernel
theorem dX12_firstCells_14 : decode cX12_firstCells 14 = .ok (.lconst 0, 1) := by decide +kernel
theorem dX12_firstCells_15 : decode cX12_firstCells 15 = .ok (.aload_n 0, 1) := by decide +kernel
theorem dX12_firstCells_16 : decode cX12_firstCells 16 = .ok (.invokevirtual 252, 3) := by decide +kernel
theorem dX12_firstCells_19 : decode cX12_firstCells 19 = .ok (.i2l, 1) := by decide +kernel
theorem dX12_firstCells_20 : decode cX12_firstCells 20 = .ok (.invokestatic 100, 3) := by decide +kernel
theorem dX12_firstCells_23 : decode cX12_firstCells 23 = .ok (.ifCond .eq 12, 3) := by decide +kernel
theorem dX12_firstCells_26 : decode cX12_firstCells 26 = .ok (.aload_n 0, 1) := by decide +kernel
theorem dX12_firstCells_27 : decode cX12_firstCells 27 = .ok (.iload_n 1, 1) := by decide +kernel
theorem dX12_firstCells_28 : decode cX12_firstCells 28 = .ok (.iload_n 2, 1) := by decide +kernel
theorem dX12_firstCells_29 : decode cX12_firstCells 29 = .ok (.invokevirtual 275, 3) := by decide +kernel
theorem dX12_firstCells_32 : decode cX12_firstCells 32 = .ok (.goto 6, 3) := by decide +kernel
theorem dX12_firstCells_35 : decode cX12_firstCells 35 = .ok (.ldc2_w 162, 3) := by decide +kernel
theorem dX12_firstCells_38 : decode cX12_firstCells 38 = .ok (.lreturn, 1) := by decide +kernel
theorem dX12_leastCells_0 : decode cX12_leastCells 0 = .ok (.iload_n 1, 1) := by decide +kernel
theorem dX12_leastCells_1 : decode cX12_leastCells 1 = .ok (.i2l, 1) := by decide +kernel
theorem dX12_leastCells_2 : decode cX12_leastCells 2 = .ok (.lconst 0, 1) := by decide +kernel
theorem dX12_leastCells_3 : decode cX12_leastCells 3 = .ok (.lconst 1, 1) := by decide +kernel
theorem dX12_leastCells_4 : decode cX12_leastCells 4 = .ok (.invokestatic 100, 3) := by decide +kernel
theorem dX12_leastCells_7 : decode cX12_leastCells 7 = .ok (.ifCond .eq 17, 3) := by decide +kernel
theorem dX12_leastCells_10 : decode cX12_leastCells 10 = .ok (.iload_n 2, 1) := by decide +kernel
theorem dX12_leastCells_11 : decode cX12_leastCells 11 = .ok (.i2l, 1) := by decide +kernel
theorem dX12_leastCells_12 : decode cX12_leastCells 12 = .ok (.lconst 0, 1) := by decide +kernel
theorem dX12_leastCells_13 : decode cX12_leastCells 13 = .ok (.aload_n 0, 1) := by decide +kernel
theorem dX12_leastCells_14 : decode cX12_leastCells 14 = .ok (.invokevirtual 252, 3) := by decide +kernel
theorem dX12_leastCells_17 : decode cX12_leastCells 17 = .ok (.i2l, 1) := by decide +kernel
theorem dX12_leastCells_18 : decode cX12_leastCells 18 = .ok (.invokestatic 100, 3) := by decide +kernel
theorem dX12_leastCells_21 : decode cX12_leastCells 21 = .ok (.ifCond .ne 5, 3) := by decide +kernel
theorem dX12_leastCells_24 : decode cX12_leastCells 24 = .ok (.iconst (-1), 1) := by decide +kernel
theorem dX12_leastCells_25 : decode cX12_leastCells 25 = .ok (.ireturn, 1) := by decide +kernel
theorem dX12_leastCells_26 : decode cX12_leastCells 26 = .ok (.aload_n 0, 1) := by decide +kernel
theorem dX12_leastCells_27 : decode cX12_leastCells 27 = .ok (.invokevirtual 252, 3) := by decide +kernel
theorem dX12_leastCells_30 : decode cX12_leastCells 30 = .ok (.bipush 16, 2) := by decide +kernel
theorem dX12_leastCells_32 : decode cX12_leastCells 32 = .ok (.if_icmp .le 6, 3) := by decide +kernel
theorem dX12_leastCells_35 : decode cX12_leastCells 35 = .ok (.bipush (-5), 2) := by decide +kernel
theorem dX12_leastCells_37 : decode cX12_leastCells 37 = .ok (.ireturn, 1) := by decide +kernel
theorem dX12_leastCells_38 : decode cX12_leastCells 38 = .ok (.iconst 0, 1) := by decide +kernel
theorem dX12_leastCells_39 : decode cX12_leastCells 39 = .ok (.istore_n 3, 1) := by decide +kernel
theorem dX12_leastCells_40 : decode cX12_leastCells 40 = .ok (.iload_n 3, 1) := by decide +kernel
theorem dX12_leastCells_41 : decode cX12_leastCells 41 = .ok (.aload_n 0, 1) := by decide +kernel
theorem dX12_leastCells_42 : decode cX12_leastCells 42 = .ok (.invokevirtual 252, 3) := by decide +kernel
theorem dX12_leastCells_45 : decode cX12_leastCells 45 = .ok (.if_icmp .ge 27, 3) := by decide +kernel
theorem dX12_leastCells_48 : decode cX12_leastCells 48 = .ok (.aload_n 0, 1) := by decide +kernel
theorem dX12_leastCells_49 : decode cX12_leastCells 49 = .ok (.getfield 38, 3) := by decide +kernel
theorem dX12_leastCells_52 : decode cX12_leastCells 52 = .ok (.iload_n 3, 1) := by decide +kernel
theorem dX12_leastCells_53 : decode cX12_leastCells 53 = .ok (.iload_n 3, 1) := by decide +kernel
theorem dX12_leastCells_54 : decode cX12_leastCells 54 = .ok (.iastore, 1) := by decide +kernel
theorem dX12_leastCells_55 : decode cX12_leastCells 55 = .ok (.aload_n 0, 1) := by decide +kernel
theorem dX12_leastCells_56 : decode cX12_leastCells 56 = .ok (.getfield 41, 3) := by decide +kernel
theorem dX12_leastCells_59 : decode cX12_leastCells 59 = .ok (.iload_n 3, 1) := by decide +kernel
theorem dX12_leastCells_60 : decode cX12_leastCells 60 = .ok (.aload_n 0, 1) := by decide +kernel
theorem dX12_leastCells_61 : decode cX12_leastCells 61 = .ok (.iload_n 3, 1) := by decide +kernel
theorem dX12_leastCells_62 : decode cX12_leastCells 62 = .ok (.invokevirtual 255, 3) := by decide +kernel
theorem dX12_leastCells_65 : decode cX12_leastCells 65 = .ok (.lastore, 1) := by decide +kernel
theorem dX12_leastCells_66 : decode cX12_leastCells 66 = .ok (.iinc 3 1, 3) := by decide +kernel
theorem dX12_leastCells_69 : decode cX12_leastCells 69 = .ok (.goto (-29), 3) := by decide +kernel
theorem dX12_leastCells_72 : decode cX12_leastCells 72 = .ok (.aload_n 0, 1) := by decide +kernel
theorem dX12_leastCells_73 : decode cX12_leastCells 73 = .ok (.aload_n 0, 1) := by decide +kernel
theorem dX12_leastCells_74 : decode cX12_leastCells 74 = .ok (.invokevirtual 252, 3) := by decide +kernel
theorem dX12_leastCells_77 : decode cX12_leastCells 77 = .ok (.iload_n 2, 1) := by decide +kernel
theorem dX12_leastCells_78 : decode cX12_leastCells 78 = .ok (.iload_n 1, 1) := by decide +kernel
theorem dX12_leastCells_79 : decode cX12_leastCells 79 = .ok (.invokevirtual 227, 3) := by decide +kernel
theorem dX12_leastCells_82 : decode cX12_leastCells 82 = .ok (.aload_n 0, 1) := by decide +kernel
theorem dX12_leastCells_83 : decode cX12_leastCells 83 = .ok (.getfield 213, 3) := by decide +kernel
theorem dX12_leastCells_86 : decode cX12_leastCells 86 = .ok (.ireturn, 1) := by decide +kernel
theorem dX12_meetsCells_0 : decode cX12_meetsCells 0 = .ok (.iload_n 1, 1) := by decide +kernel
theorem dX12_meetsCells_1 : decode cX12_meetsCells 1 = .ok (.i2l, 1) := by decide +kernel
theorem dX12_meetsCells_2 : decode cX12_meetsCells 2 = .ok (.lconst 0, 1) := by decide +kernel
theorem dX12_meetsCells_3 : decode cX12_meetsCells 3 = .ok (.ldc2_w 220, 3) := by decide +kernel
theorem dX12_meetsCells_6 : decode cX12_meetsCells 6 = .ok (.invokestatic 100, 3) := by decide +kernel
theorem dX12_meetsCells_9 : decode cX12_meetsCells 9 = .ok (.ifCond .ne 5, 3) := by decide +kernel
theorem dX12_meetsCells_12 : decode cX12_meetsCells 12 = .ok (.iconst (-1), 1) := by decide +kernel
theorem dX12_meetsCells_13 : decode cX12_meetsCells 13 = .ok (.ireturn, 1) := by decide +kernel
theorem dX12_meetsCells_14 : decode cX12_meetsCells 14 = .ok (.aload_n 0, 1) := by decide +kernel
theorem dX12_meetsCells_15 : decode cX12_meetsCells 15 = .ok (.iload_n 2, 1) := by decide +kernel
theorem dX12_meetsCells_16 : decode cX12_meetsCells 16 = .ok (.iload_n 3, 1) := by decide +kernel
theorem dX12_meetsCells_17 : decode cX12_meetsCells 17 = .ok (.invokevirtual 278, 3) := by decide +kernel
theorem dX12_meetsCells_20 : decode cX12_meetsCells 20 = .ok (.istore 4, 2) := by decide +kernel
theorem dX12_meetsCells_22 : decode cX12_meetsCells 22 = .ok (.iload 4, 2) := by decide +kernel
theorem dX12_meetsCells_24 : decode cX12_meetsCells 24 = .ok (.ifCond .ge 6, 3) := by decide +kernel
theorem dX12_meetsCells_27 : decode cX12_meetsCells 27 = .ok (.iload 4, 2) := by decide +kernel
theorem dX12_meetsCells_29 : decode cX12_meetsCells 29 = .ok (.ireturn, 1) := by decide +kernel
theorem dX12_meetsCells_30 : decode cX12_meetsCells 30 = .ok (.aload_n 0, 1) := by decide +kernel
theorem dX12_meetsCells_31 : decode cX12_meetsCells 31 = .ok (.iload_n 1, 1) := by decide +kernel
theorem dX12_meetsCells_32 : decode cX12_meetsCells 32 = .ok (.iload_n 3, 1) := by decide +kernel
theorem dX12_meetsCells_33 : decode cX12_meetsCells 33 = .ok (.invokevirtual 275, 3) := by decide +kernel
theorem dX12_meetsCells_36 : decode cX12_meetsCells 36 = .ok (.lstore 5, 2) := by decide +kernel
theorem dX12_meetsCells_38 : decode cX12_meetsCells 38 = .ok (.iload_n 2, 1) := by decide +kernel
theorem dX12_meetsCells_39 : decode cX12_meetsCells 39 = .ok (.ifCond .ne 15, 3) := by decide +kernel
theorem dX12_meetsCells_42 : decode cX12_meetsCells 42 = .ok (.aload_n 0, 1) := by decide +kernel
theorem dX12_meetsCells_43 : decode cX12_meetsCells 43 = .ok (.lload 5, 2) := by decide +kernel
theorem dX12_meetsCells_45 : decode cX12_meetsCells 45 = .ok (.invokevirtual 261, 3) := by decide +kernel
theorem dX12_meetsCells_48 : decode cX12_meetsCells 48 = .ok (.invokestatic 147, 3) := by decide +kernel
theorem dX12_meetsCells_51 : decode cX12_meetsCells 51 = .ok (.goto 9, 3) := by decide +kernel
theorem dX12_meetsCells_54 : decode cX12_meetsCells 54 = .ok (.aload_n 0, 1) := by decide +kernel
theorem dX12_meetsCells_55 : decode cX12_meetsCells 55 = .ok (.lload 5, 2) := by decide +kernel
theorem dX12_meetsCells_57 : decode cX12_meetsCells 57 = .ok (.invokevirtual 264, 3) := by decide +kernel
theorem dX12_meetsCells_60 : decode cX12_meetsCells 60 = .ok (.iload 4, 2) := by decide +kernel
theorem dX12_meetsCells_62 : decode cX12_meetsCells 62 = .ok (.if_icmp .ne 7, 3) := by decide +kernel
theorem dX12_meetsCells_65 : decode cX12_meetsCells 65 = .ok (.iconst 1, 1) := by decide +kernel
theorem dX12_meetsCells_66 : decode cX12_meetsCells 66 = .ok (.goto 4, 3) := by decide +kernel
theorem dX12_meetsCells_69 : decode cX12_meetsCells 69 = .ok (.iconst 0, 1) := by decide +kernel
theorem dX12_meetsCells_70 : decode cX12_meetsCells 70 = .ok (.ireturn, 1) := by decide +kernel
theorem dX12_bits__0 : decode cX12_bits_ 0 = .ok (.aload_n 0, 1) := by decide +kernel
theorem dX12_bits__1 : decode cX12_bits_ 1 = .ok (.iload_n 1, 1) := by decide +kernel
theorem dX12_bits__2 : decode cX12_bits_ 2 = .ok (.invokevirtual 127, 3) := by decide +kernel
theorem dX12_bits__5 : decode cX12_bits_ 5 = .ok (.ifCond .eq 15, 3) := by decide +kernel
theorem dX12_bits__8 : decode cX12_bits_ 8 = .ok (.iload_n 2, 1) := by decide +kernel
theorem dX12_bits__9 : decode cX12_bits_ 9 = .ok (.i2l, 1) := by decide +kernel
theorem dX12_bits__10 : decode cX12_bits_ 10 = .ok (.lconst 0, 1) := by decide +kernel
theorem dX12_bits__11 : decode cX12_bits_ 11 = .ok (.ldc2_w 220, 3) := by decide +kernel
theorem dX12_bits__14 : decode cX12_bits_ 14 = .ok (.invokestatic 100, 3) := by decide +kernel
theorem dX12_bits__17 : decode cX12_bits_ 17 = .ok (.ifCond .ne 7, 3) := by decide +kernel
theorem dX12_bits__20 : decode cX12_bits_ 20 = .ok (.ldc2_w 162, 3) := by decide +kernel
theorem dX12_bits__23 : decode cX12_bits_ 23 = .ok (.lreturn, 1) := by decide +kernel
theorem dX12_bits__24 : decode cX12_bits_ 24 = .ok (.aload_n 0, 1) := by decide +kernel
theorem dX12_bits__25 : decode cX12_bits_ 25 = .ok (.iload_n 1, 1) := by decide +kernel
theorem dX12_bits__26 : decode cX12_bits_ 26 = .ok (.invokevirtual 164, 3) := by decide +kernel
theorem dX12_bits__29 : decode cX12_bits_ 29 = .ok (.lstore_n 3, 1) := by decide +kernel
theorem dX12_bits__30 : decode cX12_bits_ 30 = .ok (.iconst 0, 1) := by decide +kernel
theorem dX12_bits__31 : decode cX12_bits_ 31 = .ok (.istore 5, 2) := by decide +kernel
theorem dX12_bits__33 : decode cX12_bits_ 33 = .ok (.iconst 0, 1) := by decide +kernel
theorem dX12_bits__34 : decode cX12_bits_ 34 = .ok (.istore 6, 2) := by decide +kernel
theorem dX12_bits__36 : decode cX12_bits_ 36 = .ok (.iload 6, 2) := by decide +kernel
theorem dX12_bits__38 : decode cX12_bits_ 38 = .ok (.aload_n 0, 1) := by decide +kernel
theorem dX12_bits__39 : decode cX12_bits_ 39 = .ok (.invokevirtual 115, 3) := by decide +kernel
theorem dX12_bits__42 : decode cX12_bits_ 42 = .ok (.if_icmp .ge 33, 3) := by decide +kernel
theorem dX12_bits__45 : decode cX12_bits_ 45 = .ok (.iload 5, 2) := by decide +kernel
theorem dX12_bits__47 : decode cX12_bits_ 47 = .ok (.lload_n 3, 1) := by decide +kernel
theorem dX12_bits__48 : decode cX12_bits_ 48 = .ok (.iload 6, 2) := by decide +kernel
theorem dX12_bits__50 : decode cX12_bits_ 50 = .ok (.invokestatic 139, 3) := by decide +kernel
theorem dX12_bits__53 : decode cX12_bits_ 53 = .ok (.ifCond .eq 12, 3) := by decide +kernel
theorem dX12_bits__56 : decode cX12_bits_ 56 = .ok (.iload 6, 2) := by decide +kernel
theorem dX12_bits__58 : decode cX12_bits_ 58 = .ok (.i2l, 1) := by decide +kernel
theorem dX12_bits__59 : decode cX12_bits_ 59 = .ok (.invokestatic 147, 3) := by decide +kernel
theorem dX12_bits__62 : decode cX12_bits_ 62 = .ok (.goto 4, 3) := by decide +kernel
theorem dX12_bits__65 : decode cX12_bits_ 65 = .ok (.iconst 0, 1) := by decide +kernel
theorem dX12_bits__66 : decode cX12_bits_ 66 = .ok (.iadd, 1) := by decide +kernel
theorem dX12_bits__67 : decode cX12_bits_ 67 = .ok (.istore 5, 2) := by decide +kernel
theorem dX12_bits__69 : decode cX12_bits_ 69 = .ok (.iinc 6 1, 3) := by decide +kernel
theorem dX12_bits__72 : decode cX12_bits_ 72 = .ok (.goto (-36), 3) := by decide +kernel
theorem dX12_bits__75 : decode cX12_bits_ 75 = .ok (.iload_n 2, 1) := by decide +kernel
theorem dX12_bits__76 : decode cX12_bits_ 76 = .ok (.iconst 1, 1) := by decide +kernel
theorem dX12_bits__77 : decode cX12_bits_ 77 = .ok (.if_icmp .ne 29, 3) := by decide +kernel
theorem dX12_bits__80 : decode cX12_bits_ 80 = .ok (.lload_n 3, 1) := by decide +kernel
theorem dX12_bits__81 : decode cX12_bits_ 81 = .ok (.lconst 0, 1) := by decide +kernel
theorem dX12_bits__82 : decode cX12_bits_ 82 = .ok (.lcmp, 1) := by decide +kernel
theorem dX12_bits__83 : decode cX12_bits_ 83 = .ok (.ifCond .ne 9, 3) := by decide +kernel
theorem dX12_bits__86 : decode cX12_bits_ 86 = .ok (.ldc2_w 162, 3) := by decide +kernel
theorem dX12_bits__89 : decode cX12_bits_ 89 = .ok (.goto 16, 3) := by decide +kernel
theorem dX12_bits__92 : decode cX12_bits_ 92 = .ok (.iload 5, 2) := by decide +kernel
theorem dX12_bits__94 : decode cX12_bits_ 94 = .ok (.i2f, 1) := by decide +kernel
theorem dX12_bits__95 : decode cX12_bits_ 95 = .ok (.lload_n 3, 1) := by decide +kernel
theorem dX12_bits__96 : decode cX12_bits_ 96 = .ok (.invokestatic 147, 3) := by decide +kernel
theorem dX12_bits__99 : decode cX12_bits_ 99 = .ok (.i2f, 1) := by decide +kernel
theorem dX12_bits__100 : decode cX12_bits_ 100 = .ok (.fdiv, 1) := by decide +kernel
theorem dX12_bits__101 : decode cX12_bits_ 101 = .ok (.invokestatic 281, 3) := by decide +kernel
theorem dX12_bits__104 : decode cX12_bits_ 104 = .ok (.i2l, 1) := by decide +kernel
theorem dX12_bits__105 : decode cX12_bits_ 105 = .ok (.lreturn, 1) := by decide +kernel
theorem dX12_bits__106 : decode cX12_bits_ 106 = .ok (.lload_n 3, 1) := by decide +kernel
theorem dX12_bits__107 : decode cX12_bits_ 107 = .ok (.invokestatic 147, 3) := by decide +kernel
theorem dX12_bits__110 : decode cX12_bits_ 110 = .ok (.i2f, 1) := by decide +kernel
theorem dX12_bits__111 : decode cX12_bits_ 111 = .ok (.aload_n 0, 1) := by decide +kernel
theorem dX12_bits__112 : decode cX12_bits_ 112 = .ok (.invokevirtual 115, 3) := by decide +kernel
theorem dX12_bits__115 : decode cX12_bits_ 115 = .ok (.i2f, 1) := by decide +kernel
theorem dX12_bits__116 : decode cX12_bits_ 116 = .ok (.fdiv, 1) := by decide +kernel
theorem dX12_bits__117 : decode cX12_bits_ 117 = .ok (.fstore 6, 2) := by decide +kernel
theorem dX12_bits__119 : decode cX12_bits_ 119 = .ok (.iload_n 2, 1) := by decide +kernel
theorem dX12_bits__120 : decode cX12_bits_ 120 = .ok (.ifCond .ne 12, 3) := by decide +kernel
theorem dX12_bits__123 : decode cX12_bits_ 123 = .ok (.fload 6, 2) := by decide +kernel
theorem dX12_bits__125 : decode cX12_bits_ 125 = .ok (.invokestatic 281, 3) := by decide +kernel
theorem dX12_bits__128 : decode cX12_bits_ 128 = .ok (.i2l, 1) := by decide +kernel
theorem dX12_bits__129 : decode cX12_bits_ 129 = .ok (.goto 11, 3) := by decide +kernel
theorem dX12_bits__132 : decode cX12_bits_ 132 = .ok (.fload 6, 2) := by decide +kernel
theorem dX12_bits__134 : decode cX12_bits_ 134 = .ok (.ldc_w 287, 3) := by decide +kernel
theorem dX12_bits__137 : decode cX12_bits_ 137 = .ok (.fmul, 1) := by decide +kernel
theorem dX12_bits__138 : decode cX12_bits_ 138 = .ok (.f2i, 1) := by decide +kernel
theorem dX12_bits__139 : decode cX12_bits_ 139 = .ok (.i2l, 1) := by decide +kernel
theorem dX12_bits__140 : decode cX12_bits_ 140 = .ok (.lreturn, 1) := by decide +kernel
theorem dX12_weight_0 : decode cX12_weight 0 = .ok (.aload_n 0, 1) := by decide +kernel
theorem dX12_weight_1 : decode cX12_weight 1 = .ok (.iload_n 1, 1) := by decide +kernel
theorem dX12_weight_2 : decode cX12_weight 2 = .ok (.invokevirtual 127, 3) := by decide +kernel
theorem dX12_weight_5 : decode cX12_weight 5 = .ok (.ifCond .ne 7, 3) := by decide +kernel
theorem dX12_weight_8 : decode cX12_weight 8 = .ok (.ldc2_w 162, 3) := by decide +kernel
theorem dX12_weight_11 : decode cX12_weight 11 = .ok (.lreturn, 1) := by decide +kernel
theorem dX12_weight_12 : decode cX12_weight 12 = .ok (.aload_n 0, 1) := by decide +kernel
theorem dX12_weight_13 : decode cX12_weight 13 = .ok (.iload_n 1, 1) := by decide +kernel
theorem dX12_weight_14 : decode cX12_weight 14 = .ok (.invokevirtual 164, 3) := by decide +kernel
theorem dX12_weight_17 : decode cX12_weight 17 = .ok (.lstore_n 2, 1) := by decide +kernel
theorem dX12_weight_18 : decode cX12_weight 18 = .ok (.dconst 0, 1) := by decide +kernel
theorem dX12_weight_19 : decode cX12_weight 19 = .ok (.dstore 4, 2) := by decide +kernel
theorem dX12_weight_21 : decode cX12_weight 21 = .ok (.iconst 0, 1) := by decide +kernel
theorem dX12_weight_22 : decode cX12_weight 22 = .ok (.istore 6, 2) := by decide +kernel
theorem dX12_weight_24 : decode cX12_weight 24 = .ok (.iload 6, 2) := by decide +kernel
theorem dX12_weight_26 : decode cX12_weight 26 = .ok (.aload_n 0, 1) := by decide +kernel
theorem dX12_weight_27 : decode cX12_weight 27 = .ok (.invokevirtual 115, 3) := by decide +kernel
theorem dX12_weight_30 : decode cX12_weight 30 = .ok (.if_icmp .ge 44, 3) := by decide +kernel
theorem dX12_weight_33 : decode cX12_weight 33 = .ok (.lload_n 2, 1) := by decide +kernel
theorem dX12_weight_34 : decode cX12_weight 34 = .ok (.iload 6, 2) := by decide +kernel
theorem dX12_weight_36 : decode cX12_weight 36 = .ok (.invokestatic 139, 3) := by decide +kernel
theorem dX12_weight_39 : decode cX12_weight 39 = .ok (.ifCond .eq 25, 3) := by decide +kernel
theorem dX12_weight_42 : decode cX12_weight 42 = .ok (.dload 4, 2) := by decide +kernel
theorem dX12_weight_44 : decode cX12_weight 44 = .ok (.dconst 1, 1) := by decide +kernel
theorem dX12_weight_45 : decode cX12_weight 45 = .ok (.aload_n 0, 1) := by decide +kernel
theorem dX12_weight_46 : decode cX12_weight 46 = .ok (.getfield 9, 3) := by decide +kernel
theorem dX12_weight_49 : decode cX12_weight 49 = .ok (.iload 6, 2) := by decide +kernel
theorem dX12_weight_51 : decode cX12_weight 51 = .ok (.i2l, 1) := by decide +kernel
theorem dX12_weight_52 : decode cX12_weight 52 = .ok (.invokestatic 147, 3) := by decide +kernel
theorem dX12_weight_55 : decode cX12_weight 55 = .ok (.invokestatic 222, 3) := by decide +kernel
theorem dX12_weight_58 : decode cX12_weight 58 = .ok (.l2d, 1) := by decide +kernel
theorem dX12_weight_59 : decode cX12_weight 59 = .ok (.ddiv, 1) := by decide +kernel
theorem dX12_weight_60 : decode cX12_weight 60 = .ok (.dadd, 1) := by decide +kernel
theorem dX12_weight_61 : decode cX12_weight 61 = .ok (.goto 5, 3) := by decide +kernel
theorem dX12_weight_64 : decode cX12_weight 64 = .ok (.dload 4, 2) := by decide +kernel
theorem dX12_weight_66 : decode cX12_weight 66 = .ok (.dstore 4, 2) := by decide +kernel
theorem dX12_weight_68 : decode cX12_weight 68 = .ok (.iinc 6 1, 3) := by decide +kernel
theorem dX12_weight_71 : decode cX12_weight 71 = .ok (.goto (-47), 3) := by decide +kernel
theorem dX12_weight_74 : decode cX12_weight 74 = .ok (.dload 4, 2) := by decide +kernel
theorem dX12_weight_76 : decode cX12_weight 76 = .ok (.invokestatic 288, 3) := by decide +kernel
theorem dX12_weight_79 : decode cX12_weight 79 = .ok (.lreturn, 1) := by decide +kernel
theorem dX12_judge_0 : decode cX12_judge 0 = .ok (.iload_n 1, 1) := by decide +kernel
theorem dX12_judge_1 : decode cX12_judge 1 = .ok (.invokestatic 294, 3) := by decide +kernel
theorem dX12_judge_4 : decode cX12_judge 4 = .ok (.ifCond .eq 11, 3) := by decide +kernel
theorem dX12_judge_7 : decode cX12_judge 7 = .ok (.aload_n 0, 1) := by decide +kernel
theorem dX12_judge_8 : decode cX12_judge 8 = .ok (.iload_n 2, 1) := by decide +kernel
theorem dX12_judge_9 : decode cX12_judge 9 = .ok (.invokevirtual 127, 3) := by decide +kernel
theorem dX12_judge_12 : decode cX12_judge 12 = .ok (.ifCond .ne 5, 3) := by decide +kernel
theorem dX12_judge_15 : decode cX12_judge 15 = .ok (.iconst (-1), 1) := by decide +kernel
theorem dX12_judge_16 : decode cX12_judge 16 = .ok (.ireturn, 1) := by decide +kernel
theorem dX12_judge_17 : decode cX12_judge 17 = .ok (.aload_n 0, 1) := by decide +kernel
theorem dX12_judge_18 : decode cX12_judge 18 = .ok (.getfield 83, 3) := by decide +kernel
theorem dX12_judge_21 : decode cX12_judge 21 = .ok (.iload_n 1, 1) := by decide +kernel
theorem dX12_judge_22 : decode cX12_judge 22 = .ok (.iaload, 1) := by decide +kernel
theorem dX12_judge_23 : decode cX12_judge 23 = .ok (.iconst (-1), 1) := by decide +kernel
theorem dX12_judge_24 : decode cX12_judge 24 = .ok (.if_icmp .ne 6, 3) := by decide +kernel
theorem dX12_judge_27 : decode cX12_judge 27 = .ok (.bipush (-11), 2) := by decide +kernel
theorem dX12_judge_29 : decode cX12_judge 29 = .ok (.ireturn, 1) := by decide +kernel
theorem dX12_judge_30 : decode cX12_judge 30 = .ok (.aload_n 0, 1) := by decide +kernel
theorem dX12_judge_31 : decode cX12_judge 31 = .ok (.iload_n 2, 1) := by decide +kernel
theorem dX12_judge_32 : decode cX12_judge 32 = .ok (.invokevirtual 164, 3) := by decide +kernel
theorem dX12_judge_35 : decode cX12_judge 35 = .ok (.lstore_n 3, 1) := by decide +kernel
theorem dX12_judge_36 : decode cX12_judge 36 = .ok (.iconst 0, 1) := by decide +kernel
theorem dX12_judge_37 : decode cX12_judge 37 = .ok (.istore 5, 2) := by decide +kernel
theorem dX12_judge_39 : decode cX12_judge 39 = .ok (.iload 5, 2) := by decide +kernel
theorem dX12_judge_41 : decode cX12_judge 41 = .ok (.aload_n 0, 1) := by decide +kernel
theorem dX12_judge_42 : decode cX12_judge 42 = .ok (.getfield 9, 3) := by decide +kernel
theorem dX12_judge_45 : decode cX12_judge 45 = .ok (.if_icmp .gt 53, 3) := by decide +kernel
theorem dX12_judge_48 : decode cX12_judge 48 = .ok (.iload 5, 2) := by decide +kernel
theorem dX12_judge_50 : decode cX12_judge 50 = .ok (.aload_n 0, 1) := by decide +kernel
theorem dX12_judge_51 : decode cX12_judge 51 = .ok (.getfield 86, 3) := by decide +kernel
theorem dX12_judge_54 : decode cX12_judge 54 = .ok (.iload_n 1, 1) := by decide +kernel
theorem dX12_judge_55 : decode cX12_judge 55 = .ok (.iaload, 1) := by decide +kernel
theorem dX12_judge_56 : decode cX12_judge 56 = .ok (.if_icmp .lt 9, 3) := by decide +kernel
theorem dX12_judge_59 : decode cX12_judge 59 = .ok (.bipush 100, 2) := by decide +kernel
theorem dX12_judge_61 : decode cX12_judge 61 = .ok (.iload 5, 2) := by decide +kernel
theorem dX12_judge_63 : decode cX12_judge 63 = .ok (.iadd, 1) := by decide +kernel
theorem dX12_judge_64 : decode cX12_judge 64 = .ok (.ireturn, 1) := by decide +kernel
theorem dX12_judge_65 : decode cX12_judge 65 = .ok (.aload_n 0, 1) := by decide +kernel
theorem dX12_judge_66 : decode cX12_judge 66 = .ok (.getfield 89, 3) := by decide +kernel
theorem dX12_judge_69 : decode cX12_judge 69 = .ok (.bipush 20, 2) := by decide +kernel
theorem dX12_judge_71 : decode cX12_judge 71 = .ok (.iload_n 1, 1) := by decide +kernel
theorem dX12_judge_72 : decode cX12_judge 72 = .ok (.imul, 1) := by decide +kernel
theorem dX12_judge_73 : decode cX12_judge 73 = .ok (.iload 5, 2) := by decide +kernel
theorem dX12_judge_75 : decode cX12_judge 75 = .ok (.iadd, 1) := by decide +kernel
theorem dX12_judge_76 : decode cX12_judge 76 = .ok (.laload, 1) := by decide +kernel
theorem dX12_judge_77 : decode cX12_judge 77 = .ok (.aload_n 0, 1) := by decide +kernel
theorem dX12_judge_78 : decode cX12_judge 78 = .ok (.lload_n 3, 1) := by decide +kernel
theorem dX12_judge_79 : decode cX12_judge 79 = .ok (.iload 5, 2) := by decide +kernel
theorem dX12_judge_81 : decode cX12_judge 81 = .ok (.invokevirtual 190, 3) := by decide +kernel
theorem dX12_judge_84 : decode cX12_judge 84 = .ok (.i2l, 1) := by decide +kernel
theorem dX12_judge_85 : decode cX12_judge 85 = .ok (.lcmp, 1) := by decide +kernel
theorem dX12_judge_86 : decode cX12_judge 86 = .ok (.ifCond .eq 6, 3) := by decide +kernel
theorem dX12_judge_89 : decode cX12_judge 89 = .ok (.iload 5, 2) := by decide +kernel
theorem dX12_judge_91 : decode cX12_judge 91 = .ok (.ireturn, 1) := by decide +kernel
theorem dX12_judge_92 : decode cX12_judge 92 = .ok (.iinc 5 1, 3) := by decide +kernel
theorem dX12_judge_95 : decode cX12_judge 95 = .ok (.goto (-56), 3) := by decide +kernel
theorem dX12_judge_98 : decode cX12_judge 98 = .ok (.bipush (-2), 2) := by decide +kernel
theorem dX12_judge_100 : decode cX12_judge 100 = .ok (.ireturn, 1) := by decide +kernel
theorem dX12_lots_0 : decode cX12_lots 0 = .ok (.iload_n 1, 1) := by decide +kernel
theorem dX12_lots_1 : decode cX12_lots 1 = .ok (.i2l, 1) := by decide +kernel
theorem dX12_lots_2 : decode cX12_lots 2 = .ok (.lconst 1, 1) := by decide +kernel
theorem dX12_lots_3 : decode cX12_lots 3 = .ok (.ldc2_w 297, 3) := by decide +kernel
theorem dX12_lots_6 : decode cX12_lots 6 = .ok (.invokestatic 100, 3) := by decide +kernel
theorem dX12_lots_9 : decode cX12_lots 9 = .ok (.ifCond .eq 26, 3) := by decide +kernel
theorem dX12_lots_12 : decode cX12_lots 12 = .ok (.iload_n 2, 1) := by decide +kernel
theorem dX12_lots_13 : decode cX12_lots 13 = .ok (.i2l, 1) := by decide +kernel
theorem dX12_lots_14 : decode cX12_lots 14 = .ok (.lconst 0, 1) := by decide +kernel
theorem dX12_lots_15 : decode cX12_lots 15 = .ok (.ldc2_w 299, 3) := by decide +kernel
theorem dX12_lots_18 : decode cX12_lots 18 = .ok (.invokestatic 100, 3) := by decide +kernel
theorem dX12_lots_21 : decode cX12_lots 21 = .ok (.ifCond .eq 14, 3) := by decide +kernel
theorem dX12_lots_24 : decode cX12_lots 24 = .ok (.iload 4, 2) := by decide +kernel
theorem dX12_lots_26 : decode cX12_lots 26 = .ok (.i2l, 1) := by decide +kernel
theorem dX12_lots_27 : decode cX12_lots 27 = .ok (.lconst 0, 1) := by decide +kernel
theorem dX12_lots_28 : decode cX12_lots 28 = .ok (.lconst 1, 1) := by decide +kernel
theorem dX12_lots_29 : decode cX12_lots 29 = .ok (.invokestatic 100, 3) := by decide +kernel
theorem dX12_lots_32 : decode cX12_lots 32 = .ok (.ifCond .ne 5, 3) := by decide +kernel
theorem dX12_lots_35 : decode cX12_lots 35 = .ok (.iconst (-1), 1) := by decide +kernel
theorem dX12_lots_36 : decode cX12_lots 36 = .ok (.ireturn, 1) := by decide +kernel
theorem dX12_lots_37 : decode cX12_lots 37 = .ok (.iload_n 3, 1) := by decide +kernel
theorem dX12_lots_38 : decode cX12_lots 38 = .ok (.istore 5, 2) := by decide +kernel
theorem dX12_lots_40 : decode cX12_lots 40 = .ok (.iconst 0, 1) := by decide +kernel
theorem dX12_lots_41 : decode cX12_lots 41 = .ok (.istore 6, 2) := by decide +kernel
theorem dX12_lots_43 : decode cX12_lots 43 = .ok (.iconst 0, 1) := by decide +kernel
theorem dX12_lots_44 : decode cX12_lots 44 = .ok (.istore 7, 2) := by decide +kernel
theorem dX12_lots_46 : decode cX12_lots 46 = .ok (.iload 7, 2) := by decide +kernel
theorem dX12_lots_48 : decode cX12_lots 48 = .ok (.iload_n 1, 1) := by decide +kernel
theorem dX12_lots_49 : decode cX12_lots 49 = .ok (.if_icmp .ge 100, 3) := by decide +kernel
theorem dX12_lots_52 : decode cX12_lots 52 = .ok (.lconst 0, 1) := by decide +kernel
theorem dX12_lots_53 : decode cX12_lots 53 = .ok (.lstore 8, 2) := by decide +kernel
theorem dX12_lots_55 : decode cX12_lots 55 = .ok (.iconst 0, 1) := by decide +kernel
theorem dX12_lots_56 : decode cX12_lots 56 = .ok (.istore 10, 2) := by decide +kernel
theorem dX12_lots_58 : decode cX12_lots 58 = .ok (.iload 10, 2) := by decide +kernel
theorem dX12_lots_60 : decode cX12_lots 60 = .ok (.aload_n 0, 1) := by decide +kernel
theorem dX12_lots_61 : decode cX12_lots 61 = .ok (.invokevirtual 115, 3) := by decide +kernel
theorem dX12_lots_64 : decode cX12_lots 64 = .ok (.if_icmp .ge 51, 3) := by decide +kernel
theorem dX12_lots_67 : decode cX12_lots 67 = .ok (.iload 5, 2) := by decide +kernel
theorem dX12_lots_69 : decode cX12_lots 69 = .ok (.ldc_w 301, 3) := by decide +kernel
theorem dX12_lots_72 : decode cX12_lots 72 = .ok (.imul, 1) := by decide +kernel
theorem dX12_lots_73 : decode cX12_lots 73 = .ok (.sipush 12345, 3) := by decide +kernel
theorem dX12_lots_76 : decode cX12_lots 76 = .ok (.iadd, 1) := by decide +kernel
theorem dX12_lots_77 : decode cX12_lots 77 = .ok (.istore 5, 2) := by decide +kernel
theorem dX12_lots_79 : decode cX12_lots 79 = .ok (.lload 8, 2) := by decide +kernel
theorem dX12_lots_81 : decode cX12_lots 81 = .ok (.iload 5, 2) := by decide +kernel
theorem dX12_lots_83 : decode cX12_lots 83 = .ok (.ldc_w 304, 3) := by decide +kernel
theorem dX12_lots_86 : decode cX12_lots 86 = .ok (.iand, 1) := by decide +kernel
theorem dX12_lots_87 : decode cX12_lots 87 = .ok (.ldc_w 305, 3) := by decide +kernel
theorem dX12_lots_90 : decode cX12_lots 90 = .ok (.idiv, 1) := by decide +kernel
theorem dX12_lots_91 : decode cX12_lots 91 = .ok (.bipush 100, 2) := by decide +kernel
theorem dX12_lots_93 : decode cX12_lots 93 = .ok (.irem, 1) := by decide +kernel
theorem dX12_lots_94 : decode cX12_lots 94 = .ok (.iload_n 2, 1) := by decide +kernel
theorem dX12_lots_95 : decode cX12_lots 95 = .ok (.if_icmp .ge 10, 3) := by decide +kernel
theorem dX12_lots_98 : decode cX12_lots 98 = .ok (.lconst 1, 1) := by decide +kernel
theorem dX12_lots_99 : decode cX12_lots 99 = .ok (.iload 10, 2) := by decide +kernel
theorem dX12_lots_101 : decode cX12_lots 101 = .ok (.lshl, 1) := by decide +kernel
theorem dX12_lots_102 : decode cX12_lots 102 = .ok (.goto 4, 3) := by decide +kernel
theorem dX12_lots_105 : decode cX12_lots 105 = .ok (.lconst 0, 1) := by decide +kernel
theorem dX12_lots_106 : decode cX12_lots 106 = .ok (.lor, 1) := by decide +kernel
theorem dX12_lots_107 : decode cX12_lots 107 = .ok (.lstore 8, 2) := by decide +kernel
theorem dX12_lots_109 : decode cX12_lots 109 = .ok (.iinc 10 1, 3) := by decide +kernel
theorem dX12_lots_112 : decode cX12_lots 112 = .ok (.goto (-54), 3) := by decide +kernel
theorem dX12_lots_115 : decode cX12_lots 115 = .ok (.iload 6, 2) := by decide +kernel
theorem dX12_lots_117 : decode cX12_lots 117 = .ok (.iload 4, 2) := by decide +kernel
theorem dX12_lots_119 : decode cX12_lots 119 = .ok (.ifCond .ne 15, 3) := by decide +kernel
theorem dX12_lots_122 : decode cX12_lots 122 = .ok (.aload_n 0, 1) := by decide +kernel
theorem dX12_lots_123 : decode cX12_lots 123 = .ok (.lload 8, 2) := by decide +kernel
theorem dX12_lots_125 : decode cX12_lots 125 = .ok (.invokevirtual 167, 3) := by decide +kernel
theorem dX12_lots_128 : decode cX12_lots 128 = .ok (.invokestatic 147, 3) := by decide +kernel
theorem dX12_lots_131 : decode cX12_lots 131 = .ok (.goto 9, 3) := by decide +kernel
theorem dX12_lots_134 : decode cX12_lots 134 = .ok (.aload_n 0, 1) := by decide +kernel
theorem dX12_lots_135 : decode cX12_lots 135 = .ok (.lload 8, 2) := by decide +kernel
theorem dX12_lots_137 : decode cX12_lots 137 = .ok (.invokevirtual 171, 3) := by decide +kernel
theorem dX12_lots_140 : decode cX12_lots 140 = .ok (.iadd, 1) := by decide +kernel
theorem dX12_lots_141 : decode cX12_lots 141 = .ok (.istore 6, 2) := by decide +kernel
theorem dX12_lots_143 : decode cX12_lots 143 = .ok (.iinc 7 1, 3) := by decide +kernel
theorem dX12_lots_146 : decode cX12_lots 146 = .ok (.goto (-100), 3) := by decide +kernel
theorem dX12_lots_149 : decode cX12_lots 149 = .ok (.iload 6, 2) := by decide +kernel
theorem dX12_lots_151 : decode cX12_lots 151 = .ok (.ireturn, 1) := by decide +kernel
theorem dX12_feed_0 : decode cX12_feed 0 = .ok (.iload_n 1, 1) := by decide +kernel
theorem dX12_feed_1 : decode cX12_feed 1 = .ok (.i2l, 1) := by decide +kernel
theorem dX12_feed_2 : decode cX12_feed 2 = .ok (.ldc2_w 306, 3) := by decide +kernel
theorem dX12_feed_5 : decode cX12_feed 5 = .ok (.ldc2_w 308, 3) := by decide +kernel
theorem dX12_feed_8 : decode cX12_feed 8 = .ok (.invokestatic 100, 3) := by decide +kernel
theorem dX12_feed_11 : decode cX12_feed 11 = .ok (.ifCond .ne 5, 3) := by decide +kernel
theorem dX12_feed_14 : decode cX12_feed 14 = .ok (.iconst (-1), 1) := by decide +kernel
theorem dX12_feed_15 : decode cX12_feed 15 = .ok (.ireturn, 1) := by decide +kernel
theorem dX12_feed_16 : decode cX12_feed 16 = .ok (.aload_n 0, 1) := by decide +kernel
theorem dX12_feed_17 : decode cX12_feed 17 = .ok (.getfield 310, 3) := by decide +kernel
theorem dX12_feed_20 : decode cX12_feed 20 = .ok (.bipush 80, 2) := by decide +kernel
theorem dX12_feed_22 : decode cX12_feed 22 = .ok (.if_icmp .ne 6, 3) := by decide +kernel
theorem dX12_feed_25 : decode cX12_feed 25 = .ok (.bipush (-3), 2) := by decide +kernel
theorem dX12_feed_27 : decode cX12_feed 27 = .ok (.ireturn, 1) := by decide +kernel
theorem dX12_feed_28 : decode cX12_feed 28 = .ok (.aload_n 0, 1) := by decide +kernel
theorem dX12_feed_29 : decode cX12_feed 29 = .ok (.getfield 53, 3) := by decide +kernel
theorem dX12_feed_32 : decode cX12_feed 32 = .ok (.aload_n 0, 1) := by decide +kernel
theorem dX12_feed_33 : decode cX12_feed 33 = .ok (.getfield 310, 3) := by decide +kernel
theorem dX12_feed_36 : decode cX12_feed 36 = .ok (.iload_n 1, 1) := by decide +kernel
theorem dX12_feed_37 : decode cX12_feed 37 = .ok (.iastore, 1) := by decide +kernel
theorem dX12_feed_38 : decode cX12_feed 38 = .ok (.aload_n 0, 1) := by decide +kernel
theorem dX12_feed_39 : decode cX12_feed 39 = .ok (.dup, 1) := by decide +kernel
theorem dX12_feed_40 : decode cX12_feed 40 = .ok (.getfield 310, 3) := by decide +kernel
theorem dX12_feed_43 : decode cX12_feed 43 = .ok (.iconst 1, 1) := by decide +kernel
theorem dX12_feed_44 : decode cX12_feed 44 = .ok (.iadd, 1) := by decide +kernel
theorem dX12_feed_45 : decode cX12_feed 45 = .ok (.putfield 310, 3) := by decide +kernel
theorem dX12_feed_48 : decode cX12_feed 48 = .ok (.aload_n 0, 1) := by decide +kernel
theorem dX12_feed_49 : decode cX12_feed 49 = .ok (.getfield 310, 3) := by decide +kernel
theorem dX12_feed_52 : decode cX12_feed 52 = .ok (.ireturn, 1) := by decide +kernel
theorem dX12_wipe_0 : decode cX12_wipe 0 = .ok (.aload_n 0, 1) := by decide +kernel
theorem dX12_wipe_1 : decode cX12_wipe 1 = .ok (.getfield 310, 3) := by decide +kernel
theorem dX12_wipe_4 : decode cX12_wipe 4 = .ok (.istore_n 1, 1) := by decide +kernel
theorem dX12_wipe_5 : decode cX12_wipe 5 = .ok (.aload_n 0, 1) := by decide +kernel
theorem dX12_wipe_6 : decode cX12_wipe 6 = .ok (.iconst 0, 1) := by decide +kernel
theorem dX12_wipe_7 : decode cX12_wipe 7 = .ok (.putfield 310, 3) := by decide +kernel
theorem dX12_wipe_10 : decode cX12_wipe 10 = .ok (.iload_n 1, 1) := by decide +kernel
theorem dX12_wipe_11 : decode cX12_wipe 11 = .ok (.ireturn, 1) := by decide +kernel
theorem dX12_here_0 : decode cX12_here 0 = .ok (.aload_n 0, 1) := by decide +kernel
theorem dX12_here_1 : decode cX12_here 1 = .ok (.getfield 313, 3) := by decide +kernel
theorem dX12_here_4 : decode cX12_here 4 = .ok (.aload_n 0, 1) := by decide +kernel
theorem dX12_here_5 : decode cX12_here 5 = .ok (.getfield 310, 3) := by decide +kernel
theorem dX12_here_8 : decode cX12_here 8 = .ok (.if_icmp .ge 15, 3) := by decide +kernel
theorem dX12_here_11 : decode cX12_here 11 = .ok (.aload_n 0, 1) := by decide +kernel
theorem dX12_here_12 : decode cX12_here 12 = .ok (.getfield 53, 3) := by decide +kernel
theorem dX12_here_15 : decode cX12_here 15 = .ok (.aload_n 0, 1) := by decide +kernel
theorem dX12_here_16 : decode cX12_here 16 = .ok (.getfield 313, 3) := by decide +kernel
theorem dX12_here_19 : decode cX12_here 19 = .ok (.iaload, 1) := by decide +kernel
theorem dX12_here_20 : decode cX12_here 20 = .ok (.goto 4, 3) := by decide +kernel
theorem dX12_here_23 : decode cX12_here 23 = .ok (.iconst (-1), 1) := by decide +kernel
theorem dX12_here_24 : decode cX12_here 24 = .ok (.ireturn, 1) := by decide +kernel
theorem dX12_readsSet_0 : decode cX12_readsSet 0 = .ok (.aload_n 0, 1) := by decide +kernel
theorem dX12_readsSet_1 : decode cX12_readsSet 1 = .ok (.invokevirtual 316, 3) := by decide +kernel
theorem dX12_readsSet_4 : decode cX12_readsSet 4 = .ok (.bipush 48, 2) := by decide +kernel
theorem dX12_readsSet_6 : decode cX12_readsSet 6 = .ok (.if_icmp .ne 25, 3) := by decide +kernel
theorem dX12_readsSet_9 : decode cX12_readsSet 9 = .ok (.aload_n 0, 1) := by decide +kernel
theorem dX12_readsSet_10 : decode cX12_readsSet 10 = .ok (.dup, 1) := by decide +kernel
theorem dX12_readsSet_11 : decode cX12_readsSet 11 = .ok (.getfield 313, 3) := by decide +kernel
theorem dX12_readsSet_14 : decode cX12_readsSet 14 = .ok (.iconst 1, 1) := by decide +kernel
theorem dX12_readsSet_15 : decode cX12_readsSet 15 = .ok (.iadd, 1) := by decide +kernel
theorem dX12_readsSet_16 : decode cX12_readsSet 16 = .ok (.putfield 313, 3) := by decide +kernel
theorem dX12_readsSet_19 : decode cX12_readsSet 19 = .ok (.aload_n 0, 1) := by decide +kernel
theorem dX12_readsSet_20 : decode cX12_readsSet 20 = .ok (.dup, 1) := by decide +kernel
theorem dX12_readsSet_21 : decode cX12_readsSet 21 = .ok (.getfield 319, 3) := by decide +kernel
theorem dX12_readsSet_24 : decode cX12_readsSet 24 = .ok (.lconst 1, 1) := by decide +kernel
theorem dX12_readsSet_25 : decode cX12_readsSet 25 = .ok (.lor, 1) := by decide +kernel
theorem dX12_readsSet_26 : decode cX12_readsSet 26 = .ok (.putfield 319, 3) := by decide +kernel
theorem dX12_readsSet_29 : decode cX12_readsSet 29 = .ok (.iconst 1, 1) := by decide +kernel
theorem dX12_readsSet_30 : decode cX12_readsSet 30 = .ok (.ireturn, 1) := by decide +kernel
theorem dX12_readsSet_31 : decode cX12_readsSet 31 = .ok (.iconst 0, 1) := by decide +kernel
theorem dX12_readsSet_32 : decode cX12_readsSet 32 = .ok (.istore_n 1, 1) := by decide +kernel
theorem dX12_readsSet_33 : decode cX12_readsSet 33 = .ok (.iconst (-1), 1) := by decide +kernel
theorem dX12_readsSet_34 : decode cX12_readsSet 34 = .ok (.istore_n 2, 1) := by decide +kernel
theorem dX12_readsSet_35 : decode cX12_readsSet 35 = .ok (.aload_n 0, 1) := by decide +kernel
theorem dX12_readsSet_36 : decode cX12_readsSet 36 = .ok (.invokevirtual 316, 3) := by decide +kernel
theorem dX12_readsSet_39 : decode cX12_readsSet 39 = .ok (.i2l, 1) := by decide +kernel
theorem dX12_readsSet_40 : decode cX12_readsSet 40 = .ok (.bipush 97, 2) := by decide +kernel
theorem dX12_readsSet_42 : decode cX12_readsSet 42 = .ok (.iload_n 2, 1) := by decide +kernel
theorem dX12_readsSet_43 : decode cX12_readsSet 43 = .ok (.iadd, 1) := by decide +kernel
theorem dX12_readsSet_44 : decode cX12_readsSet 44 = .ok (.iconst 1, 1) := by decide +kernel
theorem dX12_readsSet_45 : decode cX12_readsSet 45 = .ok (.iadd, 1) := by decide +kernel
theorem dX12_readsSet_46 : decode cX12_readsSet 46 = .ok (.i2l, 1) := by decide +kernel
theorem dX12_readsSet_47 : decode cX12_readsSet 47 = .ok (.bipush 97, 2) := by decide +kernel
theorem dX12_readsSet_49 : decode cX12_readsSet 49 = .ok (.aload_n 0, 1) := by decide +kernel
theorem dX12_readsSet_50 : decode cX12_readsSet 50 = .ok (.getfield 9, 3) := by decide +kernel
theorem dX12_readsSet_53 : decode cX12_readsSet 53 = .ok (.iadd, 1) := by decide +kernel
theorem dX12_readsSet_54 : decode cX12_readsSet 54 = .ok (.iconst 1, 1) := by decide +kernel
theorem dX12_readsSet_55 : decode cX12_readsSet 55 = .ok (.isub, 1) := by decide +kernel
theorem dX12_readsSet_56 : decode cX12_readsSet 56 = .ok (.i2l, 1) := by decide +kernel
theorem dX12_readsSet_57 : decode cX12_readsSet 57 = .ok (.invokestatic 100, 3) := by decide +kernel
theorem dX12_readsSet_60 : decode cX12_readsSet 60 = .ok (.ifCond .eq 30, 3) := by decide +kernel
theorem dX12_readsSet_63 : decode cX12_readsSet 63 = .ok (.aload_n 0, 1) := by decide +kernel
theorem dX12_readsSet_64 : decode cX12_readsSet 64 = .ok (.invokevirtual 316, 3) := by decide +kernel
theorem dX12_readsSet_67 : decode cX12_readsSet 67 = .ok (.bipush 97, 2) := by decide +kernel
theorem dX12_readsSet_69 : decode cX12_readsSet 69 = .ok (.isub, 1) := by decide +kernel
theorem dX12_readsSet_70 : decode cX12_readsSet 70 = .ok (.istore_n 2, 1) := by decide +kernel
theorem dX12_readsSet_71 : decode cX12_readsSet 71 = .ok (.iload_n 1, 1) := by decide +kernel
theorem dX12_readsSet_72 : decode cX12_readsSet 72 = .ok (.iconst 1, 1) := by decide +kernel
theorem dX12_readsSet_73 : decode cX12_readsSet 73 = .ok (.iload_n 2, 1) := by decide +kernel
theorem dX12_readsSet_74 : decode cX12_readsSet 74 = .ok (.ishl, 1) := by decide +kernel
theorem dX12_readsSet_75 : decode cX12_readsSet 75 = .ok (.ior, 1) := by decide +kernel
theorem dX12_readsSet_76 : decode cX12_readsSet 76 = .ok (.istore_n 1, 1) := by decide +kernel
theorem dX12_readsSet_77 : decode cX12_readsSet 77 = .ok (.aload_n 0, 1) := by decide +kernel
theorem dX12_readsSet_78 : decode cX12_readsSet 78 = .ok (.dup, 1) := by decide +kernel
theorem dX12_readsSet_79 : decode cX12_readsSet 79 = .ok (.getfield 313, 3) := by decide +kernel
theorem dX12_readsSet_82 : decode cX12_readsSet 82 = .ok (.iconst 1, 1) := by decide +kernel
theorem dX12_readsSet_83 : decode cX12_readsSet 83 = .ok (.iadd, 1) := by decide +kernel
theorem dX12_readsSet_84 : decode cX12_readsSet 84 = .ok (.putfield 313, 3) := by decide +kernel
theorem dX12_readsSet_87 : decode cX12_readsSet 87 = .ok (.goto (-52), 3) := by decide +kernel
theorem dX12_readsSet_90 : decode cX12_readsSet 90 = .ok (.aload_n 0, 1) := by decide +kernel
theorem dX12_readsSet_91 : decode cX12_readsSet 91 = .ok (.dup, 1) := by decide +kernel
theorem dX12_readsSet_92 : decode cX12_readsSet 92 = .ok (.getfield 319, 3) := by decide +kernel
theorem dX12_readsSet_95 : decode cX12_readsSet 95 = .ok (.iload_n 1, 1) := by decide +kernel
theorem dX12_readsSet_96 : decode cX12_readsSet 96 = .ok (.ifCond .ne 7, 3) := by decide +kernel
theorem dX12_readsSet_99 : decode cX12_readsSet 99 = .ok (.lconst 0, 1) := by decide +kernel
theorem dX12_readsSet_100 : decode cX12_readsSet 100 = .ok (.goto 6, 3) := by decide +kernel
theorem dX12_readsSet_103 : decode cX12_readsSet 103 = .ok (.lconst 1, 1) := by decide +kernel
theorem dX12_readsSet_104 : decode cX12_readsSet 104 = .ok (.iload_n 1, 1) := by decide +kernel
theorem dX12_readsSet_105 : decode cX12_readsSet 105 = .ok (.lshl, 1) := by decide +kernel
theorem dX12_readsSet_106 : decode cX12_readsSet 106 = .ok (.lor, 1) := by decide +kernel
theorem dX12_readsSet_107 : decode cX12_readsSet 107 = .ok (.putfield 319, 3) := by decide +kernel
theorem dX12_readsSet_110 : decode cX12_readsSet 110 = .ok (.iload_n 1, 1) := by decide +kernel
theorem dX12_readsSet_111 : decode cX12_readsSet 111 = .ok (.ifCond .eq 7, 3) := by decide +kernel
theorem dX12_readsSet_114 : decode cX12_readsSet 114 = .ok (.iconst 1, 1) := by decide +kernel
theorem dX12_readsSet_115 : decode cX12_readsSet 115 = .ok (.goto 4, 3) := by decide +kernel
theorem dX12_readsSet_118 : decode cX12_readsSet 118 = .ok (.iconst 0, 1) := by decide +kernel
theorem dX12_readsSet_119 : decode cX12_readsSet 119 = .ok (.ireturn, 1) := by decide +kernel
theorem dX12_read_0 : decode cX12_read 0 = .ok (.aload_n 0, 1) := by decide +kernel
theorem dX12_read_1 : decode cX12_read 1 = .ok (.iconst 0, 1) := by decide +kernel
theorem dX12_read_2 : decode cX12_read 2 = .ok (.putfield 313, 3) := by decide +kernel
theorem dX12_read_5 : decode cX12_read 5 = .ok (.aload_n 0, 1) := by decide +kernel
theorem dX12_read_6 : decode cX12_read 6 = .ok (.lconst 0, 1) := by decide +kernel
theorem dX12_read_7 : decode cX12_read 7 = .ok (.putfield 319, 3) := by decide +kernel
theorem dX12_read_10 : decode cX12_read 10 = .ok (.aload_n 0, 1) := by decide +kernel
theorem dX12_read_11 : decode cX12_read 11 = .ok (.invokevirtual 322, 3) := by decide +kernel
theorem dX12_read_14 : decode cX12_read 14 = .ok (.istore_n 1, 1) := by decide +kernel
theorem dX12_read_15 : decode cX12_read 15 = .ok (.iload_n 1, 1) := by decide +kernel
theorem dX12_read_16 : decode cX12_read 16 = .ok (.ifCond .eq 30, 3) := by decide +kernel
theorem dX12_read_19 : decode cX12_read 19 = .ok (.aload_n 0, 1) := by decide +kernel
theorem dX12_read_20 : decode cX12_read 20 = .ok (.invokevirtual 316, 3) := by decide +kernel
theorem dX12_read_23 : decode cX12_read 23 = .ok (.bipush 44, 2) := by decide +kernel
theorem dX12_read_25 : decode cX12_read 25 = .ok (.if_icmp .ne 21, 3) := by decide +kernel
theorem dX12_read_28 : decode cX12_read 28 = .ok (.aload_n 0, 1) := by decide +kernel
theorem dX12_read_29 : decode cX12_read 29 = .ok (.dup, 1) := by decide +kernel
theorem dX12_read_30 : decode cX12_read 30 = .ok (.getfield 313, 3) := by decide +kernel
theorem dX12_read_33 : decode cX12_read 33 = .ok (.iconst 1, 1) := by decide +kernel
theorem dX12_read_34 : decode cX12_read 34 = .ok (.iadd, 1) := by decide +kernel
theorem dX12_read_35 : decode cX12_read 35 = .ok (.putfield 313, 3) := by decide +kernel
theorem dX12_read_38 : decode cX12_read 38 = .ok (.aload_n 0, 1) := by decide +kernel
theorem dX12_read_39 : decode cX12_read 39 = .ok (.invokevirtual 322, 3) := by decide +kernel
theorem dX12_read_42 : decode cX12_read 42 = .ok (.istore_n 1, 1) := by decide +kernel
theorem dX12_read_43 : decode cX12_read 43 = .ok (.goto (-28), 3) := by decide +kernel
theorem dX12_read_46 : decode cX12_read 46 = .ok (.iload_n 1, 1) := by decide +kernel
theorem dX12_read_47 : decode cX12_read 47 = .ok (.aload_n 0, 1) := by decide +kernel
theorem dX12_read_48 : decode cX12_read 48 = .ok (.getfield 313, 3) := by decide +kernel
theorem dX12_read_51 : decode cX12_read 51 = .ok (.aload_n 0, 1) := by decide +kernel
theorem dX12_read_52 : decode cX12_read 52 = .ok (.getfield 310, 3) := by decide +kernel
theorem dX12_read_55 : decode cX12_read 55 = .ok (.if_icmp .ne 7, 3) := by decide +kernel
theorem dX12_read_58 : decode cX12_read 58 = .ok (.iconst 1, 1) := by decide +kernel
theorem dX12_read_59 : decode cX12_read 59 = .ok (.goto 4, 3) := by decide +kernel
theorem dX12_read_62 : decode cX12_read 62 = .ok (.iconst 0, 1) := by decide +kernel
theorem dX12_read_63 : decode cX12_read 63 = .ok (.iand, 1) := by decide +kernel
theorem dX12_read_64 : decode cX12_read 64 = .ok (.istore_n 1, 1) := by decide +kernel
theorem dX12_read_65 : decode cX12_read 65 = .ok (.aload_n 0, 1) := by decide +kernel
theorem dX12_read_66 : decode cX12_read 66 = .ok (.iconst 0, 1) := by decide +kernel
theorem dX12_read_67 : decode cX12_read 67 = .ok (.putfield 310, 3) := by decide +kernel
theorem dX12_read_70 : decode cX12_read 70 = .ok (.iload_n 1, 1) := by decide +kernel
theorem dX12_read_71 : decode cX12_read 71 = .ok (.ifCond .eq 14, 3) := by decide +kernel
theorem dX12_read_74 : decode cX12_read 74 = .ok (.aload_n 0, 1) := by decide +kernel
theorem dX12_read_75 : decode cX12_read 75 = .ok (.aload_n 0, 1) := by decide +kernel
theorem dX12_read_76 : decode cX12_read 76 = .ok (.getfield 319, 3) := by decide +kernel
theorem dX12_read_79 : decode cX12_read 79 = .ok (.invokevirtual 123, 3) := by decide +kernel
theorem dX12_read_82 : decode cX12_read 82 = .ok (.goto 10, 3) := by decide +kernel
theorem dX12_read_85 : decode cX12_read 85 = .ok (.bipush (-100), 2) := by decide +kernel
theorem dX12_read_87 : decode cX12_read 87 = .ok (.aload_n 0, 1) := by decide +kernel
theorem dX12_read_88 : decode cX12_read 88 = .ok (.getfield 313, 3) := by decide +kernel
theorem dX12_read_91 : decode cX12_read 91 = .ok (.isub, 1) := by decide +kernel
theorem dX12_read_92 : decode cX12_read 92 = .ok (.ireturn, 1) := by decide +kernel
theorem dX12_writes_0 : decode cX12_writes 0 = .ok (.aload_n 0, 1) := by decide +kernel
theorem dX12_writes_1 : decode cX12_writes 1 = .ok (.getfield 56, 3) := by decide +kernel
theorem dX12_writes_4 : decode cX12_writes 4 = .ok (.aload_n 0, 1) := by decide +kernel
theorem dX12_writes_5 : decode cX12_writes 5 = .ok (.getfield 326, 3) := by decide +kernel
theorem dX12_writes_8 : decode cX12_writes 8 = .ok (.iload_n 1, 1) := by decide +kernel
theorem dX12_writes_9 : decode cX12_writes 9 = .ok (.iastore, 1) := by decide +kernel
theorem dX12_writes_10 : decode cX12_writes 10 = .ok (.aload_n 0, 1) := by decide +kernel
theorem dX12_writes_11 : decode cX12_writes 11 = .ok (.dup, 1) := by decide +kernel
theorem dX12_writes_12 : decode cX12_writes 12 = .ok (.getfield 326, 3) := by decide +kernel
theorem dX12_writes_15 : decode cX12_writes 15 = .ok (.iconst 1, 1) := by decide +kernel
theorem dX12_writes_16 : decode cX12_writes 16 = .ok (.iadd, 1) := by decide +kernel
theorem dX12_writes_17 : decode cX12_writes 17 = .ok (.putfield 326, 3) := by decide +kernel
theorem dX12_writes_20 : decode cX12_writes 20 = .ok (.return_, 1) := by decide +kernel
theorem dX12_write_0 : decode cX12_write 0 = .ok (.aload_n 0, 1) := by decide +kernel
theorem dX12_write_1 : decode cX12_write 1 = .ok (.iload_n 1, 1) := by decide +kernel
theorem dX12_write_2 : decode cX12_write 2 = .ok (.invokevirtual 127, 3) := by decide +kernel
theorem dX12_write_5 : decode cX12_write 5 = .ok (.ifCond .ne 5, 3) := by decide +kernel
theorem dX12_write_8 : decode cX12_write 8 = .ok (.iconst (-1), 1) := by decide +kernel
theorem dX12_write_9 : decode cX12_write 9 = .ok (.ireturn, 1) := by decide +kernel
theorem dX12_write_10 : decode cX12_write 10 = .ok (.aload_n 0, 1) := by decide +kernel
theorem dX12_write_11 : decode cX12_write 11 = .ok (.iload_n 1, 1) := by decide +kernel
theorem dX12_write_12 : decode cX12_write 12 = .ok (.invokevirtual 164, 3) := by decide +kernel
theorem dX12_write_15 : decode cX12_write 15 = .ok (.lstore_n 2, 1) := by decide +kernel
theorem dX12_write_16 : decode cX12_write 16 = .ok (.aload_n 0, 1) := by decide +kernel
theorem dX12_write_17 : decode cX12_write 17 = .ok (.iconst 0, 1) := by decide +kernel
theorem dX12_write_18 : decode cX12_write 18 = .ok (.putfield 326, 3) := by decide +kernel
theorem dX12_write_21 : decode cX12_write 21 = .ok (.iconst 0, 1) := by decide +kernel
theorem dX12_write_22 : decode cX12_write 22 = .ok (.istore 4, 2) := by decide +kernel
theorem dX12_write_24 : decode cX12_write 24 = .ok (.iload 4, 2) := by decide +kernel
theorem dX12_write_26 : decode cX12_write 26 = .ok (.aload_n 0, 1) := by decide +kernel
theorem dX12_write_27 : decode cX12_write 27 = .ok (.invokevirtual 115, 3) := by decide +kernel
theorem dX12_write_30 : decode cX12_write 30 = .ok (.if_icmp .ge 83, 3) := by decide +kernel
theorem dX12_write_33 : decode cX12_write 33 = .ok (.lload_n 2, 1) := by decide +kernel
theorem dX12_write_34 : decode cX12_write 34 = .ok (.iload 4, 2) := by decide +kernel
theorem dX12_write_36 : decode cX12_write 36 = .ok (.invokestatic 139, 3) := by decide +kernel
theorem dX12_write_39 : decode cX12_write 39 = .ok (.ifCond .ne 6, 3) := by decide +kernel
theorem dX12_write_42 : decode cX12_write 42 = .ok (.goto 65, 3) := by decide +kernel
theorem dX12_write_45 : decode cX12_write 45 = .ok (.aload_n 0, 1) := by decide +kernel
theorem dX12_write_46 : decode cX12_write 46 = .ok (.getfield 326, 3) := by decide +kernel
theorem dX12_write_49 : decode cX12_write 49 = .ok (.ifCond .le 9, 3) := by decide +kernel
theorem dX12_write_52 : decode cX12_write 52 = .ok (.aload_n 0, 1) := by decide +kernel
theorem dX12_write_53 : decode cX12_write 53 = .ok (.bipush 44, 2) := by decide +kernel
theorem dX12_write_55 : decode cX12_write 55 = .ok (.invokevirtual 329, 3) := by decide +kernel
theorem dX12_write_58 : decode cX12_write 58 = .ok (.iload 4, 2) := by decide +kernel
theorem dX12_write_60 : decode cX12_write 60 = .ok (.ifCond .ne 9, 3) := by decide +kernel
theorem dX12_write_63 : decode cX12_write 63 = .ok (.aload_n 0, 1) := by decide +kernel
theorem dX12_write_64 : decode cX12_write 64 = .ok (.bipush 48, 2) := by decide +kernel
theorem dX12_write_66 : decode cX12_write 66 = .ok (.invokevirtual 329, 3) := by decide +kernel
theorem dX12_write_69 : decode cX12_write 69 = .ok (.iconst 0, 1) := by decide +kernel
theorem dX12_write_70 : decode cX12_write 70 = .ok (.istore 5, 2) := by decide +kernel
theorem dX12_write_72 : decode cX12_write 72 = .ok (.iload 5, 2) := by decide +kernel
theorem dX12_write_74 : decode cX12_write 74 = .ok (.aload_n 0, 1) := by decide +kernel
theorem dX12_write_75 : decode cX12_write 75 = .ok (.getfield 9, 3) := by decide +kernel
theorem dX12_write_78 : decode cX12_write 78 = .ok (.if_icmp .ge 29, 3) := by decide +kernel
theorem dX12_write_81 : decode cX12_write 81 = .ok (.iload 4, 2) := by decide +kernel
theorem dX12_write_83 : decode cX12_write 83 = .ok (.iload 5, 2) := by decide +kernel
theorem dX12_write_85 : decode cX12_write 85 = .ok (.ishr, 1) := by decide +kernel
theorem dX12_write_86 : decode cX12_write 86 = .ok (.iconst 1, 1) := by decide +kernel
theorem dX12_write_87 : decode cX12_write 87 = .ok (.iand, 1) := by decide +kernel
theorem dX12_write_88 : decode cX12_write 88 = .ok (.iconst 1, 1) := by decide +kernel
theorem dX12_write_89 : decode cX12_write 89 = .ok (.if_icmp .ne 12, 3) := by decide +kernel
theorem dX12_write_92 : decode cX12_write 92 = .ok (.aload_n 0, 1) := by decide +kernel
theorem dX12_write_93 : decode cX12_write 93 = .ok (.bipush 97, 2) := by decide +kernel
theorem dX12_write_95 : decode cX12_write 95 = .ok (.iload 5, 2) := by decide +kernel
theorem dX12_write_97 : decode cX12_write 97 = .ok (.iadd, 1) := by decide +kernel
theorem dX12_write_98 : decode cX12_write 98 = .ok (.invokevirtual 329, 3) := by decide +kernel
theorem dX12_write_101 : decode cX12_write 101 = .ok (.iinc 5 1, 3) := by decide +kernel
theorem dX12_write_104 : decode cX12_write 104 = .ok (.goto (-32), 3) := by decide +kernel
theorem dX12_write_107 : decode cX12_write 107 = .ok (.iinc 4 1, 3) := by decide +kernel
theorem dX12_write_110 : decode cX12_write 110 = .ok (.goto (-86), 3) := by decide +kernel
theorem dX12_write_113 : decode cX12_write 113 = .ok (.aload_n 0, 1) := by decide +kernel
theorem dX12_write_114 : decode cX12_write 114 = .ok (.getfield 326, 3) := by decide +kernel
theorem dX12_write_117 : decode cX12_write 117 = .ok (.ireturn, 1) := by decide +kernel
theorem dX12_paper_0 : decode cX12_paper 0 = .ok (.iload_n 1, 1) := by decide +kernel
theorem dX12_paper_1 : decode cX12_paper 1 = .ok (.i2l, 1) := by decide +kernel
theorem dX12_paper_2 : decode cX12_paper 2 = .ok (.lconst 0, 1) := by decide +kernel
theorem dX12_paper_3 : decode cX12_paper 3 = .ok (.aload_n 0, 1) := by decide +kernel
theorem dX12_paper_4 : decode cX12_paper 4 = .ok (.getfield 326, 3) := by decide +kernel
theorem dX12_paper_7 : decode cX12_paper 7 = .ok (.iconst 1, 1) := by decide +kernel
theorem dX12_paper_8 : decode cX12_paper 8 = .ok (.isub, 1) := by decide +kernel
theorem dX12_paper_9 : decode cX12_paper 9 = .ok (.i2l, 1) := by decide +kernel
theorem dX12_paper_10 : decode cX12_paper 10 = .ok (.invokestatic 100, 3) := by decide +kernel
theorem dX12_paper_13 : decode cX12_paper 13 = .ok (.ifCond .eq 12, 3) := by decide +kernel
theorem dX12_paper_16 : decode cX12_paper 16 = .ok (.aload_n 0, 1) := by decide +kernel
theorem dX12_paper_17 : decode cX12_paper 17 = .ok (.getfield 56, 3) := by decide +kernel
theorem dX12_paper_20 : decode cX12_paper 20 = .ok (.iload_n 1, 1) := by decide +kernel
theorem dX12_paper_21 : decode cX12_paper 21 = .ok (.iaload, 1) := by decide +kernel
theorem dX12_paper_22 : decode cX12_paper 22 = .ok (.goto 5, 3) := by decide +kernel
theorem dX12_paper_25 : decode cX12_paper 25 = .ok (.bipush (-2), 2) := by decide +kernel
theorem dX12_paper_27 : decode cX12_paper 27 = .ok (.ireturn, 1) := by decide +kernel
theorem dX12_isShelf_0 : decode cX12_isShelf 0 = .ok (.iload_n 0, 1) := by decide +kernel
theorem dX12_isShelf_1 : decode cX12_isShelf 1 = .ok (.i2l, 1) := by decide +kernel
theorem dX12_isShelf_2 : decode cX12_isShelf 2 = .ok (.lconst 0, 1) := by decide +kernel
theorem dX12_isShelf_3 : decode cX12_isShelf 3 = .ok (.ldc2_w 220, 3) := by decide +kernel
theorem dX12_isShelf_6 : decode cX12_isShelf 6 = .ok (.invokestatic 100, 3) := by decide +kernel
theorem dX12_isShelf_9 : decode cX12_isShelf 9 = .ok (.ireturn, 1) := by decide +kernel
theorem dX12_mayBe_0 : decode cX12_mayBe 0 = .ok (.iload_n 0, 1) := by decide +kernel
theorem dX12_mayBe_1 : decode cX12_mayBe 1 = .ok (.ifCond .eq 31, 3) := by decide +kernel
theorem dX12_mayBe_4 : decode cX12_mayBe 4 = .ok (.iload_n 0, 1) := by decide +kernel
theorem dX12_mayBe_5 : decode cX12_mayBe 5 = .ok (.iconst 1, 1) := by decide +kernel
theorem dX12_mayBe_6 : decode cX12_mayBe 6 = .ok (.if_icmp .ne 16, 3) := by decide +kernel
theorem dX12_mayBe_9 : decode cX12_mayBe 9 = .ok (.iload_n 1, 1) := by decide +kernel
theorem dX12_mayBe_10 : decode cX12_mayBe 10 = .ok (.iconst 3, 1) := by decide +kernel
theorem dX12_mayBe_11 : decode cX12_mayBe 11 = .ok (.if_icmp .eq 21, 3) := by decide +kernel
theorem dX12_mayBe_14 : decode cX12_mayBe 14 = .ok (.iload_n 1, 1) := by decide +kernel
theorem dX12_mayBe_15 : decode cX12_mayBe 15 = .ok (.iconst 4, 1) := by decide +kernel
theorem dX12_mayBe_16 : decode cX12_mayBe 16 = .ok (.if_icmp .ne 20, 3) := by decide +kernel
theorem dX12_mayBe_19 : decode cX12_mayBe 19 = .ok (.goto 13, 3) := by decide +kernel
theorem dX12_mayBe_22 : decode cX12_mayBe 22 = .ok (.iload_n 1, 1) := by decide +kernel
theorem dX12_mayBe_23 : decode cX12_mayBe 23 = .ok (.iconst 2, 1) := by decide +kernel
theorem dX12_mayBe_24 : decode cX12_mayBe 24 = .ok (.if_icmp .eq 8, 3) := by decide +kernel
theorem dX12_mayBe_27 : decode cX12_mayBe 27 = .ok (.iload_n 1, 1) := by decide +kernel
theorem dX12_mayBe_28 : decode cX12_mayBe 28 = .ok (.iconst 5, 1) := by decide +kernel
theorem dX12_mayBe_29 : decode cX12_mayBe 29 = .ok (.if_icmp .ne 7, 3) := by decide +kernel
theorem dX12_mayBe_32 : decode cX12_mayBe 32 = .ok (.iconst 1, 1) := by decide +kernel
theorem dX12_mayBe_33 : decode cX12_mayBe 33 = .ok (.goto 4, 3) := by decide +kernel
theorem dX12_mayBe_36 : decode cX12_mayBe 36 = .ok (.iconst 0, 1) := by decide +kernel
theorem dX12_mayBe_37 : decode cX12_mayBe 37 = .ok (.ireturn, 1) := by decide +kernel
theorem dX12_shelf_0 : decode cX12_shelf 0 = .ok (.iload_n 1, 1) := by decide +kernel
theorem dX12_shelf_1 : decode cX12_shelf 1 = .ok (.invokestatic 333, 3) := by decide +kernel
theorem dX12_shelf_4 : decode cX12_shelf 4 = .ok (.ifCond .eq 27, 3) := by decide +kernel
theorem dX12_shelf_7 : decode cX12_shelf 7 = .ok (.iload_n 2, 1) := by decide +kernel
theorem dX12_shelf_8 : decode cX12_shelf 8 = .ok (.i2l, 1) := by decide +kernel
theorem dX12_shelf_9 : decode cX12_shelf 9 = .ok (.ldc2_w 95, 3) := by decide +kernel
theorem dX12_shelf_12 : decode cX12_shelf 12 = .ok (.ldc2_w 220, 3) := by decide +kernel
theorem dX12_shelf_15 : decode cX12_shelf 15 = .ok (.invokestatic 100, 3) := by decide +kernel
theorem dX12_shelf_18 : decode cX12_shelf 18 = .ok (.ifCond .eq 13, 3) := by decide +kernel
theorem dX12_shelf_21 : decode cX12_shelf 21 = .ok (.iload_n 2, 1) := by decide +kernel
theorem dX12_shelf_22 : decode cX12_shelf 22 = .ok (.ifCond .lt 11, 3) := by decide +kernel
theorem dX12_shelf_25 : decode cX12_shelf 25 = .ok (.iload_n 3, 1) := by decide +kernel
theorem dX12_shelf_26 : decode cX12_shelf 26 = .ok (.bipush 6, 2) := by decide +kernel
theorem dX12_shelf_28 : decode cX12_shelf 28 = .ok (.if_icmp .le 5, 3) := by decide +kernel
theorem dX12_shelf_31 : decode cX12_shelf 31 = .ok (.iconst (-1), 1) := by decide +kernel
theorem dX12_shelf_32 : decode cX12_shelf 32 = .ok (.ireturn, 1) := by decide +kernel
theorem dX12_shelf_33 : decode cX12_shelf 33 = .ok (.iload_n 2, 1) := by decide +kernel
theorem dX12_shelf_34 : decode cX12_shelf 34 = .ok (.ifCond .lt 10, 3) := by decide +kernel
theorem dX12_shelf_37 : decode cX12_shelf 37 = .ok (.iload_n 3, 1) := by decide +kernel
theorem dX12_shelf_38 : decode cX12_shelf 38 = .ok (.ifCond .ge 6, 3) := by decide +kernel
theorem dX12_shelf_41 : decode cX12_shelf 41 = .ok (.bipush (-14), 2) := by decide +kernel
theorem dX12_shelf_43 : decode cX12_shelf 43 = .ok (.ireturn, 1) := by decide +kernel
theorem dX12_shelf_44 : decode cX12_shelf 44 = .ok (.aload_n 0, 1) := by decide +kernel
theorem dX12_shelf_45 : decode cX12_shelf 45 = .ok (.getfield 59, 3) := by decide +kernel
theorem dX12_shelf_48 : decode cX12_shelf 48 = .ok (.iload_n 1, 1) := by decide +kernel
theorem dX12_shelf_49 : decode cX12_shelf 49 = .ok (.iload_n 2, 1) := by decide +kernel
theorem dX12_shelf_50 : decode cX12_shelf 50 = .ok (.iastore, 1) := by decide +kernel
theorem dX12_shelf_51 : decode cX12_shelf 51 = .ok (.aload_n 0, 1) := by decide +kernel
theorem dX12_shelf_52 : decode cX12_shelf 52 = .ok (.getfield 62, 3) := by decide +kernel
theorem dX12_shelf_55 : decode cX12_shelf 55 = .ok (.iload_n 1, 1) := by decide +kernel
theorem dX12_shelf_56 : decode cX12_shelf 56 = .ok (.iload_n 2, 1) := by decide +kernel
theorem dX12_shelf_57 : decode cX12_shelf 57 = .ok (.ifCond .ge 7, 3) := by decide +kernel
theorem dX12_shelf_60 : decode cX12_shelf 60 = .ok (.iconst 0, 1) := by decide +kernel
theorem dX12_shelf_61 : decode cX12_shelf 61 = .ok (.goto 4, 3) := by decide +kernel
theorem dX12_shelf_64 : decode cX12_shelf 64 = .ok (.iload_n 3, 1) := by decide +kernel
theorem dX12_shelf_65 : decode cX12_shelf 65 = .ok (.iastore, 1) := by decide +kernel
theorem dX12_shelf_66 : decode cX12_shelf 66 = .ok (.iconst 0, 1) := by decide +kernel
theorem dX12_shelf_67 : decode cX12_shelf 67 = .ok (.istore 4, 2) := by decide +kernel
theorem dX12_shelf_69 : decode cX12_shelf 69 = .ok (.iload 4, 2) := by decide +kernel
theorem dX12_shelf_71 : decode cX12_shelf 71 = .ok (.bipush 6, 2) := by decide +kernel
theorem dX12_shelf_73 : decode cX12_shelf 73 = .ok (.if_icmp .ge 22, 3) := by decide +kernel
theorem dX12_shelf_76 : decode cX12_shelf 76 = .ok (.aload_n 0, 1) := by decide +kernel
theorem dX12_shelf_77 : decode cX12_shelf 77 = .ok (.getfield 65, 3) := by decide +kernel
theorem dX12_shelf_80 : decode cX12_shelf 80 = .ok (.bipush 6, 2) := by decide +kernel
theorem dX12_shelf_82 : decode cX12_shelf 82 = .ok (.iload_n 1, 1) := by decide +kernel
theorem dX12_shelf_83 : decode cX12_shelf 83 = .ok (.imul, 1) := by decide +kernel
theorem dX12_shelf_84 : decode cX12_shelf 84 = .ok (.iload 4, 2) := by decide +kernel
theorem dX12_shelf_86 : decode cX12_shelf 86 = .ok (.iadd, 1) := by decide +kernel
theorem dX12_shelf_87 : decode cX12_shelf 87 = .ok (.iconst (-1), 1) := by decide +kernel
theorem dX12_shelf_88 : decode cX12_shelf 88 = .ok (.iastore, 1) := by decide +kernel
theorem dX12_shelf_89 : decode cX12_shelf 89 = .ok (.iinc 4 1, 3) := by decide +kernel
theorem dX12_shelf_92 : decode cX12_shelf 92 = .ok (.goto (-23), 3) := by decide +kernel
theorem dX12_shelf_95 : decode cX12_shelf 95 = .ok (.iconst 1, 1) := by decide +kernel
theorem dX12_shelf_96 : decode cX12_shelf 96 = .ok (.ireturn, 1) := by decide +kernel
theorem dX12_keep_0 : decode cX12_keep 0 = .ok (.iload_n 1, 1) := by decide +kernel
theorem dX12_keep_1 : decode cX12_keep 1 = .ok (.invokestatic 333, 3) := by decide +kernel
theorem dX12_keep_4 : decode cX12_keep 4 = .ok (.ifCond .eq 11, 3) := by decide +kernel
theorem dX12_keep_7 : decode cX12_keep 7 = .ok (.aload_n 0, 1) := by decide +kernel
theorem dX12_keep_8 : decode cX12_keep 8 = .ok (.iload_n 3, 1) := by decide +kernel
theorem dX12_keep_9 : decode cX12_keep 9 = .ok (.invokevirtual 127, 3) := by decide +kernel
theorem dX12_keep_12 : decode cX12_keep 12 = .ok (.ifCond .ne 5, 3) := by decide +kernel
theorem dX12_keep_15 : decode cX12_keep 15 = .ok (.iconst (-1), 1) := by decide +kernel
theorem dX12_keep_16 : decode cX12_keep 16 = .ok (.ireturn, 1) := by decide +kernel
theorem dX12_keep_17 : decode cX12_keep 17 = .ok (.aload_n 0, 1) := by decide +kernel
theorem dX12_keep_18 : decode cX12_keep 18 = .ok (.getfield 59, 3) := by decide +kernel
theorem dX12_keep_21 : decode cX12_keep 21 = .ok (.iload_n 1, 1) := by decide +kernel
theorem dX12_keep_22 : decode cX12_keep 22 = .ok (.iaload, 1) := by decide +kernel
theorem dX12_keep_23 : decode cX12_keep 23 = .ok (.ifCond .ge 6, 3) := by decide +kernel
theorem dX12_keep_26 : decode cX12_keep 26 = .ok (.bipush (-11), 2) := by decide +kernel
theorem dX12_keep_28 : decode cX12_keep 28 = .ok (.ireturn, 1) := by decide +kernel
theorem dX12_keep_29 : decode cX12_keep 29 = .ok (.iload_n 2, 1) := by decide +kernel
theorem dX12_keep_30 : decode cX12_keep 30 = .ok (.i2l, 1) := by decide +kernel
theorem dX12_keep_31 : decode cX12_keep 31 = .ok (.lconst 0, 1) := by decide +kernel
theorem dX12_keep_32 : decode cX12_keep 32 = .ok (.aload_n 0, 1) := by decide +kernel
theorem dX12_keep_33 : decode cX12_keep 33 = .ok (.getfield 62, 3) := by decide +kernel
theorem dX12_keep_36 : decode cX12_keep 36 = .ok (.iload_n 1, 1) := by decide +kernel
theorem dX12_keep_37 : decode cX12_keep 37 = .ok (.iaload, 1) := by decide +kernel
theorem dX12_keep_38 : decode cX12_keep 38 = .ok (.iconst 1, 1) := by decide +kernel
theorem dX12_keep_39 : decode cX12_keep 39 = .ok (.isub, 1) := by decide +kernel
theorem dX12_keep_40 : decode cX12_keep 40 = .ok (.i2l, 1) := by decide +kernel
theorem dX12_keep_41 : decode cX12_keep 41 = .ok (.invokestatic 100, 3) := by decide +kernel
theorem dX12_keep_44 : decode cX12_keep 44 = .ok (.ifCond .ne 6, 3) := by decide +kernel
theorem dX12_keep_47 : decode cX12_keep 47 = .ok (.bipush (-13), 2) := by decide +kernel
theorem dX12_keep_49 : decode cX12_keep 49 = .ok (.ireturn, 1) := by decide +kernel
theorem dX12_keep_50 : decode cX12_keep 50 = .ok (.aload_n 0, 1) := by decide +kernel
theorem dX12_keep_51 : decode cX12_keep 51 = .ok (.getfield 59, 3) := by decide +kernel
theorem dX12_keep_54 : decode cX12_keep 54 = .ok (.iload_n 1, 1) := by decide +kernel
theorem dX12_keep_55 : decode cX12_keep 55 = .ok (.iaload, 1) := by decide +kernel
theorem dX12_keep_56 : decode cX12_keep 56 = .ok (.aload_n 0, 1) := by decide +kernel
theorem dX12_keep_57 : decode cX12_keep 57 = .ok (.getfield 15, 3) := by decide +kernel
theorem dX12_keep_60 : decode cX12_keep 60 = .ok (.iload_n 3, 1) := by decide +kernel
theorem dX12_keep_61 : decode cX12_keep 61 = .ok (.iaload, 1) := by decide +kernel
theorem dX12_keep_62 : decode cX12_keep 62 = .ok (.invokestatic 336, 3) := by decide +kernel
theorem dX12_keep_65 : decode cX12_keep 65 = .ok (.ifCond .ne 6, 3) := by decide +kernel
theorem dX12_keep_68 : decode cX12_keep 68 = .ok (.bipush (-12), 2) := by decide +kernel
theorem dX12_keep_70 : decode cX12_keep 70 = .ok (.ireturn, 1) := by decide +kernel
theorem dX12_keep_71 : decode cX12_keep 71 = .ok (.aload_n 0, 1) := by decide +kernel
theorem dX12_keep_72 : decode cX12_keep 72 = .ok (.getfield 65, 3) := by decide +kernel
theorem dX12_keep_75 : decode cX12_keep 75 = .ok (.bipush 6, 2) := by decide +kernel
theorem dX12_keep_77 : decode cX12_keep 77 = .ok (.iload_n 1, 1) := by decide +kernel
theorem dX12_keep_78 : decode cX12_keep 78 = .ok (.imul, 1) := by decide +kernel
theorem dX12_keep_79 : decode cX12_keep 79 = .ok (.iload_n 2, 1) := by decide +kernel
theorem dX12_keep_80 : decode cX12_keep 80 = .ok (.iadd, 1) := by decide +kernel
theorem dX12_keep_81 : decode cX12_keep 81 = .ok (.aload_n 0, 1) := by decide +kernel
theorem dX12_keep_82 : decode cX12_keep 82 = .ok (.getfield 15, 3) := by decide +kernel
theorem dX12_keep_85 : decode cX12_keep 85 = .ok (.iload_n 3, 1) := by decide +kernel
theorem dX12_keep_86 : decode cX12_keep 86 = .ok (.iaload, 1) := by decide +kernel
theorem dX12_keep_87 : decode cX12_keep 87 = .ok (.iastore, 1) := by decide +kernel
theorem dX12_keep_88 : decode cX12_keep 88 = .ok (.aload_n 0, 1) := by decide +kernel
theorem dX12_keep_89 : decode cX12_keep 89 = .ok (.getfield 68, 3) := by decide +kernel
theorem dX12_keep_92 : decode cX12_keep 92 = .ok (.bipush 6, 2) := by decide +kernel
theorem dX12_keep_94 : decode cX12_keep 94 = .ok (.iload_n 1, 1) := by decide +kernel
theorem dX12_keep_95 : decode cX12_keep 95 = .ok (.imul, 1) := by decide +kernel
theorem dX12_keep_96 : decode cX12_keep 96 = .ok (.iload_n 2, 1) := by decide +kernel
theorem dX12_keep_97 : decode cX12_keep 97 = .ok (.iadd, 1) := by decide +kernel
theorem dX12_keep_98 : decode cX12_keep 98 = .ok (.aload_n 0, 1) := by decide +kernel
theorem dX12_keep_99 : decode cX12_keep 99 = .ok (.getfield 19, 3) := by decide +kernel
theorem dX12_keep_102 : decode cX12_keep 102 = .ok (.iload_n 3, 1) := by decide +kernel
theorem dX12_keep_103 : decode cX12_keep 103 = .ok (.iaload, 1) := by decide +kernel
theorem dX12_keep_104 : decode cX12_keep 104 = .ok (.iastore, 1) := by decide +kernel
theorem dX12_keep_105 : decode cX12_keep 105 = .ok (.aload_n 0, 1) := by decide +kernel
theorem dX12_keep_106 : decode cX12_keep 106 = .ok (.getfield 77, 3) := by decide +kernel
theorem dX12_keep_109 : decode cX12_keep 109 = .ok (.bipush 6, 2) := by decide +kernel
theorem dX12_keep_111 : decode cX12_keep 111 = .ok (.iload_n 1, 1) := by decide +kernel
theorem dX12_keep_112 : decode cX12_keep 112 = .ok (.imul, 1) := by decide +kernel
theorem dX12_keep_113 : decode cX12_keep 113 = .ok (.iload_n 2, 1) := by decide +kernel
theorem dX12_keep_114 : decode cX12_keep 114 = .ok (.iadd, 1) := by decide +kernel
theorem dX12_keep_115 : decode cX12_keep 115 = .ok (.aload_n 0, 1) := by decide +kernel
theorem dX12_keep_116 : decode cX12_keep 116 = .ok (.getfield 28, 3) := by decide +kernel
theorem dX12_keep_119 : decode cX12_keep 119 = .ok (.iload_n 3, 1) := by decide +kernel
theorem dX12_keep_120 : decode cX12_keep 120 = .ok (.laload, 1) := by decide +kernel
theorem dX12_keep_121 : decode cX12_keep 121 = .ok (.lastore, 1) := by decide +kernel
theorem dX12_keep_122 : decode cX12_keep 122 = .ok (.iconst 1, 1) := by decide +kernel
theorem dX12_keep_123 : decode cX12_keep 123 = .ok (.ireturn, 1) := by decide +kernel
theorem dX12_kept_0 : decode cX12_kept 0 = .ok (.iload_n 1, 1) := by decide +kernel
theorem dX12_kept_1 : decode cX12_kept 1 = .ok (.invokestatic 333, 3) := by decide +kernel
theorem dX12_kept_4 : decode cX12_kept 4 = .ok (.ifCond .eq 35, 3) := by decide +kernel
theorem dX12_kept_7 : decode cX12_kept 7 = .ok (.iload_n 2, 1) := by decide +kernel
theorem dX12_kept_8 : decode cX12_kept 8 = .ok (.i2l, 1) := by decide +kernel
theorem dX12_kept_9 : decode cX12_kept 9 = .ok (.lconst 0, 1) := by decide +kernel
theorem dX12_kept_10 : decode cX12_kept 10 = .ok (.aload_n 0, 1) := by decide +kernel
theorem dX12_kept_11 : decode cX12_kept 11 = .ok (.getfield 62, 3) := by decide +kernel
theorem dX12_kept_14 : decode cX12_kept 14 = .ok (.iload_n 1, 1) := by decide +kernel
theorem dX12_kept_15 : decode cX12_kept 15 = .ok (.iaload, 1) := by decide +kernel
theorem dX12_kept_16 : decode cX12_kept 16 = .ok (.iconst 1, 1) := by decide +kernel
theorem dX12_kept_17 : decode cX12_kept 17 = .ok (.isub, 1) := by decide +kernel
theorem dX12_kept_18 : decode cX12_kept 18 = .ok (.i2l, 1) := by decide +kernel
theorem dX12_kept_19 : decode cX12_kept 19 = .ok (.invokestatic 100, 3) := by decide +kernel
theorem dX12_kept_22 : decode cX12_kept 22 = .ok (.ifCond .eq 17, 3) := by decide +kernel
theorem dX12_kept_25 : decode cX12_kept 25 = .ok (.aload_n 0, 1) := by decide +kernel
theorem dX12_kept_26 : decode cX12_kept 26 = .ok (.getfield 65, 3) := by decide +kernel
theorem dX12_kept_29 : decode cX12_kept 29 = .ok (.bipush 6, 2) := by decide +kernel
theorem dX12_kept_31 : decode cX12_kept 31 = .ok (.iload_n 1, 1) := by decide +kernel
theorem dX12_kept_32 : decode cX12_kept 32 = .ok (.imul, 1) := by decide +kernel
theorem dX12_kept_33 : decode cX12_kept 33 = .ok (.iload_n 2, 1) := by decide +kernel
theorem dX12_kept_34 : decode cX12_kept 34 = .ok (.iadd, 1) := by decide +kernel
theorem dX12_kept_35 : decode cX12_kept 35 = .ok (.iaload, 1) := by decide +kernel
theorem dX12_kept_36 : decode cX12_kept 36 = .ok (.ifCond .ge 7, 3) := by decide +kernel
theorem dX12_kept_39 : decode cX12_kept 39 = .ok (.ldc2_w 162, 3) := by decide +kernel
theorem dX12_kept_42 : decode cX12_kept 42 = .ok (.lreturn, 1) := by decide +kernel
theorem dX12_kept_43 : decode cX12_kept 43 = .ok (.bipush 6, 2) := by decide +kernel
theorem dX12_kept_45 : decode cX12_kept 45 = .ok (.iload_n 1, 1) := by decide +kernel
theorem dX12_kept_46 : decode cX12_kept 46 = .ok (.imul, 1) := by decide +kernel
theorem dX12_kept_47 : decode cX12_kept 47 = .ok (.iload_n 2, 1) := by decide +kernel
theorem dX12_kept_48 : decode cX12_kept 48 = .ok (.iadd, 1) := by decide +kernel
theorem dX12_kept_49 : decode cX12_kept 49 = .ok (.istore_n 3, 1) := by decide +kernel
theorem dX12_kept_50 : decode cX12_kept 50 = .ok (.aload_n 0, 1) := by decide +kernel
theorem dX12_kept_51 : decode cX12_kept 51 = .ok (.aload_n 0, 1) := by decide +kernel
theorem dX12_kept_52 : decode cX12_kept 52 = .ok (.getfield 65, 3) := by decide +kernel
theorem dX12_kept_55 : decode cX12_kept 55 = .ok (.iload_n 3, 1) := by decide +kernel
theorem dX12_kept_56 : decode cX12_kept 56 = .ok (.iaload, 1) := by decide +kernel
theorem dX12_kept_57 : decode cX12_kept 57 = .ok (.aload_n 0, 1) := by decide +kernel
theorem dX12_kept_58 : decode cX12_kept 58 = .ok (.getfield 68, 3) := by decide +kernel
theorem dX12_kept_61 : decode cX12_kept 61 = .ok (.iload_n 3, 1) := by decide +kernel
theorem dX12_kept_62 : decode cX12_kept 62 = .ok (.iaload, 1) := by decide +kernel
theorem dX12_kept_63 : decode cX12_kept 63 = .ok (.aload_n 0, 1) := by decide +kernel
theorem dX12_kept_64 : decode cX12_kept 64 = .ok (.getfield 77, 3) := by decide +kernel
theorem dX12_kept_67 : decode cX12_kept 67 = .ok (.iload_n 3, 1) := by decide +kernel
theorem dX12_kept_68 : decode cX12_kept 68 = .ok (.laload, 1) := by decide +kernel
theorem dX12_kept_69 : decode cX12_kept 69 = .ok (.invokevirtual 154, 3) := by decide +kernel
theorem dX12_kept_72 : decode cX12_kept 72 = .ok (.lreturn, 1) := by decide +kernel
theorem dX12_moves_0 : decode cX12_moves 0 = .ok (.aload_n 0, 1) := by decide +kernel
theorem dX12_moves_1 : decode cX12_moves 1 = .ok (.getfield 65, 3) := by decide +kernel
theorem dX12_moves_4 : decode cX12_moves 4 = .ok (.iload_n 2, 1) := by decide +kernel
theorem dX12_moves_5 : decode cX12_moves 5 = .ok (.aload_n 0, 1) := by decide +kernel
theorem dX12_moves_6 : decode cX12_moves 6 = .ok (.getfield 71, 3) := by decide +kernel
theorem dX12_moves_9 : decode cX12_moves 9 = .ok (.iload_n 1, 1) := by decide +kernel
theorem dX12_moves_10 : decode cX12_moves 10 = .ok (.iaload, 1) := by decide +kernel
theorem dX12_moves_11 : decode cX12_moves 11 = .ok (.iastore, 1) := by decide +kernel
theorem dX12_moves_12 : decode cX12_moves 12 = .ok (.aload_n 0, 1) := by decide +kernel
theorem dX12_moves_13 : decode cX12_moves 13 = .ok (.getfield 68, 3) := by decide +kernel
theorem dX12_moves_16 : decode cX12_moves 16 = .ok (.iload_n 2, 1) := by decide +kernel
theorem dX12_moves_17 : decode cX12_moves 17 = .ok (.aload_n 0, 1) := by decide +kernel
theorem dX12_moves_18 : decode cX12_moves 18 = .ok (.getfield 74, 3) := by decide +kernel
theorem dX12_moves_21 : decode cX12_moves 21 = .ok (.iload_n 1, 1) := by decide +kernel
theorem dX12_moves_22 : decode cX12_moves 22 = .ok (.iaload, 1) := by decide +kernel
theorem dX12_moves_23 : decode cX12_moves 23 = .ok (.iastore, 1) := by decide +kernel
theorem dX12_moves_24 : decode cX12_moves 24 = .ok (.aload_n 0, 1) := by decide +kernel
theorem dX12_moves_25 : decode cX12_moves 25 = .ok (.getfield 77, 3) := by decide +kernel
theorem dX12_moves_28 : decode cX12_moves 28 = .ok (.iload_n 2, 1) := by decide +kernel
theorem dX12_moves_29 : decode cX12_moves 29 = .ok (.aload_n 0, 1) := by decide +kernel
theorem dX12_moves_30 : decode cX12_moves 30 = .ok (.getfield 80, 3) := by decide +kernel
theorem dX12_moves_33 : decode cX12_moves 33 = .ok (.iload_n 1, 1) := by decide +kernel
theorem dX12_moves_34 : decode cX12_moves 34 = .ok (.laload, 1) := by decide +kernel
theorem dX12_moves_35 : decode cX12_moves 35 = .ok (.lastore, 1) := by decide +kernel
theorem dX12_moves_36 : decode cX12_moves 36 = .ok (.return_, 1) := by decide +kernel
theorem dX12_takes_0 : decode cX12_takes 0 = .ok (.iconst 0, 1) := by decide +kernel
theorem dX12_takes_1 : decode cX12_takes 1 = .ok (.istore 4, 2) := by decide +kernel
theorem dX12_takes_3 : decode cX12_takes 3 = .ok (.iload 4, 2) := by decide +kernel
theorem dX12_takes_5 : decode cX12_takes 5 = .ok (.iload_n 3, 1) := by decide +kernel
theorem dX12_takes_6 : decode cX12_takes 6 = .ok (.if_icmp .ge 72, 3) := by decide +kernel
theorem dX12_takes_9 : decode cX12_takes 9 = .ok (.aload_n 0, 1) := by decide +kernel
theorem dX12_takes_10 : decode cX12_takes 10 = .ok (.getfield 71, 3) := by decide +kernel
theorem dX12_takes_13 : decode cX12_takes 13 = .ok (.iload 4, 2) := by decide +kernel
theorem dX12_takes_15 : decode cX12_takes 15 = .ok (.aload_n 0, 1) := by decide +kernel
theorem dX12_takes_16 : decode cX12_takes 16 = .ok (.getfield 65, 3) := by decide +kernel
theorem dX12_takes_19 : decode cX12_takes 19 = .ok (.bipush 6, 2) := by decide +kernel
theorem dX12_takes_21 : decode cX12_takes 21 = .ok (.iload_n 1, 1) := by decide +kernel
theorem dX12_takes_22 : decode cX12_takes 22 = .ok (.imul, 1) := by decide +kernel
theorem dX12_takes_23 : decode cX12_takes 23 = .ok (.iload_n 2, 1) := by decide +kernel
theorem dX12_takes_24 : decode cX12_takes 24 = .ok (.iadd, 1) := by decide +kernel
theorem dX12_takes_25 : decode cX12_takes 25 = .ok (.iload 4, 2) := by decide +kernel
theorem dX12_takes_27 : decode cX12_takes 27 = .ok (.iadd, 1) := by decide +kernel
theorem dX12_takes_28 : decode cX12_takes 28 = .ok (.iaload, 1) := by decide +kernel
theorem dX12_takes_29 : decode cX12_takes 29 = .ok (.iastore, 1) := by decide +kernel
theorem dX12_takes_30 : decode cX12_takes 30 = .ok (.aload_n 0, 1) := by decide +kernel
theorem dX12_takes_31 : decode cX12_takes 31 = .ok (.getfield 74, 3) := by decide +kernel
theorem dX12_takes_34 : decode cX12_takes 34 = .ok (.iload 4, 2) := by decide +kernel
theorem dX12_takes_36 : decode cX12_takes 36 = .ok (.aload_n 0, 1) := by decide +kernel
theorem dX12_takes_37 : decode cX12_takes 37 = .ok (.getfield 68, 3) := by decide +kernel
theorem dX12_takes_40 : decode cX12_takes 40 = .ok (.bipush 6, 2) := by decide +kernel
theorem dX12_takes_42 : decode cX12_takes 42 = .ok (.iload_n 1, 1) := by decide +kernel
theorem dX12_takes_43 : decode cX12_takes 43 = .ok (.imul, 1) := by decide +kernel
theorem dX12_takes_44 : decode cX12_takes 44 = .ok (.iload_n 2, 1) := by decide +kernel
theorem dX12_takes_45 : decode cX12_takes 45 = .ok (.iadd, 1) := by decide +kernel
theorem dX12_takes_46 : decode cX12_takes 46 = .ok (.iload 4, 2) := by decide +kernel
theorem dX12_takes_48 : decode cX12_takes 48 = .ok (.iadd, 1) := by decide +kernel
theorem dX12_takes_49 : decode cX12_takes 49 = .ok (.iaload, 1) := by decide +kernel
theorem dX12_takes_50 : decode cX12_takes 50 = .ok (.iastore, 1) := by decide +kernel
theorem dX12_takes_51 : decode cX12_takes 51 = .ok (.aload_n 0, 1) := by decide +kernel
theorem dX12_takes_52 : decode cX12_takes 52 = .ok (.getfield 80, 3) := by decide +kernel
theorem dX12_takes_55 : decode cX12_takes 55 = .ok (.iload 4, 2) := by decide +kernel
theorem dX12_takes_57 : decode cX12_takes 57 = .ok (.aload_n 0, 1) := by decide +kernel
theorem dX12_takes_58 : decode cX12_takes 58 = .ok (.getfield 77, 3) := by decide +kernel
theorem dX12_takes_61 : decode cX12_takes 61 = .ok (.bipush 6, 2) := by decide +kernel
theorem dX12_takes_63 : decode cX12_takes 63 = .ok (.iload_n 1, 1) := by decide +kernel
theorem dX12_takes_64 : decode cX12_takes 64 = .ok (.imul, 1) := by decide +kernel
theorem dX12_takes_65 : decode cX12_takes 65 = .ok (.iload_n 2, 1) := by decide +kernel
theorem dX12_takes_66 : decode cX12_takes 66 = .ok (.iadd, 1) := by decide +kernel
theorem dX12_takes_67 : decode cX12_takes 67 = .ok (.iload 4, 2) := by decide +kernel
theorem dX12_takes_69 : decode cX12_takes 69 = .ok (.iadd, 1) := by decide +kernel
theorem dX12_takes_70 : decode cX12_takes 70 = .ok (.laload, 1) := by decide +kernel
theorem dX12_takes_71 : decode cX12_takes 71 = .ok (.lastore, 1) := by decide +kernel
theorem dX12_takes_72 : decode cX12_takes 72 = .ok (.iinc 4 1, 3) := by decide +kernel
theorem dX12_takes_75 : decode cX12_takes 75 = .ok (.goto (-72), 3) := by decide +kernel
theorem dX12_takes_78 : decode cX12_takes 78 = .ok (.return_, 1) := by decide +kernel
theorem dX12_like_0 : decode cX12_like 0 = .ok (.iload_n 1, 1) := by decide +kernel
theorem dX12_like_1 : decode cX12_like 1 = .ok (.invokestatic 333, 3) := by decide +kernel
theorem dX12_like_4 : decode cX12_like 4 = .ok (.ifCond .eq 15, 3) := by decide +kernel
theorem dX12_like_7 : decode cX12_like 7 = .ok (.iload_n 2, 1) := by decide +kernel
theorem dX12_like_8 : decode cX12_like 8 = .ok (.invokestatic 333, 3) := by decide +kernel
theorem dX12_like_11 : decode cX12_like 11 = .ok (.ifCond .eq 8, 3) := by decide +kernel
theorem dX12_like_14 : decode cX12_like 14 = .ok (.iload_n 1, 1) := by decide +kernel
theorem dX12_like_15 : decode cX12_like 15 = .ok (.iload_n 2, 1) := by decide +kernel
theorem dX12_like_16 : decode cX12_like 16 = .ok (.if_icmp .ne 5, 3) := by decide +kernel
theorem dX12_like_19 : decode cX12_like 19 = .ok (.iconst (-1), 1) := by decide +kernel
theorem dX12_like_20 : decode cX12_like 20 = .ok (.ireturn, 1) := by decide +kernel
theorem dX12_like_21 : decode cX12_like 21 = .ok (.aload_n 0, 1) := by decide +kernel
theorem dX12_like_22 : decode cX12_like 22 = .ok (.getfield 59, 3) := by decide +kernel
theorem dX12_like_25 : decode cX12_like 25 = .ok (.iload_n 2, 1) := by decide +kernel
theorem dX12_like_26 : decode cX12_like 26 = .ok (.iaload, 1) := by decide +kernel
theorem dX12_like_27 : decode cX12_like 27 = .ok (.ifCond .ge 6, 3) := by decide +kernel
theorem dX12_like_30 : decode cX12_like 30 = .ok (.bipush (-11), 2) := by decide +kernel
theorem dX12_like_32 : decode cX12_like 32 = .ok (.ireturn, 1) := by decide +kernel
theorem dX12_like_33 : decode cX12_like 33 = .ok (.aload_n 0, 1) := by decide +kernel
theorem dX12_like_34 : decode cX12_like 34 = .ok (.getfield 59, 3) := by decide +kernel
theorem dX12_like_37 : decode cX12_like 37 = .ok (.iload_n 1, 1) := by decide +kernel
theorem dX12_like_38 : decode cX12_like 38 = .ok (.aload_n 0, 1) := by decide +kernel
theorem dX12_like_39 : decode cX12_like 39 = .ok (.getfield 59, 3) := by decide +kernel
theorem dX12_like_42 : decode cX12_like 42 = .ok (.iload_n 2, 1) := by decide +kernel
theorem dX12_like_43 : decode cX12_like 43 = .ok (.iaload, 1) := by decide +kernel
theorem dX12_like_44 : decode cX12_like 44 = .ok (.iastore, 1) := by decide +kernel
theorem dX12_like_45 : decode cX12_like 45 = .ok (.aload_n 0, 1) := by decide +kernel
theorem dX12_like_46 : decode cX12_like 46 = .ok (.getfield 62, 3) := by decide +kernel
theorem dX12_like_49 : decode cX12_like 49 = .ok (.iload_n 1, 1) := by decide +kernel
theorem dX12_like_50 : decode cX12_like 50 = .ok (.aload_n 0, 1) := by decide +kernel
theorem dX12_like_51 : decode cX12_like 51 = .ok (.getfield 62, 3) := by decide +kernel
theorem dX12_like_54 : decode cX12_like 54 = .ok (.iload_n 2, 1) := by decide +kernel
theorem dX12_like_55 : decode cX12_like 55 = .ok (.iaload, 1) := by decide +kernel
theorem dX12_like_56 : decode cX12_like 56 = .ok (.iastore, 1) := by decide +kernel
theorem dX12_like_57 : decode cX12_like 57 = .ok (.aload_n 0, 1) := by decide +kernel
theorem dX12_like_58 : decode cX12_like 58 = .ok (.iload_n 2, 1) := by decide +kernel
theorem dX12_like_59 : decode cX12_like 59 = .ok (.iconst 0, 1) := by decide +kernel
theorem dX12_like_60 : decode cX12_like 60 = .ok (.bipush 6, 2) := by decide +kernel
theorem dX12_like_62 : decode cX12_like 62 = .ok (.invokevirtual 339, 3) := by decide +kernel
theorem dX12_like_65 : decode cX12_like 65 = .ok (.iconst 0, 1) := by decide +kernel
theorem dX12_like_66 : decode cX12_like 66 = .ok (.istore_n 3, 1) := by decide +kernel
theorem dX12_like_67 : decode cX12_like 67 = .ok (.iload_n 3, 1) := by decide +kernel
theorem dX12_like_68 : decode cX12_like 68 = .ok (.bipush 6, 2) := by decide +kernel
theorem dX12_like_70 : decode cX12_like 70 = .ok (.if_icmp .ge 20, 3) := by decide +kernel
theorem dX12_like_73 : decode cX12_like 73 = .ok (.aload_n 0, 1) := by decide +kernel
theorem dX12_like_74 : decode cX12_like 74 = .ok (.iload_n 3, 1) := by decide +kernel
theorem dX12_like_75 : decode cX12_like 75 = .ok (.bipush 6, 2) := by decide +kernel
theorem dX12_like_77 : decode cX12_like 77 = .ok (.iload_n 1, 1) := by decide +kernel
theorem dX12_like_78 : decode cX12_like 78 = .ok (.imul, 1) := by decide +kernel
theorem dX12_like_79 : decode cX12_like 79 = .ok (.iload_n 3, 1) := by decide +kernel
theorem dX12_like_80 : decode cX12_like 80 = .ok (.iadd, 1) := by decide +kernel
theorem dX12_like_81 : decode cX12_like 81 = .ok (.invokevirtual 342, 3) := by decide +kernel
theorem dX12_like_84 : decode cX12_like 84 = .ok (.iinc 3 1, 3) := by decide +kernel
theorem dX12_like_87 : decode cX12_like 87 = .ok (.goto (-20), 3) := by decide +kernel
theorem dX12_like_90 : decode cX12_like 90 = .ok (.aload_n 0, 1) := by decide +kernel
theorem dX12_like_91 : decode cX12_like 91 = .ok (.getfield 62, 3) := by decide +kernel
theorem dX12_like_94 : decode cX12_like 94 = .ok (.iload_n 1, 1) := by decide +kernel
theorem dX12_like_95 : decode cX12_like 95 = .ok (.iaload, 1) := by decide +kernel
theorem dX12_like_96 : decode cX12_like 96 = .ok (.ireturn, 1) := by decide +kernel
theorem dX12_shift_0 : decode cX12_shift 0 = .ok (.iload_n 1, 1) := by decide +kernel
theorem dX12_shift_1 : decode cX12_shift 1 = .ok (.invokestatic 333, 3) := by decide +kernel
theorem dX12_shift_4 : decode cX12_shift 4 = .ok (.ifCond .eq 10, 3) := by decide +kernel
theorem dX12_shift_7 : decode cX12_shift 7 = .ok (.iload_n 3, 1) := by decide +kernel
theorem dX12_shift_8 : decode cX12_shift 8 = .ok (.invokestatic 333, 3) := by decide +kernel
theorem dX12_shift_11 : decode cX12_shift 11 = .ok (.ifCond .ne 5, 3) := by decide +kernel
theorem dX12_shift_14 : decode cX12_shift 14 = .ok (.iconst (-1), 1) := by decide +kernel
theorem dX12_shift_15 : decode cX12_shift 15 = .ok (.ireturn, 1) := by decide +kernel
theorem dX12_shift_16 : decode cX12_shift 16 = .ok (.aload_n 0, 1) := by decide +kernel
theorem dX12_shift_17 : decode cX12_shift 17 = .ok (.getfield 59, 3) := by decide +kernel
theorem dX12_shift_20 : decode cX12_shift 20 = .ok (.iload_n 1, 1) := by decide +kernel
theorem dX12_shift_21 : decode cX12_shift 21 = .ok (.iaload, 1) := by decide +kernel
theorem dX12_shift_22 : decode cX12_shift 22 = .ok (.ifCond .lt 12, 3) := by decide +kernel
theorem dX12_shift_25 : decode cX12_shift 25 = .ok (.aload_n 0, 1) := by decide +kernel
theorem dX12_shift_26 : decode cX12_shift 26 = .ok (.getfield 59, 3) := by decide +kernel
theorem dX12_shift_29 : decode cX12_shift 29 = .ok (.iload_n 3, 1) := by decide +kernel
theorem dX12_shift_30 : decode cX12_shift 30 = .ok (.iaload, 1) := by decide +kernel
theorem dX12_shift_31 : decode cX12_shift 31 = .ok (.ifCond .ge 6, 3) := by decide +kernel
theorem dX12_shift_34 : decode cX12_shift 34 = .ok (.bipush (-11), 2) := by decide +kernel
theorem dX12_shift_36 : decode cX12_shift 36 = .ok (.ireturn, 1) := by decide +kernel
theorem dX12_shift_37 : decode cX12_shift 37 = .ok (.iload 5, 2) := by decide +kernel
theorem dX12_shift_39 : decode cX12_shift 39 = .ok (.ifCond .lt 39, 3) := by decide +kernel
theorem dX12_shift_42 : decode cX12_shift 42 = .ok (.iload_n 2, 1) := by decide +kernel
theorem dX12_shift_43 : decode cX12_shift 43 = .ok (.ifCond .lt 35, 3) := by decide +kernel
theorem dX12_shift_46 : decode cX12_shift 46 = .ok (.iload 4, 2) := by decide +kernel
theorem dX12_shift_48 : decode cX12_shift 48 = .ok (.ifCond .lt 30, 3) := by decide +kernel
theorem dX12_shift_51 : decode cX12_shift 51 = .ok (.iload_n 2, 1) := by decide +kernel
theorem dX12_shift_52 : decode cX12_shift 52 = .ok (.aload_n 0, 1) := by decide +kernel
theorem dX12_shift_53 : decode cX12_shift 53 = .ok (.getfield 62, 3) := by decide +kernel
theorem dX12_shift_56 : decode cX12_shift 56 = .ok (.iload_n 1, 1) := by decide +kernel
theorem dX12_shift_57 : decode cX12_shift 57 = .ok (.iaload, 1) := by decide +kernel
theorem dX12_shift_58 : decode cX12_shift 58 = .ok (.iload 5, 2) := by decide +kernel
theorem dX12_shift_60 : decode cX12_shift 60 = .ok (.isub, 1) := by decide +kernel
theorem dX12_shift_61 : decode cX12_shift 61 = .ok (.if_icmp .gt 17, 3) := by decide +kernel
theorem dX12_shift_64 : decode cX12_shift 64 = .ok (.iload 4, 2) := by decide +kernel
theorem dX12_shift_66 : decode cX12_shift 66 = .ok (.aload_n 0, 1) := by decide +kernel
theorem dX12_shift_67 : decode cX12_shift 67 = .ok (.getfield 62, 3) := by decide +kernel
theorem dX12_shift_70 : decode cX12_shift 70 = .ok (.iload_n 3, 1) := by decide +kernel
theorem dX12_shift_71 : decode cX12_shift 71 = .ok (.iaload, 1) := by decide +kernel
theorem dX12_shift_72 : decode cX12_shift 72 = .ok (.iload 5, 2) := by decide +kernel
theorem dX12_shift_74 : decode cX12_shift 74 = .ok (.isub, 1) := by decide +kernel
theorem dX12_shift_75 : decode cX12_shift 75 = .ok (.if_icmp .le 6, 3) := by decide +kernel
theorem dX12_shift_78 : decode cX12_shift 78 = .ok (.bipush (-13), 2) := by decide +kernel
theorem dX12_shift_80 : decode cX12_shift 80 = .ok (.ireturn, 1) := by decide +kernel
theorem dX12_shift_81 : decode cX12_shift 81 = .ok (.aload_n 0, 1) := by decide +kernel
theorem dX12_shift_82 : decode cX12_shift 82 = .ok (.iload_n 1, 1) := by decide +kernel
theorem dX12_shift_83 : decode cX12_shift 83 = .ok (.iload_n 2, 1) := by decide +kernel
theorem dX12_shift_84 : decode cX12_shift 84 = .ok (.iload 5, 2) := by decide +kernel
theorem dX12_shift_86 : decode cX12_shift 86 = .ok (.invokevirtual 339, 3) := by decide +kernel
theorem dX12_shift_89 : decode cX12_shift 89 = .ok (.iconst 0, 1) := by decide +kernel
theorem dX12_shift_90 : decode cX12_shift 90 = .ok (.istore 6, 2) := by decide +kernel
theorem dX12_shift_92 : decode cX12_shift 92 = .ok (.iload 6, 2) := by decide +kernel
theorem dX12_shift_94 : decode cX12_shift 94 = .ok (.iload 5, 2) := by decide +kernel
theorem dX12_shift_96 : decode cX12_shift 96 = .ok (.if_icmp .ge 57, 3) := by decide +kernel
theorem dX12_shift_99 : decode cX12_shift 99 = .ok (.aload_n 0, 1) := by decide +kernel
theorem dX12_shift_100 : decode cX12_shift 100 = .ok (.getfield 71, 3) := by decide +kernel
theorem dX12_shift_103 : decode cX12_shift 103 = .ok (.iload 6, 2) := by decide +kernel
theorem dX12_shift_105 : decode cX12_shift 105 = .ok (.iaload, 1) := by decide +kernel
theorem dX12_shift_106 : decode cX12_shift 106 = .ok (.ifCond .lt 25, 3) := by decide +kernel
theorem dX12_shift_109 : decode cX12_shift 109 = .ok (.aload_n 0, 1) := by decide +kernel
theorem dX12_shift_110 : decode cX12_shift 110 = .ok (.getfield 59, 3) := by decide +kernel
theorem dX12_shift_113 : decode cX12_shift 113 = .ok (.iload_n 3, 1) := by decide +kernel
theorem dX12_shift_114 : decode cX12_shift 114 = .ok (.iaload, 1) := by decide +kernel
theorem dX12_shift_115 : decode cX12_shift 115 = .ok (.aload_n 0, 1) := by decide +kernel
theorem dX12_shift_116 : decode cX12_shift 116 = .ok (.getfield 71, 3) := by decide +kernel
theorem dX12_shift_119 : decode cX12_shift 119 = .ok (.iload 6, 2) := by decide +kernel
theorem dX12_shift_121 : decode cX12_shift 121 = .ok (.iaload, 1) := by decide +kernel
theorem dX12_shift_122 : decode cX12_shift 122 = .ok (.invokestatic 336, 3) := by decide +kernel
theorem dX12_shift_125 : decode cX12_shift 125 = .ok (.ifCond .ne 6, 3) := by decide +kernel
theorem dX12_shift_128 : decode cX12_shift 128 = .ok (.bipush (-12), 2) := by decide +kernel
theorem dX12_shift_130 : decode cX12_shift 130 = .ok (.ireturn, 1) := by decide +kernel
theorem dX12_shift_131 : decode cX12_shift 131 = .ok (.aload_n 0, 1) := by decide +kernel
theorem dX12_shift_132 : decode cX12_shift 132 = .ok (.iload 6, 2) := by decide +kernel
theorem dX12_shift_134 : decode cX12_shift 134 = .ok (.bipush 6, 2) := by decide +kernel
theorem dX12_shift_136 : decode cX12_shift 136 = .ok (.iload_n 3, 1) := by decide +kernel
theorem dX12_shift_137 : decode cX12_shift 137 = .ok (.imul, 1) := by decide +kernel
theorem dX12_shift_138 : decode cX12_shift 138 = .ok (.iload 4, 2) := by decide +kernel
theorem dX12_shift_140 : decode cX12_shift 140 = .ok (.iadd, 1) := by decide +kernel
theorem dX12_shift_141 : decode cX12_shift 141 = .ok (.iload 6, 2) := by decide +kernel
theorem dX12_shift_143 : decode cX12_shift 143 = .ok (.iadd, 1) := by decide +kernel
theorem dX12_shift_144 : decode cX12_shift 144 = .ok (.invokevirtual 342, 3) := by decide +kernel
theorem dX12_shift_147 : decode cX12_shift 147 = .ok (.iinc 6 1, 3) := by decide +kernel
theorem dX12_shift_150 : decode cX12_shift 150 = .ok (.goto (-58), 3) := by decide +kernel
theorem dX12_shift_153 : decode cX12_shift 153 = .ok (.iload 5, 2) := by decide +kernel
theorem dX12_shift_155 : decode cX12_shift 155 = .ok (.ireturn, 1) := by decide +kernel
theorem dX12_isList_0 : decode cX12_isList 0 = .ok (.iload_n 0, 1) := by decide +kernel
theorem dX12_isList_1 : decode cX12_isList 1 = .ok (.i2l, 1) := by decide +kernel
theorem dX12_isList_2 : decode cX12_isList 2 = .ok (.lconst 0, 1) := by decide +kernel
theorem dX12_isList_3 : decode cX12_isList 3 = .ok (.ldc2_w 220, 3) := by decide +kernel
theorem dX12_isList_6 : decode cX12_isList 6 = .ok (.invokestatic 100, 3) := by decide +kernel
theorem dX12_isList_9 : decode cX12_isList 9 = .ok (.ireturn, 1) := by decide +kernel
theorem dX12_list_0 : decode cX12_list 0 = .ok (.iload_n 1, 1) := by decide +kernel
theorem dX12_list_1 : decode cX12_list 1 = .ok (.invokestatic 294, 3) := by decide +kernel
theorem dX12_list_4 : decode cX12_list 4 = .ok (.ifCond .eq 25, 3) := by decide +kernel
theorem dX12_list_7 : decode cX12_list 7 = .ok (.iload_n 2, 1) := by decide +kernel
theorem dX12_list_8 : decode cX12_list 8 = .ok (.i2l, 1) := by decide +kernel
theorem dX12_list_9 : decode cX12_list 9 = .ok (.ldc2_w 95, 3) := by decide +kernel
theorem dX12_list_12 : decode cX12_list 12 = .ok (.lconst 1, 1) := by decide +kernel
theorem dX12_list_13 : decode cX12_list 13 = .ok (.invokestatic 100, 3) := by decide +kernel
theorem dX12_list_16 : decode cX12_list 16 = .ok (.ifCond .eq 13, 3) := by decide +kernel
theorem dX12_list_19 : decode cX12_list 19 = .ok (.iload_n 2, 1) := by decide +kernel
theorem dX12_list_20 : decode cX12_list 20 = .ok (.ifCond .lt 11, 3) := by decide +kernel
theorem dX12_list_23 : decode cX12_list 23 = .ok (.iload_n 3, 1) := by decide +kernel
theorem dX12_list_24 : decode cX12_list 24 = .ok (.bipush 20, 2) := by decide +kernel
theorem dX12_list_26 : decode cX12_list 26 = .ok (.if_icmp .le 5, 3) := by decide +kernel
theorem dX12_list_29 : decode cX12_list 29 = .ok (.iconst (-1), 1) := by decide +kernel
theorem dX12_list_30 : decode cX12_list 30 = .ok (.ireturn, 1) := by decide +kernel
theorem dX12_list_31 : decode cX12_list 31 = .ok (.iload_n 2, 1) := by decide +kernel
theorem dX12_list_32 : decode cX12_list 32 = .ok (.ifCond .lt 10, 3) := by decide +kernel
theorem dX12_list_35 : decode cX12_list 35 = .ok (.iload_n 3, 1) := by decide +kernel
theorem dX12_list_36 : decode cX12_list 36 = .ok (.ifCond .ge 6, 3) := by decide +kernel
theorem dX12_list_39 : decode cX12_list 39 = .ok (.bipush (-14), 2) := by decide +kernel
theorem dX12_list_41 : decode cX12_list 41 = .ok (.ireturn, 1) := by decide +kernel
theorem dX12_list_42 : decode cX12_list 42 = .ok (.aload_n 0, 1) := by decide +kernel
theorem dX12_list_43 : decode cX12_list 43 = .ok (.getfield 83, 3) := by decide +kernel
theorem dX12_list_46 : decode cX12_list 46 = .ok (.iload_n 1, 1) := by decide +kernel
theorem dX12_list_47 : decode cX12_list 47 = .ok (.iload_n 2, 1) := by decide +kernel
theorem dX12_list_48 : decode cX12_list 48 = .ok (.iastore, 1) := by decide +kernel
theorem dX12_list_49 : decode cX12_list 49 = .ok (.aload_n 0, 1) := by decide +kernel
theorem dX12_list_50 : decode cX12_list 50 = .ok (.getfield 86, 3) := by decide +kernel
theorem dX12_list_53 : decode cX12_list 53 = .ok (.iload_n 1, 1) := by decide +kernel
theorem dX12_list_54 : decode cX12_list 54 = .ok (.iload_n 2, 1) := by decide +kernel
theorem dX12_list_55 : decode cX12_list 55 = .ok (.ifCond .ge 7, 3) := by decide +kernel
theorem dX12_list_58 : decode cX12_list 58 = .ok (.iconst 0, 1) := by decide +kernel
theorem dX12_list_59 : decode cX12_list 59 = .ok (.goto 4, 3) := by decide +kernel
theorem dX12_list_62 : decode cX12_list 62 = .ok (.iload_n 3, 1) := by decide +kernel
theorem dX12_list_63 : decode cX12_list 63 = .ok (.iastore, 1) := by decide +kernel
theorem dX12_list_64 : decode cX12_list 64 = .ok (.iconst 0, 1) := by decide +kernel
theorem dX12_list_65 : decode cX12_list 65 = .ok (.istore 4, 2) := by decide +kernel
theorem dX12_list_67 : decode cX12_list 67 = .ok (.iload 4, 2) := by decide +kernel
theorem dX12_list_69 : decode cX12_list 69 = .ok (.bipush 20, 2) := by decide +kernel
theorem dX12_list_71 : decode cX12_list 71 = .ok (.if_icmp .ge 22, 3) := by decide +kernel
theorem dX12_list_74 : decode cX12_list 74 = .ok (.aload_n 0, 1) := by decide +kernel
theorem dX12_list_75 : decode cX12_list 75 = .ok (.getfield 89, 3) := by decide +kernel
theorem dX12_list_78 : decode cX12_list 78 = .ok (.bipush 20, 2) := by decide +kernel
theorem dX12_list_80 : decode cX12_list 80 = .ok (.iload_n 1, 1) := by decide +kernel
theorem dX12_list_81 : decode cX12_list 81 = .ok (.imul, 1) := by decide +kernel
theorem dX12_list_82 : decode cX12_list 82 = .ok (.iload 4, 2) := by decide +kernel
theorem dX12_list_84 : decode cX12_list 84 = .ok (.iadd, 1) := by decide +kernel
theorem dX12_list_85 : decode cX12_list 85 = .ok (.lconst 0, 1) := by decide +kernel
theorem dX12_list_86 : decode cX12_list 86 = .ok (.lastore, 1) := by decide +kernel
theorem dX12_list_87 : decode cX12_list 87 = .ok (.iinc 4 1, 3) := by decide +kernel
theorem dX12_list_90 : decode cX12_list 90 = .ok (.goto (-23), 3) := by decide +kernel
theorem dX12_list_93 : decode cX12_list 93 = .ok (.iconst 1, 1) := by decide +kernel
theorem dX12_list_94 : decode cX12_list 94 = .ok (.ireturn, 1) := by decide +kernel
theorem dX12_put_0 : decode cX12_put 0 = .ok (.iload_n 1, 1) := by decide +kernel
theorem dX12_put_1 : decode cX12_put 1 = .ok (.invokestatic 294, 3) := by decide +kernel
theorem dX12_put_4 : decode cX12_put 4 = .ok (.ifCond .ne 5, 3) := by decide +kernel
theorem dX12_put_7 : decode cX12_put 7 = .ok (.iconst (-1), 1) := by decide +kernel
theorem dX12_put_8 : decode cX12_put 8 = .ok (.ireturn, 1) := by decide +kernel
theorem dX12_put_9 : decode cX12_put 9 = .ok (.aload_n 0, 1) := by decide +kernel
theorem dX12_put_10 : decode cX12_put 10 = .ok (.getfield 83, 3) := by decide +kernel
theorem dX12_put_13 : decode cX12_put 13 = .ok (.iload_n 1, 1) := by decide +kernel
theorem dX12_put_14 : decode cX12_put 14 = .ok (.iaload, 1) := by decide +kernel
theorem dX12_put_15 : decode cX12_put 15 = .ok (.ifCond .ge 6, 3) := by decide +kernel
theorem dX12_put_18 : decode cX12_put 18 = .ok (.bipush (-11), 2) := by decide +kernel
theorem dX12_put_20 : decode cX12_put 20 = .ok (.ireturn, 1) := by decide +kernel
theorem dX12_put_21 : decode cX12_put 21 = .ok (.iload_n 2, 1) := by decide +kernel
theorem dX12_put_22 : decode cX12_put 22 = .ok (.i2l, 1) := by decide +kernel
theorem dX12_put_23 : decode cX12_put 23 = .ok (.lconst 0, 1) := by decide +kernel
theorem dX12_put_24 : decode cX12_put 24 = .ok (.aload_n 0, 1) := by decide +kernel
theorem dX12_put_25 : decode cX12_put 25 = .ok (.getfield 86, 3) := by decide +kernel
theorem dX12_put_28 : decode cX12_put 28 = .ok (.iload_n 1, 1) := by decide +kernel
theorem dX12_put_29 : decode cX12_put 29 = .ok (.iaload, 1) := by decide +kernel
theorem dX12_put_30 : decode cX12_put 30 = .ok (.iconst 1, 1) := by decide +kernel
theorem dX12_put_31 : decode cX12_put 31 = .ok (.isub, 1) := by decide +kernel
theorem dX12_put_32 : decode cX12_put 32 = .ok (.i2l, 1) := by decide +kernel
theorem dX12_put_33 : decode cX12_put 33 = .ok (.invokestatic 100, 3) := by decide +kernel
theorem dX12_put_36 : decode cX12_put 36 = .ok (.ifCond .ne 6, 3) := by decide +kernel
theorem dX12_put_39 : decode cX12_put 39 = .ok (.bipush (-13), 2) := by decide +kernel
theorem dX12_put_41 : decode cX12_put 41 = .ok (.ireturn, 1) := by decide +kernel
theorem dX12_put_42 : decode cX12_put 42 = .ok (.aload_n 0, 1) := by decide +kernel
theorem dX12_put_43 : decode cX12_put 43 = .ok (.getfield 89, 3) := by decide +kernel
theorem dX12_put_46 : decode cX12_put 46 = .ok (.bipush 20, 2) := by decide +kernel
theorem dX12_put_48 : decode cX12_put 48 = .ok (.iload_n 1, 1) := by decide +kernel
theorem dX12_put_49 : decode cX12_put 49 = .ok (.imul, 1) := by decide +kernel
theorem dX12_put_50 : decode cX12_put 50 = .ok (.iload_n 2, 1) := by decide +kernel
theorem dX12_put_51 : decode cX12_put 51 = .ok (.iadd, 1) := by decide +kernel
theorem dX12_put_52 : decode cX12_put 52 = .ok (.aload_n 0, 1) := by decide +kernel
theorem dX12_put_53 : decode cX12_put 53 = .ok (.getfield 83, 3) := by decide +kernel
theorem dX12_put_56 : decode cX12_put 56 = .ok (.iload_n 1, 1) := by decide +kernel
theorem dX12_put_57 : decode cX12_put 57 = .ok (.iaload, 1) := by decide +kernel
theorem dX12_put_58 : decode cX12_put 58 = .ok (.ifCond .ne 9, 3) := by decide +kernel
theorem dX12_put_61 : decode cX12_put 61 = .ok (.lload_n 3, 1) := by decide +kernel
theorem dX12_put_62 : decode cX12_put 62 = .ok (.l2i, 1) := by decide +kernel
theorem dX12_put_63 : decode cX12_put 63 = .ok (.i2l, 1) := by decide +kernel
theorem dX12_put_64 : decode cX12_put 64 = .ok (.goto 4, 3) := by decide +kernel
theorem dX12_put_67 : decode cX12_put 67 = .ok (.lload_n 3, 1) := by decide +kernel
theorem dX12_put_68 : decode cX12_put 68 = .ok (.lastore, 1) := by decide +kernel
theorem dX12_put_69 : decode cX12_put 69 = .ok (.iconst 1, 1) := by decide +kernel
theorem dX12_put_70 : decode cX12_put 70 = .ok (.ireturn, 1) := by decide +kernel
theorem dX12_get_0 : decode cX12_get 0 = .ok (.iload_n 1, 1) := by decide +kernel
theorem dX12_get_1 : decode cX12_get 1 = .ok (.invokestatic 294, 3) := by decide +kernel
theorem dX12_get_4 : decode cX12_get 4 = .ok (.ifCond .eq 35, 3) := by decide +kernel
theorem dX12_get_7 : decode cX12_get 7 = .ok (.iload_n 2, 1) := by decide +kernel
theorem dX12_get_8 : decode cX12_get 8 = .ok (.i2l, 1) := by decide +kernel
theorem dX12_get_9 : decode cX12_get 9 = .ok (.lconst 0, 1) := by decide +kernel
theorem dX12_get_10 : decode cX12_get 10 = .ok (.aload_n 0, 1) := by decide +kernel
theorem dX12_get_11 : decode cX12_get 11 = .ok (.getfield 86, 3) := by decide +kernel
theorem dX12_get_14 : decode cX12_get 14 = .ok (.iload_n 1, 1) := by decide +kernel
theorem dX12_get_15 : decode cX12_get 15 = .ok (.iaload, 1) := by decide +kernel
theorem dX12_get_16 : decode cX12_get 16 = .ok (.iconst 1, 1) := by decide +kernel
theorem dX12_get_17 : decode cX12_get 17 = .ok (.isub, 1) := by decide +kernel
theorem dX12_get_18 : decode cX12_get 18 = .ok (.i2l, 1) := by decide +kernel
theorem dX12_get_19 : decode cX12_get 19 = .ok (.invokestatic 100, 3) := by decide +kernel
theorem dX12_get_22 : decode cX12_get 22 = .ok (.ifCond .eq 17, 3) := by decide +kernel
theorem dX12_get_25 : decode cX12_get 25 = .ok (.aload_n 0, 1) := by decide +kernel
theorem dX12_get_26 : decode cX12_get 26 = .ok (.getfield 89, 3) := by decide +kernel
theorem dX12_get_29 : decode cX12_get 29 = .ok (.bipush 20, 2) := by decide +kernel
theorem dX12_get_31 : decode cX12_get 31 = .ok (.iload_n 1, 1) := by decide +kernel
theorem dX12_get_32 : decode cX12_get 32 = .ok (.imul, 1) := by decide +kernel
theorem dX12_get_33 : decode cX12_get 33 = .ok (.iload_n 2, 1) := by decide +kernel
theorem dX12_get_34 : decode cX12_get 34 = .ok (.iadd, 1) := by decide +kernel
theorem dX12_get_35 : decode cX12_get 35 = .ok (.laload, 1) := by decide +kernel
theorem dX12_get_36 : decode cX12_get 36 = .ok (.goto 6, 3) := by decide +kernel
theorem dX12_get_39 : decode cX12_get 39 = .ok (.ldc2_w 162, 3) := by decide +kernel
theorem dX12_get_42 : decode cX12_get 42 = .ok (.lreturn, 1) := by decide +kernel
theorem dX12_above_0 : decode cX12_above 0 = .ok (.iload_n 0, 1) := by decide +kernel
theorem dX12_above_1 : decode cX12_above 1 = .ok (.iconst 4, 1) := by decide +kernel
theorem dX12_above_2 : decode cX12_above 2 = .ok (.if_icmp .ne 7, 3) := by decide +kernel
theorem dX12_above_5 : decode cX12_above 5 = .ok (.iconst 3, 1) := by decide +kernel
theorem dX12_above_6 : decode cX12_above 6 = .ok (.goto 21, 3) := by decide +kernel
theorem dX12_above_9 : decode cX12_above 9 = .ok (.iload_n 0, 1) := by decide +kernel
theorem dX12_above_10 : decode cX12_above 10 = .ok (.iconst 5, 1) := by decide +kernel
theorem dX12_above_11 : decode cX12_above 11 = .ok (.if_icmp .ne 7, 3) := by decide +kernel
theorem dX12_above_14 : decode cX12_above 14 = .ok (.iconst 2, 1) := by decide +kernel
theorem dX12_above_15 : decode cX12_above 15 = .ok (.goto 12, 3) := by decide +kernel
theorem dX12_above_18 : decode cX12_above 18 = .ok (.iload_n 0, 1) := by decide +kernel
theorem dX12_above_19 : decode cX12_above 19 = .ok (.ifCond .le 7, 3) := by decide +kernel
theorem dX12_above_22 : decode cX12_above 22 = .ok (.iconst 0, 1) := by decide +kernel
theorem dX12_above_23 : decode cX12_above 23 = .ok (.goto 4, 3) := by decide +kernel
theorem dX12_above_26 : decode cX12_above 26 = .ok (.iconst (-1), 1) := by decide +kernel
theorem dX12_above_27 : decode cX12_above 27 = .ok (.ireturn, 1) := by decide +kernel
theorem dX12_body_0 : decode cX12_body 0 = .ok (.iload_n 0, 1) := by decide +kernel
theorem dX12_body_1 : decode cX12_body 1 = .ok (.tableswitch 87 0 4 #[35, 40, 52, 63, 75], 35) := by decide +kernel
theorem dX12_body_36 : decode cX12_body 36 = .ok (.bipush 10, 2) := by decide +kernel
theorem dX12_body_38 : decode cX12_body 38 = .ok (.iload_n 1, 1) := by decide +kernel
theorem dX12_body_39 : decode cX12_body 39 = .ok (.iadd, 1) := by decide +kernel
theorem dX12_body_40 : decode cX12_body 40 = .ok (.ireturn, 1) := by decide +kernel
theorem dX12_body_41 : decode cX12_body 41 = .ok (.iload_n 1, 1) := by decide +kernel
theorem dX12_body_42 : decode cX12_body 42 = .ok (.iconst 1, 1) := by decide +kernel
theorem dX12_body_43 : decode cX12_body 43 = .ok (.if_icmp .ne 8, 3) := by decide +kernel
theorem dX12_body_46 : decode cX12_body 46 = .ok (.bipush 20, 2) := by decide +kernel
theorem dX12_body_48 : decode cX12_body 48 = .ok (.goto 4, 3) := by decide +kernel
theorem dX12_body_51 : decode cX12_body 51 = .ok (.iconst 0, 1) := by decide +kernel
theorem dX12_body_52 : decode cX12_body 52 = .ok (.ireturn, 1) := by decide +kernel
theorem dX12_body_53 : decode cX12_body 53 = .ok (.iload_n 1, 1) := by decide +kernel
theorem dX12_body_54 : decode cX12_body 54 = .ok (.ifCond .ne 8, 3) := by decide +kernel
theorem dX12_body_57 : decode cX12_body 57 = .ok (.bipush 30, 2) := by decide +kernel
theorem dX12_body_59 : decode cX12_body 59 = .ok (.goto 4, 3) := by decide +kernel
theorem dX12_body_62 : decode cX12_body 62 = .ok (.iconst 0, 1) := by decide +kernel
theorem dX12_body_63 : decode cX12_body 63 = .ok (.ireturn, 1) := by decide +kernel
theorem dX12_body_64 : decode cX12_body 64 = .ok (.iload_n 1, 1) := by decide +kernel
theorem dX12_body_65 : decode cX12_body 65 = .ok (.iconst 1, 1) := by decide +kernel
theorem dX12_body_66 : decode cX12_body 66 = .ok (.if_icmp .ne 8, 3) := by decide +kernel
theorem dX12_body_69 : decode cX12_body 69 = .ok (.bipush 50, 2) := by decide +kernel
theorem dX12_body_71 : decode cX12_body 71 = .ok (.goto 4, 3) := by decide +kernel
theorem dX12_body_74 : decode cX12_body 74 = .ok (.iconst 0, 1) := by decide +kernel
theorem dX12_body_75 : decode cX12_body 75 = .ok (.ireturn, 1) := by decide +kernel
theorem dX12_body_76 : decode cX12_body 76 = .ok (.iload_n 1, 1) := by decide +kernel
theorem dX12_body_77 : decode cX12_body 77 = .ok (.iconst 2, 1) := by decide +kernel
theorem dX12_body_78 : decode cX12_body 78 = .ok (.if_icmp .ne 8, 3) := by decide +kernel
theorem dX12_body_81 : decode cX12_body 81 = .ok (.bipush 60, 2) := by decide +kernel
theorem dX12_body_83 : decode cX12_body 83 = .ok (.goto 4, 3) := by decide +kernel
theorem dX12_body_86 : decode cX12_body 86 = .ok (.iconst 0, 1) := by decide +kernel
theorem dX12_body_87 : decode cX12_body 87 = .ok (.ireturn, 1) := by decide +kernel
theorem dX12_body_88 : decode cX12_body 88 = .ok (.iload_n 1, 1) := by decide +kernel
theorem dX12_body_89 : decode cX12_body 89 = .ok (.iconst 2, 1) := by decide +kernel
theorem dX12_body_90 : decode cX12_body 90 = .ok (.if_icmp .ne 8, 3) := by decide +kernel
theorem dX12_body_93 : decode cX12_body 93 = .ok (.bipush 40, 2) := by decide +kernel
theorem dX12_body_95 : decode cX12_body 95 = .ok (.goto 13, 3) := by decide +kernel
theorem dX12_body_98 : decode cX12_body 98 = .ok (.iload_n 1, 1) := by decide +kernel
theorem dX12_body_99 : decode cX12_body 99 = .ok (.ifCond .ne 8, 3) := by decide +kernel
theorem dX12_body_102 : decode cX12_body 102 = .ok (.bipush 41, 2) := by decide +kernel
theorem dX12_body_104 : decode cX12_body 104 = .ok (.goto 4, 3) := by decide +kernel
theorem dX12_body_107 : decode cX12_body 107 = .ok (.iconst 0, 1) := by decide +kernel
theorem dX12_body_108 : decode cX12_body 108 = .ok (.ireturn, 1) := by decide +kernel
theorem dX12_runs_0 : decode cX12_runs 0 = .ok (.iload_n 2, 1) := by decide +kernel
theorem dX12_runs_1 : decode cX12_runs 1 = .ok (.istore 5, 2) := by decide +kernel
theorem dX12_runs_3 : decode cX12_runs 3 = .ok (.iload 5, 2) := by decide +kernel
theorem dX12_runs_5 : decode cX12_runs 5 = .ok (.iload_n 3, 1) := by decide +kernel
theorem dX12_runs_6 : decode cX12_runs 6 = .ok (.invokestatic 346, 3) := by decide +kernel
theorem dX12_runs_9 : decode cX12_runs 9 = .ok (.ifCond .ne 13, 3) := by decide +kernel
theorem dX12_runs_12 : decode cX12_runs 12 = .ok (.iload 5, 2) := by decide +kernel
theorem dX12_runs_14 : decode cX12_runs 14 = .ok (.invokestatic 349, 3) := by decide +kernel
theorem dX12_runs_17 : decode cX12_runs 17 = .ok (.istore 5, 2) := by decide +kernel
theorem dX12_runs_19 : decode cX12_runs 19 = .ok (.goto (-16), 3) := by decide +kernel
theorem dX12_runs_22 : decode cX12_runs 22 = .ok (.iload 5, 2) := by decide +kernel
theorem dX12_runs_24 : decode cX12_runs 24 = .ok (.iload_n 3, 1) := by decide +kernel
theorem dX12_runs_25 : decode cX12_runs 25 = .ok (.invokestatic 346, 3) := by decide +kernel
theorem dX12_runs_28 : decode cX12_runs 28 = .ok (.istore 6, 2) := by decide +kernel
theorem dX12_runs_30 : decode cX12_runs 30 = .ok (.aload_n 0, 1) := by decide +kernel
theorem dX12_runs_31 : decode cX12_runs 31 = .ok (.getfield 352, 3) := by decide +kernel
theorem dX12_runs_34 : decode cX12_runs 34 = .ok (.bipush 24, 2) := by decide +kernel
theorem dX12_runs_36 : decode cX12_runs 36 = .ok (.if_icmp .ge 24, 3) := by decide +kernel
theorem dX12_runs_39 : decode cX12_runs 39 = .ok (.aload_n 0, 1) := by decide +kernel
theorem dX12_runs_40 : decode cX12_runs 40 = .ok (.getfield 92, 3) := by decide +kernel
theorem dX12_runs_43 : decode cX12_runs 43 = .ok (.aload_n 0, 1) := by decide +kernel
theorem dX12_runs_44 : decode cX12_runs 44 = .ok (.getfield 352, 3) := by decide +kernel
theorem dX12_runs_47 : decode cX12_runs 47 = .ok (.iload 6, 2) := by decide +kernel
theorem dX12_runs_49 : decode cX12_runs 49 = .ok (.iastore, 1) := by decide +kernel
theorem dX12_runs_50 : decode cX12_runs 50 = .ok (.aload_n 0, 1) := by decide +kernel
theorem dX12_runs_51 : decode cX12_runs 51 = .ok (.dup, 1) := by decide +kernel
theorem dX12_runs_52 : decode cX12_runs 52 = .ok (.getfield 352, 3) := by decide +kernel
theorem dX12_runs_55 : decode cX12_runs 55 = .ok (.iconst 1, 1) := by decide +kernel
theorem dX12_runs_56 : decode cX12_runs 56 = .ok (.iadd, 1) := by decide +kernel
theorem dX12_runs_57 : decode cX12_runs 57 = .ok (.putfield 352, 3) := by decide +kernel
theorem dX12_runs_60 : decode cX12_runs 60 = .ok (.iload 5, 2) := by decide +kernel
theorem dX12_runs_62 : decode cX12_runs 62 = .ok (.invokestatic 349, 3) := by decide +kernel
theorem dX12_runs_65 : decode cX12_runs 65 = .ok (.istore 7, 2) := by decide +kernel
theorem dX12_runs_67 : decode cX12_runs 67 = .ok (.iconst 0, 1) := by decide +kernel
theorem dX12_runs_68 : decode cX12_runs 68 = .ok (.istore 8, 2) := by decide +kernel
theorem dX12_runs_70 : decode cX12_runs 70 = .ok (.iload 6, 2) := by decide +kernel
theorem dX12_runs_72 : decode cX12_runs 72 = .ok (.lookupswitch 200 #[(10, 76), (11, 81), (12, 98), (20, 120), (30, 133), (40, 145), (41, 158), (50, 171)], 76) := by decide +kernel
theorem dX12_runs_148 : decode cX12_runs 148 = .ok (.iload 4, 2) := by decide +kernel
theorem dX12_runs_150 : decode cX12_runs 150 = .ok (.iload_n 1, 1) := by decide +kernel
theorem dX12_runs_151 : decode cX12_runs 151 = .ok (.iadd, 1) := by decide +kernel
theorem dX12_runs_152 : decode cX12_runs 152 = .ok (.ireturn, 1) := by decide +kernel
theorem dX12_runs_153 : decode cX12_runs 153 = .ok (.aload_n 0, 1) := by decide +kernel
theorem dX12_runs_154 : decode cX12_runs 154 = .ok (.iload_n 1, 1) := by decide +kernel
theorem dX12_runs_155 : decode cX12_runs 155 = .ok (.aload_n 0, 1) := by decide +kernel
theorem dX12_runs_156 : decode cX12_runs 156 = .ok (.getfield 15, 3) := by decide +kernel
theorem dX12_runs_159 : decode cX12_runs 159 = .ok (.iload_n 1, 1) := by decide +kernel
theorem dX12_runs_160 : decode cX12_runs 160 = .ok (.iaload, 1) := by decide +kernel
theorem dX12_runs_161 : decode cX12_runs 161 = .ok (.iconst 0, 1) := by decide +kernel
theorem dX12_runs_162 : decode cX12_runs 162 = .ok (.iload 4, 2) := by decide +kernel
theorem dX12_runs_164 : decode cX12_runs 164 = .ok (.invokevirtual 355, 3) := by decide +kernel
theorem dX12_runs_167 : decode cX12_runs 167 = .ok (.iconst 2, 1) := by decide +kernel
theorem dX12_runs_168 : decode cX12_runs 168 = .ok (.imul, 1) := by decide +kernel
theorem dX12_runs_169 : decode cX12_runs 169 = .ok (.ireturn, 1) := by decide +kernel
theorem dX12_runs_170 : decode cX12_runs 170 = .ok (.aload_n 0, 1) := by decide +kernel
theorem dX12_runs_171 : decode cX12_runs 171 = .ok (.iload_n 1, 1) := by decide +kernel
theorem dX12_runs_172 : decode cX12_runs 172 = .ok (.aload_n 0, 1) := by decide +kernel
theorem dX12_runs_173 : decode cX12_runs 173 = .ok (.getfield 15, 3) := by decide +kernel
theorem dX12_runs_176 : decode cX12_runs 176 = .ok (.iload_n 1, 1) := by decide +kernel
theorem dX12_runs_177 : decode cX12_runs 177 = .ok (.iaload, 1) := by decide +kernel
theorem dX12_runs_178 : decode cX12_runs 178 = .ok (.iconst 1, 1) := by decide +kernel
theorem dX12_runs_179 : decode cX12_runs 179 = .ok (.iload 4, 2) := by decide +kernel
theorem dX12_runs_181 : decode cX12_runs 181 = .ok (.invokevirtual 355, 3) := by decide +kernel
theorem dX12_runs_184 : decode cX12_runs 184 = .ok (.aload_n 0, 1) := by decide +kernel
theorem dX12_runs_185 : decode cX12_runs 185 = .ok (.getfield 19, 3) := by decide +kernel
theorem dX12_runs_188 : decode cX12_runs 188 = .ok (.iload_n 1, 1) := by decide +kernel
theorem dX12_runs_189 : decode cX12_runs 189 = .ok (.iaload, 1) := by decide +kernel
theorem dX12_runs_190 : decode cX12_runs 190 = .ok (.isub, 1) := by decide +kernel
theorem dX12_runs_191 : decode cX12_runs 191 = .ok (.ireturn, 1) := by decide +kernel
theorem dX12_runs_192 : decode cX12_runs 192 = .ok (.aload_n 0, 1) := by decide +kernel
theorem dX12_runs_193 : decode cX12_runs 193 = .ok (.iload_n 1, 1) := by decide +kernel
theorem dX12_runs_194 : decode cX12_runs 194 = .ok (.iload 7, 2) := by decide +kernel
theorem dX12_runs_196 : decode cX12_runs 196 = .ok (.iconst 1, 1) := by decide +kernel
theorem dX12_runs_197 : decode cX12_runs 197 = .ok (.iload 4, 2) := by decide +kernel
theorem dX12_runs_199 : decode cX12_runs 199 = .ok (.invokevirtual 355, 3) := by decide +kernel
theorem dX12_runs_202 : decode cX12_runs 202 = .ok (.iconst 3, 1) := by decide +kernel
theorem dX12_runs_203 : decode cX12_runs 203 = .ok (.ixor, 1) := by decide +kernel
theorem dX12_runs_204 : decode cX12_runs 204 = .ok (.ireturn, 1) := by decide +kernel
theorem dX12_runs_205 : decode cX12_runs 205 = .ok (.aload_n 0, 1) := by decide +kernel
theorem dX12_runs_206 : decode cX12_runs 206 = .ok (.iload_n 1, 1) := by decide +kernel
theorem dX12_runs_207 : decode cX12_runs 207 = .ok (.iload 7, 2) := by decide +kernel
theorem dX12_runs_209 : decode cX12_runs 209 = .ok (.iconst 0, 1) := by decide +kernel
theorem dX12_runs_210 : decode cX12_runs 210 = .ok (.iload 4, 2) := by decide +kernel
theorem dX12_runs_212 : decode cX12_runs 212 = .ok (.invokevirtual 355, 3) := by decide +kernel
theorem dX12_runs_215 : decode cX12_runs 215 = .ok (.ineg, 1) := by decide +kernel
theorem dX12_runs_216 : decode cX12_runs 216 = .ok (.ireturn, 1) := by decide +kernel
theorem dX12_runs_217 : decode cX12_runs 217 = .ok (.aload_n 0, 1) := by decide +kernel
theorem dX12_runs_218 : decode cX12_runs 218 = .ok (.iload_n 1, 1) := by decide +kernel
theorem dX12_runs_219 : decode cX12_runs 219 = .ok (.iload 7, 2) := by decide +kernel
theorem dX12_runs_221 : decode cX12_runs 221 = .ok (.iconst 2, 1) := by decide +kernel
theorem dX12_runs_222 : decode cX12_runs 222 = .ok (.iload 4, 2) := by decide +kernel
theorem dX12_runs_224 : decode cX12_runs 224 = .ok (.iconst 1, 1) := by decide +kernel
theorem dX12_runs_225 : decode cX12_runs 225 = .ok (.iadd, 1) := by decide +kernel
theorem dX12_runs_226 : decode cX12_runs 226 = .ok (.invokevirtual 355, 3) := by decide +kernel
theorem dX12_runs_229 : decode cX12_runs 229 = .ok (.ireturn, 1) := by decide +kernel
theorem dX12_runs_230 : decode cX12_runs 230 = .ok (.aload_n 0, 1) := by decide +kernel
theorem dX12_runs_231 : decode cX12_runs 231 = .ok (.iload_n 1, 1) := by decide +kernel
theorem dX12_runs_232 : decode cX12_runs 232 = .ok (.iload 7, 2) := by decide +kernel
theorem dX12_runs_234 : decode cX12_runs 234 = .ok (.iconst 0, 1) := by decide +kernel
theorem dX12_runs_235 : decode cX12_runs 235 = .ok (.iload 4, 2) := by decide +kernel
theorem dX12_runs_237 : decode cX12_runs 237 = .ok (.invokevirtual 355, 3) := by decide +kernel
theorem dX12_runs_240 : decode cX12_runs 240 = .ok (.iconst 3, 1) := by decide +kernel
theorem dX12_runs_241 : decode cX12_runs 241 = .ok (.imul, 1) := by decide +kernel
theorem dX12_runs_242 : decode cX12_runs 242 = .ok (.ireturn, 1) := by decide +kernel
theorem dX12_runs_243 : decode cX12_runs 243 = .ok (.aload_n 0, 1) := by decide +kernel
theorem dX12_runs_244 : decode cX12_runs 244 = .ok (.iload_n 1, 1) := by decide +kernel
theorem dX12_runs_245 : decode cX12_runs 245 = .ok (.iload 7, 2) := by decide +kernel
theorem dX12_runs_247 : decode cX12_runs 247 = .ok (.iconst 1, 1) := by decide +kernel
theorem dX12_runs_248 : decode cX12_runs 248 = .ok (.iload 4, 2) := by decide +kernel
theorem dX12_runs_250 : decode cX12_runs 250 = .ok (.invokevirtual 355, 3) := by decide +kernel
theorem dX12_runs_253 : decode cX12_runs 253 = .ok (.istore 8, 2) := by decide +kernel
theorem dX12_runs_255 : decode cX12_runs 255 = .ok (.iload 8, 2) := by decide +kernel
theorem dX12_runs_257 : decode cX12_runs 257 = .ok (.aload_n 0, 1) := by decide +kernel
theorem dX12_runs_258 : decode cX12_runs 258 = .ok (.iload_n 1, 1) := by decide +kernel
theorem dX12_runs_259 : decode cX12_runs 259 = .ok (.aload_n 0, 1) := by decide +kernel
theorem dX12_runs_260 : decode cX12_runs 260 = .ok (.getfield 15, 3) := by decide +kernel
theorem dX12_runs_263 : decode cX12_runs 263 = .ok (.iload_n 1, 1) := by decide +kernel
theorem dX12_runs_264 : decode cX12_runs 264 = .ok (.iaload, 1) := by decide +kernel
theorem dX12_runs_265 : decode cX12_runs 265 = .ok (.iconst 0, 1) := by decide +kernel
theorem dX12_runs_266 : decode cX12_runs 266 = .ok (.iconst 2, 1) := by decide +kernel
theorem dX12_runs_267 : decode cX12_runs 267 = .ok (.invokevirtual 355, 3) := by decide +kernel
theorem dX12_runs_270 : decode cX12_runs 270 = .ok (.iadd, 1) := by decide +kernel
theorem dX12_runs_271 : decode cX12_runs 271 = .ok (.ireturn, 1) := by decide +kernel
theorem dX12_runs_272 : decode cX12_runs 272 = .ok (.aload_n 0, 1) := by decide +kernel
theorem dX12_runs_273 : decode cX12_runs 273 = .ok (.iload_n 1, 1) := by decide +kernel
theorem dX12_runs_274 : decode cX12_runs 274 = .ok (.iload 7, 2) := by decide +kernel
theorem dX12_runs_276 : decode cX12_runs 276 = .ok (.iconst 2, 1) := by decide +kernel
theorem dX12_runs_277 : decode cX12_runs 277 = .ok (.iload 4, 2) := by decide +kernel
theorem dX12_runs_279 : decode cX12_runs 279 = .ok (.invokevirtual 355, 3) := by decide +kernel
theorem dX12_runs_282 : decode cX12_runs 282 = .ok (.aload_n 0, 1) := by decide +kernel
theorem dX12_runs_283 : decode cX12_runs 283 = .ok (.getfield 19, 3) := by decide +kernel
theorem dX12_runs_286 : decode cX12_runs 286 = .ok (.iload_n 1, 1) := by decide +kernel
theorem dX12_runs_287 : decode cX12_runs 287 = .ok (.iaload, 1) := by decide +kernel
theorem dX12_runs_288 : decode cX12_runs 288 = .ok (.ixor, 1) := by decide +kernel
theorem dX12_runs_289 : decode cX12_runs 289 = .ok (.ireturn, 1) := by decide +kernel
theorem dX12_act_0 : decode cX12_act 0 = .ok (.aload_n 0, 1) := by decide +kernel
theorem dX12_act_1 : decode cX12_act 1 = .ok (.iload_n 1, 1) := by decide +kernel
theorem dX12_act_2 : decode cX12_act 2 = .ok (.invokevirtual 127, 3) := by decide +kernel
theorem dX12_act_5 : decode cX12_act 5 = .ok (.ifCond .eq 15, 3) := by decide +kernel
theorem dX12_act_8 : decode cX12_act 8 = .ok (.iload_n 2, 1) := by decide +kernel
theorem dX12_act_9 : decode cX12_act 9 = .ok (.i2l, 1) := by decide +kernel
theorem dX12_act_10 : decode cX12_act 10 = .ok (.lconst 0, 1) := by decide +kernel
theorem dX12_act_11 : decode cX12_act 11 = .ok (.ldc2_w 220, 3) := by decide +kernel
theorem dX12_act_14 : decode cX12_act 14 = .ok (.invokestatic 100, 3) := by decide +kernel
theorem dX12_act_17 : decode cX12_act 17 = .ok (.ifCond .ne 5, 3) := by decide +kernel
theorem dX12_act_20 : decode cX12_act 20 = .ok (.iconst 0, 1) := by decide +kernel
theorem dX12_act_21 : decode cX12_act 21 = .ok (.ireturn, 1) := by decide +kernel
theorem dX12_act_22 : decode cX12_act 22 = .ok (.aload_n 0, 1) := by decide +kernel
theorem dX12_act_23 : decode cX12_act 23 = .ok (.iconst 0, 1) := by decide +kernel
theorem dX12_act_24 : decode cX12_act 24 = .ok (.putfield 352, 3) := by decide +kernel
theorem dX12_act_27 : decode cX12_act 27 = .ok (.aload_n 0, 1) := by decide +kernel
theorem dX12_act_28 : decode cX12_act 28 = .ok (.iload_n 1, 1) := by decide +kernel
theorem dX12_act_29 : decode cX12_act 29 = .ok (.aload_n 0, 1) := by decide +kernel
theorem dX12_act_30 : decode cX12_act 30 = .ok (.getfield 15, 3) := by decide +kernel
theorem dX12_act_33 : decode cX12_act 33 = .ok (.iload_n 1, 1) := by decide +kernel
theorem dX12_act_34 : decode cX12_act 34 = .ok (.iaload, 1) := by decide +kernel
theorem dX12_act_35 : decode cX12_act 35 = .ok (.iload_n 2, 1) := by decide +kernel
theorem dX12_act_36 : decode cX12_act 36 = .ok (.iload_n 3, 1) := by decide +kernel
theorem dX12_act_37 : decode cX12_act 37 = .ok (.invokevirtual 355, 3) := by decide +kernel
theorem dX12_act_40 : decode cX12_act 40 = .ok (.ireturn, 1) := by decide +kernel
theorem dX12_trace_0 : decode cX12_trace 0 = .ok (.iload_n 1, 1) := by decide +kernel
theorem dX12_trace_1 : decode cX12_trace 1 = .ok (.i2l, 1) := by decide +kernel
theorem dX12_trace_2 : decode cX12_trace 2 = .ok (.lconst 0, 1) := by decide +kernel
theorem dX12_trace_3 : decode cX12_trace 3 = .ok (.aload_n 0, 1) := by decide +kernel
theorem dX12_trace_4 : decode cX12_trace 4 = .ok (.getfield 352, 3) := by decide +kernel
theorem dX12_trace_7 : decode cX12_trace 7 = .ok (.iconst 1, 1) := by decide +kernel
theorem dX12_trace_8 : decode cX12_trace 8 = .ok (.isub, 1) := by decide +kernel
theorem dX12_trace_9 : decode cX12_trace 9 = .ok (.i2l, 1) := by decide +kernel
theorem dX12_trace_10 : decode cX12_trace 10 = .ok (.invokestatic 100, 3) := by decide +kernel
theorem dX12_trace_13 : decode cX12_trace 13 = .ok (.ifCond .eq 12, 3) := by decide +kernel
theorem dX12_trace_16 : decode cX12_trace 16 = .ok (.aload_n 0, 1) := by decide +kernel
theorem dX12_trace_17 : decode cX12_trace 17 = .ok (.getfield 92, 3) := by decide +kernel
theorem dX12_trace_20 : decode cX12_trace 20 = .ok (.iload_n 1, 1) := by decide +kernel
theorem dX12_trace_21 : decode cX12_trace 21 = .ok (.iaload, 1) := by decide +kernel
theorem dX12_trace_22 : decode cX12_trace 22 = .ok (.goto 5, 3) := by decide +kernel
theorem dX12_trace_25 : decode cX12_trace 25 = .ok (.bipush (-2), 2) := by decide +kernel
theorem dX12_trace_27 : decode cX12_trace 27 = .ok (.ireturn, 1) := by decide +kernel
theorem dX12_taken_0 : decode cX12_taken 0 = .ok (.aload_n 0, 1) := by decide +kernel
theorem dX12_taken_1 : decode cX12_taken 1 = .ok (.iload_n 1, 1) := by decide +kernel
theorem dX12_taken_2 : decode cX12_taken 2 = .ok (.invokevirtual 127, 3) := by decide +kernel
