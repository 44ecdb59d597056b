theorem dX5_digitAt_0 : decode cX5_digitAt 0 = .ok (.aload_n 0, 1) := by decide +kernel
theorem dX5_digitAt_1 : decode cX5_digitAt 1 = .ok (.iload_n 1, 1) := by decide +kernel
theorem dX5_digitAt_2 : decode cX5_digitAt 2 = .ok (.invokevirtual 19, 3) := by decide +kernel
theorem dX5_digitAt_5 : decode cX5_digitAt 5 = .ok (.bipush 48, 2) := by decide +kernel
theorem dX5_digitAt_7 : decode cX5_digitAt 7 = .ok (.isub, 1) := by decide +kernel
theorem dX5_digitAt_8 : decode cX5_digitAt 8 = .ok (.ireturn, 1) := by decide +kernel
theorem dX5_afterNumber_0 : decode cX5_afterNumber 0 = .ok (.aload_n 0, 1) := by decide +kernel
theorem dX5_afterNumber_1 : decode cX5_afterNumber 1 = .ok (.iload_n 1, 1) := by decide +kernel
theorem dX5_afterNumber_2 : decode cX5_afterNumber 2 = .ok (.iconst 1, 1) := by decide +kernel
theorem dX5_afterNumber_3 : decode cX5_afterNumber 3 = .ok (.iadd, 1) := by decide +kernel
theorem dX5_afterNumber_4 : decode cX5_afterNumber 4 = .ok (.invokevirtual 19, 3) := by decide +kernel
theorem dX5_afterNumber_7 : decode cX5_afterNumber 7 = .ok (.bipush 48, 2) := by decide +kernel
theorem dX5_afterNumber_9 : decode cX5_afterNumber 9 = .ok (.bipush 57, 2) := by decide +kernel
theorem dX5_afterNumber_11 : decode cX5_afterNumber 11 = .ok (.invokestatic 23, 3) := by decide +kernel
theorem dX5_afterNumber_14 : decode cX5_afterNumber 14 = .ok (.ifCond .eq 9, 3) := by decide +kernel
theorem dX5_afterNumber_17 : decode cX5_afterNumber 17 = .ok (.iload_n 1, 1) := by decide +kernel
theorem dX5_afterNumber_18 : decode cX5_afterNumber 18 = .ok (.iconst 2, 1) := by decide +kernel
theorem dX5_afterNumber_19 : decode cX5_afterNumber 19 = .ok (.iadd, 1) := by decide +kernel
theorem dX5_afterNumber_20 : decode cX5_afterNumber 20 = .ok (.goto 6, 3) := by decide +kernel
theorem dX5_afterNumber_23 : decode cX5_afterNumber 23 = .ok (.iload_n 1, 1) := by decide +kernel
theorem dX5_afterNumber_24 : decode cX5_afterNumber 24 = .ok (.iconst 1, 1) := by decide +kernel
theorem dX5_afterNumber_25 : decode cX5_afterNumber 25 = .ok (.iadd, 1) := by decide +kernel
theorem dX5_afterNumber_26 : decode cX5_afterNumber 26 = .ok (.ireturn, 1) := by decide +kernel
theorem dX5_numberAt_0 : decode cX5_numberAt 0 = .ok (.aload_n 0, 1) := by decide +kernel
theorem dX5_numberAt_1 : decode cX5_numberAt 1 = .ok (.iload_n 1, 1) := by decide +kernel
theorem dX5_numberAt_2 : decode cX5_numberAt 2 = .ok (.iconst 1, 1) := by decide +kernel
theorem dX5_numberAt_3 : decode cX5_numberAt 3 = .ok (.iadd, 1) := by decide +kernel
theorem dX5_numberAt_4 : decode cX5_numberAt 4 = .ok (.invokevirtual 19, 3) := by decide +kernel
theorem dX5_numberAt_7 : decode cX5_numberAt 7 = .ok (.bipush 48, 2) := by decide +kernel
theorem dX5_numberAt_9 : decode cX5_numberAt 9 = .ok (.bipush 57, 2) := by decide +kernel
theorem dX5_numberAt_11 : decode cX5_numberAt 11 = .ok (.invokestatic 23, 3) := by decide +kernel
theorem dX5_numberAt_14 : decode cX5_numberAt 14 = .ok (.ifCond .eq 22, 3) := by decide +kernel
theorem dX5_numberAt_17 : decode cX5_numberAt 17 = .ok (.bipush 10, 2) := by decide +kernel
theorem dX5_numberAt_19 : decode cX5_numberAt 19 = .ok (.aload_n 0, 1) := by decide +kernel
theorem dX5_numberAt_20 : decode cX5_numberAt 20 = .ok (.iload_n 1, 1) := by decide +kernel
theorem dX5_numberAt_21 : decode cX5_numberAt 21 = .ok (.invokevirtual 27, 3) := by decide +kernel
theorem dX5_numberAt_24 : decode cX5_numberAt 24 = .ok (.imul, 1) := by decide +kernel
theorem dX5_numberAt_25 : decode cX5_numberAt 25 = .ok (.aload_n 0, 1) := by decide +kernel
theorem dX5_numberAt_26 : decode cX5_numberAt 26 = .ok (.iload_n 1, 1) := by decide +kernel
theorem dX5_numberAt_27 : decode cX5_numberAt 27 = .ok (.iconst 1, 1) := by decide +kernel
theorem dX5_numberAt_28 : decode cX5_numberAt 28 = .ok (.iadd, 1) := by decide +kernel
theorem dX5_numberAt_29 : decode cX5_numberAt 29 = .ok (.invokevirtual 27, 3) := by decide +kernel
theorem dX5_numberAt_32 : decode cX5_numberAt 32 = .ok (.iadd, 1) := by decide +kernel
theorem dX5_numberAt_33 : decode cX5_numberAt 33 = .ok (.goto 8, 3) := by decide +kernel
theorem dX5_numberAt_36 : decode cX5_numberAt 36 = .ok (.aload_n 0, 1) := by decide +kernel
theorem dX5_numberAt_37 : decode cX5_numberAt 37 = .ok (.iload_n 1, 1) := by decide +kernel
theorem dX5_numberAt_38 : decode cX5_numberAt 38 = .ok (.invokevirtual 27, 3) := by decide +kernel
theorem dX5_numberAt_41 : decode cX5_numberAt 41 = .ok (.ireturn, 1) := by decide +kernel
theorem dX5_shieldAt_0 : decode cX5_shieldAt 0 = .ok (.iconst 0, 1) := by decide +kernel
theorem dX5_shieldAt_1 : decode cX5_shieldAt 1 = .ok (.istore_n 2, 1) := by decide +kernel
theorem dX5_shieldAt_2 : decode cX5_shieldAt 2 = .ok (.iconst 0, 1) := by decide +kernel
theorem dX5_shieldAt_3 : decode cX5_shieldAt 3 = .ok (.istore_n 3, 1) := by decide +kernel
theorem dX5_shieldAt_4 : decode cX5_shieldAt 4 = .ok (.iload_n 3, 1) := by decide +kernel
theorem dX5_shieldAt_5 : decode cX5_shieldAt 5 = .ok (.bipush 6, 2) := by decide +kernel
theorem dX5_shieldAt_7 : decode cX5_shieldAt 7 = .ok (.if_icmp .ge 24, 3) := by decide +kernel
theorem dX5_shieldAt_10 : decode cX5_shieldAt 10 = .ok (.iload_n 2, 1) := by decide +kernel
theorem dX5_shieldAt_11 : decode cX5_shieldAt 11 = .ok (.aload_n 0, 1) := by decide +kernel
theorem dX5_shieldAt_12 : decode cX5_shieldAt 12 = .ok (.iload_n 1, 1) := by decide +kernel
theorem dX5_shieldAt_13 : decode cX5_shieldAt 13 = .ok (.iload_n 3, 1) := by decide +kernel
theorem dX5_shieldAt_14 : decode cX5_shieldAt 14 = .ok (.iadd, 1) := by decide +kernel
theorem dX5_shieldAt_15 : decode cX5_shieldAt 15 = .ok (.invokevirtual 27, 3) := by decide +kernel
theorem dX5_shieldAt_18 : decode cX5_shieldAt 18 = .ok (.iload_n 3, 1) := by decide +kernel
theorem dX5_shieldAt_19 : decode cX5_shieldAt 19 = .ok (.invokestatic 30, 3) := by decide +kernel
theorem dX5_shieldAt_22 : decode cX5_shieldAt 22 = .ok (.imul, 1) := by decide +kernel
theorem dX5_shieldAt_23 : decode cX5_shieldAt 23 = .ok (.iadd, 1) := by decide +kernel
theorem dX5_shieldAt_24 : decode cX5_shieldAt 24 = .ok (.istore_n 2, 1) := by decide +kernel
theorem dX5_shieldAt_25 : decode cX5_shieldAt 25 = .ok (.iinc 3 1, 3) := by decide +kernel
theorem dX5_shieldAt_28 : decode cX5_shieldAt 28 = .ok (.goto (-24), 3) := by decide +kernel
theorem dX5_shieldAt_31 : decode cX5_shieldAt 31 = .ok (.iload_n 2, 1) := by decide +kernel
theorem dX5_shieldAt_32 : decode cX5_shieldAt 32 = .ok (.ireturn, 1) := by decide +kernel
theorem dX5_firstFault_0 : decode cX5_firstFault 0 = .ok (.bipush 7, 2) := by decide +kernel
theorem dX5_firstFault_2 : decode cX5_firstFault 2 = .ok (.istore_n 1, 1) := by decide +kernel
theorem dX5_firstFault_3 : decode cX5_firstFault 3 = .ok (.iconst 0, 1) := by decide +kernel
theorem dX5_firstFault_4 : decode cX5_firstFault 4 = .ok (.istore_n 2, 1) := by decide +kernel
theorem dX5_firstFault_5 : decode cX5_firstFault 5 = .ok (.iload_n 2, 1) := by decide +kernel
theorem dX5_firstFault_6 : decode cX5_firstFault 6 = .ok (.aload_n 0, 1) := by decide +kernel
theorem dX5_firstFault_7 : decode cX5_firstFault 7 = .ok (.getfield 15, 3) := by decide +kernel
theorem dX5_firstFault_10 : decode cX5_firstFault 10 = .ok (.if_icmp .ge 26, 3) := by decide +kernel
theorem dX5_firstFault_13 : decode cX5_firstFault 13 = .ok (.iload_n 1, 1) := by decide +kernel
theorem dX5_firstFault_14 : decode cX5_firstFault 14 = .ok (.aload_n 0, 1) := by decide +kernel
theorem dX5_firstFault_15 : decode cX5_firstFault 15 = .ok (.iload_n 2, 1) := by decide +kernel
theorem dX5_firstFault_16 : decode cX5_firstFault 16 = .ok (.invokevirtual 19, 3) := by decide +kernel
theorem dX5_firstFault_19 : decode cX5_firstFault 19 = .ok (.invokestatic 35, 3) := by decide +kernel
theorem dX5_firstFault_22 : decode cX5_firstFault 22 = .ok (.istore_n 1, 1) := by decide +kernel
theorem dX5_firstFault_23 : decode cX5_firstFault 23 = .ok (.iload_n 1, 1) := by decide +kernel
theorem dX5_firstFault_24 : decode cX5_firstFault 24 = .ok (.iconst (-1), 1) := by decide +kernel
theorem dX5_firstFault_25 : decode cX5_firstFault 25 = .ok (.if_icmp .ne 5, 3) := by decide +kernel
theorem dX5_firstFault_28 : decode cX5_firstFault 28 = .ok (.iload_n 2, 1) := by decide +kernel
theorem dX5_firstFault_29 : decode cX5_firstFault 29 = .ok (.ireturn, 1) := by decide +kernel
theorem dX5_firstFault_30 : decode cX5_firstFault 30 = .ok (.iinc 2 1, 3) := by decide +kernel
theorem dX5_firstFault_33 : decode cX5_firstFault 33 = .ok (.goto (-28), 3) := by decide +kernel
theorem dX5_firstFault_36 : decode cX5_firstFault 36 = .ok (.iload_n 1, 1) := by decide +kernel
theorem dX5_firstFault_37 : decode cX5_firstFault 37 = .ok (.ifCond .eq 9, 3) := by decide +kernel
theorem dX5_firstFault_40 : decode cX5_firstFault 40 = .ok (.iload_n 1, 1) := by decide +kernel
theorem dX5_firstFault_41 : decode cX5_firstFault 41 = .ok (.bipush 14, 2) := by decide +kernel
theorem dX5_firstFault_43 : decode cX5_firstFault 43 = .ok (.if_icmp .ne 8, 3) := by decide +kernel
theorem dX5_firstFault_46 : decode cX5_firstFault 46 = .ok (.bipush (-4), 2) := by decide +kernel
theorem dX5_firstFault_48 : decode cX5_firstFault 48 = .ok (.goto 7, 3) := by decide +kernel
theorem dX5_firstFault_51 : decode cX5_firstFault 51 = .ok (.aload_n 0, 1) := by decide +kernel
theorem dX5_firstFault_52 : decode cX5_firstFault 52 = .ok (.getfield 15, 3) := by decide +kernel
theorem dX5_firstFault_55 : decode cX5_firstFault 55 = .ok (.ireturn, 1) := by decide +kernel
theorem dX5_stateAfter_0 : decode cX5_stateAfter 0 = .ok (.iload_n 0, 1) := by decide +kernel
theorem dX5_stateAfter_1 : decode cX5_stateAfter 1 = .ok (.tableswitch 178 0 14 #[75, 178, 178, 178, 178, 178, 178, 80, 85, 94, 115, 120, 138, 150, 158], 75) := by decide +kernel
theorem dX5_stateAfter_76 : decode cX5_stateAfter 76 = .ok (.iload_n 1, 1) := by decide +kernel
theorem dX5_stateAfter_77 : decode cX5_stateAfter 77 = .ok (.invokestatic 39, 3) := by decide +kernel
theorem dX5_stateAfter_80 : decode cX5_stateAfter 80 = .ok (.ireturn, 1) := by decide +kernel
theorem dX5_stateAfter_81 : decode cX5_stateAfter 81 = .ok (.iload_n 1, 1) := by decide +kernel
theorem dX5_stateAfter_82 : decode cX5_stateAfter 82 = .ok (.invokestatic 42, 3) := by decide +kernel
theorem dX5_stateAfter_85 : decode cX5_stateAfter 85 = .ok (.ireturn, 1) := by decide +kernel
theorem dX5_stateAfter_86 : decode cX5_stateAfter 86 = .ok (.iload_n 1, 1) := by decide +kernel
theorem dX5_stateAfter_87 : decode cX5_stateAfter 87 = .ok (.bipush 9, 2) := by decide +kernel
theorem dX5_stateAfter_89 : decode cX5_stateAfter 89 = .ok (.bipush 10, 2) := by decide +kernel
theorem dX5_stateAfter_91 : decode cX5_stateAfter 91 = .ok (.invokestatic 45, 3) := by decide +kernel
theorem dX5_stateAfter_94 : decode cX5_stateAfter 94 = .ok (.ireturn, 1) := by decide +kernel
theorem dX5_stateAfter_95 : decode cX5_stateAfter 95 = .ok (.iload_n 1, 1) := by decide +kernel
theorem dX5_stateAfter_96 : decode cX5_stateAfter 96 = .ok (.bipush 48, 2) := by decide +kernel
theorem dX5_stateAfter_98 : decode cX5_stateAfter 98 = .ok (.bipush 57, 2) := by decide +kernel
theorem dX5_stateAfter_100 : decode cX5_stateAfter 100 = .ok (.invokestatic 23, 3) := by decide +kernel
theorem dX5_stateAfter_103 : decode cX5_stateAfter 103 = .ok (.ifCond .eq 8, 3) := by decide +kernel
theorem dX5_stateAfter_106 : decode cX5_stateAfter 106 = .ok (.bipush 10, 2) := by decide +kernel
theorem dX5_stateAfter_108 : decode cX5_stateAfter 108 = .ok (.goto 7, 3) := by decide +kernel
theorem dX5_stateAfter_111 : decode cX5_stateAfter 111 = .ok (.iload_n 1, 1) := by decide +kernel
theorem dX5_stateAfter_112 : decode cX5_stateAfter 112 = .ok (.invokestatic 49, 3) := by decide +kernel
theorem dX5_stateAfter_115 : decode cX5_stateAfter 115 = .ok (.ireturn, 1) := by decide +kernel
theorem dX5_stateAfter_116 : decode cX5_stateAfter 116 = .ok (.iload_n 1, 1) := by decide +kernel
theorem dX5_stateAfter_117 : decode cX5_stateAfter 117 = .ok (.invokestatic 49, 3) := by decide +kernel
theorem dX5_stateAfter_120 : decode cX5_stateAfter 120 = .ok (.ireturn, 1) := by decide +kernel
theorem dX5_stateAfter_121 : decode cX5_stateAfter 121 = .ok (.iload_n 1, 1) := by decide +kernel
theorem dX5_stateAfter_122 : decode cX5_stateAfter 122 = .ok (.bipush 48, 2) := by decide +kernel
theorem dX5_stateAfter_124 : decode cX5_stateAfter 124 = .ok (.bipush 53, 2) := by decide +kernel
theorem dX5_stateAfter_126 : decode cX5_stateAfter 126 = .ok (.invokestatic 23, 3) := by decide +kernel
theorem dX5_stateAfter_129 : decode cX5_stateAfter 129 = .ok (.ifCond .eq 8, 3) := by decide +kernel
theorem dX5_stateAfter_132 : decode cX5_stateAfter 132 = .ok (.bipush 12, 2) := by decide +kernel
theorem dX5_stateAfter_134 : decode cX5_stateAfter 134 = .ok (.goto 4, 3) := by decide +kernel
theorem dX5_stateAfter_137 : decode cX5_stateAfter 137 = .ok (.iconst (-1), 1) := by decide +kernel
theorem dX5_stateAfter_138 : decode cX5_stateAfter 138 = .ok (.ireturn, 1) := by decide +kernel
theorem dX5_stateAfter_139 : decode cX5_stateAfter 139 = .ok (.iload_n 1, 1) := by decide +kernel
theorem dX5_stateAfter_140 : decode cX5_stateAfter 140 = .ok (.bipush 61, 2) := by decide +kernel
theorem dX5_stateAfter_142 : decode cX5_stateAfter 142 = .ok (.if_icmp .ne 7, 3) := by decide +kernel
theorem dX5_stateAfter_145 : decode cX5_stateAfter 145 = .ok (.iconst 1, 1) := by decide +kernel
theorem dX5_stateAfter_146 : decode cX5_stateAfter 146 = .ok (.goto 4, 3) := by decide +kernel
theorem dX5_stateAfter_149 : decode cX5_stateAfter 149 = .ok (.iconst (-1), 1) := by decide +kernel
theorem dX5_stateAfter_150 : decode cX5_stateAfter 150 = .ok (.ireturn, 1) := by decide +kernel
theorem dX5_stateAfter_151 : decode cX5_stateAfter 151 = .ok (.iload_n 1, 1) := by decide +kernel
theorem dX5_stateAfter_152 : decode cX5_stateAfter 152 = .ok (.bipush 14, 2) := by decide +kernel
theorem dX5_stateAfter_154 : decode cX5_stateAfter 154 = .ok (.iconst 0, 1) := by decide +kernel
theorem dX5_stateAfter_155 : decode cX5_stateAfter 155 = .ok (.invokestatic 45, 3) := by decide +kernel
theorem dX5_stateAfter_158 : decode cX5_stateAfter 158 = .ok (.ireturn, 1) := by decide +kernel
theorem dX5_stateAfter_159 : decode cX5_stateAfter 159 = .ok (.iload_n 1, 1) := by decide +kernel
theorem dX5_stateAfter_160 : decode cX5_stateAfter 160 = .ok (.bipush 48, 2) := by decide +kernel
theorem dX5_stateAfter_162 : decode cX5_stateAfter 162 = .ok (.bipush 57, 2) := by decide +kernel
theorem dX5_stateAfter_164 : decode cX5_stateAfter 164 = .ok (.invokestatic 23, 3) := by decide +kernel
theorem dX5_stateAfter_167 : decode cX5_stateAfter 167 = .ok (.ifCond .eq 7, 3) := by decide +kernel
theorem dX5_stateAfter_170 : decode cX5_stateAfter 170 = .ok (.iconst 0, 1) := by decide +kernel
theorem dX5_stateAfter_171 : decode cX5_stateAfter 171 = .ok (.goto 7, 3) := by decide +kernel
theorem dX5_stateAfter_174 : decode cX5_stateAfter 174 = .ok (.iload_n 1, 1) := by decide +kernel
theorem dX5_stateAfter_175 : decode cX5_stateAfter 175 = .ok (.invokestatic 39, 3) := by decide +kernel
theorem dX5_stateAfter_178 : decode cX5_stateAfter 178 = .ok (.ireturn, 1) := by decide +kernel
theorem dX5_stateAfter_179 : decode cX5_stateAfter 179 = .ok (.iload_n 1, 1) := by decide +kernel
theorem dX5_stateAfter_180 : decode cX5_stateAfter 180 = .ok (.bipush 48, 2) := by decide +kernel
theorem dX5_stateAfter_182 : decode cX5_stateAfter 182 = .ok (.bipush 52, 2) := by decide +kernel
theorem dX5_stateAfter_184 : decode cX5_stateAfter 184 = .ok (.invokestatic 23, 3) := by decide +kernel
theorem dX5_stateAfter_187 : decode cX5_stateAfter 187 = .ok (.ifCond .eq 9, 3) := by decide +kernel
theorem dX5_stateAfter_190 : decode cX5_stateAfter 190 = .ok (.iload_n 0, 1) := by decide +kernel
theorem dX5_stateAfter_191 : decode cX5_stateAfter 191 = .ok (.iconst 1, 1) := by decide +kernel
theorem dX5_stateAfter_192 : decode cX5_stateAfter 192 = .ok (.isub, 1) := by decide +kernel
theorem dX5_stateAfter_193 : decode cX5_stateAfter 193 = .ok (.goto 4, 3) := by decide +kernel
theorem dX5_stateAfter_196 : decode cX5_stateAfter 196 = .ok (.iconst (-1), 1) := by decide +kernel
theorem dX5_stateAfter_197 : decode cX5_stateAfter 197 = .ok (.ireturn, 1) := by decide +kernel
theorem dX5_stateAfterLetter_0 : decode cX5_stateAfterLetter 0 = .ok (.iload_n 0, 1) := by decide +kernel
theorem dX5_stateAfterLetter_1 : decode cX5_stateAfterLetter 1 = .ok (.lookupswitch 52 #[(100, 49), (102, 43), (104, 49), (115, 46)], 43) := by decide +kernel
theorem dX5_stateAfterLetter_44 : decode cX5_stateAfterLetter 44 = .ok (.bipush 6, 2) := by decide +kernel
theorem dX5_stateAfterLetter_46 : decode cX5_stateAfterLetter 46 = .ok (.ireturn, 1) := by decide +kernel
theorem dX5_stateAfterLetter_47 : decode cX5_stateAfterLetter 47 = .ok (.bipush 8, 2) := by decide +kernel
theorem dX5_stateAfterLetter_49 : decode cX5_stateAfterLetter 49 = .ok (.ireturn, 1) := by decide +kernel
theorem dX5_stateAfterLetter_50 : decode cX5_stateAfterLetter 50 = .ok (.bipush 13, 2) := by decide +kernel
theorem dX5_stateAfterLetter_52 : decode cX5_stateAfterLetter 52 = .ok (.ireturn, 1) := by decide +kernel
theorem dX5_stateAfterLetter_53 : decode cX5_stateAfterLetter 53 = .ok (.iconst (-1), 1) := by decide +kernel
theorem dX5_stateAfterLetter_54 : decode cX5_stateAfterLetter 54 = .ok (.ireturn, 1) := by decide +kernel
theorem dX5_stateAfterFather_0 : decode cX5_stateAfterFather 0 = .ok (.iload_n 0, 1) := by decide +kernel
theorem dX5_stateAfterFather_1 : decode cX5_stateAfterFather 1 = .ok (.bipush 46, 2) := by decide +kernel
theorem dX5_stateAfterFather_3 : decode cX5_stateAfterFather 3 = .ok (.if_icmp .ne 8, 3) := by decide +kernel
theorem dX5_stateAfterFather_6 : decode cX5_stateAfterFather 6 = .ok (.bipush 11, 2) := by decide +kernel
theorem dX5_stateAfterFather_8 : decode cX5_stateAfterFather 8 = .ok (.goto 4, 3) := by decide +kernel
theorem dX5_stateAfterFather_11 : decode cX5_stateAfterFather 11 = .ok (.iconst (-1), 1) := by decide +kernel
theorem dX5_stateAfterFather_12 : decode cX5_stateAfterFather 12 = .ok (.ireturn, 1) := by decide +kernel
theorem dX5_stateAfterDeed_0 : decode cX5_stateAfterDeed 0 = .ok (.iload_n 0, 1) := by decide +kernel
theorem dX5_stateAfterDeed_1 : decode cX5_stateAfterDeed 1 = .ok (.bipush 59, 2) := by decide +kernel
theorem dX5_stateAfterDeed_3 : decode cX5_stateAfterDeed 3 = .ok (.if_icmp .ne 8, 3) := by decide +kernel
theorem dX5_stateAfterDeed_6 : decode cX5_stateAfterDeed 6 = .ok (.bipush 7, 2) := by decide +kernel
theorem dX5_stateAfterDeed_8 : decode cX5_stateAfterDeed 8 = .ok (.goto 4, 3) := by decide +kernel
theorem dX5_stateAfterDeed_11 : decode cX5_stateAfterDeed 11 = .ok (.iconst (-1), 1) := by decide +kernel
theorem dX5_stateAfterDeed_12 : decode cX5_stateAfterDeed 12 = .ok (.ireturn, 1) := by decide +kernel
theorem dX5_stateAfterDigit_0 : decode cX5_stateAfterDigit 0 = .ok (.iload_n 0, 1) := by decide +kernel
theorem dX5_stateAfterDigit_1 : decode cX5_stateAfterDigit 1 = .ok (.bipush 48, 2) := by decide +kernel
theorem dX5_stateAfterDigit_3 : decode cX5_stateAfterDigit 3 = .ok (.bipush 57, 2) := by decide +kernel
theorem dX5_stateAfterDigit_5 : decode cX5_stateAfterDigit 5 = .ok (.invokestatic 23, 3) := by decide +kernel
theorem dX5_stateAfterDigit_8 : decode cX5_stateAfterDigit 8 = .ok (.ifCond .ne 5, 3) := by decide +kernel
theorem dX5_stateAfterDigit_11 : decode cX5_stateAfterDigit 11 = .ok (.iconst (-1), 1) := by decide +kernel
theorem dX5_stateAfterDigit_12 : decode cX5_stateAfterDigit 12 = .ok (.ireturn, 1) := by decide +kernel
theorem dX5_stateAfterDigit_13 : decode cX5_stateAfterDigit 13 = .ok (.iload_n 0, 1) := by decide +kernel
theorem dX5_stateAfterDigit_14 : decode cX5_stateAfterDigit 14 = .ok (.bipush 49, 2) := by decide +kernel
theorem dX5_stateAfterDigit_16 : decode cX5_stateAfterDigit 16 = .ok (.if_icmp .ne 7, 3) := by decide +kernel
theorem dX5_stateAfterDigit_19 : decode cX5_stateAfterDigit 19 = .ok (.iload_n 1, 1) := by decide +kernel
theorem dX5_stateAfterDigit_20 : decode cX5_stateAfterDigit 20 = .ok (.goto 4, 3) := by decide +kernel
theorem dX5_stateAfterDigit_23 : decode cX5_stateAfterDigit 23 = .ok (.iload_n 2, 1) := by decide +kernel
theorem dX5_stateAfterDigit_24 : decode cX5_stateAfterDigit 24 = .ok (.ireturn, 1) := by decide +kernel
theorem dX5_isBetween_0 : decode cX5_isBetween 0 = .ok (.iload_n 0, 1) := by decide +kernel
theorem dX5_isBetween_1 : decode cX5_isBetween 1 = .ok (.iload_n 1, 1) := by decide +kernel
theorem dX5_isBetween_2 : decode cX5_isBetween 2 = .ok (.if_icmp .lt 12, 3) := by decide +kernel
theorem dX5_isBetween_5 : decode cX5_isBetween 5 = .ok (.iload_n 0, 1) := by decide +kernel
theorem dX5_isBetween_6 : decode cX5_isBetween 6 = .ok (.iload_n 2, 1) := by decide +kernel
theorem dX5_isBetween_7 : decode cX5_isBetween 7 = .ok (.if_icmp .gt 7, 3) := by decide +kernel
theorem dX5_isBetween_10 : decode cX5_isBetween 10 = .ok (.iconst 1, 1) := by decide +kernel
theorem dX5_isBetween_11 : decode cX5_isBetween 11 = .ok (.goto 4, 3) := by decide +kernel
theorem dX5_isBetween_14 : decode cX5_isBetween 14 = .ok (.iconst 0, 1) := by decide +kernel
theorem dX5_isBetween_15 : decode cX5_isBetween 15 = .ok (.ireturn, 1) := by decide +kernel
theorem dX6_init_0 : decode cX6_init 0 = .ok (.aload_n 0, 1) := by decide +kernel
theorem dX6_init_1 : decode cX6_init 1 = .ok (.invokespecial 3, 3) := by decide +kernel
theorem dX6_init_4 : decode cX6_init 4 = .ok (.aload_n 0, 1) := by decide +kernel
theorem dX6_init_5 : decode cX6_init 5 = .ok (.bipush 20, 2) := by decide +kernel
theorem dX6_init_7 : decode cX6_init 7 = .ok (.newarray .int, 2) := by decide +kernel
theorem dX6_init_9 : decode cX6_init 9 = .ok (.putfield 9, 3) := by decide +kernel
theorem dX6_init_12 : decode cX6_init 12 = .ok (.aload_n 0, 1) := by decide +kernel
theorem dX6_init_13 : decode cX6_init 13 = .ok (.bipush 20, 2) := by decide +kernel
theorem dX6_init_15 : decode cX6_init 15 = .ok (.newarray .boolean, 2) := by decide +kernel
theorem dX6_init_17 : decode cX6_init 17 = .ok (.putfield 15, 3) := by decide +kernel
theorem dX6_init_20 : decode cX6_init 20 = .ok (.aload_n 0, 1) := by decide +kernel
theorem dX6_init_21 : decode cX6_init 21 = .ok (.bipush 20, 2) := by decide +kernel
theorem dX6_init_23 : decode cX6_init 23 = .ok (.newarray .int, 2) := by decide +kernel
theorem dX6_init_25 : decode cX6_init 25 = .ok (.putfield 19, 3) := by decide +kernel
theorem dX6_init_28 : decode cX6_init 28 = .ok (.aload_n 0, 1) := by decide +kernel
theorem dX6_init_29 : decode cX6_init 29 = .ok (.bipush 20, 2) := by decide +kernel
theorem dX6_init_31 : decode cX6_init 31 = .ok (.newarray .int, 2) := by decide +kernel
theorem dX6_init_33 : decode cX6_init 33 = .ok (.putfield 22, 3) := by decide +kernel
theorem dX6_init_36 : decode cX6_init 36 = .ok (.aload_n 0, 1) := by decide +kernel
theorem dX6_init_37 : decode cX6_init 37 = .ok (.bipush 20, 2) := by decide +kernel
theorem dX6_init_39 : decode cX6_init 39 = .ok (.newarray .int, 2) := by decide +kernel
theorem dX6_init_41 : decode cX6_init 41 = .ok (.putfield 25, 3) := by decide +kernel
theorem dX6_init_44 : decode cX6_init 44 = .ok (.aload_n 0, 1) := by decide +kernel
theorem dX6_init_45 : decode cX6_init 45 = .ok (.iconst 0, 1) := by decide +kernel
theorem dX6_init_46 : decode cX6_init 46 = .ok (.putfield 28, 3) := by decide +kernel
theorem dX6_init_49 : decode cX6_init 49 = .ok (.aload_n 0, 1) := by decide +kernel
theorem dX6_init_50 : decode cX6_init 50 = .ok (.iconst 0, 1) := by decide +kernel
theorem dX6_init_51 : decode cX6_init 51 = .ok (.putfield 32, 3) := by decide +kernel
theorem dX6_init_54 : decode cX6_init 54 = .ok (.aload_n 0, 1) := by decide +kernel
theorem dX6_init_55 : decode cX6_init 55 = .ok (.iconst 0, 1) := by decide +kernel
theorem dX6_init_56 : decode cX6_init 56 = .ok (.putfield 35, 3) := by decide +kernel
theorem dX6_init_59 : decode cX6_init 59 = .ok (.return_, 1) := by decide +kernel
theorem dX6_copyFrom_0 : decode cX6_copyFrom 0 = .ok (.iconst 0, 1) := by decide +kernel
theorem dX6_copyFrom_1 : decode cX6_copyFrom 1 = .ok (.istore_n 2, 1) := by decide +kernel
theorem dX6_copyFrom_2 : decode cX6_copyFrom 2 = .ok (.iload_n 2, 1) := by decide +kernel
theorem dX6_copyFrom_3 : decode cX6_copyFrom 3 = .ok (.bipush 20, 2) := by decide +kernel
theorem dX6_copyFrom_5 : decode cX6_copyFrom 5 = .ok (.if_icmp .ge 69, 3) := by decide +kernel
theorem dX6_copyFrom_8 : decode cX6_copyFrom 8 = .ok (.aload_n 0, 1) := by decide +kernel
theorem dX6_copyFrom_9 : decode cX6_copyFrom 9 = .ok (.getfield 9, 3) := by decide +kernel
theorem dX6_copyFrom_12 : decode cX6_copyFrom 12 = .ok (.iload_n 2, 1) := by decide +kernel
theorem dX6_copyFrom_13 : decode cX6_copyFrom 13 = .ok (.aload_n 1, 1) := by decide +kernel
theorem dX6_copyFrom_14 : decode cX6_copyFrom 14 = .ok (.getfield 9, 3) := by decide +kernel
theorem dX6_copyFrom_17 : decode cX6_copyFrom 17 = .ok (.iload_n 2, 1) := by decide +kernel
theorem dX6_copyFrom_18 : decode cX6_copyFrom 18 = .ok (.iaload, 1) := by decide +kernel
theorem dX6_copyFrom_19 : decode cX6_copyFrom 19 = .ok (.iastore, 1) := by decide +kernel
theorem dX6_copyFrom_20 : decode cX6_copyFrom 20 = .ok (.aload_n 0, 1) := by decide +kernel
theorem dX6_copyFrom_21 : decode cX6_copyFrom 21 = .ok (.getfield 15, 3) := by decide +kernel
theorem dX6_copyFrom_24 : decode cX6_copyFrom 24 = .ok (.iload_n 2, 1) := by decide +kernel
theorem dX6_copyFrom_25 : decode cX6_copyFrom 25 = .ok (.aload_n 1, 1) := by decide +kernel
theorem dX6_copyFrom_26 : decode cX6_copyFrom 26 = .ok (.getfield 15, 3) := by decide +kernel
theorem dX6_copyFrom_29 : decode cX6_copyFrom 29 = .ok (.iload_n 2, 1) := by decide +kernel
theorem dX6_copyFrom_30 : decode cX6_copyFrom 30 = .ok (.baload, 1) := by decide +kernel
theorem dX6_copyFrom_31 : decode cX6_copyFrom 31 = .ok (.bastore, 1) := by decide +kernel
theorem dX6_copyFrom_32 : decode cX6_copyFrom 32 = .ok (.aload_n 0, 1) := by decide +kernel
theorem dX6_copyFrom_33 : decode cX6_copyFrom 33 = .ok (.getfield 19, 3) := by decide +kernel
theorem dX6_copyFrom_36 : decode cX6_copyFrom 36 = .ok (.iload_n 2, 1) := by decide +kernel
theorem dX6_copyFrom_37 : decode cX6_copyFrom 37 = .ok (.aload_n 1, 1) := by decide +kernel
theorem dX6_copyFrom_38 : decode cX6_copyFrom 38 = .ok (.getfield 19, 3) := by decide +kernel
theorem dX6_copyFrom_41 : decode cX6_copyFrom 41 = .ok (.iload_n 2, 1) := by decide +kernel
theorem dX6_copyFrom_42 : decode cX6_copyFrom 42 = .ok (.iaload, 1) := by decide +kernel
theorem dX6_copyFrom_43 : decode cX6_copyFrom 43 = .ok (.iastore, 1) := by decide +kernel
theorem dX6_copyFrom_44 : decode cX6_copyFrom 44 = .ok (.aload_n 0, 1) := by decide +kernel
theorem dX6_copyFrom_45 : decode cX6_copyFrom 45 = .ok (.getfield 22, 3) := by decide +kernel
theorem dX6_copyFrom_48 : decode cX6_copyFrom 48 = .ok (.iload_n 2, 1) := by decide +kernel
theorem dX6_copyFrom_49 : decode cX6_copyFrom 49 = .ok (.aload_n 1, 1) := by decide +kernel
theorem dX6_copyFrom_50 : decode cX6_copyFrom 50 = .ok (.getfield 22, 3) := by decide +kernel
theorem dX6_copyFrom_53 : decode cX6_copyFrom 53 = .ok (.iload_n 2, 1) := by decide +kernel
theorem dX6_copyFrom_54 : decode cX6_copyFrom 54 = .ok (.iaload, 1) := by decide +kernel
theorem dX6_copyFrom_55 : decode cX6_copyFrom 55 = .ok (.iastore, 1) := by decide +kernel
theorem dX6_copyFrom_56 : decode cX6_copyFrom 56 = .ok (.aload_n 0, 1) := by decide +kernel
theorem dX6_copyFrom_57 : decode cX6_copyFrom 57 = .ok (.getfield 25, 3) := by decide +kernel
theorem dX6_copyFrom_60 : decode cX6_copyFrom 60 = .ok (.iload_n 2, 1) := by decide +kernel
theorem dX6_copyFrom_61 : decode cX6_copyFrom 61 = .ok (.aload_n 1, 1) := by decide +kernel
theorem dX6_copyFrom_62 : decode cX6_copyFrom 62 = .ok (.getfield 25, 3) := by decide +kernel
theorem dX6_copyFrom_65 : decode cX6_copyFrom 65 = .ok (.iload_n 2, 1) := by decide +kernel
theorem dX6_copyFrom_66 : decode cX6_copyFrom 66 = .ok (.iaload, 1) := by decide +kernel
theorem dX6_copyFrom_67 : decode cX6_copyFrom 67 = .ok (.iastore, 1) := by decide +kernel
theorem dX6_copyFrom_68 : decode cX6_copyFrom 68 = .ok (.iinc 2 1, 3) := by decide +kernel
theorem dX6_copyFrom_71 : decode cX6_copyFrom 71 = .ok (.goto (-69), 3) := by decide +kernel
theorem dX6_copyFrom_74 : decode cX6_copyFrom 74 = .ok (.aload_n 0, 1) := by decide +kernel
theorem dX6_copyFrom_75 : decode cX6_copyFrom 75 = .ok (.aload_n 1, 1) := by decide +kernel
theorem dX6_copyFrom_76 : decode cX6_copyFrom 76 = .ok (.getfield 28, 3) := by decide +kernel
theorem dX6_copyFrom_79 : decode cX6_copyFrom 79 = .ok (.putfield 28, 3) := by decide +kernel
theorem dX6_copyFrom_82 : decode cX6_copyFrom 82 = .ok (.aload_n 0, 1) := by decide +kernel
theorem dX6_copyFrom_83 : decode cX6_copyFrom 83 = .ok (.aload_n 1, 1) := by decide +kernel
theorem dX6_copyFrom_84 : decode cX6_copyFrom 84 = .ok (.getfield 32, 3) := by decide +kernel
theorem dX6_copyFrom_87 : decode cX6_copyFrom 87 = .ok (.putfield 32, 3) := by decide +kernel
theorem dX6_copyFrom_90 : decode cX6_copyFrom 90 = .ok (.aload_n 0, 1) := by decide +kernel
theorem dX6_copyFrom_91 : decode cX6_copyFrom 91 = .ok (.aload_n 1, 1) := by decide +kernel
theorem dX6_copyFrom_92 : decode cX6_copyFrom 92 = .ok (.getfield 35, 3) := by decide +kernel
theorem dX6_copyFrom_95 : decode cX6_copyFrom 95 = .ok (.putfield 35, 3) := by decide +kernel
theorem dX6_copyFrom_98 : decode cX6_copyFrom 98 = .ok (.return_, 1) := by decide +kernel
theorem dX6_size_0 : decode cX6_size 0 = .ok (.aload_n 0, 1) := by decide +kernel
theorem dX6_size_1 : decode cX6_size 1 = .ok (.getfield 28, 3) := by decide +kernel
theorem dX6_size_4 : decode cX6_size 4 = .ok (.ireturn, 1) := by decide +kernel
theorem dX6_heirs_0 : decode cX6_heirs 0 = .ok (.aload_n 0, 1) := by decide +kernel
theorem dX6_heirs_1 : decode cX6_heirs 1 = .ok (.getfield 32, 3) := by decide +kernel
theorem dX6_heirs_4 : decode cX6_heirs 4 = .ok (.ireturn, 1) := by decide +kernel
theorem dX6_refusals_0 : decode cX6_refusals 0 = .ok (.aload_n 0, 1) := by decide +kernel
theorem dX6_refusals_1 : decode cX6_refusals 1 = .ok (.getfield 35, 3) := by decide +kernel
theorem dX6_refusals_4 : decode cX6_refusals 4 = .ok (.ireturn, 1) := by decide +kernel
theorem dX6_has_0 : decode cX6_has 0 = .ok (.iload_n 1, 1) := by decide +kernel
theorem dX6_has_1 : decode cX6_has 1 = .ok (.ifCond .lt 21, 3) := by decide +kernel
theorem dX6_has_4 : decode cX6_has 4 = .ok (.iload_n 1, 1) := by decide +kernel
theorem dX6_has_5 : decode cX6_has 5 = .ok (.aload_n 0, 1) := by decide +kernel
theorem dX6_has_6 : decode cX6_has 6 = .ok (.getfield 28, 3) := by decide +kernel
theorem dX6_has_9 : decode cX6_has 9 = .ok (.if_icmp .ge 13, 3) := by decide +kernel
theorem dX6_has_12 : decode cX6_has 12 = .ok (.iload_n 1, 1) := by decide +kernel
theorem dX6_has_13 : decode cX6_has 13 = .ok (.bipush 20, 2) := by decide +kernel
theorem dX6_has_15 : decode cX6_has 15 = .ok (.if_icmp .ge 7, 3) := by decide +kernel
theorem dX6_has_18 : decode cX6_has 18 = .ok (.iconst 1, 1) := by decide +kernel
theorem dX6_has_19 : decode cX6_has 19 = .ok (.goto 4, 3) := by decide +kernel
theorem dX6_has_22 : decode cX6_has 22 = .ok (.iconst 0, 1) := by decide +kernel
theorem dX6_has_23 : decode cX6_has 23 = .ok (.ireturn, 1) := by decide +kernel
theorem dX6_shieldOf_0 : decode cX6_shieldOf 0 = .ok (.aload_n 0, 1) := by decide +kernel
theorem dX6_shieldOf_1 : decode cX6_shieldOf 1 = .ok (.iload_n 1, 1) := by decide +kernel
theorem dX6_shieldOf_2 : decode cX6_shieldOf 2 = .ok (.invokevirtual 38, 3) := by decide +kernel
theorem dX6_shieldOf_5 : decode cX6_shieldOf 5 = .ok (.ifCond .eq 12, 3) := by decide +kernel
theorem dX6_shieldOf_8 : decode cX6_shieldOf 8 = .ok (.aload_n 0, 1) := by decide +kernel
theorem dX6_shieldOf_9 : decode cX6_shieldOf 9 = .ok (.getfield 9, 3) := by decide +kernel
theorem dX6_shieldOf_12 : decode cX6_shieldOf 12 = .ok (.iload_n 1, 1) := by decide +kernel
theorem dX6_shieldOf_13 : decode cX6_shieldOf 13 = .ok (.iaload, 1) := by decide +kernel
theorem dX6_shieldOf_14 : decode cX6_shieldOf 14 = .ok (.goto 4, 3) := by decide +kernel
theorem dX6_shieldOf_17 : decode cX6_shieldOf 17 = .ok (.iconst 0, 1) := by decide +kernel
theorem dX6_shieldOf_18 : decode cX6_shieldOf 18 = .ok (.ireturn, 1) := by decide +kernel
theorem dX6_isAlive_0 : decode cX6_isAlive 0 = .ok (.aload_n 0, 1) := by decide +kernel
theorem dX6_isAlive_1 : decode cX6_isAlive 1 = .ok (.iload_n 1, 1) := by decide +kernel
theorem dX6_isAlive_2 : decode cX6_isAlive 2 = .ok (.invokevirtual 38, 3) := by decide +kernel
theorem dX6_isAlive_5 : decode cX6_isAlive 5 = .ok (.ifCond .eq 16, 3) := by decide +kernel
theorem dX6_isAlive_8 : decode cX6_isAlive 8 = .ok (.aload_n 0, 1) := by decide +kernel
theorem dX6_isAlive_9 : decode cX6_isAlive 9 = .ok (.getfield 15, 3) := by decide +kernel
theorem dX6_isAlive_12 : decode cX6_isAlive 12 = .ok (.iload_n 1, 1) := by decide +kernel
theorem dX6_isAlive_13 : decode cX6_isAlive 13 = .ok (.baload, 1) := by decide +kernel
theorem dX6_isAlive_14 : decode cX6_isAlive 14 = .ok (.ifCond .eq 7, 3) := by decide +kernel
theorem dX6_isAlive_17 : decode cX6_isAlive 17 = .ok (.iconst 1, 1) := by decide +kernel
theorem dX6_isAlive_18 : decode cX6_isAlive 18 = .ok (.goto 4, 3) := by decide +kernel
theorem dX6_isAlive_21 : decode cX6_isAlive 21 = .ok (.iconst 0, 1) := by decide +kernel
theorem dX6_isAlive_22 : decode cX6_isAlive 22 = .ok (.ireturn, 1) := by decide +kernel
theorem dX6_fatherOf_0 : decode cX6_fatherOf 0 = .ok (.aload_n 0, 1) := by decide +kernel
theorem dX6_fatherOf_1 : decode cX6_fatherOf 1 = .ok (.iload_n 1, 1) := by decide +kernel
theorem dX6_fatherOf_2 : decode cX6_fatherOf 2 = .ok (.invokevirtual 38, 3) := by decide +kernel
theorem dX6_fatherOf_5 : decode cX6_fatherOf 5 = .ok (.ifCond .eq 12, 3) := by decide +kernel
theorem dX6_fatherOf_8 : decode cX6_fatherOf 8 = .ok (.aload_n 0, 1) := by decide +kernel
theorem dX6_fatherOf_9 : decode cX6_fatherOf 9 = .ok (.getfield 19, 3) := by decide +kernel
theorem dX6_fatherOf_12 : decode cX6_fatherOf 12 = .ok (.iload_n 1, 1) := by decide +kernel
theorem dX6_fatherOf_13 : decode cX6_fatherOf 13 = .ok (.iaload, 1) := by decide +kernel
theorem dX6_fatherOf_14 : decode cX6_fatherOf 14 = .ok (.goto 4, 3) := by decide +kernel
theorem dX6_fatherOf_17 : decode cX6_fatherOf 17 = .ok (.iconst (-1), 1) := by decide +kernel
theorem dX6_fatherOf_18 : decode cX6_fatherOf 18 = .ok (.ireturn, 1) := by decide +kernel
theorem dX6_birthPlaceOf_0 : decode cX6_birthPlaceOf 0 = .ok (.aload_n 0, 1) := by decide +kernel
theorem dX6_birthPlaceOf_1 : decode cX6_birthPlaceOf 1 = .ok (.iload_n 1, 1) := by decide +kernel
theorem dX6_birthPlaceOf_2 : decode cX6_birthPlaceOf 2 = .ok (.invokevirtual 38, 3) := by decide +kernel
theorem dX6_birthPlaceOf_5 : decode cX6_birthPlaceOf 5 = .ok (.ifCond .eq 12, 3) := by decide +kernel
theorem dX6_birthPlaceOf_8 : decode cX6_birthPlaceOf 8 = .ok (.aload_n 0, 1) := by decide +kernel
theorem dX6_birthPlaceOf_9 : decode cX6_birthPlaceOf 9 = .ok (.getfield 22, 3) := by decide +kernel
theorem dX6_birthPlaceOf_12 : decode cX6_birthPlaceOf 12 = .ok (.iload_n 1, 1) := by decide +kernel
theorem dX6_birthPlaceOf_13 : decode cX6_birthPlaceOf 13 = .ok (.iaload, 1) := by decide +kernel
theorem dX6_birthPlaceOf_14 : decode cX6_birthPlaceOf 14 = .ok (.goto 4, 3) := by decide +kernel
theorem dX6_birthPlaceOf_17 : decode cX6_birthPlaceOf 17 = .ok (.iconst (-1), 1) := by decide +kernel
theorem dX6_birthPlaceOf_18 : decode cX6_birthPlaceOf 18 = .ok (.ireturn, 1) := by decide +kernel
theorem dX6_birthMarkOf_0 : decode cX6_birthMarkOf 0 = .ok (.aload_n 0, 1) := by decide +kernel
theorem dX6_birthMarkOf_1 : decode cX6_birthMarkOf 1 = .ok (.iload_n 1, 1) := by decide +kernel
theorem dX6_birthMarkOf_2 : decode cX6_birthMarkOf 2 = .ok (.invokevirtual 38, 3) := by decide +kernel
theorem dX6_birthMarkOf_5 : decode cX6_birthMarkOf 5 = .ok (.ifCond .eq 12, 3) := by decide +kernel
theorem dX6_birthMarkOf_8 : decode cX6_birthMarkOf 8 = .ok (.aload_n 0, 1) := by decide +kernel
theorem dX6_birthMarkOf_9 : decode cX6_birthMarkOf 9 = .ok (.getfield 25, 3) := by decide +kernel
theorem dX6_birthMarkOf_12 : decode cX6_birthMarkOf 12 = .ok (.iload_n 1, 1) := by decide +kernel
theorem dX6_birthMarkOf_13 : decode cX6_birthMarkOf 13 = .ok (.iaload, 1) := by decide +kernel
theorem dX6_birthMarkOf_14 : decode cX6_birthMarkOf 14 = .ok (.goto 4, 3) := by decide +kernel
theorem dX6_birthMarkOf_17 : decode cX6_birthMarkOf 17 = .ok (.iconst (-1), 1) := by decide +kernel
theorem dX6_birthMarkOf_18 : decode cX6_birthMarkOf 18 = .ok (.ireturn, 1) := by decide +kernel
theorem dX6_living_0 : decode cX6_living 0 = .ok (.iconst 0, 1) := by decide +kernel
theorem dX6_living_1 : decode cX6_living 1 = .ok (.istore_n 1, 1) := by decide +kernel
theorem dX6_living_2 : decode cX6_living 2 = .ok (.iconst 0, 1) := by decide +kernel
theorem dX6_living_3 : decode cX6_living 3 = .ok (.istore_n 2, 1) := by decide +kernel
theorem dX6_living_4 : decode cX6_living 4 = .ok (.iload_n 2, 1) := by decide +kernel
theorem dX6_living_5 : decode cX6_living 5 = .ok (.aload_n 0, 1) := by decide +kernel
theorem dX6_living_6 : decode cX6_living 6 = .ok (.getfield 28, 3) := by decide +kernel
theorem dX6_living_9 : decode cX6_living 9 = .ok (.if_icmp .ge 20, 3) := by decide +kernel
theorem dX6_living_12 : decode cX6_living 12 = .ok (.aload_n 0, 1) := by decide +kernel
theorem dX6_living_13 : decode cX6_living 13 = .ok (.iload_n 2, 1) := by decide +kernel
theorem dX6_living_14 : decode cX6_living 14 = .ok (.invokevirtual 42, 3) := by decide +kernel
theorem dX6_living_17 : decode cX6_living 17 = .ok (.ifCond .eq 6, 3) := by decide +kernel
theorem dX6_living_20 : decode cX6_living 20 = .ok (.iinc 1 1, 3) := by decide +kernel
theorem dX6_living_23 : decode cX6_living 23 = .ok (.iinc 2 1, 3) := by decide +kernel
theorem dX6_living_26 : decode cX6_living 26 = .ok (.goto (-22), 3) := by decide +kernel
theorem dX6_living_29 : decode cX6_living 29 = .ok (.iload_n 1, 1) := by decide +kernel
theorem dX6_living_30 : decode cX6_living 30 = .ok (.ireturn, 1) := by decide +kernel
theorem dX6_livingWith_0 : decode cX6_livingWith 0 = .ok (.iconst 0, 1) := by decide +kernel
theorem dX6_livingWith_1 : decode cX6_livingWith 1 = .ok (.istore_n 2, 1) := by decide +kernel
theorem dX6_livingWith_2 : decode cX6_livingWith 2 = .ok (.iload_n 2, 1) := by decide +kernel
theorem dX6_livingWith_3 : decode cX6_livingWith 3 = .ok (.aload_n 0, 1) := by decide +kernel
theorem dX6_livingWith_4 : decode cX6_livingWith 4 = .ok (.getfield 28, 3) := by decide +kernel
theorem dX6_livingWith_7 : decode cX6_livingWith 7 = .ok (.if_icmp .ge 36, 3) := by decide +kernel
theorem dX6_livingWith_10 : decode cX6_livingWith 10 = .ok (.iload_n 2, 1) := by decide +kernel
theorem dX6_livingWith_11 : decode cX6_livingWith 11 = .ok (.bipush 20, 2) := by decide +kernel
theorem dX6_livingWith_13 : decode cX6_livingWith 13 = .ok (.if_icmp .ge 30, 3) := by decide +kernel
theorem dX6_livingWith_16 : decode cX6_livingWith 16 = .ok (.aload_n 0, 1) := by decide +kernel
theorem dX6_livingWith_17 : decode cX6_livingWith 17 = .ok (.getfield 15, 3) := by decide +kernel
theorem dX6_livingWith_20 : decode cX6_livingWith 20 = .ok (.iload_n 2, 1) := by decide +kernel
theorem dX6_livingWith_21 : decode cX6_livingWith 21 = .ok (.baload, 1) := by decide +kernel
theorem dX6_livingWith_22 : decode cX6_livingWith 22 = .ok (.ifCond .eq 15, 3) := by decide +kernel
theorem dX6_livingWith_25 : decode cX6_livingWith 25 = .ok (.aload_n 0, 1) := by decide +kernel
theorem dX6_livingWith_26 : decode cX6_livingWith 26 = .ok (.getfield 9, 3) := by decide +kernel
theorem dX6_livingWith_29 : decode cX6_livingWith 29 = .ok (.iload_n 2, 1) := by decide +kernel
theorem dX6_livingWith_30 : decode cX6_livingWith 30 = .ok (.iaload, 1) := by decide +kernel
theorem dX6_livingWith_31 : decode cX6_livingWith 31 = .ok (.iload_n 1, 1) := by decide +kernel
theorem dX6_livingWith_32 : decode cX6_livingWith 32 = .ok (.if_icmp .ne 5, 3) := by decide +kernel
theorem dX6_livingWith_35 : decode cX6_livingWith 35 = .ok (.iload_n 2, 1) := by decide +kernel
theorem dX6_livingWith_36 : decode cX6_livingWith 36 = .ok (.ireturn, 1) := by decide +kernel
theorem dX6_livingWith_37 : decode cX6_livingWith 37 = .ok (.iinc 2 1, 3) := by decide +kernel
theorem dX6_livingWith_40 : decode cX6_livingWith 40 = .ok (.goto (-38), 3) := by decide +kernel
theorem dX6_livingWith_43 : decode cX6_livingWith 43 = .ok (.iconst (-1), 1) := by decide +kernel
theorem dX6_livingWith_44 : decode cX6_livingWith 44 = .ok (.ireturn, 1) := by decide +kernel
theorem dX6_sonsOf_0 : decode cX6_sonsOf 0 = .ok (.iconst 0, 1) := by decide +kernel
theorem dX6_sonsOf_1 : decode cX6_sonsOf 1 = .ok (.istore_n 2, 1) := by decide +kernel
theorem dX6_sonsOf_2 : decode cX6_sonsOf 2 = .ok (.iconst 0, 1) := by decide +kernel
theorem dX6_sonsOf_3 : decode cX6_sonsOf 3 = .ok (.istore_n 3, 1) := by decide +kernel
theorem dX6_sonsOf_4 : decode cX6_sonsOf 4 = .ok (.iload_n 3, 1) := by decide +kernel
theorem dX6_sonsOf_5 : decode cX6_sonsOf 5 = .ok (.aload_n 0, 1) := by decide +kernel
theorem dX6_sonsOf_6 : decode cX6_sonsOf 6 = .ok (.getfield 28, 3) := by decide +kernel
theorem dX6_sonsOf_9 : decode cX6_sonsOf 9 = .ok (.if_icmp .ge 21, 3) := by decide +kernel
theorem dX6_sonsOf_12 : decode cX6_sonsOf 12 = .ok (.aload_n 0, 1) := by decide +kernel
theorem dX6_sonsOf_13 : decode cX6_sonsOf 13 = .ok (.iload_n 3, 1) := by decide +kernel
theorem dX6_sonsOf_14 : decode cX6_sonsOf 14 = .ok (.invokevirtual 45, 3) := by decide +kernel
theorem dX6_sonsOf_17 : decode cX6_sonsOf 17 = .ok (.iload_n 1, 1) := by decide +kernel
theorem dX6_sonsOf_18 : decode cX6_sonsOf 18 = .ok (.if_icmp .ne 6, 3) := by decide +kernel
theorem dX6_sonsOf_21 : decode cX6_sonsOf 21 = .ok (.iinc 2 1, 3) := by decide +kernel
theorem dX6_sonsOf_24 : decode cX6_sonsOf 24 = .ok (.iinc 3 1, 3) := by decide +kernel
theorem dX6_sonsOf_27 : decode cX6_sonsOf 27 = .ok (.goto (-23), 3) := by decide +kernel
theorem dX6_sonsOf_30 : decode cX6_sonsOf 30 = .ok (.iload_n 2, 1) := by decide +kernel
theorem dX6_sonsOf_31 : decode cX6_sonsOf 31 = .ok (.ireturn, 1) := by decide +kernel
theorem dX6_areBrothers_0 : decode cX6_areBrothers 0 = .ok (.aload_n 0, 1) := by decide +kernel
theorem dX6_areBrothers_1 : decode cX6_areBrothers 1 = .ok (.iload_n 1, 1) := by decide +kernel
theorem dX6_areBrothers_2 : decode cX6_areBrothers 2 = .ok (.invokevirtual 38, 3) := by decide +kernel
theorem dX6_areBrothers_5 : decode cX6_areBrothers 5 = .ok (.ifCond .eq 45, 3) := by decide +kernel
theorem dX6_areBrothers_8 : decode cX6_areBrothers 8 = .ok (.aload_n 0, 1) := by decide +kernel
theorem dX6_areBrothers_9 : decode cX6_areBrothers 9 = .ok (.iload_n 2, 1) := by decide +kernel
theorem dX6_areBrothers_10 : decode cX6_areBrothers 10 = .ok (.invokevirtual 38, 3) := by decide +kernel
theorem dX6_areBrothers_13 : decode cX6_areBrothers 13 = .ok (.ifCond .eq 37, 3) := by decide +kernel
theorem dX6_areBrothers_16 : decode cX6_areBrothers 16 = .ok (.iload_n 1, 1) := by decide +kernel
theorem dX6_areBrothers_17 : decode cX6_areBrothers 17 = .ok (.iload_n 2, 1) := by decide +kernel
theorem dX6_areBrothers_18 : decode cX6_areBrothers 18 = .ok (.if_icmp .eq 32, 3) := by decide +kernel
theorem dX6_areBrothers_21 : decode cX6_areBrothers 21 = .ok (.aload_n 0, 1) := by decide +kernel
theorem dX6_areBrothers_22 : decode cX6_areBrothers 22 = .ok (.getfield 19, 3) := by decide +kernel
theorem dX6_areBrothers_25 : decode cX6_areBrothers 25 = .ok (.iload_n 1, 1) := by decide +kernel
theorem dX6_areBrothers_26 : decode cX6_areBrothers 26 = .ok (.iaload, 1) := by decide +kernel
theorem dX6_areBrothers_27 : decode cX6_areBrothers 27 = .ok (.iconst (-1), 1) := by decide +kernel
theorem dX6_areBrothers_28 : decode cX6_areBrothers 28 = .ok (.if_icmp .eq 22, 3) := by decide +kernel
theorem dX6_areBrothers_31 : decode cX6_areBrothers 31 = .ok (.aload_n 0, 1) := by decide +kernel
theorem dX6_areBrothers_32 : decode cX6_areBrothers 32 = .ok (.getfield 19, 3) := by decide +kernel
theorem dX6_areBrothers_35 : decode cX6_areBrothers 35 = .ok (.iload_n 1, 1) := by decide +kernel
theorem dX6_areBrothers_36 : decode cX6_areBrothers 36 = .ok (.iaload, 1) := by decide +kernel
theorem dX6_areBrothers_37 : decode cX6_areBrothers 37 = .ok (.aload_n 0, 1) := by decide +kernel
theorem dX6_areBrothers_38 : decode cX6_areBrothers 38 = .ok (.getfield 19, 3) := by decide +kernel
theorem dX6_areBrothers_41 : decode cX6_areBrothers 41 = .ok (.iload_n 2, 1) := by decide +kernel
theorem dX6_areBrothers_42 : decode cX6_areBrothers 42 = .ok (.iaload, 1) := by decide +kernel
theorem dX6_areBrothers_43 : decode cX6_areBrothers 43 = .ok (.if_icmp .ne 7, 3) := by decide +kernel
theorem dX6_areBrothers_46 : decode cX6_areBrothers 46 = .ok (.iconst 1, 1) := by decide +kernel
theorem dX6_areBrothers_47 : decode cX6_areBrothers 47 = .ok (.goto 4, 3) := by decide +kernel
theorem dX6_areBrothers_50 : decode cX6_areBrothers 50 = .ok (.iconst 0, 1) := by decide +kernel
theorem dX6_areBrothers_51 : decode cX6_areBrothers 51 = .ok (.ireturn, 1) := by decide +kernel
theorem dX6_founderComes_0 : decode cX6_founderComes 0 = .ok (.iload_n 1, 1) := by decide +kernel
theorem dX6_founderComes_1 : decode cX6_founderComes 1 = .ok (.invokestatic 49, 3) := by decide +kernel
theorem dX6_founderComes_4 : decode cX6_founderComes 4 = .ok (.ifCond .ne 5, 3) := by decide +kernel
theorem dX6_founderComes_7 : decode cX6_founderComes 7 = .ok (.iconst (-1), 1) := by decide +kernel
theorem dX6_founderComes_8 : decode cX6_founderComes 8 = .ok (.ireturn, 1) := by decide +kernel
theorem dX6_founderComes_9 : decode cX6_founderComes 9 = .ok (.aload_n 0, 1) := by decide +kernel
theorem dX6_founderComes_10 : decode cX6_founderComes 10 = .ok (.getfield 28, 3) := by decide +kernel
theorem dX6_founderComes_13 : decode cX6_founderComes 13 = .ok (.bipush 20, 2) := by decide +kernel
theorem dX6_founderComes_15 : decode cX6_founderComes 15 = .ok (.if_icmp .lt 6, 3) := by decide +kernel
theorem dX6_founderComes_18 : decode cX6_founderComes 18 = .ok (.bipush (-3), 2) := by decide +kernel
theorem dX6_founderComes_20 : decode cX6_founderComes 20 = .ok (.ireturn, 1) := by decide +kernel
theorem dX6_founderComes_21 : decode cX6_founderComes 21 = .ok (.aload_n 0, 1) := by decide +kernel
theorem dX6_founderComes_22 : decode cX6_founderComes 22 = .ok (.iload_n 1, 1) := by decide +kernel
theorem dX6_founderComes_23 : decode cX6_founderComes 23 = .ok (.invokevirtual 54, 3) := by decide +kernel
theorem dX6_founderComes_26 : decode cX6_founderComes 26 = .ok (.iconst (-1), 1) := by decide +kernel
theorem dX6_founderComes_27 : decode cX6_founderComes 27 = .ok (.if_icmp .eq 9, 3) := by decide +kernel
theorem dX6_founderComes_30 : decode cX6_founderComes 30 = .ok (.aload_n 0, 1) := by decide +kernel
theorem dX6_founderComes_31 : decode cX6_founderComes 31 = .ok (.iconst 3, 1) := by decide +kernel
theorem dX6_founderComes_32 : decode cX6_founderComes 32 = .ok (.invokevirtual 57, 3) := by decide +kernel
theorem dX6_founderComes_35 : decode cX6_founderComes 35 = .ok (.ireturn, 1) := by decide +kernel
theorem dX6_founderComes_36 : decode cX6_founderComes 36 = .ok (.aload_n 0, 1) := by decide +kernel
theorem dX6_founderComes_37 : decode cX6_founderComes 37 = .ok (.iload_n 1, 1) := by decide +kernel
theorem dX6_founderComes_38 : decode cX6_founderComes 38 = .ok (.iconst (-1), 1) := by decide +kernel
theorem dX6_founderComes_39 : decode cX6_founderComes 39 = .ok (.iconst (-1), 1) := by decide +kernel
theorem dX6_founderComes_40 : decode cX6_founderComes 40 = .ok (.iconst (-1), 1) := by decide +kernel
theorem dX6_founderComes_41 : decode cX6_founderComes 41 = .ok (.invokevirtual 60, 3) := by decide +kernel
theorem dX6_founderComes_44 : decode cX6_founderComes 44 = .ok (.ireturn, 1) := by decide +kernel
theorem dX6_sonComes_0 : decode cX6_sonComes 0 = .ok (.aload_n 0, 1) := by decide +kernel
theorem dX6_sonComes_1 : decode cX6_sonComes 1 = .ok (.iload_n 1, 1) := by decide +kernel
theorem dX6_sonComes_2 : decode cX6_sonComes 2 = .ok (.invokevirtual 38, 3) := by decide +kernel
theorem dX6_sonComes_5 : decode cX6_sonComes 5 = .ok (.ifCond .eq 17, 3) := by decide +kernel
theorem dX6_sonComes_8 : decode cX6_sonComes 8 = .ok (.iload_n 2, 1) := by decide +kernel
theorem dX6_sonComes_9 : decode cX6_sonComes 9 = .ok (.invokestatic 64, 3) := by decide +kernel
theorem dX6_sonComes_12 : decode cX6_sonComes 12 = .ok (.ifCond .eq 10, 3) := by decide +kernel
theorem dX6_sonComes_15 : decode cX6_sonComes 15 = .ok (.iload_n 3, 1) := by decide +kernel
theorem dX6_sonComes_16 : decode cX6_sonComes 16 = .ok (.invokestatic 67, 3) := by decide +kernel
theorem dX6_sonComes_19 : decode cX6_sonComes 19 = .ok (.ifCond .ne 5, 3) := by decide +kernel
theorem dX6_sonComes_22 : decode cX6_sonComes 22 = .ok (.iconst (-1), 1) := by decide +kernel
theorem dX6_sonComes_23 : decode cX6_sonComes 23 = .ok (.ireturn, 1) := by decide +kernel
theorem dX6_sonComes_24 : decode cX6_sonComes 24 = .ok (.aload_n 0, 1) := by decide +kernel
theorem dX6_sonComes_25 : decode cX6_sonComes 25 = .ok (.getfield 28, 3) := by decide +kernel
theorem dX6_sonComes_28 : decode cX6_sonComes 28 = .ok (.bipush 20, 2) := by decide +kernel
theorem dX6_sonComes_30 : decode cX6_sonComes 30 = .ok (.if_icmp .lt 6, 3) := by decide +kernel
theorem dX6_sonComes_33 : decode cX6_sonComes 33 = .ok (.bipush (-3), 2) := by decide +kernel
theorem dX6_sonComes_35 : decode cX6_sonComes 35 = .ok (.ireturn, 1) := by decide +kernel
theorem dX6_sonComes_36 : decode cX6_sonComes 36 = .ok (.aload_n 0, 1) := by decide +kernel
theorem dX6_sonComes_37 : decode cX6_sonComes 37 = .ok (.iload_n 1, 1) := by decide +kernel
theorem dX6_sonComes_38 : decode cX6_sonComes 38 = .ok (.iload_n 2, 1) := by decide +kernel
theorem dX6_sonComes_39 : decode cX6_sonComes 39 = .ok (.iload_n 3, 1) := by decide +kernel
theorem dX6_sonComes_40 : decode cX6_sonComes 40 = .ok (.invokevirtual 70, 3) := by decide +kernel
theorem dX6_sonComes_43 : decode cX6_sonComes 43 = .ok (.istore 4, 2) := by decide +kernel
theorem dX6_sonComes_45 : decode cX6_sonComes 45 = .ok (.iload 4, 2) := by decide +kernel
theorem dX6_sonComes_47 : decode cX6_sonComes 47 = .ok (.ifCond .eq 10, 3) := by decide +kernel
theorem dX6_sonComes_50 : decode cX6_sonComes 50 = .ok (.aload_n 0, 1) := by decide +kernel
theorem dX6_sonComes_51 : decode cX6_sonComes 51 = .ok (.iload 4, 2) := by decide +kernel
theorem dX6_sonComes_53 : decode cX6_sonComes 53 = .ok (.invokevirtual 57, 3) := by decide +kernel
theorem dX6_sonComes_56 : decode cX6_sonComes 56 = .ok (.ireturn, 1) := by decide +kernel
theorem dX6_sonComes_57 : decode cX6_sonComes 57 = .ok (.aload_n 0, 1) := by decide +kernel
theorem dX6_sonComes_58 : decode cX6_sonComes 58 = .ok (.aload_n 0, 1) := by decide +kernel
theorem dX6_sonComes_59 : decode cX6_sonComes 59 = .ok (.iload_n 1, 1) := by decide +kernel
theorem dX6_sonComes_60 : decode cX6_sonComes 60 = .ok (.invokevirtual 74, 3) := by decide +kernel
theorem dX6_sonComes_63 : decode cX6_sonComes 63 = .ok (.iload_n 2, 1) := by decide +kernel
theorem dX6_sonComes_64 : decode cX6_sonComes 64 = .ok (.iload_n 3, 1) := by decide +kernel
theorem dX6_sonComes_65 : decode cX6_sonComes 65 = .ok (.invokestatic 77, 3) := by decide +kernel
theorem dX6_sonComes_68 : decode cX6_sonComes 68 = .ok (.iload_n 1, 1) := by decide +kernel
theorem dX6_sonComes_69 : decode cX6_sonComes 69 = .ok (.iload_n 2, 1) := by decide +kernel
theorem dX6_sonComes_70 : decode cX6_sonComes 70 = .ok (.iload_n 3, 1) := by decide +kernel
theorem dX6_sonComes_71 : decode cX6_sonComes 71 = .ok (.invokevirtual 60, 3) := by decide +kernel
theorem dX6_sonComes_74 : decode cX6_sonComes 74 = .ok (.ireturn, 1) := by decide +kernel
theorem dX6_goes_0 : decode cX6_goes 0 = .ok (.aload_n 0, 1) := by decide +kernel
theorem dX6_goes_1 : decode cX6_goes 1 = .ok (.iload_n 1, 1) := by decide +kernel
theorem dX6_goes_2 : decode cX6_goes 2 = .ok (.invokevirtual 38, 3) := by decide +kernel
theorem dX6_goes_5 : decode cX6_goes 5 = .ok (.ifCond .ne 5, 3) := by decide +kernel
theorem dX6_goes_8 : decode cX6_goes 8 = .ok (.iconst (-1), 1) := by decide +kernel
theorem dX6_goes_9 : decode cX6_goes 9 = .ok (.ireturn, 1) := by decide +kernel
theorem dX6_goes_10 : decode cX6_goes 10 = .ok (.aload_n 0, 1) := by decide +kernel
theorem dX6_goes_11 : decode cX6_goes 11 = .ok (.iload_n 1, 1) := by decide +kernel
theorem dX6_goes_12 : decode cX6_goes 12 = .ok (.invokevirtual 42, 3) := by decide +kernel
theorem dX6_goes_15 : decode cX6_goes 15 = .ok (.ifCond .ne 10, 3) := by decide +kernel
theorem dX6_goes_18 : decode cX6_goes 18 = .ok (.aload_n 0, 1) := by decide +kernel
theorem dX6_goes_19 : decode cX6_goes 19 = .ok (.bipush 6, 2) := by decide +kernel
theorem dX6_goes_21 : decode cX6_goes 21 = .ok (.invokevirtual 57, 3) := by decide +kernel
theorem dX6_goes_24 : decode cX6_goes 24 = .ok (.ireturn, 1) := by decide +kernel
theorem dX6_goes_25 : decode cX6_goes 25 = .ok (.aload_n 0, 1) := by decide +kernel
theorem dX6_goes_26 : decode cX6_goes 26 = .ok (.getfield 15, 3) := by decide +kernel
theorem dX6_goes_29 : decode cX6_goes 29 = .ok (.iload_n 1, 1) := by decide +kernel
theorem dX6_goes_30 : decode cX6_goes 30 = .ok (.iconst 0, 1) := by decide +kernel
theorem dX6_goes_31 : decode cX6_goes 31 = .ok (.bastore, 1) := by decide +kernel
theorem dX6_goes_32 : decode cX6_goes 32 = .ok (.bipush 10, 2) := by decide +kernel
theorem dX6_goes_34 : decode cX6_goes 34 = .ok (.aload_n 0, 1) := by decide +kernel
theorem dX6_goes_35 : decode cX6_goes 35 = .ok (.invokevirtual 80, 3) := by decide +kernel
theorem dX6_goes_38 : decode cX6_goes 38 = .ok (.iadd, 1) := by decide +kernel
theorem dX6_goes_39 : decode cX6_goes 39 = .ok (.ireturn, 1) := by decide +kernel
theorem dX6_becomesHeir_0 : decode cX6_becomesHeir 0 = .ok (.aload_n 0, 1) := by decide +kernel
theorem dX6_becomesHeir_1 : decode cX6_becomesHeir 1 = .ok (.iload_n 1, 1) := by decide +kernel
theorem dX6_becomesHeir_2 : decode cX6_becomesHeir 2 = .ok (.invokevirtual 38, 3) := by decide +kernel
theorem dX6_becomesHeir_5 : decode cX6_becomesHeir 5 = .ok (.ifCond .ne 5, 3) := by decide +kernel
theorem dX6_becomesHeir_8 : decode cX6_becomesHeir 8 = .ok (.iconst (-1), 1) := by decide +kernel
theorem dX6_becomesHeir_9 : decode cX6_becomesHeir 9 = .ok (.ireturn, 1) := by decide +kernel
theorem dX6_becomesHeir_10 : decode cX6_becomesHeir 10 = .ok (.aload_n 0, 1) := by decide +kernel
theorem dX6_becomesHeir_11 : decode cX6_becomesHeir 11 = .ok (.iload_n 1, 1) := by decide +kernel
theorem dX6_becomesHeir_12 : decode cX6_becomesHeir 12 = .ok (.invokevirtual 42, 3) := by decide +kernel
theorem dX6_becomesHeir_15 : decode cX6_becomesHeir 15 = .ok (.ifCond .ne 6, 3) := by decide +kernel
theorem dX6_becomesHeir_18 : decode cX6_becomesHeir 18 = .ok (.bipush (-2), 2) := by decide +kernel
theorem dX6_becomesHeir_20 : decode cX6_becomesHeir 20 = .ok (.ireturn, 1) := by decide +kernel
theorem dX6_becomesHeir_21 : decode cX6_becomesHeir 21 = .ok (.aload_n 0, 1) := by decide +kernel
theorem dX6_becomesHeir_22 : decode cX6_becomesHeir 22 = .ok (.iload_n 1, 1) := by decide +kernel
theorem dX6_becomesHeir_23 : decode cX6_becomesHeir 23 = .ok (.invokevirtual 84, 3) := by decide +kernel
theorem dX6_becomesHeir_26 : decode cX6_becomesHeir 26 = .ok (.istore_n 2, 1) := by decide +kernel
theorem dX6_becomesHeir_27 : decode cX6_becomesHeir 27 = .ok (.iload_n 2, 1) := by decide +kernel
theorem dX6_becomesHeir_28 : decode cX6_becomesHeir 28 = .ok (.ifCond .eq 9, 3) := by decide +kernel
theorem dX6_becomesHeir_31 : decode cX6_becomesHeir 31 = .ok (.aload_n 0, 1) := by decide +kernel
theorem dX6_becomesHeir_32 : decode cX6_becomesHeir 32 = .ok (.iload_n 2, 1) := by decide +kernel
theorem dX6_becomesHeir_33 : decode cX6_becomesHeir 33 = .ok (.invokevirtual 57, 3) := by decide +kernel
theorem dX6_becomesHeir_36 : decode cX6_becomesHeir 36 = .ok (.ireturn, 1) := by decide +kernel
theorem dX6_becomesHeir_37 : decode cX6_becomesHeir 37 = .ok (.aload_n 0, 1) := by decide +kernel
theorem dX6_becomesHeir_38 : decode cX6_becomesHeir 38 = .ok (.iload_n 1, 1) := by decide +kernel
theorem dX6_becomesHeir_39 : decode cX6_becomesHeir 39 = .ok (.invokevirtual 74, 3) := by decide +kernel
theorem dX6_becomesHeir_42 : decode cX6_becomesHeir 42 = .ok (.istore_n 3, 1) := by decide +kernel
theorem dX6_becomesHeir_43 : decode cX6_becomesHeir 43 = .ok (.aload_n 0, 1) := by decide +kernel
theorem dX6_becomesHeir_44 : decode cX6_becomesHeir 44 = .ok (.getfield 9, 3) := by decide +kernel
theorem dX6_becomesHeir_47 : decode cX6_becomesHeir 47 = .ok (.iload_n 1, 1) := by decide +kernel
theorem dX6_becomesHeir_48 : decode cX6_becomesHeir 48 = .ok (.aload_n 0, 1) := by decide +kernel
theorem dX6_becomesHeir_49 : decode cX6_becomesHeir 49 = .ok (.aload_n 0, 1) := by decide +kernel
theorem dX6_becomesHeir_50 : decode cX6_becomesHeir 50 = .ok (.iload_n 1, 1) := by decide +kernel
theorem dX6_becomesHeir_51 : decode cX6_becomesHeir 51 = .ok (.invokevirtual 45, 3) := by decide +kernel
theorem dX6_becomesHeir_54 : decode cX6_becomesHeir 54 = .ok (.invokevirtual 74, 3) := by decide +kernel
theorem dX6_becomesHeir_57 : decode cX6_becomesHeir 57 = .ok (.iastore, 1) := by decide +kernel
theorem dX6_becomesHeir_58 : decode cX6_becomesHeir 58 = .ok (.aload_n 0, 1) := by decide +kernel
theorem dX6_becomesHeir_59 : decode cX6_becomesHeir 59 = .ok (.dup, 1) := by decide +kernel
theorem dX6_becomesHeir_60 : decode cX6_becomesHeir 60 = .ok (.getfield 32, 3) := by decide +kernel
theorem dX6_becomesHeir_63 : decode cX6_becomesHeir 63 = .ok (.iconst 1, 1) := by decide +kernel
theorem dX6_becomesHeir_64 : decode cX6_becomesHeir 64 = .ok (.iadd, 1) := by decide +kernel
theorem dX6_becomesHeir_65 : decode cX6_becomesHeir 65 = .ok (.putfield 32, 3) := by decide +kernel
theorem dX6_becomesHeir_68 : decode cX6_becomesHeir 68 = .ok (.bipush 10, 2) := by decide +kernel
theorem dX6_becomesHeir_70 : decode cX6_becomesHeir 70 = .ok (.iload_n 3, 1) := by decide +kernel
theorem dX6_becomesHeir_71 : decode cX6_becomesHeir 71 = .ok (.aload_n 0, 1) := by decide +kernel
theorem dX6_becomesHeir_72 : decode cX6_becomesHeir 72 = .ok (.iload_n 1, 1) := by decide +kernel
theorem dX6_becomesHeir_73 : decode cX6_becomesHeir 73 = .ok (.invokevirtual 74, 3) := by decide +kernel
theorem dX6_becomesHeir_76 : decode cX6_becomesHeir 76 = .ok (.invokestatic 87, 3) := by decide +kernel
theorem dX6_becomesHeir_79 : decode cX6_becomesHeir 79 = .ok (.iadd, 1) := by decide +kernel
theorem dX6_becomesHeir_80 : decode cX6_becomesHeir 80 = .ok (.ireturn, 1) := by decide +kernel
theorem dX6_refuse_0 : decode cX6_refuse 0 = .ok (.aload_n 0, 1) := by decide +kernel
theorem dX6_refuse_1 : decode cX6_refuse 1 = .ok (.dup, 1) := by decide +kernel
theorem dX6_refuse_2 : decode cX6_refuse 2 = .ok (.getfield 35, 3) := by decide +kernel
theorem dX6_refuse_5 : decode cX6_refuse 5 = .ok (.iconst 1, 1) := by decide +kernel
theorem dX6_refuse_6 : decode cX6_refuse 6 = .ok (.iadd, 1) := by decide +kernel
theorem dX6_refuse_7 : decode cX6_refuse 7 = .ok (.putfield 35, 3) := by decide +kernel
theorem dX6_refuse_10 : decode cX6_refuse 10 = .ok (.iload_n 1, 1) := by decide +kernel
theorem dX6_refuse_11 : decode cX6_refuse 11 = .ok (.ireturn, 1) := by decide +kernel
theorem dX6_add_0 : decode cX6_add 0 = .ok (.aload_n 0, 1) := by decide +kernel
theorem dX6_add_1 : decode cX6_add 1 = .ok (.getfield 28, 3) := by decide +kernel
theorem dX6_add_4 : decode cX6_add 4 = .ok (.istore 5, 2) := by decide +kernel
theorem dX6_add_6 : decode cX6_add 6 = .ok (.iload 5, 2) := by decide +kernel
theorem dX6_add_8 : decode cX6_add 8 = .ok (.bipush 20, 2) := by decide +kernel
theorem dX6_add_10 : decode cX6_add 10 = .ok (.if_icmp .lt 6, 3) := by decide +kernel
theorem dX6_add_13 : decode cX6_add 13 = .ok (.bipush (-3), 2) := by decide +kernel
theorem dX6_add_15 : decode cX6_add 15 = .ok (.ireturn, 1) := by decide +kernel
theorem dX6_add_16 : decode cX6_add 16 = .ok (.aload_n 0, 1) := by decide +kernel
theorem dX6_add_17 : decode cX6_add 17 = .ok (.getfield 9, 3) := by decide +kernel
theorem dX6_add_20 : decode cX6_add 20 = .ok (.iload 5, 2) := by decide +kernel
theorem dX6_add_22 : decode cX6_add 22 = .ok (.iload_n 1, 1) := by decide +kernel
theorem dX6_add_23 : decode cX6_add 23 = .ok (.iastore, 1) := by decide +kernel
theorem dX6_add_24 : decode cX6_add 24 = .ok (.aload_n 0, 1) := by decide +kernel
theorem dX6_add_25 : decode cX6_add 25 = .ok (.getfield 15, 3) := by decide +kernel
theorem dX6_add_28 : decode cX6_add 28 = .ok (.iload 5, 2) := by decide +kernel
theorem dX6_add_30 : decode cX6_add 30 = .ok (.iconst 1, 1) := by decide +kernel
theorem dX6_add_31 : decode cX6_add 31 = .ok (.bastore, 1) := by decide +kernel
theorem dX6_add_32 : decode cX6_add 32 = .ok (.aload_n 0, 1) := by decide +kernel
theorem dX6_add_33 : decode cX6_add 33 = .ok (.getfield 19, 3) := by decide +kernel
theorem dX6_add_36 : decode cX6_add 36 = .ok (.iload 5, 2) := by decide +kernel
theorem dX6_add_38 : decode cX6_add 38 = .ok (.iload_n 2, 1) := by decide +kernel
theorem dX6_add_39 : decode cX6_add 39 = .ok (.iastore, 1) := by decide +kernel
theorem dX6_add_40 : decode cX6_add 40 = .ok (.aload_n 0, 1) := by decide +kernel
theorem dX6_add_41 : decode cX6_add 41 = .ok (.getfield 22, 3) := by decide +kernel
theorem dX6_add_44 : decode cX6_add 44 = .ok (.iload 5, 2) := by decide +kernel
theorem dX6_add_46 : decode cX6_add 46 = .ok (.iload_n 3, 1) := by decide +kernel
theorem dX6_add_47 : decode cX6_add 47 = .ok (.iastore, 1) := by decide +kernel
theorem dX6_add_48 : decode cX6_add 48 = .ok (.aload_n 0, 1) := by decide +kernel
theorem dX6_add_49 : decode cX6_add 49 = .ok (.getfield 25, 3) := by decide +kernel
theorem dX6_add_52 : decode cX6_add 52 = .ok (.iload 5, 2) := by decide +kernel
theorem dX6_add_54 : decode cX6_add 54 = .ok (.iload 4, 2) := by decide +kernel
theorem dX6_add_56 : decode cX6_add 56 = .ok (.iastore, 1) := by decide +kernel
theorem dX6_add_57 : decode cX6_add 57 = .ok (.aload_n 0, 1) := by decide +kernel
theorem dX6_add_58 : decode cX6_add 58 = .ok (.dup, 1) := by decide +kernel
theorem dX6_add_59 : decode cX6_add 59 = .ok (.getfield 28, 3) := by decide +kernel
theorem dX6_add_62 : decode cX6_add 62 = .ok (.iconst 1, 1) := by decide +kernel
theorem dX6_add_63 : decode cX6_add 63 = .ok (.iadd, 1) := by decide +kernel
theorem dX6_add_64 : decode cX6_add 64 = .ok (.putfield 28, 3) := by decide +kernel
theorem dX6_add_67 : decode cX6_add 67 = .ok (.bipush 10, 2) := by decide +kernel
theorem dX6_add_69 : decode cX6_add 69 = .ok (.iload 5, 2) := by decide +kernel
theorem dX6_add_71 : decode cX6_add 71 = .ok (.iadd, 1) := by decide +kernel
theorem dX6_add_72 : decode cX6_add 72 = .ok (.ireturn, 1) := by decide +kernel
theorem dX6_reasonAgainstSon_0 : decode cX6_reasonAgainstSon 0 = .ok (.aload_n 0, 1) := by decide +kernel
theorem dX6_reasonAgainstSon_1 : decode cX6_reasonAgainstSon 1 = .ok (.iload_n 1, 1) := by decide +kernel
theorem dX6_reasonAgainstSon_2 : decode cX6_reasonAgainstSon 2 = .ok (.invokevirtual 42, 3) := by decide +kernel
theorem dX6_reasonAgainstSon_5 : decode cX6_reasonAgainstSon 5 = .ok (.ifCond .ne 5, 3) := by decide +kernel
theorem dX6_reasonAgainstSon_8 : decode cX6_reasonAgainstSon 8 = .ok (.iconst 1, 1) := by decide +kernel
theorem dX6_reasonAgainstSon_9 : decode cX6_reasonAgainstSon 9 = .ok (.ireturn, 1) := by decide +kernel
theorem dX6_reasonAgainstSon_10 : decode cX6_reasonAgainstSon 10 = .ok (.aload_n 0, 1) := by decide +kernel
theorem dX6_reasonAgainstSon_11 : decode cX6_reasonAgainstSon 11 = .ok (.iload_n 1, 1) := by decide +kernel
theorem dX6_reasonAgainstSon_12 : decode cX6_reasonAgainstSon 12 = .ok (.invokevirtual 74, 3) := by decide +kernel
theorem dX6_reasonAgainstSon_15 : decode cX6_reasonAgainstSon 15 = .ok (.iload_n 2, 1) := by decide +kernel
theorem dX6_reasonAgainstSon_16 : decode cX6_reasonAgainstSon 16 = .ok (.invokestatic 91, 3) := by decide +kernel
theorem dX6_reasonAgainstSon_19 : decode cX6_reasonAgainstSon 19 = .ok (.iload_n 3, 1) := by decide +kernel
theorem dX6_reasonAgainstSon_20 : decode cX6_reasonAgainstSon 20 = .ok (.if_icmp .ne 5, 3) := by decide +kernel
theorem dX6_reasonAgainstSon_23 : decode cX6_reasonAgainstSon 23 = .ok (.iconst 2, 1) := by decide +kernel
theorem dX6_reasonAgainstSon_24 : decode cX6_reasonAgainstSon 24 = .ok (.ireturn, 1) := by decide +kernel
theorem dX6_reasonAgainstSon_25 : decode cX6_reasonAgainstSon 25 = .ok (.aload_n 0, 1) := by decide +kernel
theorem dX6_reasonAgainstSon_26 : decode cX6_reasonAgainstSon 26 = .ok (.aload_n 0, 1) := by decide +kernel
theorem dX6_reasonAgainstSon_27 : decode cX6_reasonAgainstSon 27 = .ok (.iload_n 1, 1) := by decide +kernel
theorem dX6_reasonAgainstSon_28 : decode cX6_reasonAgainstSon 28 = .ok (.invokevirtual 74, 3) := by decide +kernel
theorem dX6_reasonAgainstSon_31 : decode cX6_reasonAgainstSon 31 = .ok (.iload_n 2, 1) := by decide +kernel
theorem dX6_reasonAgainstSon_32 : decode cX6_reasonAgainstSon 32 = .ok (.iload_n 3, 1) := by decide +kernel
theorem dX6_reasonAgainstSon_33 : decode cX6_reasonAgainstSon 33 = .ok (.invokestatic 77, 3) := by decide +kernel
theorem dX6_reasonAgainstSon_36 : decode cX6_reasonAgainstSon 36 = .ok (.invokevirtual 54, 3) := by decide +kernel
theorem dX6_reasonAgainstSon_39 : decode cX6_reasonAgainstSon 39 = .ok (.iconst (-1), 1) := by decide +kernel
theorem dX6_reasonAgainstSon_40 : decode cX6_reasonAgainstSon 40 = .ok (.if_icmp .eq 5, 3) := by decide +kernel
theorem dX6_reasonAgainstSon_43 : decode cX6_reasonAgainstSon 43 = .ok (.iconst 3, 1) := by decide +kernel
theorem dX6_reasonAgainstSon_44 : decode cX6_reasonAgainstSon 44 = .ok (.ireturn, 1) := by decide +kernel
theorem dX6_reasonAgainstSon_45 : decode cX6_reasonAgainstSon 45 = .ok (.aload_n 0, 1) := by decide +kernel
theorem dX6_reasonAgainstSon_46 : decode cX6_reasonAgainstSon 46 = .ok (.iload_n 1, 1) := by decide +kernel
theorem dX6_reasonAgainstSon_47 : decode cX6_reasonAgainstSon 47 = .ok (.iload_n 2, 1) := by decide +kernel
theorem dX6_reasonAgainstSon_48 : decode cX6_reasonAgainstSon 48 = .ok (.invokevirtual 94, 3) := by decide +kernel
theorem dX6_reasonAgainstSon_51 : decode cX6_reasonAgainstSon 51 = .ok (.ifCond .eq 5, 3) := by decide +kernel
theorem dX6_reasonAgainstSon_54 : decode cX6_reasonAgainstSon 54 = .ok (.iconst 4, 1) := by decide +kernel
theorem dX6_reasonAgainstSon_55 : decode cX6_reasonAgainstSon 55 = .ok (.ireturn, 1) := by decide +kernel
theorem dX6_reasonAgainstSon_56 : decode cX6_reasonAgainstSon 56 = .ok (.aload_n 0, 1) := by decide +kernel
theorem dX6_reasonAgainstSon_57 : decode cX6_reasonAgainstSon 57 = .ok (.iload_n 1, 1) := by decide +kernel
theorem dX6_reasonAgainstSon_58 : decode cX6_reasonAgainstSon 58 = .ok (.invokevirtual 98, 3) := by decide +kernel
theorem dX6_reasonAgainstSon_61 : decode cX6_reasonAgainstSon 61 = .ok (.iconst 4, 1) := by decide +kernel
theorem dX6_reasonAgainstSon_62 : decode cX6_reasonAgainstSon 62 = .ok (.if_icmp .lt 7, 3) := by decide +kernel
theorem dX6_reasonAgainstSon_65 : decode cX6_reasonAgainstSon 65 = .ok (.iconst 5, 1) := by decide +kernel
theorem dX6_reasonAgainstSon_66 : decode cX6_reasonAgainstSon 66 = .ok (.goto 4, 3) := by decide +kernel
theorem dX6_reasonAgainstSon_69 : decode cX6_reasonAgainstSon 69 = .ok (.iconst 0, 1) := by decide +kernel
theorem dX6_reasonAgainstSon_70 : decode cX6_reasonAgainstSon 70 = .ok (.ireturn, 1) := by decide +kernel
theorem dX6_cousinChanged_0 : decode cX6_cousinChanged 0 = .ok (.iconst 0, 1) := by decide +kernel
theorem dX6_cousinChanged_1 : decode cX6_cousinChanged 1 = .ok (.istore_n 3, 1) := by decide +kernel
theorem dX6_cousinChanged_2 : decode cX6_cousinChanged 2 = .ok (.iload_n 3, 1) := by decide +kernel
theorem dX6_cousinChanged_3 : decode cX6_cousinChanged 3 = .ok (.aload_n 0, 1) := by decide +kernel
theorem dX6_cousinChanged_4 : decode cX6_cousinChanged 4 = .ok (.getfield 28, 3) := by decide +kernel
theorem dX6_cousinChanged_7 : decode cX6_cousinChanged 7 = .ok (.if_icmp .ge 41, 3) := by decide +kernel
theorem dX6_cousinChanged_10 : decode cX6_cousinChanged 10 = .ok (.aload_n 0, 1) := by decide +kernel
theorem dX6_cousinChanged_11 : decode cX6_cousinChanged 11 = .ok (.iload_n 3, 1) := by decide +kernel
theorem dX6_cousinChanged_12 : decode cX6_cousinChanged 12 = .ok (.invokevirtual 42, 3) := by decide +kernel
theorem dX6_cousinChanged_15 : decode cX6_cousinChanged 15 = .ok (.ifCond .eq 27, 3) := by decide +kernel
theorem dX6_cousinChanged_18 : decode cX6_cousinChanged 18 = .ok (.aload_n 0, 1) := by decide +kernel
theorem dX6_cousinChanged_19 : decode cX6_cousinChanged 19 = .ok (.iload_n 3, 1) := by decide +kernel
theorem dX6_cousinChanged_20 : decode cX6_cousinChanged 20 = .ok (.invokevirtual 101, 3) := by decide +kernel
theorem dX6_cousinChanged_23 : decode cX6_cousinChanged 23 = .ok (.iload_n 2, 1) := by decide +kernel
theorem dX6_cousinChanged_24 : decode cX6_cousinChanged 24 = .ok (.if_icmp .ne 18, 3) := by decide +kernel
theorem dX6_cousinChanged_27 : decode cX6_cousinChanged 27 = .ok (.aload_n 0, 1) := by decide +kernel
theorem dX6_cousinChanged_28 : decode cX6_cousinChanged 28 = .ok (.aload_n 0, 1) := by decide +kernel
theorem dX6_cousinChanged_29 : decode cX6_cousinChanged 29 = .ok (.iload_n 3, 1) := by decide +kernel
theorem dX6_cousinChanged_30 : decode cX6_cousinChanged 30 = .ok (.invokevirtual 45, 3) := by decide +kernel
theorem dX6_cousinChanged_33 : decode cX6_cousinChanged 33 = .ok (.iload_n 1, 1) := by decide +kernel
theorem dX6_cousinChanged_34 : decode cX6_cousinChanged 34 = .ok (.invokevirtual 104, 3) := by decide +kernel
theorem dX6_cousinChanged_37 : decode cX6_cousinChanged 37 = .ok (.ifCond .eq 5, 3) := by decide +kernel
theorem dX6_cousinChanged_40 : decode cX6_cousinChanged 40 = .ok (.iconst 1, 1) := by decide +kernel
theorem dX6_cousinChanged_41 : decode cX6_cousinChanged 41 = .ok (.ireturn, 1) := by decide +kernel
theorem dX6_cousinChanged_42 : decode cX6_cousinChanged 42 = .ok (.iinc 3 1, 3) := by decide +kernel
theorem dX6_cousinChanged_45 : decode cX6_cousinChanged 45 = .ok (.goto (-43), 3) := by decide +kernel
theorem dX6_cousinChanged_48 : decode cX6_cousinChanged 48 = .ok (.iconst 0, 1) := by decide +kernel
theorem dX6_cousinChanged_49 : decode cX6_cousinChanged 49 = .ok (.ireturn, 1) := by decide +kernel
theorem dX6_reasonAgainstHeir_0 : decode cX6_reasonAgainstHeir 0 = .ok (.aload_n 0, 1) := by decide +kernel
theorem dX6_reasonAgainstHeir_1 : decode cX6_reasonAgainstHeir 1 = .ok (.iload_n 1, 1) := by decide +kernel
theorem dX6_reasonAgainstHeir_2 : decode cX6_reasonAgainstHeir 2 = .ok (.invokevirtual 45, 3) := by decide +kernel
theorem dX6_reasonAgainstHeir_5 : decode cX6_reasonAgainstHeir 5 = .ok (.istore_n 2, 1) := by decide +kernel
theorem dX6_reasonAgainstHeir_6 : decode cX6_reasonAgainstHeir 6 = .ok (.iload_n 2, 1) := by decide +kernel
theorem dX6_reasonAgainstHeir_7 : decode cX6_reasonAgainstHeir 7 = .ok (.iconst (-1), 1) := by decide +kernel
theorem dX6_reasonAgainstHeir_8 : decode cX6_reasonAgainstHeir 8 = .ok (.if_icmp .eq 11, 3) := by decide +kernel
theorem dX6_reasonAgainstHeir_11 : decode cX6_reasonAgainstHeir 11 = .ok (.aload_n 0, 1) := by decide +kernel
theorem dX6_reasonAgainstHeir_12 : decode cX6_reasonAgainstHeir 12 = .ok (.iload_n 2, 1) := by decide +kernel
theorem dX6_reasonAgainstHeir_13 : decode cX6_reasonAgainstHeir 13 = .ok (.invokevirtual 42, 3) := by decide +kernel
theorem dX6_reasonAgainstHeir_16 : decode cX6_reasonAgainstHeir 16 = .ok (.ifCond .eq 6, 3) := by decide +kernel
theorem dX6_reasonAgainstHeir_19 : decode cX6_reasonAgainstHeir 19 = .ok (.bipush 7, 2) := by decide +kernel
theorem dX6_reasonAgainstHeir_21 : decode cX6_reasonAgainstHeir 21 = .ok (.ireturn, 1) := by decide +kernel
theorem dX6_reasonAgainstHeir_22 : decode cX6_reasonAgainstHeir 22 = .ok (.iconst 0, 1) := by decide +kernel
theorem dX6_reasonAgainstHeir_23 : decode cX6_reasonAgainstHeir 23 = .ok (.istore_n 3, 1) := by decide +kernel
theorem dX6_reasonAgainstHeir_24 : decode cX6_reasonAgainstHeir 24 = .ok (.iload_n 3, 1) := by decide +kernel
theorem dX6_reasonAgainstHeir_25 : decode cX6_reasonAgainstHeir 25 = .ok (.iload_n 1, 1) := by decide +kernel
theorem dX6_reasonAgainstHeir_26 : decode cX6_reasonAgainstHeir 26 = .ok (.if_icmp .ge 29, 3) := by decide +kernel
theorem dX6_reasonAgainstHeir_29 : decode cX6_reasonAgainstHeir 29 = .ok (.aload_n 0, 1) := by decide +kernel
theorem dX6_reasonAgainstHeir_30 : decode cX6_reasonAgainstHeir 30 = .ok (.iload_n 3, 1) := by decide +kernel
theorem dX6_reasonAgainstHeir_31 : decode cX6_reasonAgainstHeir 31 = .ok (.invokevirtual 42, 3) := by decide +kernel
theorem dX6_reasonAgainstHeir_34 : decode cX6_reasonAgainstHeir 34 = .ok (.ifCond .eq 15, 3) := by decide +kernel
theorem dX6_reasonAgainstHeir_37 : decode cX6_reasonAgainstHeir 37 = .ok (.aload_n 0, 1) := by decide +kernel
theorem dX6_reasonAgainstHeir_38 : decode cX6_reasonAgainstHeir 38 = .ok (.iload_n 3, 1) := by decide +kernel
theorem dX6_reasonAgainstHeir_39 : decode cX6_reasonAgainstHeir 39 = .ok (.iload_n 1, 1) := by decide +kernel
theorem dX6_reasonAgainstHeir_40 : decode cX6_reasonAgainstHeir 40 = .ok (.invokevirtual 104, 3) := by decide +kernel
theorem dX6_reasonAgainstHeir_43 : decode cX6_reasonAgainstHeir 43 = .ok (.ifCond .eq 6, 3) := by decide +kernel
theorem dX6_reasonAgainstHeir_46 : decode cX6_reasonAgainstHeir 46 = .ok (.bipush 8, 2) := by decide +kernel
theorem dX6_reasonAgainstHeir_48 : decode cX6_reasonAgainstHeir 48 = .ok (.ireturn, 1) := by decide +kernel
theorem dX6_reasonAgainstHeir_49 : decode cX6_reasonAgainstHeir 49 = .ok (.iinc 3 1, 3) := by decide +kernel
theorem dX6_reasonAgainstHeir_52 : decode cX6_reasonAgainstHeir 52 = .ok (.goto (-28), 3) := by decide +kernel
theorem dX6_reasonAgainstHeir_55 : decode cX6_reasonAgainstHeir 55 = .ok (.aload_n 0, 1) := by decide +kernel
theorem dX6_reasonAgainstHeir_56 : decode cX6_reasonAgainstHeir 56 = .ok (.aload_n 0, 1) := by decide +kernel
theorem dX6_reasonAgainstHeir_57 : decode cX6_reasonAgainstHeir 57 = .ok (.iload_n 2, 1) := by decide +kernel
theorem dX6_reasonAgainstHeir_58 : decode cX6_reasonAgainstHeir 58 = .ok (.invokevirtual 74, 3) := by decide +kernel
theorem dX6_reasonAgainstHeir_61 : decode cX6_reasonAgainstHeir 61 = .ok (.invokevirtual 54, 3) := by decide +kernel
theorem dX6_reasonAgainstHeir_64 : decode cX6_reasonAgainstHeir 64 = .ok (.iconst (-1), 1) := by decide +kernel
theorem dX6_reasonAgainstHeir_65 : decode cX6_reasonAgainstHeir 65 = .ok (.if_icmp .eq 7, 3) := by decide +kernel
theorem dX6_reasonAgainstHeir_68 : decode cX6_reasonAgainstHeir 68 = .ok (.iconst 3, 1) := by decide +kernel
theorem dX6_reasonAgainstHeir_69 : decode cX6_reasonAgainstHeir 69 = .ok (.goto 4, 3) := by decide +kernel
theorem dX6_reasonAgainstHeir_72 : decode cX6_reasonAgainstHeir 72 = .ok (.iconst 0, 1) := by decide +kernel
theorem dX6_reasonAgainstHeir_73 : decode cX6_reasonAgainstHeir 73 = .ok (.ireturn, 1) := by decide +kernel
theorem dX7_init_0 : decode cX7_init 0 = .ok (.aload_n 0, 1) := by decide +kernel
theorem dX7_init_1 : decode cX7_init 1 = .ok (.invokespecial 3, 3) := by decide +kernel
theorem dX7_init_4 : decode cX7_init 4 = .ok (.aload_n 0, 1) := by decide +kernel
theorem dX7_init_5 : decode cX7_init 5 = .ok (.sipush 245, 3) := by decide +kernel
theorem dX7_init_8 : decode cX7_init 8 = .ok (.newarray .long, 2) := by decide +kernel
theorem dX7_init_10 : decode cX7_init 10 = .ok (.putfield 11, 3) := by decide +kernel
theorem dX7_init_13 : decode cX7_init 13 = .ok (.return_, 1) := by decide +kernel
theorem dX7_has_0 : decode cX7_has 0 = .ok (.iload_n 1, 1) := by decide +kernel
theorem dX7_has_1 : decode cX7_has 1 = .ok (.invokestatic 15, 3) := by decide +kernel
theorem dX7_has_4 : decode cX7_has 4 = .ok (.ifCond .eq 28, 3) := by decide +kernel
theorem dX7_has_7 : decode cX7_has 7 = .ok (.aload_n 0, 1) := by decide +kernel
theorem dX7_has_8 : decode cX7_has 8 = .ok (.getfield 11, 3) := by decide +kernel
theorem dX7_has_11 : decode cX7_has 11 = .ok (.iload_n 1, 1) := by decide +kernel
theorem dX7_has_12 : decode cX7_has 12 = .ok (.bipush 6, 2) := by decide +kernel
theorem dX7_has_14 : decode cX7_has 14 = .ok (.ishr, 1) := by decide +kernel
theorem dX7_has_15 : decode cX7_has 15 = .ok (.laload, 1) := by decide +kernel
theorem dX7_has_16 : decode cX7_has 16 = .ok (.iload_n 1, 1) := by decide +kernel
theorem dX7_has_17 : decode cX7_has 17 = .ok (.bipush 63, 2) := by decide +kernel
theorem dX7_has_19 : decode cX7_has 19 = .ok (.iand, 1) := by decide +kernel
theorem dX7_has_20 : decode cX7_has 20 = .ok (.lushr, 1) := by decide +kernel
theorem dX7_has_21 : decode cX7_has 21 = .ok (.lconst 1, 1) := by decide +kernel
theorem dX7_has_22 : decode cX7_has 22 = .ok (.land, 1) := by decide +kernel
theorem dX7_has_23 : decode cX7_has 23 = .ok (.lconst 0, 1) := by decide +kernel
theorem dX7_has_24 : decode cX7_has 24 = .ok (.lcmp, 1) := by decide +kernel
theorem dX7_has_25 : decode cX7_has 25 = .ok (.ifCond .eq 7, 3) := by decide +kernel
theorem dX7_has_28 : decode cX7_has 28 = .ok (.iconst 1, 1) := by decide +kernel
theorem dX7_has_29 : decode cX7_has 29 = .ok (.goto 4, 3) := by decide +kernel
theorem dX7_has_32 : decode cX7_has 32 = .ok (.iconst 0, 1) := by decide +kernel
theorem dX7_has_33 : decode cX7_has 33 = .ok (.ireturn, 1) := by decide +kernel
theorem dX7_add_0 : decode cX7_add 0 = .ok (.iload_n 1, 1) := by decide +kernel
theorem dX7_add_1 : decode cX7_add 1 = .ok (.invokestatic 15, 3) := by decide +kernel
theorem dX7_add_4 : decode cX7_add 4 = .ok (.ifCond .eq 21, 3) := by decide +kernel
theorem dX7_add_7 : decode cX7_add 7 = .ok (.aload_n 0, 1) := by decide +kernel
theorem dX7_add_8 : decode cX7_add 8 = .ok (.getfield 11, 3) := by decide +kernel
theorem dX7_add_11 : decode cX7_add 11 = .ok (.iload_n 1, 1) := by decide +kernel
theorem dX7_add_12 : decode cX7_add 12 = .ok (.bipush 6, 2) := by decide +kernel
theorem dX7_add_14 : decode cX7_add 14 = .ok (.ishr, 1) := by decide +kernel
theorem dX7_add_15 : decode cX7_add 15 = .ok (.dup2, 1) := by decide +kernel
theorem dX7_add_16 : decode cX7_add 16 = .ok (.laload, 1) := by decide +kernel
theorem dX7_add_17 : decode cX7_add 17 = .ok (.lconst 1, 1) := by decide +kernel
theorem dX7_add_18 : decode cX7_add 18 = .ok (.iload_n 1, 1) := by decide +kernel
theorem dX7_add_19 : decode cX7_add 19 = .ok (.bipush 63, 2) := by decide +kernel
theorem dX7_add_21 : decode cX7_add 21 = .ok (.iand, 1) := by decide +kernel
theorem dX7_add_22 : decode cX7_add 22 = .ok (.lshl, 1) := by decide +kernel
theorem dX7_add_23 : decode cX7_add 23 = .ok (.lor, 1) := by decide +kernel
theorem dX7_add_24 : decode cX7_add 24 = .ok (.lastore, 1) := by decide +kernel
theorem dX7_add_25 : decode cX7_add 25 = .ok (.return_, 1) := by decide +kernel
theorem dX7_empty_0 : decode cX7_empty 0 = .ok (.iconst 0, 1) := by decide +kernel
theorem dX7_empty_1 : decode cX7_empty 1 = .ok (.istore_n 1, 1) := by decide +kernel
theorem dX7_empty_2 : decode cX7_empty 2 = .ok (.iload_n 1, 1) := by decide +kernel
theorem dX7_empty_3 : decode cX7_empty 3 = .ok (.sipush 245, 3) := by decide +kernel
theorem dX7_empty_6 : decode cX7_empty 6 = .ok (.if_icmp .ge 16, 3) := by decide +kernel
theorem dX7_empty_9 : decode cX7_empty 9 = .ok (.aload_n 0, 1) := by decide +kernel
theorem dX7_empty_10 : decode cX7_empty 10 = .ok (.getfield 11, 3) := by decide +kernel
theorem dX7_empty_13 : decode cX7_empty 13 = .ok (.iload_n 1, 1) := by decide +kernel
theorem dX7_empty_14 : decode cX7_empty 14 = .ok (.lconst 0, 1) := by decide +kernel
theorem dX7_empty_15 : decode cX7_empty 15 = .ok (.lastore, 1) := by decide +kernel
theorem dX7_empty_16 : decode cX7_empty 16 = .ok (.iinc 1 1, 3) := by decide +kernel
theorem dX7_empty_19 : decode cX7_empty 19 = .ok (.goto (-17), 3) := by decide +kernel
theorem dX7_empty_22 : decode cX7_empty 22 = .ok (.return_, 1) := by decide +kernel
theorem dX7_isWordEmpty_0 : decode cX7_isWordEmpty 0 = .ok (.iload_n 1, 1) := by decide +kernel
theorem dX7_isWordEmpty_1 : decode cX7_isWordEmpty 1 = .ok (.ifCond .lt 21, 3) := by decide +kernel
theorem dX7_isWordEmpty_4 : decode cX7_isWordEmpty 4 = .ok (.iload_n 1, 1) := by decide +kernel
theorem dX7_isWordEmpty_5 : decode cX7_isWordEmpty 5 = .ok (.sipush 245, 3) := by decide +kernel
theorem dX7_isWordEmpty_8 : decode cX7_isWordEmpty 8 = .ok (.if_icmp .ge 14, 3) := by decide +kernel
theorem dX7_isWordEmpty_11 : decode cX7_isWordEmpty 11 = .ok (.aload_n 0, 1) := by decide +kernel
theorem dX7_isWordEmpty_12 : decode cX7_isWordEmpty 12 = .ok (.getfield 11, 3) := by decide +kernel
theorem dX7_isWordEmpty_15 : decode cX7_isWordEmpty 15 = .ok (.iload_n 1, 1) := by decide +kernel
theorem dX7_isWordEmpty_16 : decode cX7_isWordEmpty 16 = .ok (.laload, 1) := by decide +kernel
theorem dX7_isWordEmpty_17 : decode cX7_isWordEmpty 17 = .ok (.lconst 0, 1) := by decide +kernel
theorem dX7_isWordEmpty_18 : decode cX7_isWordEmpty 18 = .ok (.lcmp, 1) := by decide +kernel
theorem dX7_isWordEmpty_19 : decode cX7_isWordEmpty 19 = .ok (.ifCond .ne 7, 3) := by decide +kernel
theorem dX7_isWordEmpty_22 : decode cX7_isWordEmpty 22 = .ok (.iconst 1, 1) := by decide +kernel
theorem dX7_isWordEmpty_23 : decode cX7_isWordEmpty 23 = .ok (.goto 4, 3) := by decide +kernel
theorem dX7_isWordEmpty_26 : decode cX7_isWordEmpty 26 = .ok (.iconst 0, 1) := by decide +kernel
theorem dX7_isWordEmpty_27 : decode cX7_isWordEmpty 27 = .ok (.ireturn, 1) := by decide +kernel
theorem dX8_isShield_0 : decode cX8_isShield 0 = .ok (.iload_n 0, 1) := by decide +kernel
theorem dX8_isShield_1 : decode cX8_isShield 1 = .ok (.ifCond .lt 14, 3) := by decide +kernel
theorem dX8_isShield_4 : decode cX8_isShield 4 = .ok (.iload_n 0, 1) := by decide +kernel
theorem dX8_isShield_5 : decode cX8_isShield 5 = .ok (.sipush 15625, 3) := by decide +kernel
theorem dX8_isShield_8 : decode cX8_isShield 8 = .ok (.if_icmp .ge 7, 3) := by decide +kernel
theorem dX8_isShield_11 : decode cX8_isShield 11 = .ok (.iconst 1, 1) := by decide +kernel
theorem dX8_isShield_12 : decode cX8_isShield 12 = .ok (.goto 4, 3) := by decide +kernel
theorem dX8_isShield_15 : decode cX8_isShield 15 = .ok (.iconst 0, 1) := by decide +kernel
theorem dX8_isShield_16 : decode cX8_isShield 16 = .ok (.ireturn, 1) := by decide +kernel
theorem dX8_isPlace_0 : decode cX8_isPlace 0 = .ok (.iload_n 0, 1) := by decide +kernel
theorem dX8_isPlace_1 : decode cX8_isPlace 1 = .ok (.ifCond .lt 13, 3) := by decide +kernel
theorem dX8_isPlace_4 : decode cX8_isPlace 4 = .ok (.iload_n 0, 1) := by decide +kernel
theorem dX8_isPlace_5 : decode cX8_isPlace 5 = .ok (.bipush 6, 2) := by decide +kernel
theorem dX8_isPlace_7 : decode cX8_isPlace 7 = .ok (.if_icmp .ge 7, 3) := by decide +kernel
theorem dX8_isPlace_10 : decode cX8_isPlace 10 = .ok (.iconst 1, 1) := by decide +kernel
theorem dX8_isPlace_11 : decode cX8_isPlace 11 = .ok (.goto 4, 3) := by decide +kernel
theorem dX8_isPlace_14 : decode cX8_isPlace 14 = .ok (.iconst 0, 1) := by decide +kernel
theorem dX8_isPlace_15 : decode cX8_isPlace 15 = .ok (.ireturn, 1) := by decide +kernel
theorem dX8_isMark_0 : decode cX8_isMark 0 = .ok (.iload_n 0, 1) := by decide +kernel
theorem dX8_isMark_1 : decode cX8_isMark 1 = .ok (.ifCond .lt 12, 3) := by decide +kernel
theorem dX8_isMark_4 : decode cX8_isMark 4 = .ok (.iload_n 0, 1) := by decide +kernel
theorem dX8_isMark_5 : decode cX8_isMark 5 = .ok (.iconst 5, 1) := by decide +kernel
theorem dX8_isMark_6 : decode cX8_isMark 6 = .ok (.if_icmp .ge 7, 3) := by decide +kernel
theorem dX8_isMark_9 : decode cX8_isMark 9 = .ok (.iconst 1, 1) := by decide +kernel
theorem dX8_isMark_10 : decode cX8_isMark 10 = .ok (.goto 4, 3) := by decide +kernel
theorem dX8_isMark_13 : decode cX8_isMark 13 = .ok (.iconst 0, 1) := by decide +kernel
theorem dX8_isMark_14 : decode cX8_isMark 14 = .ok (.ireturn, 1) := by decide +kernel
theorem dX8_markAt_0 : decode cX8_markAt 0 = .ok (.iload_n 0, 1) := by decide +kernel
theorem dX8_markAt_1 : decode cX8_markAt 1 = .ok (.istore_n 2, 1) := by decide +kernel
theorem dX8_markAt_2 : decode cX8_markAt 2 = .ok (.iconst 0, 1) := by decide +kernel
theorem dX8_markAt_3 : decode cX8_markAt 3 = .ok (.istore_n 3, 1) := by decide +kernel
theorem dX8_markAt_4 : decode cX8_markAt 4 = .ok (.iload_n 3, 1) := by decide +kernel
theorem dX8_markAt_5 : decode cX8_markAt 5 = .ok (.iload_n 1, 1) := by decide +kernel
theorem dX8_markAt_6 : decode cX8_markAt 6 = .ok (.if_icmp .ge 19, 3) := by decide +kernel
theorem dX8_markAt_9 : decode cX8_markAt 9 = .ok (.iload_n 3, 1) := by decide +kernel
theorem dX8_markAt_10 : decode cX8_markAt 10 = .ok (.bipush 6, 2) := by decide +kernel
theorem dX8_markAt_12 : decode cX8_markAt 12 = .ok (.if_icmp .ge 13, 3) := by decide +kernel
theorem dX8_markAt_15 : decode cX8_markAt 15 = .ok (.iload_n 2, 1) := by decide +kernel
theorem dX8_markAt_16 : decode cX8_markAt 16 = .ok (.iconst 5, 1) := by decide +kernel
theorem dX8_markAt_17 : decode cX8_markAt 17 = .ok (.idiv, 1) := by decide +kernel
theorem dX8_markAt_18 : decode cX8_markAt 18 = .ok (.istore_n 2, 1) := by decide +kernel
theorem dX8_markAt_19 : decode cX8_markAt 19 = .ok (.iinc 3 1, 3) := by decide +kernel
theorem dX8_markAt_22 : decode cX8_markAt 22 = .ok (.goto (-18), 3) := by decide +kernel
theorem dX8_markAt_25 : decode cX8_markAt 25 = .ok (.iload_n 2, 1) := by decide +kernel
theorem dX8_markAt_26 : decode cX8_markAt 26 = .ok (.iconst 5, 1) := by decide +kernel
theorem dX8_markAt_27 : decode cX8_markAt 27 = .ok (.irem, 1) := by decide +kernel
theorem dX8_markAt_28 : decode cX8_markAt 28 = .ok (.ireturn, 1) := by decide +kernel
theorem dX8_weightOf_0 : decode cX8_weightOf 0 = .ok (.iconst 1, 1) := by decide +kernel
theorem dX8_weightOf_1 : decode cX8_weightOf 1 = .ok (.istore_n 1, 1) := by decide +kernel
theorem dX8_weightOf_2 : decode cX8_weightOf 2 = .ok (.iconst 0, 1) := by decide +kernel
theorem dX8_weightOf_3 : decode cX8_weightOf 3 = .ok (.istore_n 2, 1) := by decide +kernel
theorem dX8_weightOf_4 : decode cX8_weightOf 4 = .ok (.iload_n 2, 1) := by decide +kernel
theorem dX8_weightOf_5 : decode cX8_weightOf 5 = .ok (.iload_n 0, 1) := by decide +kernel
theorem dX8_weightOf_6 : decode cX8_weightOf 6 = .ok (.if_icmp .ge 19, 3) := by decide +kernel
theorem dX8_weightOf_9 : decode cX8_weightOf 9 = .ok (.iload_n 2, 1) := by decide +kernel
theorem dX8_weightOf_10 : decode cX8_weightOf 10 = .ok (.bipush 6, 2) := by decide +kernel
theorem dX8_weightOf_12 : decode cX8_weightOf 12 = .ok (.if_icmp .ge 13, 3) := by decide +kernel
theorem dX8_weightOf_15 : decode cX8_weightOf 15 = .ok (.iload_n 1, 1) := by decide +kernel
theorem dX8_weightOf_16 : decode cX8_weightOf 16 = .ok (.iconst 5, 1) := by decide +kernel
theorem dX8_weightOf_17 : decode cX8_weightOf 17 = .ok (.imul, 1) := by decide +kernel
theorem dX8_weightOf_18 : decode cX8_weightOf 18 = .ok (.istore_n 1, 1) := by decide +kernel
theorem dX8_weightOf_19 : decode cX8_weightOf 19 = .ok (.iinc 2 1, 3) := by decide +kernel
theorem dX8_weightOf_22 : decode cX8_weightOf 22 = .ok (.goto (-18), 3) := by decide +kernel
theorem dX8_weightOf_25 : decode cX8_weightOf 25 = .ok (.iload_n 1, 1) := by decide +kernel
theorem dX8_weightOf_26 : decode cX8_weightOf 26 = .ok (.ireturn, 1) := by decide +kernel
theorem dX8_withMark_0 : decode cX8_withMark 0 = .ok (.iload_n 0, 1) := by decide +kernel
theorem dX8_withMark_1 : decode cX8_withMark 1 = .ok (.iload_n 2, 1) := by decide +kernel
theorem dX8_withMark_2 : decode cX8_withMark 2 = .ok (.iload_n 0, 1) := by decide +kernel
theorem dX8_withMark_3 : decode cX8_withMark 3 = .ok (.iload_n 1, 1) := by decide +kernel
theorem dX8_withMark_4 : decode cX8_withMark 4 = .ok (.invokestatic 9, 3) := by decide +kernel
theorem dX8_withMark_7 : decode cX8_withMark 7 = .ok (.isub, 1) := by decide +kernel
theorem dX8_withMark_8 : decode cX8_withMark 8 = .ok (.iload_n 1, 1) := by decide +kernel
theorem dX8_withMark_9 : decode cX8_withMark 9 = .ok (.invokestatic 15, 3) := by decide +kernel
theorem dX8_withMark_12 : decode cX8_withMark 12 = .ok (.imul, 1) := by decide +kernel
theorem dX8_withMark_13 : decode cX8_withMark 13 = .ok (.iadd, 1) := by decide +kernel
theorem dX8_withMark_14 : decode cX8_withMark 14 = .ok (.ireturn, 1) := by decide +kernel
theorem dX8_apart_0 : decode cX8_apart 0 = .ok (.iconst 0, 1) := by decide +kernel
theorem dX8_apart_1 : decode cX8_apart 1 = .ok (.istore_n 2, 1) := by decide +kernel
theorem dX8_apart_2 : decode cX8_apart 2 = .ok (.iconst 0, 1) := by decide +kernel
theorem dX8_apart_3 : decode cX8_apart 3 = .ok (.istore_n 3, 1) := by decide +kernel
theorem dX8_apart_4 : decode cX8_apart 4 = .ok (.iload_n 3, 1) := by decide +kernel
theorem dX8_apart_5 : decode cX8_apart 5 = .ok (.bipush 6, 2) := by decide +kernel
theorem dX8_apart_7 : decode cX8_apart 7 = .ok (.if_icmp .ge 29, 3) := by decide +kernel
theorem dX8_apart_10 : decode cX8_apart 10 = .ok (.iload_n 0, 1) := by decide +kernel
theorem dX8_apart_11 : decode cX8_apart 11 = .ok (.iconst 5, 1) := by decide +kernel
theorem dX8_apart_12 : decode cX8_apart 12 = .ok (.irem, 1) := by decide +kernel
theorem dX8_apart_13 : decode cX8_apart 13 = .ok (.iload_n 1, 1) := by decide +kernel
theorem dX8_apart_14 : decode cX8_apart 14 = .ok (.iconst 5, 1) := by decide +kernel
theorem dX8_apart_15 : decode cX8_apart 15 = .ok (.irem, 1) := by decide +kernel
theorem dX8_apart_16 : decode cX8_apart 16 = .ok (.if_icmp .eq 6, 3) := by decide +kernel
theorem dX8_apart_19 : decode cX8_apart 19 = .ok (.iinc 2 1, 3) := by decide +kernel
theorem dX8_apart_22 : decode cX8_apart 22 = .ok (.iload_n 0, 1) := by decide +kernel
theorem dX8_apart_23 : decode cX8_apart 23 = .ok (.iconst 5, 1) := by decide +kernel
theorem dX8_apart_24 : decode cX8_apart 24 = .ok (.idiv, 1) := by decide +kernel
theorem dX8_apart_25 : decode cX8_apart 25 = .ok (.istore_n 0, 1) := by decide +kernel
theorem dX8_apart_26 : decode cX8_apart 26 = .ok (.iload_n 1, 1) := by decide +kernel
theorem dX8_apart_27 : decode cX8_apart 27 = .ok (.iconst 5, 1) := by decide +kernel
theorem dX8_apart_28 : decode cX8_apart 28 = .ok (.idiv, 1) := by decide +kernel
theorem dX8_apart_29 : decode cX8_apart 29 = .ok (.istore_n 1, 1) := by decide +kernel
theorem dX8_apart_30 : decode cX8_apart 30 = .ok (.iinc 3 1, 3) := by decide +kernel
theorem dX8_apart_33 : decode cX8_apart 33 = .ok (.goto (-29), 3) := by decide +kernel
theorem dX8_apart_36 : decode cX8_apart 36 = .ok (.iload_n 2, 1) := by decide +kernel
theorem dX8_apart_37 : decode cX8_apart 37 = .ok (.ireturn, 1) := by decide +kernel
theorem dX9_init_0 : decode cX9_init 0 = .ok (.aload_n 0, 1) := by decide +kernel
theorem dX9_init_1 : decode cX9_init 1 = .ok (.invokespecial 1, 3) := by decide +kernel
theorem dX9_init_4 : decode cX9_init 4 = .ok (.aload_n 0, 1) := by decide +kernel
theorem dX9_init_5 : decode cX9_init 5 = .ok (.new 7, 3) := by decide +kernel
theorem dX9_init_8 : decode cX9_init 8 = .ok (.dup, 1) := by decide +kernel
theorem dX9_init_9 : decode cX9_init 9 = .ok (.invokespecial 9, 3) := by decide +kernel
theorem dX9_init_12 : decode cX9_init 12 = .ok (.putfield 10, 3) := by decide +kernel
theorem dX9_init_15 : decode cX9_init 15 = .ok (.aload_n 0, 1) := by decide +kernel
theorem dX9_init_16 : decode cX9_init 16 = .ok (.new 7, 3) := by decide +kernel
theorem dX9_init_19 : decode cX9_init 19 = .ok (.dup, 1) := by decide +kernel
theorem dX9_init_20 : decode cX9_init 20 = .ok (.invokespecial 9, 3) := by decide +kernel
theorem dX9_init_23 : decode cX9_init 23 = .ok (.putfield 16, 3) := by decide +kernel
theorem dX9_init_26 : decode cX9_init 26 = .ok (.aload_n 0, 1) := by decide +kernel
theorem dX9_init_27 : decode cX9_init 27 = .ok (.new 7, 3) := by decide +kernel
theorem dX9_init_30 : decode cX9_init 30 = .ok (.dup, 1) := by decide +kernel
theorem dX9_init_31 : decode cX9_init 31 = .ok (.invokespecial 9, 3) := by decide +kernel
theorem dX9_init_34 : decode cX9_init 34 = .ok (.putfield 19, 3) := by decide +kernel
theorem dX9_init_37 : decode cX9_init 37 = .ok (.aload_n 0, 1) := by decide +kernel
theorem dX9_init_38 : decode cX9_init 38 = .ok (.new 22, 3) := by decide +kernel
theorem dX9_init_41 : decode cX9_init 41 = .ok (.dup, 1) := by decide +kernel
theorem dX9_init_42 : decode cX9_init 42 = .ok (.invokespecial 24, 3) := by decide +kernel
theorem dX9_init_45 : decode cX9_init 45 = .ok (.putfield 25, 3) := by decide +kernel
theorem dX9_init_48 : decode cX9_init 48 = .ok (.aload_n 0, 1) := by decide +kernel
theorem dX9_init_49 : decode cX9_init 49 = .ok (.new 29, 3) := by decide +kernel
theorem dX9_init_52 : decode cX9_init 52 = .ok (.dup, 1) := by decide +kernel
theorem dX9_init_53 : decode cX9_init 53 = .ok (.invokespecial 31, 3) := by decide +kernel
theorem dX9_init_56 : decode cX9_init 56 = .ok (.putfield 32, 3) := by decide +kernel
theorem dX9_init_59 : decode cX9_init 59 = .ok (.aload_n 0, 1) := by decide +kernel
theorem dX9_init_60 : decode cX9_init 60 = .ok (.new 36, 3) := by decide +kernel
theorem dX9_init_63 : decode cX9_init 63 = .ok (.dup, 1) := by decide +kernel
theorem dX9_init_64 : decode cX9_init 64 = .ok (.invokespecial 38, 3) := by decide +kernel
theorem dX9_init_67 : decode cX9_init 67 = .ok (.putfield 39, 3) := by decide +kernel
theorem dX9_init_70 : decode cX9_init 70 = .ok (.aload_n 0, 1) := by decide +kernel
theorem dX9_init_71 : decode cX9_init 71 = .ok (.iconst 0, 1) := by decide +kernel
theorem dX9_init_72 : decode cX9_init 72 = .ok (.putfield 43, 3) := by decide +kernel
theorem dX9_init_75 : decode cX9_init 75 = .ok (.aload_n 0, 1) := by decide +kernel
theorem dX9_init_76 : decode cX9_init 76 = .ok (.iconst 0, 1) := by decide +kernel
theorem dX9_init_77 : decode cX9_init 77 = .ok (.putfield 47, 3) := by decide +kernel
theorem dX9_init_80 : decode cX9_init 80 = .ok (.aload_n 0, 1) := by decide +kernel
theorem dX9_init_81 : decode cX9_init 81 = .ok (.iconst 0, 1) := by decide +kernel
theorem dX9_init_82 : decode cX9_init 82 = .ok (.putfield 51, 3) := by decide +kernel
theorem dX9_init_85 : decode cX9_init 85 = .ok (.aload_n 0, 1) := by decide +kernel
theorem dX9_init_86 : decode cX9_init 86 = .ok (.iconst 0, 1) := by decide +kernel
theorem dX9_init_87 : decode cX9_init 87 = .ok (.putfield 54, 3) := by decide +kernel
theorem dX9_init_90 : decode cX9_init 90 = .ok (.return_, 1) := by decide +kernel
