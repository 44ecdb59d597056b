theorem dL_arePairs_0 : decode cL_arePairs 0 = .ok (.aload_n 0, 1) := by decide +kernel
theorem dL_arePairs_1 : decode cL_arePairs 1 = .ok (.iload_n 1, 1) := by decide +kernel
theorem dL_arePairs_2 : decode cL_arePairs 2 = .ok (.iload_n 2, 1) := by decide +kernel
theorem dL_arePairs_3 : decode cL_arePairs 3 = .ok (.invokevirtual 32, 3) := by decide +kernel
theorem dL_arePairs_6 : decode cL_arePairs 6 = .ok (.istore 4, 2) := by decide +kernel
theorem dL_arePairs_8 : decode cL_arePairs 8 = .ok (.aload_n 0, 1) := by decide +kernel
theorem dL_arePairs_9 : decode cL_arePairs 9 = .ok (.iload_n 1, 1) := by decide +kernel
theorem dL_arePairs_10 : decode cL_arePairs 10 = .ok (.iload_n 2, 1) := by decide +kernel
theorem dL_arePairs_11 : decode cL_arePairs 11 = .ok (.invokevirtual 29, 3) := by decide +kernel
theorem dL_arePairs_14 : decode cL_arePairs 14 = .ok (.istore 5, 2) := by decide +kernel
theorem dL_arePairs_16 : decode cL_arePairs 16 = .ok (.aload_n 0, 1) := by decide +kernel
theorem dL_arePairs_17 : decode cL_arePairs 17 = .ok (.iload_n 1, 1) := by decide +kernel
theorem dL_arePairs_18 : decode cL_arePairs 18 = .ok (.iload_n 3, 1) := by decide +kernel
theorem dL_arePairs_19 : decode cL_arePairs 19 = .ok (.invokevirtual 29, 3) := by decide +kernel
theorem dL_arePairs_22 : decode cL_arePairs 22 = .ok (.istore 6, 2) := by decide +kernel
theorem dL_arePairs_24 : decode cL_arePairs 24 = .ok (.aload_n 0, 1) := by decide +kernel
theorem dL_arePairs_25 : decode cL_arePairs 25 = .ok (.iload_n 3, 1) := by decide +kernel
theorem dL_arePairs_26 : decode cL_arePairs 26 = .ok (.iload_n 2, 1) := by decide +kernel
theorem dL_arePairs_27 : decode cL_arePairs 27 = .ok (.invokevirtual 29, 3) := by decide +kernel
theorem dL_arePairs_30 : decode cL_arePairs 30 = .ok (.istore 7, 2) := by decide +kernel
theorem dL_arePairs_32 : decode cL_arePairs 32 = .ok (.aload_n 0, 1) := by decide +kernel
theorem dL_arePairs_33 : decode cL_arePairs 33 = .ok (.iload_n 1, 1) := by decide +kernel
theorem dL_arePairs_34 : decode cL_arePairs 34 = .ok (.iconst 1, 1) := by decide +kernel
theorem dL_arePairs_35 : decode cL_arePairs 35 = .ok (.invokevirtual 20, 3) := by decide +kernel
theorem dL_arePairs_38 : decode cL_arePairs 38 = .ok (.iconst 1, 1) := by decide +kernel
theorem dL_arePairs_39 : decode cL_arePairs 39 = .ok (.if_icmp .ne 17, 3) := by decide +kernel
theorem dL_arePairs_42 : decode cL_arePairs 42 = .ok (.aload_n 0, 1) := by decide +kernel
theorem dL_arePairs_43 : decode cL_arePairs 43 = .ok (.iload_n 2, 1) := by decide +kernel
theorem dL_arePairs_44 : decode cL_arePairs 44 = .ok (.iconst 1, 1) := by decide +kernel
theorem dL_arePairs_45 : decode cL_arePairs 45 = .ok (.invokevirtual 20, 3) := by decide +kernel
theorem dL_arePairs_48 : decode cL_arePairs 48 = .ok (.iconst 1, 1) := by decide +kernel
theorem dL_arePairs_49 : decode cL_arePairs 49 = .ok (.if_icmp .ne 7, 3) := by decide +kernel
theorem dL_arePairs_52 : decode cL_arePairs 52 = .ok (.iconst 1, 1) := by decide +kernel
theorem dL_arePairs_53 : decode cL_arePairs 53 = .ok (.goto 4, 3) := by decide +kernel
theorem dL_arePairs_56 : decode cL_arePairs 56 = .ok (.iconst 0, 1) := by decide +kernel
theorem dL_arePairs_57 : decode cL_arePairs 57 = .ok (.istore 8, 2) := by decide +kernel
theorem dL_arePairs_59 : decode cL_arePairs 59 = .ok (.iload 4, 2) := by decide +kernel
theorem dL_arePairs_61 : decode cL_arePairs 61 = .ok (.aload_n 0, 1) := by decide +kernel
theorem dL_arePairs_62 : decode cL_arePairs 62 = .ok (.iload_n 2, 1) := by decide +kernel
theorem dL_arePairs_63 : decode cL_arePairs 63 = .ok (.iload_n 1, 1) := by decide +kernel
theorem dL_arePairs_64 : decode cL_arePairs 64 = .ok (.invokevirtual 32, 3) := by decide +kernel
theorem dL_arePairs_67 : decode cL_arePairs 67 = .ok (.if_icmp .ne 128, 3) := by decide +kernel
theorem dL_arePairs_70 : decode cL_arePairs 70 = .ok (.iload 4, 2) := by decide +kernel
theorem dL_arePairs_72 : decode cL_arePairs 72 = .ok (.ifCond .lt 123, 3) := by decide +kernel
theorem dL_arePairs_75 : decode cL_arePairs 75 = .ok (.iload 4, 2) := by decide +kernel
theorem dL_arePairs_77 : decode cL_arePairs 77 = .ok (.bipush 6, 2) := by decide +kernel
theorem dL_arePairs_79 : decode cL_arePairs 79 = .ok (.if_icmp .gt 116, 3) := by decide +kernel
theorem dL_arePairs_82 : decode cL_arePairs 82 = .ok (.iload 4, 2) := by decide +kernel
theorem dL_arePairs_84 : decode cL_arePairs 84 = .ok (.aload_n 0, 1) := by decide +kernel
theorem dL_arePairs_85 : decode cL_arePairs 85 = .ok (.iload_n 1, 1) := by decide +kernel
theorem dL_arePairs_86 : decode cL_arePairs 86 = .ok (.iload_n 3, 1) := by decide +kernel
theorem dL_arePairs_87 : decode cL_arePairs 87 = .ok (.invokevirtual 32, 3) := by decide +kernel
theorem dL_arePairs_90 : decode cL_arePairs 90 = .ok (.aload_n 0, 1) := by decide +kernel
theorem dL_arePairs_91 : decode cL_arePairs 91 = .ok (.iload_n 3, 1) := by decide +kernel
theorem dL_arePairs_92 : decode cL_arePairs 92 = .ok (.iload_n 2, 1) := by decide +kernel
theorem dL_arePairs_93 : decode cL_arePairs 93 = .ok (.invokevirtual 32, 3) := by decide +kernel
theorem dL_arePairs_96 : decode cL_arePairs 96 = .ok (.iadd, 1) := by decide +kernel
theorem dL_arePairs_97 : decode cL_arePairs 97 = .ok (.if_icmp .gt 98, 3) := by decide +kernel
theorem dL_arePairs_100 : decode cL_arePairs 100 = .ok (.iload 5, 2) := by decide +kernel
theorem dL_arePairs_102 : decode cL_arePairs 102 = .ok (.aload_n 0, 1) := by decide +kernel
theorem dL_arePairs_103 : decode cL_arePairs 103 = .ok (.iload_n 2, 1) := by decide +kernel
theorem dL_arePairs_104 : decode cL_arePairs 104 = .ok (.iload_n 1, 1) := by decide +kernel
theorem dL_arePairs_105 : decode cL_arePairs 105 = .ok (.invokevirtual 29, 3) := by decide +kernel
theorem dL_arePairs_108 : decode cL_arePairs 108 = .ok (.if_icmp .ne 87, 3) := by decide +kernel
theorem dL_arePairs_111 : decode cL_arePairs 111 = .ok (.iload_n 1, 1) := by decide +kernel
theorem dL_arePairs_112 : decode cL_arePairs 112 = .ok (.iload_n 2, 1) := by decide +kernel
theorem dL_arePairs_113 : decode cL_arePairs 113 = .ok (.if_icmp .ne 7, 3) := by decide +kernel
theorem dL_arePairs_116 : decode cL_arePairs 116 = .ok (.iconst 1, 1) := by decide +kernel
theorem dL_arePairs_117 : decode cL_arePairs 117 = .ok (.goto 4, 3) := by decide +kernel
theorem dL_arePairs_120 : decode cL_arePairs 120 = .ok (.iconst 0, 1) := by decide +kernel
theorem dL_arePairs_121 : decode cL_arePairs 121 = .ok (.iload 5, 2) := by decide +kernel
theorem dL_arePairs_123 : decode cL_arePairs 123 = .ok (.ifCond .ne 7, 3) := by decide +kernel
theorem dL_arePairs_126 : decode cL_arePairs 126 = .ok (.iconst 1, 1) := by decide +kernel
theorem dL_arePairs_127 : decode cL_arePairs 127 = .ok (.goto 4, 3) := by decide +kernel
theorem dL_arePairs_130 : decode cL_arePairs 130 = .ok (.iconst 0, 1) := by decide +kernel
theorem dL_arePairs_131 : decode cL_arePairs 131 = .ok (.if_icmp .ne 64, 3) := by decide +kernel
theorem dL_arePairs_134 : decode cL_arePairs 134 = .ok (.iload 6, 2) := by decide +kernel
theorem dL_arePairs_136 : decode cL_arePairs 136 = .ok (.ifCond .lt 23, 3) := by decide +kernel
theorem dL_arePairs_139 : decode cL_arePairs 139 = .ok (.iload 7, 2) := by decide +kernel
theorem dL_arePairs_141 : decode cL_arePairs 141 = .ok (.ifCond .lt 18, 3) := by decide +kernel
theorem dL_arePairs_144 : decode cL_arePairs 144 = .ok (.iload 5, 2) := by decide +kernel
theorem dL_arePairs_146 : decode cL_arePairs 146 = .ok (.ifCond .lt 49, 3) := by decide +kernel
theorem dL_arePairs_149 : decode cL_arePairs 149 = .ok (.iload 5, 2) := by decide +kernel
theorem dL_arePairs_151 : decode cL_arePairs 151 = .ok (.iload 6, 2) := by decide +kernel
theorem dL_arePairs_153 : decode cL_arePairs 153 = .ok (.iload 7, 2) := by decide +kernel
theorem dL_arePairs_155 : decode cL_arePairs 155 = .ok (.iadd, 1) := by decide +kernel
theorem dL_arePairs_156 : decode cL_arePairs 156 = .ok (.if_icmp .gt 39, 3) := by decide +kernel
theorem dL_arePairs_159 : decode cL_arePairs 159 = .ok (.iload 6, 2) := by decide +kernel
theorem dL_arePairs_161 : decode cL_arePairs 161 = .ok (.ifCond .lt 15, 3) := by decide +kernel
theorem dL_arePairs_164 : decode cL_arePairs 164 = .ok (.iload 7, 2) := by decide +kernel
theorem dL_arePairs_166 : decode cL_arePairs 166 = .ok (.ifCond .ge 10, 3) := by decide +kernel
theorem dL_arePairs_169 : decode cL_arePairs 169 = .ok (.iload 5, 2) := by decide +kernel
theorem dL_arePairs_171 : decode cL_arePairs 171 = .ok (.bipush (-4), 2) := by decide +kernel
theorem dL_arePairs_173 : decode cL_arePairs 173 = .ok (.if_icmp .ne 22, 3) := by decide +kernel
theorem dL_arePairs_176 : decode cL_arePairs 176 = .ok (.iload 8, 2) := by decide +kernel
theorem dL_arePairs_178 : decode cL_arePairs 178 = .ok (.ifCond .eq 13, 3) := by decide +kernel
theorem dL_arePairs_181 : decode cL_arePairs 181 = .ok (.iload_n 1, 1) := by decide +kernel
theorem dL_arePairs_182 : decode cL_arePairs 182 = .ok (.iload_n 2, 1) := by decide +kernel
theorem dL_arePairs_183 : decode cL_arePairs 183 = .ok (.if_icmp .eq 8, 3) := by decide +kernel
theorem dL_arePairs_186 : decode cL_arePairs 186 = .ok (.iload 4, 2) := by decide +kernel
theorem dL_arePairs_188 : decode cL_arePairs 188 = .ok (.ifCond .le 7, 3) := by decide +kernel
theorem dL_arePairs_191 : decode cL_arePairs 191 = .ok (.iconst 1, 1) := by decide +kernel
theorem dL_arePairs_192 : decode cL_arePairs 192 = .ok (.goto 4, 3) := by decide +kernel
theorem dL_arePairs_195 : decode cL_arePairs 195 = .ok (.iconst 0, 1) := by decide +kernel
theorem dL_arePairs_196 : decode cL_arePairs 196 = .ok (.ireturn, 1) := by decide +kernel
theorem dL_isLine_0 : decode cL_isLine 0 = .ok (.aload_n 0, 1) := by decide +kernel
theorem dL_isLine_1 : decode cL_isLine 1 = .ok (.iload_n 1, 1) := by decide +kernel
theorem dL_isLine_2 : decode cL_isLine 2 = .ok (.iload_n 2, 1) := by decide +kernel
theorem dL_isLine_3 : decode cL_isLine 3 = .ok (.iconst 0, 1) := by decide +kernel
theorem dL_isLine_4 : decode cL_isLine 4 = .ok (.invokevirtual 44, 3) := by decide +kernel
theorem dL_isLine_7 : decode cL_isLine 7 = .ok (.istore_n 3, 1) := by decide +kernel
theorem dL_isLine_8 : decode cL_isLine 8 = .ok (.iconst 0, 1) := by decide +kernel
theorem dL_isLine_9 : decode cL_isLine 9 = .ok (.istore 4, 2) := by decide +kernel
theorem dL_isLine_11 : decode cL_isLine 11 = .ok (.iload_n 2, 1) := by decide +kernel
theorem dL_isLine_12 : decode cL_isLine 12 = .ok (.istore 5, 2) := by decide +kernel
theorem dL_isLine_14 : decode cL_isLine 14 = .ok (.iconst 0, 1) := by decide +kernel
theorem dL_isLine_15 : decode cL_isLine 15 = .ok (.istore 6, 2) := by decide +kernel
theorem dL_isLine_17 : decode cL_isLine 17 = .ok (.iload 6, 2) := by decide +kernel
theorem dL_isLine_19 : decode cL_isLine 19 = .ok (.bipush 6, 2) := by decide +kernel
theorem dL_isLine_21 : decode cL_isLine 21 = .ok (.if_icmp .ge 39, 3) := by decide +kernel
theorem dL_isLine_24 : decode cL_isLine 24 = .ok (.iload 4, 2) := by decide +kernel
theorem dL_isLine_26 : decode cL_isLine 26 = .ok (.iload 5, 2) := by decide +kernel
theorem dL_isLine_28 : decode cL_isLine 28 = .ok (.iconst 5, 1) := by decide +kernel
theorem dL_isLine_29 : decode cL_isLine 29 = .ok (.irem, 1) := by decide +kernel
theorem dL_isLine_30 : decode cL_isLine 30 = .ok (.aload_n 0, 1) := by decide +kernel
theorem dL_isLine_31 : decode cL_isLine 31 = .ok (.iload_n 1, 1) := by decide +kernel
theorem dL_isLine_32 : decode cL_isLine 32 = .ok (.iload 6, 2) := by decide +kernel
theorem dL_isLine_34 : decode cL_isLine 34 = .ok (.invokevirtual 48, 3) := by decide +kernel
theorem dL_isLine_37 : decode cL_isLine 37 = .ok (.if_icmp .ne 7, 3) := by decide +kernel
theorem dL_isLine_40 : decode cL_isLine 40 = .ok (.iconst 0, 1) := by decide +kernel
theorem dL_isLine_41 : decode cL_isLine 41 = .ok (.goto 4, 3) := by decide +kernel
theorem dL_isLine_44 : decode cL_isLine 44 = .ok (.iconst 1, 1) := by decide +kernel
theorem dL_isLine_45 : decode cL_isLine 45 = .ok (.iadd, 1) := by decide +kernel
theorem dL_isLine_46 : decode cL_isLine 46 = .ok (.istore 4, 2) := by decide +kernel
theorem dL_isLine_48 : decode cL_isLine 48 = .ok (.iload 5, 2) := by decide +kernel
theorem dL_isLine_50 : decode cL_isLine 50 = .ok (.iconst 5, 1) := by decide +kernel
theorem dL_isLine_51 : decode cL_isLine 51 = .ok (.idiv, 1) := by decide +kernel
theorem dL_isLine_52 : decode cL_isLine 52 = .ok (.istore 5, 2) := by decide +kernel
theorem dL_isLine_54 : decode cL_isLine 54 = .ok (.iinc 6 1, 3) := by decide +kernel
theorem dL_isLine_57 : decode cL_isLine 57 = .ok (.goto (-40), 3) := by decide +kernel
theorem dL_isLine_60 : decode cL_isLine 60 = .ok (.iload_n 3, 1) := by decide +kernel
theorem dL_isLine_61 : decode cL_isLine 61 = .ok (.aload_n 0, 1) := by decide +kernel
theorem dL_isLine_62 : decode cL_isLine 62 = .ok (.iload_n 1, 1) := by decide +kernel
theorem dL_isLine_63 : decode cL_isLine 63 = .ok (.iload_n 2, 1) := by decide +kernel
theorem dL_isLine_64 : decode cL_isLine 64 = .ok (.iconst 1, 1) := by decide +kernel
theorem dL_isLine_65 : decode cL_isLine 65 = .ok (.invokevirtual 44, 3) := by decide +kernel
theorem dL_isLine_68 : decode cL_isLine 68 = .ok (.if_icmp .ne 85, 3) := by decide +kernel
theorem dL_isLine_71 : decode cL_isLine 71 = .ok (.aload_n 0, 1) := by decide +kernel
theorem dL_isLine_72 : decode cL_isLine 72 = .ok (.iload_n 1, 1) := by decide +kernel
theorem dL_isLine_73 : decode cL_isLine 73 = .ok (.iconst 1, 1) := by decide +kernel
theorem dL_isLine_74 : decode cL_isLine 74 = .ok (.invokevirtual 20, 3) := by decide +kernel
theorem dL_isLine_77 : decode cL_isLine 77 = .ok (.ifCond .ne 12, 3) := by decide +kernel
theorem dL_isLine_80 : decode cL_isLine 80 = .ok (.iload_n 3, 1) := by decide +kernel
theorem dL_isLine_81 : decode cL_isLine 81 = .ok (.bipush (-2), 2) := by decide +kernel
theorem dL_isLine_83 : decode cL_isLine 83 = .ok (.if_icmp .ne 70, 3) := by decide +kernel
theorem dL_isLine_86 : decode cL_isLine 86 = .ok (.goto 63, 3) := by decide +kernel
theorem dL_isLine_89 : decode cL_isLine 89 = .ok (.aload_n 0, 1) := by decide +kernel
theorem dL_isLine_90 : decode cL_isLine 90 = .ok (.iload_n 2, 1) := by decide +kernel
theorem dL_isLine_91 : decode cL_isLine 91 = .ok (.invokevirtual 26, 3) := by decide +kernel
theorem dL_isLine_94 : decode cL_isLine 94 = .ok (.ifCond .lt 21, 3) := by decide +kernel
theorem dL_isLine_97 : decode cL_isLine 97 = .ok (.aload_n 0, 1) := by decide +kernel
theorem dL_isLine_98 : decode cL_isLine 98 = .ok (.iload_n 2, 1) := by decide +kernel
theorem dL_isLine_99 : decode cL_isLine 99 = .ok (.invokevirtual 26, 3) := by decide +kernel
theorem dL_isLine_102 : decode cL_isLine 102 = .ok (.iload_n 1, 1) := by decide +kernel
theorem dL_isLine_103 : decode cL_isLine 103 = .ok (.if_icmp .eq 12, 3) := by decide +kernel
theorem dL_isLine_106 : decode cL_isLine 106 = .ok (.iload_n 3, 1) := by decide +kernel
theorem dL_isLine_107 : decode cL_isLine 107 = .ok (.bipush (-4), 2) := by decide +kernel
theorem dL_isLine_109 : decode cL_isLine 109 = .ok (.if_icmp .ne 44, 3) := by decide +kernel
theorem dL_isLine_112 : decode cL_isLine 112 = .ok (.goto 37, 3) := by decide +kernel
theorem dL_isLine_115 : decode cL_isLine 115 = .ok (.iload_n 3, 1) := by decide +kernel
theorem dL_isLine_116 : decode cL_isLine 116 = .ok (.bipush (-4), 2) := by decide +kernel
theorem dL_isLine_118 : decode cL_isLine 118 = .ok (.if_icmp .eq 31, 3) := by decide +kernel
theorem dL_isLine_121 : decode cL_isLine 121 = .ok (.iload_n 3, 1) := by decide +kernel
theorem dL_isLine_122 : decode cL_isLine 122 = .ok (.iload 4, 2) := by decide +kernel
theorem dL_isLine_124 : decode cL_isLine 124 = .ok (.if_icmp .lt 29, 3) := by decide +kernel
theorem dL_isLine_127 : decode cL_isLine 127 = .ok (.iload_n 3, 1) := by decide +kernel
theorem dL_isLine_128 : decode cL_isLine 128 = .ok (.ifCond .le 7, 3) := by decide +kernel
theorem dL_isLine_131 : decode cL_isLine 131 = .ok (.iconst 1, 1) := by decide +kernel
theorem dL_isLine_132 : decode cL_isLine 132 = .ok (.goto 4, 3) := by decide +kernel
theorem dL_isLine_135 : decode cL_isLine 135 = .ok (.iconst 0, 1) := by decide +kernel
theorem dL_isLine_136 : decode cL_isLine 136 = .ok (.iload 4, 2) := by decide +kernel
theorem dL_isLine_138 : decode cL_isLine 138 = .ok (.ifCond .le 7, 3) := by decide +kernel
theorem dL_isLine_141 : decode cL_isLine 141 = .ok (.iconst 1, 1) := by decide +kernel
theorem dL_isLine_142 : decode cL_isLine 142 = .ok (.goto 4, 3) := by decide +kernel
theorem dL_isLine_145 : decode cL_isLine 145 = .ok (.iconst 0, 1) := by decide +kernel
theorem dL_isLine_146 : decode cL_isLine 146 = .ok (.if_icmp .ne 7, 3) := by decide +kernel
theorem dL_isLine_149 : decode cL_isLine 149 = .ok (.iconst 1, 1) := by decide +kernel
theorem dL_isLine_150 : decode cL_isLine 150 = .ok (.goto 4, 3) := by decide +kernel
theorem dL_isLine_153 : decode cL_isLine 153 = .ok (.iconst 0, 1) := by decide +kernel
theorem dL_isLine_154 : decode cL_isLine 154 = .ok (.ireturn, 1) := by decide +kernel
theorem dL_refusesAny_0 : decode cL_refusesAny 0 = .ok (.iload_n 1, 1) := by decide +kernel
theorem dL_refusesAny_1 : decode cL_refusesAny 1 = .ok (.iconst 2, 1) := by decide +kernel
theorem dL_refusesAny_2 : decode cL_refusesAny 2 = .ok (.irem, 1) := by decide +kernel
theorem dL_refusesAny_3 : decode cL_refusesAny 3 = .ok (.ifCond .ne 12, 3) := by decide +kernel
theorem dL_refusesAny_6 : decode cL_refusesAny 6 = .ok (.iconst (-1), 1) := by decide +kernel
theorem dL_refusesAny_7 : decode cL_refusesAny 7 = .ok (.iload_n 1, 1) := by decide +kernel
theorem dL_refusesAny_8 : decode cL_refusesAny 8 = .ok (.bipush 99, 2) := by decide +kernel
theorem dL_refusesAny_10 : decode cL_refusesAny 10 = .ok (.irem, 1) := by decide +kernel
theorem dL_refusesAny_11 : decode cL_refusesAny 11 = .ok (.isub, 1) := by decide +kernel
theorem dL_refusesAny_12 : decode cL_refusesAny 12 = .ok (.goto 13, 3) := by decide +kernel
theorem dL_refusesAny_15 : decode cL_refusesAny 15 = .ok (.aload_n 0, 1) := by decide +kernel
theorem dL_refusesAny_16 : decode cL_refusesAny 16 = .ok (.iconst 0, 1) := by decide +kernel
theorem dL_refusesAny_17 : decode cL_refusesAny 17 = .ok (.invokevirtual 14, 3) := by decide +kernel
theorem dL_refusesAny_20 : decode cL_refusesAny 20 = .ok (.iload_n 1, 1) := by decide +kernel
theorem dL_refusesAny_21 : decode cL_refusesAny 21 = .ok (.bipush 99, 2) := by decide +kernel
theorem dL_refusesAny_23 : decode cL_refusesAny 23 = .ok (.irem, 1) := by decide +kernel
theorem dL_refusesAny_24 : decode cL_refusesAny 24 = .ok (.iadd, 1) := by decide +kernel
theorem dL_refusesAny_25 : decode cL_refusesAny 25 = .ok (.istore_n 2, 1) := by decide +kernel
theorem dL_refusesAny_26 : decode cL_refusesAny 26 = .ok (.iload_n 1, 1) := by decide +kernel
theorem dL_refusesAny_27 : decode cL_refusesAny 27 = .ok (.iconst 2, 1) := by decide +kernel
theorem dL_refusesAny_28 : decode cL_refusesAny 28 = .ok (.irem, 1) := by decide +kernel
theorem dL_refusesAny_29 : decode cL_refusesAny 29 = .ok (.ifCond .ne 12, 3) := by decide +kernel
theorem dL_refusesAny_32 : decode cL_refusesAny 32 = .ok (.iconst (-1), 1) := by decide +kernel
theorem dL_refusesAny_33 : decode cL_refusesAny 33 = .ok (.iload_n 1, 1) := by decide +kernel
theorem dL_refusesAny_34 : decode cL_refusesAny 34 = .ok (.bipush 99, 2) := by decide +kernel
theorem dL_refusesAny_36 : decode cL_refusesAny 36 = .ok (.irem, 1) := by decide +kernel
theorem dL_refusesAny_37 : decode cL_refusesAny 37 = .ok (.isub, 1) := by decide +kernel
theorem dL_refusesAny_38 : decode cL_refusesAny 38 = .ok (.goto 11, 3) := by decide +kernel
theorem dL_refusesAny_41 : decode cL_refusesAny 41 = .ok (.sipush 15625, 3) := by decide +kernel
theorem dL_refusesAny_44 : decode cL_refusesAny 44 = .ok (.iload_n 1, 1) := by decide +kernel
theorem dL_refusesAny_45 : decode cL_refusesAny 45 = .ok (.bipush 99, 2) := by decide +kernel
theorem dL_refusesAny_47 : decode cL_refusesAny 47 = .ok (.irem, 1) := by decide +kernel
theorem dL_refusesAny_48 : decode cL_refusesAny 48 = .ok (.iadd, 1) := by decide +kernel
theorem dL_refusesAny_49 : decode cL_refusesAny 49 = .ok (.istore_n 3, 1) := by decide +kernel
theorem dL_refusesAny_50 : decode cL_refusesAny 50 = .ok (.iload_n 1, 1) := by decide +kernel
theorem dL_refusesAny_51 : decode cL_refusesAny 51 = .ok (.iconst 2, 1) := by decide +kernel
theorem dL_refusesAny_52 : decode cL_refusesAny 52 = .ok (.irem, 1) := by decide +kernel
theorem dL_refusesAny_53 : decode cL_refusesAny 53 = .ok (.ifCond .ne 12, 3) := by decide +kernel
theorem dL_refusesAny_56 : decode cL_refusesAny 56 = .ok (.iconst (-1), 1) := by decide +kernel
theorem dL_refusesAny_57 : decode cL_refusesAny 57 = .ok (.iload_n 1, 1) := by decide +kernel
theorem dL_refusesAny_58 : decode cL_refusesAny 58 = .ok (.bipush 99, 2) := by decide +kernel
theorem dL_refusesAny_60 : decode cL_refusesAny 60 = .ok (.irem, 1) := by decide +kernel
theorem dL_refusesAny_61 : decode cL_refusesAny 61 = .ok (.isub, 1) := by decide +kernel
theorem dL_refusesAny_62 : decode cL_refusesAny 62 = .ok (.goto 10, 3) := by decide +kernel
theorem dL_refusesAny_65 : decode cL_refusesAny 65 = .ok (.bipush 6, 2) := by decide +kernel
theorem dL_refusesAny_67 : decode cL_refusesAny 67 = .ok (.iload_n 1, 1) := by decide +kernel
theorem dL_refusesAny_68 : decode cL_refusesAny 68 = .ok (.bipush 99, 2) := by decide +kernel
theorem dL_refusesAny_70 : decode cL_refusesAny 70 = .ok (.irem, 1) := by decide +kernel
theorem dL_refusesAny_71 : decode cL_refusesAny 71 = .ok (.iadd, 1) := by decide +kernel
theorem dL_refusesAny_72 : decode cL_refusesAny 72 = .ok (.istore 4, 2) := by decide +kernel
theorem dL_refusesAny_74 : decode cL_refusesAny 74 = .ok (.iload_n 1, 1) := by decide +kernel
theorem dL_refusesAny_75 : decode cL_refusesAny 75 = .ok (.iconst 2, 1) := by decide +kernel
theorem dL_refusesAny_76 : decode cL_refusesAny 76 = .ok (.irem, 1) := by decide +kernel
theorem dL_refusesAny_77 : decode cL_refusesAny 77 = .ok (.ifCond .ne 12, 3) := by decide +kernel
theorem dL_refusesAny_80 : decode cL_refusesAny 80 = .ok (.iconst (-1), 1) := by decide +kernel
theorem dL_refusesAny_81 : decode cL_refusesAny 81 = .ok (.iload_n 1, 1) := by decide +kernel
theorem dL_refusesAny_82 : decode cL_refusesAny 82 = .ok (.bipush 99, 2) := by decide +kernel
theorem dL_refusesAny_84 : decode cL_refusesAny 84 = .ok (.irem, 1) := by decide +kernel
theorem dL_refusesAny_85 : decode cL_refusesAny 85 = .ok (.isub, 1) := by decide +kernel
theorem dL_refusesAny_86 : decode cL_refusesAny 86 = .ok (.goto 9, 3) := by decide +kernel
theorem dL_refusesAny_89 : decode cL_refusesAny 89 = .ok (.iconst 5, 1) := by decide +kernel
theorem dL_refusesAny_90 : decode cL_refusesAny 90 = .ok (.iload_n 1, 1) := by decide +kernel
theorem dL_refusesAny_91 : decode cL_refusesAny 91 = .ok (.bipush 99, 2) := by decide +kernel
theorem dL_refusesAny_93 : decode cL_refusesAny 93 = .ok (.irem, 1) := by decide +kernel
theorem dL_refusesAny_94 : decode cL_refusesAny 94 = .ok (.iadd, 1) := by decide +kernel
theorem dL_refusesAny_95 : decode cL_refusesAny 95 = .ok (.istore 5, 2) := by decide +kernel
theorem dL_refusesAny_97 : decode cL_refusesAny 97 = .ok (.aload_n 0, 1) := by decide +kernel
theorem dL_refusesAny_98 : decode cL_refusesAny 98 = .ok (.iconst 0, 1) := by decide +kernel
theorem dL_refusesAny_99 : decode cL_refusesAny 99 = .ok (.invokevirtual 14, 3) := by decide +kernel
theorem dL_refusesAny_102 : decode cL_refusesAny 102 = .ok (.ifCond .le 7, 3) := by decide +kernel
theorem dL_refusesAny_105 : decode cL_refusesAny 105 = .ok (.iconst 1, 1) := by decide +kernel
theorem dL_refusesAny_106 : decode cL_refusesAny 106 = .ok (.goto 4, 3) := by decide +kernel
theorem dL_refusesAny_109 : decode cL_refusesAny 109 = .ok (.iconst 0, 1) := by decide +kernel
theorem dL_refusesAny_110 : decode cL_refusesAny 110 = .ok (.istore 6, 2) := by decide +kernel
theorem dL_refusesAny_112 : decode cL_refusesAny 112 = .ok (.aload_n 0, 1) := by decide +kernel
theorem dL_refusesAny_113 : decode cL_refusesAny 113 = .ok (.iload_n 3, 1) := by decide +kernel
theorem dL_refusesAny_114 : decode cL_refusesAny 114 = .ok (.invokevirtual 51, 3) := by decide +kernel
theorem dL_refusesAny_117 : decode cL_refusesAny 117 = .ok (.iconst (-1), 1) := by decide +kernel
theorem dL_refusesAny_118 : decode cL_refusesAny 118 = .ok (.if_icmp .ne 122, 3) := by decide +kernel
theorem dL_refusesAny_121 : decode cL_refusesAny 121 = .ok (.aload_n 0, 1) := by decide +kernel
theorem dL_refusesAny_122 : decode cL_refusesAny 122 = .ok (.iload_n 2, 1) := by decide +kernel
theorem dL_refusesAny_123 : decode cL_refusesAny 123 = .ok (.iconst 0, 1) := by decide +kernel
theorem dL_refusesAny_124 : decode cL_refusesAny 124 = .ok (.iconst 0, 1) := by decide +kernel
theorem dL_refusesAny_125 : decode cL_refusesAny 125 = .ok (.invokevirtual 54, 3) := by decide +kernel
theorem dL_refusesAny_128 : decode cL_refusesAny 128 = .ok (.iconst (-1), 1) := by decide +kernel
theorem dL_refusesAny_129 : decode cL_refusesAny 129 = .ok (.if_icmp .ne 111, 3) := by decide +kernel
theorem dL_refusesAny_132 : decode cL_refusesAny 132 = .ok (.iload 6, 2) := by decide +kernel
theorem dL_refusesAny_134 : decode cL_refusesAny 134 = .ok (.ifCond .eq 27, 3) := by decide +kernel
theorem dL_refusesAny_137 : decode cL_refusesAny 137 = .ok (.aload_n 0, 1) := by decide +kernel
theorem dL_refusesAny_138 : decode cL_refusesAny 138 = .ok (.iconst 0, 1) := by decide +kernel
theorem dL_refusesAny_139 : decode cL_refusesAny 139 = .ok (.iload 4, 2) := by decide +kernel
theorem dL_refusesAny_141 : decode cL_refusesAny 141 = .ok (.iconst 0, 1) := by decide +kernel
theorem dL_refusesAny_142 : decode cL_refusesAny 142 = .ok (.invokevirtual 54, 3) := by decide +kernel
theorem dL_refusesAny_145 : decode cL_refusesAny 145 = .ok (.iconst (-1), 1) := by decide +kernel
theorem dL_refusesAny_146 : decode cL_refusesAny 146 = .ok (.if_icmp .ne 94, 3) := by decide +kernel
theorem dL_refusesAny_149 : decode cL_refusesAny 149 = .ok (.aload_n 0, 1) := by decide +kernel
theorem dL_refusesAny_150 : decode cL_refusesAny 150 = .ok (.iconst 0, 1) := by decide +kernel
theorem dL_refusesAny_151 : decode cL_refusesAny 151 = .ok (.iconst 0, 1) := by decide +kernel
theorem dL_refusesAny_152 : decode cL_refusesAny 152 = .ok (.iload 5, 2) := by decide +kernel
theorem dL_refusesAny_154 : decode cL_refusesAny 154 = .ok (.invokevirtual 54, 3) := by decide +kernel
theorem dL_refusesAny_157 : decode cL_refusesAny 157 = .ok (.iconst (-1), 1) := by decide +kernel
theorem dL_refusesAny_158 : decode cL_refusesAny 158 = .ok (.if_icmp .ne 82, 3) := by decide +kernel
theorem dL_refusesAny_161 : decode cL_refusesAny 161 = .ok (.aload_n 0, 1) := by decide +kernel
theorem dL_refusesAny_162 : decode cL_refusesAny 162 = .ok (.iconst 0, 1) := by decide +kernel
theorem dL_refusesAny_163 : decode cL_refusesAny 163 = .ok (.invokevirtual 14, 3) := by decide +kernel
theorem dL_refusesAny_166 : decode cL_refusesAny 166 = .ok (.bipush 20, 2) := by decide +kernel
theorem dL_refusesAny_168 : decode cL_refusesAny 168 = .ok (.if_icmp .lt 25, 3) := by decide +kernel
theorem dL_refusesAny_171 : decode cL_refusesAny 171 = .ok (.aload_n 0, 1) := by decide +kernel
theorem dL_refusesAny_172 : decode cL_refusesAny 172 = .ok (.iconst 5, 1) := by decide +kernel
theorem dL_refusesAny_173 : decode cL_refusesAny 173 = .ok (.invokevirtual 51, 3) := by decide +kernel
theorem dL_refusesAny_176 : decode cL_refusesAny 176 = .ok (.bipush (-3), 2) := by decide +kernel
theorem dL_refusesAny_178 : decode cL_refusesAny 178 = .ok (.if_icmp .ne 62, 3) := by decide +kernel
theorem dL_refusesAny_181 : decode cL_refusesAny 181 = .ok (.aload_n 0, 1) := by decide +kernel
theorem dL_refusesAny_182 : decode cL_refusesAny 182 = .ok (.iconst 0, 1) := by decide +kernel
theorem dL_refusesAny_183 : decode cL_refusesAny 183 = .ok (.iconst 0, 1) := by decide +kernel
theorem dL_refusesAny_184 : decode cL_refusesAny 184 = .ok (.iconst 0, 1) := by decide +kernel
theorem dL_refusesAny_185 : decode cL_refusesAny 185 = .ok (.invokevirtual 54, 3) := by decide +kernel
theorem dL_refusesAny_188 : decode cL_refusesAny 188 = .ok (.bipush (-3), 2) := by decide +kernel
theorem dL_refusesAny_190 : decode cL_refusesAny 190 = .ok (.if_icmp .ne 50, 3) := by decide +kernel
theorem dL_refusesAny_193 : decode cL_refusesAny 193 = .ok (.aload_n 0, 1) := by decide +kernel
theorem dL_refusesAny_194 : decode cL_refusesAny 194 = .ok (.iload_n 2, 1) := by decide +kernel
theorem dL_refusesAny_195 : decode cL_refusesAny 195 = .ok (.invokevirtual 57, 3) := by decide +kernel
theorem dL_refusesAny_198 : decode cL_refusesAny 198 = .ok (.iconst (-1), 1) := by decide +kernel
theorem dL_refusesAny_199 : decode cL_refusesAny 199 = .ok (.if_icmp .ne 41, 3) := by decide +kernel
theorem dL_refusesAny_202 : decode cL_refusesAny 202 = .ok (.aload_n 0, 1) := by decide +kernel
theorem dL_refusesAny_203 : decode cL_refusesAny 203 = .ok (.iload_n 2, 1) := by decide +kernel
theorem dL_refusesAny_204 : decode cL_refusesAny 204 = .ok (.invokevirtual 60, 3) := by decide +kernel
theorem dL_refusesAny_207 : decode cL_refusesAny 207 = .ok (.iconst (-1), 1) := by decide +kernel
theorem dL_refusesAny_208 : decode cL_refusesAny 208 = .ok (.if_icmp .ne 32, 3) := by decide +kernel
theorem dL_refusesAny_211 : decode cL_refusesAny 211 = .ok (.iload 6, 2) := by decide +kernel
theorem dL_refusesAny_213 : decode cL_refusesAny 213 = .ok (.ifCond .eq 23, 3) := by decide +kernel
theorem dL_refusesAny_216 : decode cL_refusesAny 216 = .ok (.aload_n 0, 1) := by decide +kernel
theorem dL_refusesAny_217 : decode cL_refusesAny 217 = .ok (.iconst 0, 1) := by decide +kernel
theorem dL_refusesAny_218 : decode cL_refusesAny 218 = .ok (.iconst 1, 1) := by decide +kernel
theorem dL_refusesAny_219 : decode cL_refusesAny 219 = .ok (.invokevirtual 20, 3) := by decide +kernel
theorem dL_refusesAny_222 : decode cL_refusesAny 222 = .ok (.iconst 1, 1) := by decide +kernel
theorem dL_refusesAny_223 : decode cL_refusesAny 223 = .ok (.if_icmp .eq 13, 3) := by decide +kernel
theorem dL_refusesAny_226 : decode cL_refusesAny 226 = .ok (.aload_n 0, 1) := by decide +kernel
theorem dL_refusesAny_227 : decode cL_refusesAny 227 = .ok (.iconst 0, 1) := by decide +kernel
theorem dL_refusesAny_228 : decode cL_refusesAny 228 = .ok (.invokevirtual 60, 3) := by decide +kernel
theorem dL_refusesAny_231 : decode cL_refusesAny 231 = .ok (.bipush (-2), 2) := by decide +kernel
theorem dL_refusesAny_233 : decode cL_refusesAny 233 = .ok (.if_icmp .ne 7, 3) := by decide +kernel
theorem dL_refusesAny_236 : decode cL_refusesAny 236 = .ok (.iconst 1, 1) := by decide +kernel
theorem dL_refusesAny_237 : decode cL_refusesAny 237 = .ok (.goto 4, 3) := by decide +kernel
theorem dL_refusesAny_240 : decode cL_refusesAny 240 = .ok (.iconst 0, 1) := by decide +kernel
theorem dL_refusesAny_241 : decode cL_refusesAny 241 = .ok (.istore 7, 2) := by decide +kernel
theorem dL_refusesAny_243 : decode cL_refusesAny 243 = .ok (.iload 7, 2) := by decide +kernel
theorem dL_refusesAny_245 : decode cL_refusesAny 245 = .ok (.ifCond .eq 355, 3) := by decide +kernel
theorem dL_refusesAny_248 : decode cL_refusesAny 248 = .ok (.aload_n 0, 1) := by decide +kernel
theorem dL_refusesAny_249 : decode cL_refusesAny 249 = .ok (.iload_n 2, 1) := by decide +kernel
theorem dL_refusesAny_250 : decode cL_refusesAny 250 = .ok (.iconst 0, 1) := by decide +kernel
theorem dL_refusesAny_251 : decode cL_refusesAny 251 = .ok (.invokevirtual 20, 3) := by decide +kernel
theorem dL_refusesAny_254 : decode cL_refusesAny 254 = .ok (.iconst (-1), 1) := by decide +kernel
theorem dL_refusesAny_255 : decode cL_refusesAny 255 = .ok (.if_icmp .ne 345, 3) := by decide +kernel
theorem dL_refusesAny_258 : decode cL_refusesAny 258 = .ok (.iload 6, 2) := by decide +kernel
theorem dL_refusesAny_260 : decode cL_refusesAny 260 = .ok (.ifCond .eq 184, 3) := by decide +kernel
theorem dL_refusesAny_263 : decode cL_refusesAny 263 = .ok (.aload_n 0, 1) := by decide +kernel
theorem dL_refusesAny_264 : decode cL_refusesAny 264 = .ok (.iconst 0, 1) := by decide +kernel
theorem dL_refusesAny_265 : decode cL_refusesAny 265 = .ok (.iload_n 1, 1) := by decide +kernel
theorem dL_refusesAny_266 : decode cL_refusesAny 266 = .ok (.iconst 2, 1) := by decide +kernel
theorem dL_refusesAny_267 : decode cL_refusesAny 267 = .ok (.irem, 1) := by decide +kernel
theorem dL_refusesAny_268 : decode cL_refusesAny 268 = .ok (.ifCond .ne 7, 3) := by decide +kernel
theorem dL_refusesAny_271 : decode cL_refusesAny 271 = .ok (.iconst (-1), 1) := by decide +kernel
theorem dL_refusesAny_272 : decode cL_refusesAny 272 = .ok (.goto 5, 3) := by decide +kernel
theorem dL_refusesAny_275 : decode cL_refusesAny 275 = .ok (.bipush 12, 2) := by decide +kernel
theorem dL_refusesAny_277 : decode cL_refusesAny 277 = .ok (.invokevirtual 20, 3) := by decide +kernel
theorem dL_refusesAny_280 : decode cL_refusesAny 280 = .ok (.iconst (-1), 1) := by decide +kernel
theorem dL_refusesAny_281 : decode cL_refusesAny 281 = .ok (.if_icmp .ne 319, 3) := by decide +kernel
theorem dL_refusesAny_284 : decode cL_refusesAny 284 = .ok (.aload_n 0, 1) := by decide +kernel
theorem dL_refusesAny_285 : decode cL_refusesAny 285 = .ok (.iconst 0, 1) := by decide +kernel
theorem dL_refusesAny_286 : decode cL_refusesAny 286 = .ok (.iload 4, 2) := by decide +kernel
theorem dL_refusesAny_288 : decode cL_refusesAny 288 = .ok (.invokevirtual 48, 3) := by decide +kernel
theorem dL_refusesAny_291 : decode cL_refusesAny 291 = .ok (.iconst (-1), 1) := by decide +kernel
theorem dL_refusesAny_292 : decode cL_refusesAny 292 = .ok (.if_icmp .ne 308, 3) := by decide +kernel
theorem dL_refusesAny_295 : decode cL_refusesAny 295 = .ok (.aload_n 0, 1) := by decide +kernel
theorem dL_refusesAny_296 : decode cL_refusesAny 296 = .ok (.iconst 0, 1) := by decide +kernel
theorem dL_refusesAny_297 : decode cL_refusesAny 297 = .ok (.iload 4, 2) := by decide +kernel
theorem dL_refusesAny_299 : decode cL_refusesAny 299 = .ok (.iconst 0, 1) := by decide +kernel
theorem dL_refusesAny_300 : decode cL_refusesAny 300 = .ok (.invokevirtual 63, 3) := by decide +kernel
theorem dL_refusesAny_303 : decode cL_refusesAny 303 = .ok (.iconst (-1), 1) := by decide +kernel
theorem dL_refusesAny_304 : decode cL_refusesAny 304 = .ok (.if_icmp .ne 296, 3) := by decide +kernel
theorem dL_refusesAny_307 : decode cL_refusesAny 307 = .ok (.aload_n 0, 1) := by decide +kernel
theorem dL_refusesAny_308 : decode cL_refusesAny 308 = .ok (.iconst 0, 1) := by decide +kernel
theorem dL_refusesAny_309 : decode cL_refusesAny 309 = .ok (.iconst 0, 1) := by decide +kernel
theorem dL_refusesAny_310 : decode cL_refusesAny 310 = .ok (.iload 5, 2) := by decide +kernel
theorem dL_refusesAny_312 : decode cL_refusesAny 312 = .ok (.invokevirtual 63, 3) := by decide +kernel
theorem dL_refusesAny_315 : decode cL_refusesAny 315 = .ok (.iconst (-1), 1) := by decide +kernel
theorem dL_refusesAny_316 : decode cL_refusesAny 316 = .ok (.if_icmp .ne 284, 3) := by decide +kernel
theorem dL_refusesAny_319 : decode cL_refusesAny 319 = .ok (.aload_n 0, 1) := by decide +kernel
theorem dL_refusesAny_320 : decode cL_refusesAny 320 = .ok (.iconst 0, 1) := by decide +kernel
theorem dL_refusesAny_321 : decode cL_refusesAny 321 = .ok (.iload_n 1, 1) := by decide +kernel
theorem dL_refusesAny_322 : decode cL_refusesAny 322 = .ok (.iconst 2, 1) := by decide +kernel
theorem dL_refusesAny_323 : decode cL_refusesAny 323 = .ok (.irem, 1) := by decide +kernel
theorem dL_refusesAny_324 : decode cL_refusesAny 324 = .ok (.ifCond .ne 7, 3) := by decide +kernel
theorem dL_refusesAny_327 : decode cL_refusesAny 327 = .ok (.iconst (-1), 1) := by decide +kernel
theorem dL_refusesAny_328 : decode cL_refusesAny 328 = .ok (.goto 4, 3) := by decide +kernel
theorem dL_refusesAny_331 : decode cL_refusesAny 331 = .ok (.iconst 2, 1) := by decide +kernel
theorem dL_refusesAny_332 : decode cL_refusesAny 332 = .ok (.invokevirtual 66, 3) := by decide +kernel
theorem dL_refusesAny_335 : decode cL_refusesAny 335 = .ok (.iconst (-1), 1) := by decide +kernel
theorem dL_refusesAny_336 : decode cL_refusesAny 336 = .ok (.if_icmp .ne 264, 3) := by decide +kernel
theorem dL_refusesAny_339 : decode cL_refusesAny 339 = .ok (.aload_n 0, 1) := by decide +kernel
theorem dL_refusesAny_340 : decode cL_refusesAny 340 = .ok (.iconst 0, 1) := by decide +kernel
theorem dL_refusesAny_341 : decode cL_refusesAny 341 = .ok (.iload_n 2, 1) := by decide +kernel
theorem dL_refusesAny_342 : decode cL_refusesAny 342 = .ok (.invokevirtual 32, 3) := by decide +kernel
theorem dL_refusesAny_345 : decode cL_refusesAny 345 = .ok (.iconst (-1), 1) := by decide +kernel
theorem dL_refusesAny_346 : decode cL_refusesAny 346 = .ok (.if_icmp .ne 254, 3) := by decide +kernel
theorem dL_refusesAny_349 : decode cL_refusesAny 349 = .ok (.aload_n 0, 1) := by decide +kernel
theorem dL_refusesAny_350 : decode cL_refusesAny 350 = .ok (.iload_n 2, 1) := by decide +kernel
theorem dL_refusesAny_351 : decode cL_refusesAny 351 = .ok (.iconst 0, 1) := by decide +kernel
theorem dL_refusesAny_352 : decode cL_refusesAny 352 = .ok (.invokevirtual 29, 3) := by decide +kernel
theorem dL_refusesAny_355 : decode cL_refusesAny 355 = .ok (.iconst (-1), 1) := by decide +kernel
theorem dL_refusesAny_356 : decode cL_refusesAny 356 = .ok (.if_icmp .ne 244, 3) := by decide +kernel
theorem dL_refusesAny_359 : decode cL_refusesAny 359 = .ok (.aload_n 0, 1) := by decide +kernel
theorem dL_refusesAny_360 : decode cL_refusesAny 360 = .ok (.iconst 0, 1) := by decide +kernel
theorem dL_refusesAny_361 : decode cL_refusesAny 361 = .ok (.iload_n 3, 1) := by decide +kernel
theorem dL_refusesAny_362 : decode cL_refusesAny 362 = .ok (.iconst 0, 1) := by decide +kernel
theorem dL_refusesAny_363 : decode cL_refusesAny 363 = .ok (.invokevirtual 44, 3) := by decide +kernel
theorem dL_refusesAny_366 : decode cL_refusesAny 366 = .ok (.iconst (-1), 1) := by decide +kernel
theorem dL_refusesAny_367 : decode cL_refusesAny 367 = .ok (.if_icmp .ne 233, 3) := by decide +kernel
theorem dL_refusesAny_370 : decode cL_refusesAny 370 = .ok (.aload_n 0, 1) := by decide +kernel
theorem dL_refusesAny_371 : decode cL_refusesAny 371 = .ok (.iconst 0, 1) := by decide +kernel
theorem dL_refusesAny_372 : decode cL_refusesAny 372 = .ok (.iconst 5, 1) := by decide +kernel
theorem dL_refusesAny_373 : decode cL_refusesAny 373 = .ok (.iload_n 1, 1) := by decide +kernel
theorem dL_refusesAny_374 : decode cL_refusesAny 374 = .ok (.iconst 2, 1) := by decide +kernel
theorem dL_refusesAny_375 : decode cL_refusesAny 375 = .ok (.irem, 1) := by decide +kernel
theorem dL_refusesAny_376 : decode cL_refusesAny 376 = .ok (.ifCond .ne 7, 3) := by decide +kernel
theorem dL_refusesAny_379 : decode cL_refusesAny 379 = .ok (.iconst (-1), 1) := by decide +kernel
theorem dL_refusesAny_380 : decode cL_refusesAny 380 = .ok (.goto 4, 3) := by decide +kernel
theorem dL_refusesAny_383 : decode cL_refusesAny 383 = .ok (.iconst 2, 1) := by decide +kernel
theorem dL_refusesAny_384 : decode cL_refusesAny 384 = .ok (.invokevirtual 44, 3) := by decide +kernel
theorem dL_refusesAny_387 : decode cL_refusesAny 387 = .ok (.iconst (-1), 1) := by decide +kernel
theorem dL_refusesAny_388 : decode cL_refusesAny 388 = .ok (.if_icmp .ne 212, 3) := by decide +kernel
theorem dL_refusesAny_391 : decode cL_refusesAny 391 = .ok (.aload_n 0, 1) := by decide +kernel
theorem dL_refusesAny_392 : decode cL_refusesAny 392 = .ok (.iconst 0, 1) := by decide +kernel
theorem dL_refusesAny_393 : decode cL_refusesAny 393 = .ok (.iload_n 1, 1) := by decide +kernel
theorem dL_refusesAny_394 : decode cL_refusesAny 394 = .ok (.iconst 2, 1) := by decide +kernel
theorem dL_refusesAny_395 : decode cL_refusesAny 395 = .ok (.irem, 1) := by decide +kernel
theorem dL_refusesAny_396 : decode cL_refusesAny 396 = .ok (.ifCond .ne 7, 3) := by decide +kernel
theorem dL_refusesAny_399 : decode cL_refusesAny 399 = .ok (.iconst (-1), 1) := by decide +kernel
theorem dL_refusesAny_400 : decode cL_refusesAny 400 = .ok (.goto 4, 3) := by decide +kernel
theorem dL_refusesAny_403 : decode cL_refusesAny 403 = .ok (.iconst 3, 1) := by decide +kernel
theorem dL_refusesAny_404 : decode cL_refusesAny 404 = .ok (.invokevirtual 69, 3) := by decide +kernel
theorem dL_refusesAny_407 : decode cL_refusesAny 407 = .ok (.iconst (-1), 1) := by decide +kernel
theorem dL_refusesAny_408 : decode cL_refusesAny 408 = .ok (.if_icmp .ne 192, 3) := by decide +kernel
theorem dL_refusesAny_411 : decode cL_refusesAny 411 = .ok (.aload_n 0, 1) := by decide +kernel
theorem dL_refusesAny_412 : decode cL_refusesAny 412 = .ok (.iconst 0, 1) := by decide +kernel
theorem dL_refusesAny_413 : decode cL_refusesAny 413 = .ok (.iconst 1, 1) := by decide +kernel
theorem dL_refusesAny_414 : decode cL_refusesAny 414 = .ok (.invokevirtual 20, 3) := by decide +kernel
theorem dL_refusesAny_417 : decode cL_refusesAny 417 = .ok (.iconst 1, 1) := by decide +kernel
theorem dL_refusesAny_418 : decode cL_refusesAny 418 = .ok (.if_icmp .eq 26, 3) := by decide +kernel
theorem dL_refusesAny_421 : decode cL_refusesAny 421 = .ok (.aload_n 0, 1) := by decide +kernel
theorem dL_refusesAny_422 : decode cL_refusesAny 422 = .ok (.iconst 0, 1) := by decide +kernel
theorem dL_refusesAny_423 : decode cL_refusesAny 423 = .ok (.iconst 0, 1) := by decide +kernel
theorem dL_refusesAny_424 : decode cL_refusesAny 424 = .ok (.invokevirtual 69, 3) := by decide +kernel
theorem dL_refusesAny_427 : decode cL_refusesAny 427 = .ok (.bipush (-2), 2) := by decide +kernel
theorem dL_refusesAny_429 : decode cL_refusesAny 429 = .ok (.if_icmp .ne 171, 3) := by decide +kernel
theorem dL_refusesAny_432 : decode cL_refusesAny 432 = .ok (.aload_n 0, 1) := by decide +kernel
theorem dL_refusesAny_433 : decode cL_refusesAny 433 = .ok (.iconst 0, 1) := by decide +kernel
theorem dL_refusesAny_434 : decode cL_refusesAny 434 = .ok (.iconst 5, 1) := by decide +kernel
theorem dL_refusesAny_435 : decode cL_refusesAny 435 = .ok (.iconst 0, 1) := by decide +kernel
theorem dL_refusesAny_436 : decode cL_refusesAny 436 = .ok (.invokevirtual 44, 3) := by decide +kernel
theorem dL_refusesAny_439 : decode cL_refusesAny 439 = .ok (.bipush (-2), 2) := by decide +kernel
theorem dL_refusesAny_441 : decode cL_refusesAny 441 = .ok (.if_icmp .ne 159, 3) := by decide +kernel
theorem dL_refusesAny_444 : decode cL_refusesAny 444 = .ok (.aload_n 0, 1) := by decide +kernel
theorem dL_refusesAny_445 : decode cL_refusesAny 445 = .ok (.iload_n 2, 1) := by decide +kernel
theorem dL_refusesAny_446 : decode cL_refusesAny 446 = .ok (.iconst 0, 1) := by decide +kernel
theorem dL_refusesAny_447 : decode cL_refusesAny 447 = .ok (.invokevirtual 48, 3) := by decide +kernel
theorem dL_refusesAny_450 : decode cL_refusesAny 450 = .ok (.iconst (-1), 1) := by decide +kernel
theorem dL_refusesAny_451 : decode cL_refusesAny 451 = .ok (.if_icmp .ne 149, 3) := by decide +kernel
theorem dL_refusesAny_454 : decode cL_refusesAny 454 = .ok (.aload_n 0, 1) := by decide +kernel
theorem dL_refusesAny_455 : decode cL_refusesAny 455 = .ok (.iload_n 2, 1) := by decide +kernel
theorem dL_refusesAny_456 : decode cL_refusesAny 456 = .ok (.iconst 0, 1) := by decide +kernel
theorem dL_refusesAny_457 : decode cL_refusesAny 457 = .ok (.iconst 0, 1) := by decide +kernel
theorem dL_refusesAny_458 : decode cL_refusesAny 458 = .ok (.invokevirtual 63, 3) := by decide +kernel
theorem dL_refusesAny_461 : decode cL_refusesAny 461 = .ok (.iconst (-1), 1) := by decide +kernel
theorem dL_refusesAny_462 : decode cL_refusesAny 462 = .ok (.if_icmp .ne 138, 3) := by decide +kernel
theorem dL_refusesAny_465 : decode cL_refusesAny 465 = .ok (.aload_n 0, 1) := by decide +kernel
theorem dL_refusesAny_466 : decode cL_refusesAny 466 = .ok (.iload_n 2, 1) := by decide +kernel
theorem dL_refusesAny_467 : decode cL_refusesAny 467 = .ok (.iconst 0, 1) := by decide +kernel
theorem dL_refusesAny_468 : decode cL_refusesAny 468 = .ok (.invokevirtual 66, 3) := by decide +kernel
theorem dL_refusesAny_471 : decode cL_refusesAny 471 = .ok (.iconst (-1), 1) := by decide +kernel
theorem dL_refusesAny_472 : decode cL_refusesAny 472 = .ok (.if_icmp .ne 128, 3) := by decide +kernel
theorem dL_refusesAny_475 : decode cL_refusesAny 475 = .ok (.aload_n 0, 1) := by decide +kernel
theorem dL_refusesAny_476 : decode cL_refusesAny 476 = .ok (.iload_n 2, 1) := by decide +kernel
theorem dL_refusesAny_477 : decode cL_refusesAny 477 = .ok (.invokevirtual 72, 3) := by decide +kernel
theorem dL_refusesAny_480 : decode cL_refusesAny 480 = .ok (.iconst (-1), 1) := by decide +kernel
theorem dL_refusesAny_481 : decode cL_refusesAny 481 = .ok (.if_icmp .ne 119, 3) := by decide +kernel
theorem dL_refusesAny_484 : decode cL_refusesAny 484 = .ok (.aload_n 0, 1) := by decide +kernel
theorem dL_refusesAny_485 : decode cL_refusesAny 485 = .ok (.iload_n 3, 1) := by decide +kernel
theorem dL_refusesAny_486 : decode cL_refusesAny 486 = .ok (.invokevirtual 26, 3) := by decide +kernel
theorem dL_refusesAny_489 : decode cL_refusesAny 489 = .ok (.iconst (-1), 1) := by decide +kernel
theorem dL_refusesAny_490 : decode cL_refusesAny 490 = .ok (.if_icmp .ne 110, 3) := by decide +kernel
theorem dL_refusesAny_493 : decode cL_refusesAny 493 = .ok (.aload_n 0, 1) := by decide +kernel
theorem dL_refusesAny_494 : decode cL_refusesAny 494 = .ok (.iload_n 2, 1) := by decide +kernel
theorem dL_refusesAny_495 : decode cL_refusesAny 495 = .ok (.iconst 5, 1) := by decide +kernel
theorem dL_refusesAny_496 : decode cL_refusesAny 496 = .ok (.iconst 0, 1) := by decide +kernel
theorem dL_refusesAny_497 : decode cL_refusesAny 497 = .ok (.invokevirtual 44, 3) := by decide +kernel
theorem dL_refusesAny_500 : decode cL_refusesAny 500 = .ok (.iconst (-1), 1) := by decide +kernel
theorem dL_refusesAny_501 : decode cL_refusesAny 501 = .ok (.if_icmp .ne 99, 3) := by decide +kernel
theorem dL_refusesAny_504 : decode cL_refusesAny 504 = .ok (.aload_n 0, 1) := by decide +kernel
theorem dL_refusesAny_505 : decode cL_refusesAny 505 = .ok (.iload_n 1, 1) := by decide +kernel
theorem dL_refusesAny_506 : decode cL_refusesAny 506 = .ok (.iconst 2, 1) := by decide +kernel
theorem dL_refusesAny_507 : decode cL_refusesAny 507 = .ok (.irem, 1) := by decide +kernel
theorem dL_refusesAny_508 : decode cL_refusesAny 508 = .ok (.ifCond .ne 7, 3) := by decide +kernel
theorem dL_refusesAny_511 : decode cL_refusesAny 511 = .ok (.iconst (-1), 1) := by decide +kernel
theorem dL_refusesAny_512 : decode cL_refusesAny 512 = .ok (.goto 5, 3) := by decide +kernel
theorem dL_refusesAny_515 : decode cL_refusesAny 515 = .ok (.bipush 12, 2) := by decide +kernel
theorem dL_refusesAny_517 : decode cL_refusesAny 517 = .ok (.invokevirtual 14, 3) := by decide +kernel
theorem dL_refusesAny_520 : decode cL_refusesAny 520 = .ok (.iconst (-1), 1) := by decide +kernel
theorem dL_refusesAny_521 : decode cL_refusesAny 521 = .ok (.if_icmp .ne 79, 3) := by decide +kernel
theorem dL_refusesAny_524 : decode cL_refusesAny 524 = .ok (.aload_n 0, 1) := by decide +kernel
theorem dL_refusesAny_525 : decode cL_refusesAny 525 = .ok (.iload 4, 2) := by decide +kernel
theorem dL_refusesAny_527 : decode cL_refusesAny 527 = .ok (.iconst 0, 1) := by decide +kernel
theorem dL_refusesAny_528 : decode cL_refusesAny 528 = .ok (.invokevirtual 35, 3) := by decide +kernel
theorem dL_refusesAny_531 : decode cL_refusesAny 531 = .ok (.iconst (-1), 1) := by decide +kernel
theorem dL_refusesAny_532 : decode cL_refusesAny 532 = .ok (.if_icmp .ne 68, 3) := by decide +kernel
theorem dL_refusesAny_535 : decode cL_refusesAny 535 = .ok (.aload_n 0, 1) := by decide +kernel
theorem dL_refusesAny_536 : decode cL_refusesAny 536 = .ok (.iconst 0, 1) := by decide +kernel
theorem dL_refusesAny_537 : decode cL_refusesAny 537 = .ok (.iload 5, 2) := by decide +kernel
theorem dL_refusesAny_539 : decode cL_refusesAny 539 = .ok (.invokevirtual 35, 3) := by decide +kernel
theorem dL_refusesAny_542 : decode cL_refusesAny 542 = .ok (.iconst (-1), 1) := by decide +kernel
theorem dL_refusesAny_543 : decode cL_refusesAny 543 = .ok (.if_icmp .ne 57, 3) := by decide +kernel
theorem dL_refusesAny_546 : decode cL_refusesAny 546 = .ok (.aload_n 0, 1) := by decide +kernel
theorem dL_refusesAny_547 : decode cL_refusesAny 547 = .ok (.iload_n 2, 1) := by decide +kernel
theorem dL_refusesAny_548 : decode cL_refusesAny 548 = .ok (.iconst 0, 1) := by decide +kernel
theorem dL_refusesAny_549 : decode cL_refusesAny 549 = .ok (.invokevirtual 69, 3) := by decide +kernel
theorem dL_refusesAny_552 : decode cL_refusesAny 552 = .ok (.iconst (-1), 1) := by decide +kernel
theorem dL_refusesAny_553 : decode cL_refusesAny 553 = .ok (.if_icmp .ne 47, 3) := by decide +kernel
theorem dL_refusesAny_556 : decode cL_refusesAny 556 = .ok (.aload_n 0, 1) := by decide +kernel
theorem dL_refusesAny_557 : decode cL_refusesAny 557 = .ok (.iload_n 1, 1) := by decide +kernel
theorem dL_refusesAny_558 : decode cL_refusesAny 558 = .ok (.iconst 2, 1) := by decide +kernel
theorem dL_refusesAny_559 : decode cL_refusesAny 559 = .ok (.irem, 1) := by decide +kernel
theorem dL_refusesAny_560 : decode cL_refusesAny 560 = .ok (.ifCond .ne 7, 3) := by decide +kernel
theorem dL_refusesAny_563 : decode cL_refusesAny 563 = .ok (.iconst (-1), 1) := by decide +kernel
theorem dL_refusesAny_564 : decode cL_refusesAny 564 = .ok (.goto 4, 3) := by decide +kernel
theorem dL_refusesAny_567 : decode cL_refusesAny 567 = .ok (.iconst 3, 1) := by decide +kernel
theorem dL_refusesAny_568 : decode cL_refusesAny 568 = .ok (.invokevirtual 75, 3) := by decide +kernel
theorem dL_refusesAny_571 : decode cL_refusesAny 571 = .ok (.iconst (-1), 1) := by decide +kernel
theorem dL_refusesAny_572 : decode cL_refusesAny 572 = .ok (.if_icmp .ne 28, 3) := by decide +kernel
theorem dL_refusesAny_575 : decode cL_refusesAny 575 = .ok (.aload_n 0, 1) := by decide +kernel
theorem dL_refusesAny_576 : decode cL_refusesAny 576 = .ok (.iload_n 1, 1) := by decide +kernel
theorem dL_refusesAny_577 : decode cL_refusesAny 577 = .ok (.iconst 2, 1) := by decide +kernel
theorem dL_refusesAny_578 : decode cL_refusesAny 578 = .ok (.irem, 1) := by decide +kernel
theorem dL_refusesAny_579 : decode cL_refusesAny 579 = .ok (.ifCond .ne 8, 3) := by decide +kernel
theorem dL_refusesAny_582 : decode cL_refusesAny 582 = .ok (.bipush 32, 2) := by decide +kernel
theorem dL_refusesAny_584 : decode cL_refusesAny 584 = .ok (.goto 5, 3) := by decide +kernel
theorem dL_refusesAny_587 : decode cL_refusesAny 587 = .ok (.bipush 127, 2) := by decide +kernel
theorem dL_refusesAny_589 : decode cL_refusesAny 589 = .ok (.invokevirtual 78, 3) := by decide +kernel
theorem dL_refusesAny_592 : decode cL_refusesAny 592 = .ok (.iconst (-1), 1) := by decide +kernel
theorem dL_refusesAny_593 : decode cL_refusesAny 593 = .ok (.if_icmp .ne 7, 3) := by decide +kernel
theorem dL_refusesAny_596 : decode cL_refusesAny 596 = .ok (.iconst 1, 1) := by decide +kernel
theorem dL_refusesAny_597 : decode cL_refusesAny 597 = .ok (.goto 4, 3) := by decide +kernel
theorem dL_refusesAny_600 : decode cL_refusesAny 600 = .ok (.iconst 0, 1) := by decide +kernel
theorem dL_refusesAny_601 : decode cL_refusesAny 601 = .ok (.istore 7, 2) := by decide +kernel
theorem dL_refusesAny_603 : decode cL_refusesAny 603 = .ok (.iload 7, 2) := by decide +kernel
theorem dL_refusesAny_605 : decode cL_refusesAny 605 = .ok (.ifCond .eq 30, 3) := by decide +kernel
theorem dL_refusesAny_608 : decode cL_refusesAny 608 = .ok (.aload_n 0, 1) := by decide +kernel
theorem dL_refusesAny_609 : decode cL_refusesAny 609 = .ok (.invokevirtual 81, 3) := by decide +kernel
theorem dL_refusesAny_612 : decode cL_refusesAny 612 = .ok (.ifCond .ne 23, 3) := by decide +kernel
theorem dL_refusesAny_615 : decode cL_refusesAny 615 = .ok (.aload_n 0, 1) := by decide +kernel
theorem dL_refusesAny_616 : decode cL_refusesAny 616 = .ok (.invokevirtual 85, 3) := by decide +kernel
theorem dL_refusesAny_619 : decode cL_refusesAny 619 = .ok (.bipush (-2), 2) := by decide +kernel
theorem dL_refusesAny_621 : decode cL_refusesAny 621 = .ok (.if_icmp .ne 14, 3) := by decide +kernel
theorem dL_refusesAny_624 : decode cL_refusesAny 624 = .ok (.aload_n 0, 1) := by decide +kernel
theorem dL_refusesAny_625 : decode cL_refusesAny 625 = .ok (.invokevirtual 88, 3) := by decide +kernel
theorem dL_refusesAny_628 : decode cL_refusesAny 628 = .ok (.ifCond .ne 7, 3) := by decide +kernel
theorem dL_refusesAny_631 : decode cL_refusesAny 631 = .ok (.iconst 1, 1) := by decide +kernel
theorem dL_refusesAny_632 : decode cL_refusesAny 632 = .ok (.goto 4, 3) := by decide +kernel
theorem dL_refusesAny_635 : decode cL_refusesAny 635 = .ok (.iconst 0, 1) := by decide +kernel
theorem dL_refusesAny_636 : decode cL_refusesAny 636 = .ok (.ireturn, 1) := by decide +kernel
theorem dL_refuses_0 : decode cL_refuses 0 = .ok (.aload_n 0, 1) := by decide +kernel
theorem dL_refuses_1 : decode cL_refuses 1 = .ok (.invokestatic 91, 3) := by decide +kernel
theorem dL_refuses_4 : decode cL_refuses 4 = .ok (.lstore_n 2, 1) := by decide +kernel
theorem dL_refuses_5 : decode cL_refuses 5 = .ok (.aload_n 0, 1) := by decide +kernel
theorem dL_refuses_6 : decode cL_refuses 6 = .ok (.bipush 11, 2) := by decide +kernel
theorem dL_refuses_8 : decode cL_refuses 8 = .ok (.invokevirtual 14, 3) := by decide +kernel
theorem dL_refuses_11 : decode cL_refuses 11 = .ok (.istore 4, 2) := by decide +kernel
theorem dL_refuses_13 : decode cL_refuses 13 = .ok (.aload_n 0, 1) := by decide +kernel
theorem dL_refuses_14 : decode cL_refuses 14 = .ok (.iload_n 1, 1) := by decide +kernel
theorem dL_refuses_15 : decode cL_refuses 15 = .ok (.invokestatic 95, 3) := by decide +kernel
theorem dL_refuses_18 : decode cL_refuses 18 = .ok (.ifCond .eq 27, 3) := by decide +kernel
theorem dL_refuses_21 : decode cL_refuses 21 = .ok (.aload_n 0, 1) := by decide +kernel
theorem dL_refuses_22 : decode cL_refuses 22 = .ok (.invokestatic 91, 3) := by decide +kernel
theorem dL_refuses_25 : decode cL_refuses 25 = .ok (.lload_n 2, 1) := by decide +kernel
theorem dL_refuses_26 : decode cL_refuses 26 = .ok (.lcmp, 1) := by decide +kernel
theorem dL_refuses_27 : decode cL_refuses 27 = .ok (.ifCond .ne 18, 3) := by decide +kernel
theorem dL_refuses_30 : decode cL_refuses 30 = .ok (.aload_n 0, 1) := by decide +kernel
theorem dL_refuses_31 : decode cL_refuses 31 = .ok (.bipush 11, 2) := by decide +kernel
theorem dL_refuses_33 : decode cL_refuses 33 = .ok (.invokevirtual 14, 3) := by decide +kernel
theorem dL_refuses_36 : decode cL_refuses 36 = .ok (.iload 4, 2) := by decide +kernel
theorem dL_refuses_38 : decode cL_refuses 38 = .ok (.if_icmp .ne 7, 3) := by decide +kernel
theorem dL_refuses_41 : decode cL_refuses 41 = .ok (.iconst 1, 1) := by decide +kernel
theorem dL_refuses_42 : decode cL_refuses 42 = .ok (.goto 4, 3) := by decide +kernel
theorem dL_refuses_45 : decode cL_refuses 45 = .ok (.iconst 0, 1) := by decide +kernel
theorem dL_refuses_46 : decode cL_refuses 46 = .ok (.ireturn, 1) := by decide +kernel
theorem dL_act_0 : decode cL_act 0 = .ok (.iload_n 1, 1) := by decide +kernel
theorem dL_act_1 : decode cL_act 1 = .ok (.bipush 12, 2) := by decide +kernel
theorem dL_act_3 : decode cL_act 3 = .ok (.irem, 1) := by decide +kernel
theorem dL_act_4 : decode cL_act 4 = .ok (.istore_n 2, 1) := by decide +kernel
theorem dL_act_5 : decode cL_act 5 = .ok (.iload_n 1, 1) := by decide +kernel
theorem dL_act_6 : decode cL_act 6 = .ok (.bipush 12, 2) := by decide +kernel
theorem dL_act_8 : decode cL_act 8 = .ok (.idiv, 1) := by decide +kernel
theorem dL_act_9 : decode cL_act 9 = .ok (.istore_n 3, 1) := by decide +kernel
theorem dL_act_10 : decode cL_act 10 = .ok (.aload_n 0, 1) := by decide +kernel
theorem dL_act_11 : decode cL_act 11 = .ok (.iconst 0, 1) := by decide +kernel
theorem dL_act_12 : decode cL_act 12 = .ok (.invokevirtual 14, 3) := by decide +kernel
theorem dL_act_15 : decode cL_act 15 = .ok (.istore 4, 2) := by decide +kernel
theorem dL_act_17 : decode cL_act 17 = .ok (.aload_n 0, 1) := by decide +kernel
theorem dL_act_18 : decode cL_act 18 = .ok (.iconst 1, 1) := by decide +kernel
theorem dL_act_19 : decode cL_act 19 = .ok (.invokevirtual 14, 3) := by decide +kernel
theorem dL_act_22 : decode cL_act 22 = .ok (.istore 5, 2) := by decide +kernel
theorem dL_act_24 : decode cL_act 24 = .ok (.iload_n 2, 1) := by decide +kernel
theorem dL_act_25 : decode cL_act 25 = .ok (.ifCond .eq 8, 3) := by decide +kernel
theorem dL_act_28 : decode cL_act 28 = .ok (.iload 4, 2) := by decide +kernel
theorem dL_act_30 : decode cL_act 30 = .ok (.ifCond .ne 135, 3) := by decide +kernel
theorem dL_act_33 : decode cL_act 33 = .ok (.iload 4, 2) := by decide +kernel
theorem dL_act_35 : decode cL_act 35 = .ok (.ifCond .eq 9, 3) := by decide +kernel
theorem dL_act_38 : decode cL_act 38 = .ok (.iload_n 3, 1) := by decide +kernel
theorem dL_act_39 : decode cL_act 39 = .ok (.iconst 2, 1) := by decide +kernel
theorem dL_act_40 : decode cL_act 40 = .ok (.irem, 1) := by decide +kernel
theorem dL_act_41 : decode cL_act 41 = .ok (.ifCond .ne 13, 3) := by decide +kernel
theorem dL_act_44 : decode cL_act 44 = .ok (.iload_n 3, 1) := by decide +kernel
theorem dL_act_45 : decode cL_act 45 = .ok (.iconst 2, 1) := by decide +kernel
theorem dL_act_46 : decode cL_act 46 = .ok (.idiv, 1) := by decide +kernel
theorem dL_act_47 : decode cL_act 47 = .ok (.sipush 15625, 3) := by decide +kernel
theorem dL_act_50 : decode cL_act 50 = .ok (.irem, 1) := by decide +kernel
theorem dL_act_51 : decode cL_act 51 = .ok (.goto 14, 3) := by decide +kernel
theorem dL_act_54 : decode cL_act 54 = .ok (.aload_n 0, 1) := by decide +kernel
theorem dL_act_55 : decode cL_act 55 = .ok (.iload_n 3, 1) := by decide +kernel
theorem dL_act_56 : decode cL_act 56 = .ok (.iconst 2, 1) := by decide +kernel
theorem dL_act_57 : decode cL_act 57 = .ok (.idiv, 1) := by decide +kernel
theorem dL_act_58 : decode cL_act 58 = .ok (.iload 4, 2) := by decide +kernel
theorem dL_act_60 : decode cL_act 60 = .ok (.irem, 1) := by decide +kernel
theorem dL_act_61 : decode cL_act 61 = .ok (.iconst 0, 1) := by decide +kernel
theorem dL_act_62 : decode cL_act 62 = .ok (.invokevirtual 20, 3) := by decide +kernel
theorem dL_act_65 : decode cL_act 65 = .ok (.istore 6, 2) := by decide +kernel
theorem dL_act_67 : decode cL_act 67 = .ok (.aload_n 0, 1) := by decide +kernel
theorem dL_act_68 : decode cL_act 68 = .ok (.iload 6, 2) := by decide +kernel
theorem dL_act_70 : decode cL_act 70 = .ok (.invokevirtual 26, 3) := by decide +kernel
theorem dL_act_73 : decode cL_act 73 = .ok (.istore 7, 2) := by decide +kernel
theorem dL_act_75 : decode cL_act 75 = .ok (.aload_n 0, 1) := by decide +kernel
theorem dL_act_76 : decode cL_act 76 = .ok (.iload 6, 2) := by decide +kernel
theorem dL_act_78 : decode cL_act 78 = .ok (.invokevirtual 51, 3) := by decide +kernel
theorem dL_act_81 : decode cL_act 81 = .ok (.istore 8, 2) := by decide +kernel
theorem dL_act_83 : decode cL_act 83 = .ok (.iload 8, 2) := by decide +kernel
theorem dL_act_85 : decode cL_act 85 = .ok (.iload 4, 2) := by decide +kernel
theorem dL_act_87 : decode cL_act 87 = .ok (.bipush 20, 2) := by decide +kernel
theorem dL_act_89 : decode cL_act 89 = .ok (.if_icmp .ne 8, 3) := by decide +kernel
theorem dL_act_92 : decode cL_act 92 = .ok (.bipush (-3), 2) := by decide +kernel
theorem dL_act_94 : decode cL_act 94 = .ok (.goto 17, 3) := by decide +kernel
theorem dL_act_97 : decode cL_act 97 = .ok (.iload 7, 2) := by decide +kernel
theorem dL_act_99 : decode cL_act 99 = .ok (.ifCond .lt 7, 3) := by decide +kernel
theorem dL_act_102 : decode cL_act 102 = .ok (.iconst 3, 1) := by decide +kernel
theorem dL_act_103 : decode cL_act 103 = .ok (.goto 8, 3) := by decide +kernel
theorem dL_act_106 : decode cL_act 106 = .ok (.bipush 10, 2) := by decide +kernel
theorem dL_act_108 : decode cL_act 108 = .ok (.iload 4, 2) := by decide +kernel
theorem dL_act_110 : decode cL_act 110 = .ok (.iadd, 1) := by decide +kernel
theorem dL_act_111 : decode cL_act 111 = .ok (.if_icmp .ne 51, 3) := by decide +kernel
theorem dL_act_114 : decode cL_act 114 = .ok (.iload 8, 2) := by decide +kernel
theorem dL_act_116 : decode cL_act 116 = .ok (.bipush 10, 2) := by decide +kernel
theorem dL_act_118 : decode cL_act 118 = .ok (.if_icmp .lt 39, 3) := by decide +kernel
theorem dL_act_121 : decode cL_act 121 = .ok (.aload_n 0, 1) := by decide +kernel
theorem dL_act_122 : decode cL_act 122 = .ok (.iload 4, 2) := by decide +kernel
theorem dL_act_124 : decode cL_act 124 = .ok (.iconst 0, 1) := by decide +kernel
theorem dL_act_125 : decode cL_act 125 = .ok (.invokevirtual 20, 3) := by decide +kernel
theorem dL_act_128 : decode cL_act 128 = .ok (.iload 6, 2) := by decide +kernel
theorem dL_act_130 : decode cL_act 130 = .ok (.if_icmp .ne 32, 3) := by decide +kernel
theorem dL_act_133 : decode cL_act 133 = .ok (.aload_n 0, 1) := by decide +kernel
theorem dL_act_134 : decode cL_act 134 = .ok (.iload 4, 2) := by decide +kernel
theorem dL_act_136 : decode cL_act 136 = .ok (.iconst 2, 1) := by decide +kernel
theorem dL_act_137 : decode cL_act 137 = .ok (.invokevirtual 20, 3) := by decide +kernel
theorem dL_act_140 : decode cL_act 140 = .ok (.bipush (-4), 2) := by decide +kernel
theorem dL_act_142 : decode cL_act 142 = .ok (.if_icmp .ne 20, 3) := by decide +kernel
theorem dL_act_145 : decode cL_act 145 = .ok (.aload_n 0, 1) := by decide +kernel
theorem dL_act_146 : decode cL_act 146 = .ok (.iconst 1, 1) := by decide +kernel
theorem dL_act_147 : decode cL_act 147 = .ok (.invokevirtual 14, 3) := by decide +kernel
theorem dL_act_150 : decode cL_act 150 = .ok (.iload 5, 2) := by decide +kernel
theorem dL_act_152 : decode cL_act 152 = .ok (.iconst 1, 1) := by decide +kernel
theorem dL_act_153 : decode cL_act 153 = .ok (.iadd, 1) := by decide +kernel
theorem dL_act_154 : decode cL_act 154 = .ok (.if_icmp .ne 8, 3) := by decide +kernel
theorem dL_act_157 : decode cL_act 157 = .ok (.iload 8, 2) := by decide +kernel
theorem dL_act_159 : decode cL_act 159 = .ok (.goto 5, 3) := by decide +kernel
theorem dL_act_162 : decode cL_act 162 = .ok (.bipush (-9), 2) := by decide +kernel
theorem dL_act_164 : decode cL_act 164 = .ok (.ireturn, 1) := by decide +kernel
theorem dL_act_165 : decode cL_act 165 = .ok (.iload_n 2, 1) := by decide +kernel
theorem dL_act_166 : decode cL_act 166 = .ok (.bipush 8, 2) := by decide +kernel
theorem dL_act_168 : decode cL_act 168 = .ok (.if_icmp .ge 212, 3) := by decide +kernel
theorem dL_act_171 : decode cL_act 171 = .ok (.iload_n 3, 1) := by decide +kernel
theorem dL_act_172 : decode cL_act 172 = .ok (.iconst 3, 1) := by decide +kernel
theorem dL_act_173 : decode cL_act 173 = .ok (.irem, 1) := by decide +kernel
theorem dL_act_174 : decode cL_act 174 = .ok (.ifCond .ne 12, 3) := by decide +kernel
theorem dL_act_177 : decode cL_act 177 = .ok (.iload_n 3, 1) := by decide +kernel
theorem dL_act_178 : decode cL_act 178 = .ok (.iconst 3, 1) := by decide +kernel
theorem dL_act_179 : decode cL_act 179 = .ok (.idiv, 1) := by decide +kernel
theorem dL_act_180 : decode cL_act 180 = .ok (.iload 4, 2) := by decide +kernel
theorem dL_act_182 : decode cL_act 182 = .ok (.irem, 1) := by decide +kernel
theorem dL_act_183 : decode cL_act 183 = .ok (.goto 19, 3) := by decide +kernel
theorem dL_act_186 : decode cL_act 186 = .ok (.iload_n 3, 1) := by decide +kernel
theorem dL_act_187 : decode cL_act 187 = .ok (.iconst 3, 1) := by decide +kernel
theorem dL_act_188 : decode cL_act 188 = .ok (.idiv, 1) := by decide +kernel
theorem dL_act_189 : decode cL_act 189 = .ok (.iload 4, 2) := by decide +kernel
theorem dL_act_191 : decode cL_act 191 = .ok (.iconst 4, 1) := by decide +kernel
theorem dL_act_192 : decode cL_act 192 = .ok (.if_icmp .ge 8, 3) := by decide +kernel
theorem dL_act_195 : decode cL_act 195 = .ok (.iload 4, 2) := by decide +kernel
theorem dL_act_197 : decode cL_act 197 = .ok (.goto 4, 3) := by decide +kernel
theorem dL_act_200 : decode cL_act 200 = .ok (.iconst 4, 1) := by decide +kernel
theorem dL_act_201 : decode cL_act 201 = .ok (.irem, 1) := by decide +kernel
theorem dL_act_202 : decode cL_act 202 = .ok (.istore 6, 2) := by decide +kernel
theorem dL_act_204 : decode cL_act 204 = .ok (.iload_n 3, 1) := by decide +kernel
theorem dL_act_205 : decode cL_act 205 = .ok (.bipush 60, 2) := by decide +kernel
theorem dL_act_207 : decode cL_act 207 = .ok (.idiv, 1) := by decide +kernel
theorem dL_act_208 : decode cL_act 208 = .ok (.bipush 6, 2) := by decide +kernel
theorem dL_act_210 : decode cL_act 210 = .ok (.irem, 1) := by decide +kernel
theorem dL_act_211 : decode cL_act 211 = .ok (.istore 7, 2) := by decide +kernel
theorem dL_act_213 : decode cL_act 213 = .ok (.iload_n 3, 1) := by decide +kernel
theorem dL_act_214 : decode cL_act 214 = .ok (.sipush 360, 3) := by decide +kernel
theorem dL_act_217 : decode cL_act 217 = .ok (.idiv, 1) := by decide +kernel
theorem dL_act_218 : decode cL_act 218 = .ok (.iconst 5, 1) := by decide +kernel
theorem dL_act_219 : decode cL_act 219 = .ok (.irem, 1) := by decide +kernel
theorem dL_act_220 : decode cL_act 220 = .ok (.istore 8, 2) := by decide +kernel
theorem dL_act_222 : decode cL_act 222 = .ok (.aload_n 0, 1) := by decide +kernel
theorem dL_act_223 : decode cL_act 223 = .ok (.iload 6, 2) := by decide +kernel
theorem dL_act_225 : decode cL_act 225 = .ok (.iload 7, 2) := by decide +kernel
theorem dL_act_227 : decode cL_act 227 = .ok (.iload 8, 2) := by decide +kernel
theorem dL_act_229 : decode cL_act 229 = .ok (.invokevirtual 63, 3) := by decide +kernel
theorem dL_act_232 : decode cL_act 232 = .ok (.istore 9, 2) := by decide +kernel
theorem dL_act_234 : decode cL_act 234 = .ok (.aload_n 0, 1) := by decide +kernel
theorem dL_act_235 : decode cL_act 235 = .ok (.iload 6, 2) := by decide +kernel
theorem dL_act_237 : decode cL_act 237 = .ok (.iconst 1, 1) := by decide +kernel
theorem dL_act_238 : decode cL_act 238 = .ok (.invokevirtual 66, 3) := by decide +kernel
theorem dL_act_241 : decode cL_act 241 = .ok (.istore 10, 2) := by decide +kernel
theorem dL_act_243 : decode cL_act 243 = .ok (.aload_n 0, 1) := by decide +kernel
theorem dL_act_244 : decode cL_act 244 = .ok (.iload 6, 2) := by decide +kernel
theorem dL_act_246 : decode cL_act 246 = .ok (.iload 7, 2) := by decide +kernel
theorem dL_act_248 : decode cL_act 248 = .ok (.iload 8, 2) := by decide +kernel
theorem dL_act_250 : decode cL_act 250 = .ok (.invokevirtual 54, 3) := by decide +kernel
theorem dL_act_253 : decode cL_act 253 = .ok (.istore 11, 2) := by decide +kernel
theorem dL_act_255 : decode cL_act 255 = .ok (.iload 11, 2) := by decide +kernel
theorem dL_act_257 : decode cL_act 257 = .ok (.iload 4, 2) := by decide +kernel
theorem dL_act_259 : decode cL_act 259 = .ok (.bipush 20, 2) := by decide +kernel
theorem dL_act_261 : decode cL_act 261 = .ok (.if_icmp .ne 8, 3) := by decide +kernel
theorem dL_act_264 : decode cL_act 264 = .ok (.bipush (-3), 2) := by decide +kernel
theorem dL_act_266 : decode cL_act 266 = .ok (.goto 18, 3) := by decide +kernel
theorem dL_act_269 : decode cL_act 269 = .ok (.iload 9, 2) := by decide +kernel
theorem dL_act_271 : decode cL_act 271 = .ok (.ifCond .le 8, 3) := by decide +kernel
theorem dL_act_274 : decode cL_act 274 = .ok (.iload 9, 2) := by decide +kernel
theorem dL_act_276 : decode cL_act 276 = .ok (.goto 8, 3) := by decide +kernel
theorem dL_act_279 : decode cL_act 279 = .ok (.bipush 10, 2) := by decide +kernel
theorem dL_act_281 : decode cL_act 281 = .ok (.iload 4, 2) := by decide +kernel
theorem dL_act_283 : decode cL_act 283 = .ok (.iadd, 1) := by decide +kernel
theorem dL_act_284 : decode cL_act 284 = .ok (.if_icmp .ne 93, 3) := by decide +kernel
theorem dL_act_287 : decode cL_act 287 = .ok (.iload 11, 2) := by decide +kernel
theorem dL_act_289 : decode cL_act 289 = .ok (.bipush 10, 2) := by decide +kernel
theorem dL_act_291 : decode cL_act 291 = .ok (.if_icmp .lt 81, 3) := by decide +kernel
theorem dL_act_294 : decode cL_act 294 = .ok (.iload 10, 2) := by decide +kernel
theorem dL_act_296 : decode cL_act 296 = .ok (.ifCond .le 81, 3) := by decide +kernel
theorem dL_act_299 : decode cL_act 299 = .ok (.aload_n 0, 1) := by decide +kernel
theorem dL_act_300 : decode cL_act 300 = .ok (.iload 4, 2) := by decide +kernel
theorem dL_act_302 : decode cL_act 302 = .ok (.iload 7, 2) := by decide +kernel
theorem dL_act_304 : decode cL_act 304 = .ok (.invokevirtual 48, 3) := by decide +kernel
theorem dL_act_307 : decode cL_act 307 = .ok (.iload 8, 2) := by decide +kernel
theorem dL_act_309 : decode cL_act 309 = .ok (.if_icmp .ne 68, 3) := by decide +kernel
theorem dL_act_312 : decode cL_act 312 = .ok (.aload_n 0, 1) := by decide +kernel
theorem dL_act_313 : decode cL_act 313 = .ok (.iload 4, 2) := by decide +kernel
theorem dL_act_315 : decode cL_act 315 = .ok (.iconst 2, 1) := by decide +kernel
theorem dL_act_316 : decode cL_act 316 = .ok (.invokevirtual 20, 3) := by decide +kernel
theorem dL_act_319 : decode cL_act 319 = .ok (.iload 6, 2) := by decide +kernel
theorem dL_act_321 : decode cL_act 321 = .ok (.if_icmp .ne 56, 3) := by decide +kernel
theorem dL_act_324 : decode cL_act 324 = .ok (.aload_n 0, 1) := by decide +kernel
theorem dL_act_325 : decode cL_act 325 = .ok (.iload 4, 2) := by decide +kernel
theorem dL_act_327 : decode cL_act 327 = .ok (.iconst 3, 1) := by decide +kernel
theorem dL_act_328 : decode cL_act 328 = .ok (.invokevirtual 20, 3) := by decide +kernel
theorem dL_act_331 : decode cL_act 331 = .ok (.iload 7, 2) := by decide +kernel
theorem dL_act_333 : decode cL_act 333 = .ok (.if_icmp .ne 44, 3) := by decide +kernel
theorem dL_act_336 : decode cL_act 336 = .ok (.aload_n 0, 1) := by decide +kernel
theorem dL_act_337 : decode cL_act 337 = .ok (.iload 4, 2) := by decide +kernel
theorem dL_act_339 : decode cL_act 339 = .ok (.iconst 4, 1) := by decide +kernel
theorem dL_act_340 : decode cL_act 340 = .ok (.invokevirtual 20, 3) := by decide +kernel
theorem dL_act_343 : decode cL_act 343 = .ok (.iload 8, 2) := by decide +kernel
theorem dL_act_345 : decode cL_act 345 = .ok (.if_icmp .ne 32, 3) := by decide +kernel
theorem dL_act_348 : decode cL_act 348 = .ok (.aload_n 0, 1) := by decide +kernel
theorem dL_act_349 : decode cL_act 349 = .ok (.iload 4, 2) := by decide +kernel
theorem dL_act_351 : decode cL_act 351 = .ok (.iload 6, 2) := by decide +kernel
theorem dL_act_353 : decode cL_act 353 = .ok (.invokevirtual 32, 3) := by decide +kernel
theorem dL_act_356 : decode cL_act 356 = .ok (.iconst 1, 1) := by decide +kernel
theorem dL_act_357 : decode cL_act 357 = .ok (.if_icmp .ne 20, 3) := by decide +kernel
theorem dL_act_360 : decode cL_act 360 = .ok (.aload_n 0, 1) := by decide +kernel
theorem dL_act_361 : decode cL_act 361 = .ok (.iconst 1, 1) := by decide +kernel
theorem dL_act_362 : decode cL_act 362 = .ok (.invokevirtual 14, 3) := by decide +kernel
theorem dL_act_365 : decode cL_act 365 = .ok (.iload 5, 2) := by decide +kernel
theorem dL_act_367 : decode cL_act 367 = .ok (.iconst 1, 1) := by decide +kernel
theorem dL_act_368 : decode cL_act 368 = .ok (.iadd, 1) := by decide +kernel
theorem dL_act_369 : decode cL_act 369 = .ok (.if_icmp .ne 8, 3) := by decide +kernel
theorem dL_act_372 : decode cL_act 372 = .ok (.iload 11, 2) := by decide +kernel
theorem dL_act_374 : decode cL_act 374 = .ok (.goto 5, 3) := by decide +kernel
theorem dL_act_377 : decode cL_act 377 = .ok (.bipush (-9), 2) := by decide +kernel
theorem dL_act_379 : decode cL_act 379 = .ok (.ireturn, 1) := by decide +kernel
theorem dL_act_380 : decode cL_act 380 = .ok (.iload_n 3, 1) := by decide +kernel
theorem dL_act_381 : decode cL_act 381 = .ok (.iload 4, 2) := by decide +kernel
theorem dL_act_383 : decode cL_act 383 = .ok (.irem, 1) := by decide +kernel
theorem dL_act_384 : decode cL_act 384 = .ok (.istore 6, 2) := by decide +kernel
theorem dL_act_386 : decode cL_act 386 = .ok (.aload_n 0, 1) := by decide +kernel
theorem dL_act_387 : decode cL_act 387 = .ok (.iload 6, 2) := by decide +kernel
theorem dL_act_389 : decode cL_act 389 = .ok (.iconst 1, 1) := by decide +kernel
theorem dL_act_390 : decode cL_act 390 = .ok (.invokevirtual 20, 3) := by decide +kernel
theorem dL_act_393 : decode cL_act 393 = .ok (.iconst 1, 1) := by decide +kernel
theorem dL_act_394 : decode cL_act 394 = .ok (.if_icmp .ne 7, 3) := by decide +kernel
theorem dL_act_397 : decode cL_act 397 = .ok (.iconst 1, 1) := by decide +kernel
theorem dL_act_398 : decode cL_act 398 = .ok (.goto 4, 3) := by decide +kernel
theorem dL_act_401 : decode cL_act 401 = .ok (.iconst 0, 1) := by decide +kernel
theorem dL_act_402 : decode cL_act 402 = .ok (.istore 7, 2) := by decide +kernel
theorem dL_act_404 : decode cL_act 404 = .ok (.iload_n 2, 1) := by decide +kernel
theorem dL_act_405 : decode cL_act 405 = .ok (.bipush 10, 2) := by decide +kernel
theorem dL_act_407 : decode cL_act 407 = .ok (.if_icmp .ge 49, 3) := by decide +kernel
theorem dL_act_410 : decode cL_act 410 = .ok (.aload_n 0, 1) := by decide +kernel
theorem dL_act_411 : decode cL_act 411 = .ok (.iload 6, 2) := by decide +kernel
theorem dL_act_413 : decode cL_act 413 = .ok (.invokevirtual 57, 3) := by decide +kernel
theorem dL_act_416 : decode cL_act 416 = .ok (.istore 8, 2) := by decide +kernel
theorem dL_act_418 : decode cL_act 418 = .ok (.iload 8, 2) := by decide +kernel
theorem dL_act_420 : decode cL_act 420 = .ok (.iload 7, 2) := by decide +kernel
theorem dL_act_422 : decode cL_act 422 = .ok (.ifCond .eq 11, 3) := by decide +kernel
theorem dL_act_425 : decode cL_act 425 = .ok (.bipush 9, 2) := by decide +kernel
theorem dL_act_427 : decode cL_act 427 = .ok (.iload 5, 2) := by decide +kernel
theorem dL_act_429 : decode cL_act 429 = .ok (.iadd, 1) := by decide +kernel
theorem dL_act_430 : decode cL_act 430 = .ok (.goto 5, 3) := by decide +kernel
theorem dL_act_433 : decode cL_act 433 = .ok (.bipush 6, 2) := by decide +kernel
theorem dL_act_435 : decode cL_act 435 = .ok (.if_icmp .ne 18, 3) := by decide +kernel
theorem dL_act_438 : decode cL_act 438 = .ok (.aload_n 0, 1) := by decide +kernel
theorem dL_act_439 : decode cL_act 439 = .ok (.iload 6, 2) := by decide +kernel
theorem dL_act_441 : decode cL_act 441 = .ok (.iconst 1, 1) := by decide +kernel
theorem dL_act_442 : decode cL_act 442 = .ok (.invokevirtual 20, 3) := by decide +kernel
theorem dL_act_445 : decode cL_act 445 = .ok (.ifCond .ne 8, 3) := by decide +kernel
theorem dL_act_448 : decode cL_act 448 = .ok (.iload 8, 2) := by decide +kernel
theorem dL_act_450 : decode cL_act 450 = .ok (.goto 5, 3) := by decide +kernel
theorem dL_act_453 : decode cL_act 453 = .ok (.bipush (-9), 2) := by decide +kernel
theorem dL_act_455 : decode cL_act 455 = .ok (.ireturn, 1) := by decide +kernel
theorem dL_act_456 : decode cL_act 456 = .ok (.aload_n 0, 1) := by decide +kernel
theorem dL_act_457 : decode cL_act 457 = .ok (.iload 6, 2) := by decide +kernel
theorem dL_act_459 : decode cL_act 459 = .ok (.iconst 2, 1) := by decide +kernel
theorem dL_act_460 : decode cL_act 460 = .ok (.invokevirtual 20, 3) := by decide +kernel
theorem dL_act_463 : decode cL_act 463 = .ok (.istore 8, 2) := by decide +kernel
theorem dL_act_465 : decode cL_act 465 = .ok (.aload_n 0, 1) := by decide +kernel
theorem dL_act_466 : decode cL_act 466 = .ok (.bipush 8, 2) := by decide +kernel
theorem dL_act_468 : decode cL_act 468 = .ok (.invokevirtual 14, 3) := by decide +kernel
theorem dL_act_471 : decode cL_act 471 = .ok (.istore 9, 2) := by decide +kernel
theorem dL_act_473 : decode cL_act 473 = .ok (.aload_n 0, 1) := by decide +kernel
theorem dL_act_474 : decode cL_act 474 = .ok (.iload 6, 2) := by decide +kernel
theorem dL_act_476 : decode cL_act 476 = .ok (.iconst 0, 1) := by decide +kernel
theorem dL_act_477 : decode cL_act 477 = .ok (.invokevirtual 20, 3) := by decide +kernel
theorem dL_act_480 : decode cL_act 480 = .ok (.istore 10, 2) := by decide +kernel
theorem dL_act_482 : decode cL_act 482 = .ok (.aload_n 0, 1) := by decide +kernel
theorem dL_act_483 : decode cL_act 483 = .ok (.iload 6, 2) := by decide +kernel
theorem dL_act_485 : decode cL_act 485 = .ok (.bipush 11, 2) := by decide +kernel
theorem dL_act_487 : decode cL_act 487 = .ok (.invokevirtual 20, 3) := by decide +kernel
theorem dL_act_490 : decode cL_act 490 = .ok (.istore 11, 2) := by decide +kernel
theorem dL_act_492 : decode cL_act 492 = .ok (.iload 7, 2) := by decide +kernel
theorem dL_act_494 : decode cL_act 494 = .ok (.ifCond .eq 22, 3) := by decide +kernel
theorem dL_act_497 : decode cL_act 497 = .ok (.iload 8, 2) := by decide +kernel
theorem dL_act_499 : decode cL_act 499 = .ok (.ifCond .lt 17, 3) := by decide +kernel
theorem dL_act_502 : decode cL_act 502 = .ok (.aload_n 0, 1) := by decide +kernel
theorem dL_act_503 : decode cL_act 503 = .ok (.iload 8, 2) := by decide +kernel
theorem dL_act_505 : decode cL_act 505 = .ok (.iconst 1, 1) := by decide +kernel
theorem dL_act_506 : decode cL_act 506 = .ok (.invokevirtual 20, 3) := by decide +kernel
theorem dL_act_509 : decode cL_act 509 = .ok (.ifCond .ne 7, 3) := by decide +kernel
theorem dL_act_512 : decode cL_act 512 = .ok (.iconst 1, 1) := by decide +kernel
theorem dL_act_513 : decode cL_act 513 = .ok (.goto 4, 3) := by decide +kernel
theorem dL_act_516 : decode cL_act 516 = .ok (.iconst 0, 1) := by decide +kernel
theorem dL_act_517 : decode cL_act 517 = .ok (.istore 12, 2) := by decide +kernel
theorem dL_act_519 : decode cL_act 519 = .ok (.iconst 0, 1) := by decide +kernel
theorem dL_act_520 : decode cL_act 520 = .ok (.istore 13, 2) := by decide +kernel
theorem dL_act_522 : decode cL_act 522 = .ok (.iload 13, 2) := by decide +kernel
theorem dL_act_524 : decode cL_act 524 = .ok (.iload 6, 2) := by decide +kernel
theorem dL_act_526 : decode cL_act 526 = .ok (.if_icmp .ge 43, 3) := by decide +kernel
theorem dL_act_529 : decode cL_act 529 = .ok (.iload 12, 2) := by decide +kernel
theorem dL_act_531 : decode cL_act 531 = .ok (.ifCond .eq 29, 3) := by decide +kernel
theorem dL_act_534 : decode cL_act 534 = .ok (.aload_n 0, 1) := by decide +kernel
theorem dL_act_535 : decode cL_act 535 = .ok (.iload 13, 2) := by decide +kernel
theorem dL_act_537 : decode cL_act 537 = .ok (.iconst 2, 1) := by decide +kernel
theorem dL_act_538 : decode cL_act 538 = .ok (.invokevirtual 20, 3) := by decide +kernel
theorem dL_act_541 : decode cL_act 541 = .ok (.iload 8, 2) := by decide +kernel
theorem dL_act_543 : decode cL_act 543 = .ok (.if_icmp .ne 13, 3) := by decide +kernel
theorem dL_act_546 : decode cL_act 546 = .ok (.aload_n 0, 1) := by decide +kernel
theorem dL_act_547 : decode cL_act 547 = .ok (.iload 13, 2) := by decide +kernel
theorem dL_act_549 : decode cL_act 549 = .ok (.iconst 1, 1) := by decide +kernel
theorem dL_act_550 : decode cL_act 550 = .ok (.invokevirtual 20, 3) := by decide +kernel
theorem dL_act_553 : decode cL_act 553 = .ok (.ifCond .ne 7, 3) := by decide +kernel
theorem dL_act_556 : decode cL_act 556 = .ok (.iconst 1, 1) := by decide +kernel
theorem dL_act_557 : decode cL_act 557 = .ok (.goto 4, 3) := by decide +kernel
theorem dL_act_560 : decode cL_act 560 = .ok (.iconst 0, 1) := by decide +kernel
theorem dL_act_561 : decode cL_act 561 = .ok (.istore 12, 2) := by decide +kernel
theorem dL_act_563 : decode cL_act 563 = .ok (.iinc 13 1, 3) := by decide +kernel
theorem dL_act_566 : decode cL_act 566 = .ok (.goto (-44), 3) := by decide +kernel
theorem dL_act_569 : decode cL_act 569 = .ok (.iload 12, 2) := by decide +kernel
theorem dL_act_571 : decode cL_act 571 = .ok (.ifCond .eq 23, 3) := by decide +kernel
theorem dL_act_574 : decode cL_act 574 = .ok (.aload_n 0, 1) := by decide +kernel
theorem dL_act_575 : decode cL_act 575 = .ok (.aload_n 0, 1) := by decide +kernel
theorem dL_act_576 : decode cL_act 576 = .ok (.iload 8, 2) := by decide +kernel
theorem dL_act_578 : decode cL_act 578 = .ok (.iconst 0, 1) := by decide +kernel
theorem dL_act_579 : decode cL_act 579 = .ok (.invokevirtual 20, 3) := by decide +kernel
theorem dL_act_582 : decode cL_act 582 = .ok (.invokevirtual 26, 3) := by decide +kernel
theorem dL_act_585 : decode cL_act 585 = .ok (.bipush (-4), 2) := by decide +kernel
theorem dL_act_587 : decode cL_act 587 = .ok (.if_icmp .ne 7, 3) := by decide +kernel
theorem dL_act_590 : decode cL_act 590 = .ok (.iconst 1, 1) := by decide +kernel
theorem dL_act_591 : decode cL_act 591 = .ok (.goto 4, 3) := by decide +kernel
theorem dL_act_594 : decode cL_act 594 = .ok (.iconst 0, 1) := by decide +kernel
theorem dL_act_595 : decode cL_act 595 = .ok (.istore 13, 2) := by decide +kernel
theorem dL_act_597 : decode cL_act 597 = .ok (.aload_n 0, 1) := by decide +kernel
theorem dL_act_598 : decode cL_act 598 = .ok (.iload 6, 2) := by decide +kernel
theorem dL_act_600 : decode cL_act 600 = .ok (.invokevirtual 60, 3) := by decide +kernel
theorem dL_act_603 : decode cL_act 603 = .ok (.istore 14, 2) := by decide +kernel
theorem dL_act_605 : decode cL_act 605 = .ok (.iload 7, 2) := by decide +kernel
theorem dL_act_607 : decode cL_act 607 = .ok (.ifCond .ne 18, 3) := by decide +kernel
theorem dL_act_610 : decode cL_act 610 = .ok (.iload 14, 2) := by decide +kernel
theorem dL_act_612 : decode cL_act 612 = .ok (.bipush (-2), 2) := by decide +kernel
theorem dL_act_614 : decode cL_act 614 = .ok (.if_icmp .ne 8, 3) := by decide +kernel
theorem dL_act_617 : decode cL_act 617 = .ok (.iload 14, 2) := by decide +kernel
theorem dL_act_619 : decode cL_act 619 = .ok (.goto 5, 3) := by decide +kernel
theorem dL_act_622 : decode cL_act 622 = .ok (.bipush (-9), 2) := by decide +kernel
theorem dL_act_624 : decode cL_act 624 = .ok (.ireturn, 1) := by decide +kernel
theorem dL_act_625 : decode cL_act 625 = .ok (.iload 13, 2) := by decide +kernel
theorem dL_act_627 : decode cL_act 627 = .ok (.ifCond .eq 47, 3) := by decide +kernel
theorem dL_act_630 : decode cL_act 630 = .ok (.iload 14, 2) := by decide +kernel
theorem dL_act_632 : decode cL_act 632 = .ok (.bipush 10, 2) := by decide +kernel
theorem dL_act_634 : decode cL_act 634 = .ok (.iload 11, 2) := by decide +kernel
theorem dL_act_636 : decode cL_act 636 = .ok (.iadd, 1) := by decide +kernel
theorem dL_act_637 : decode cL_act 637 = .ok (.if_icmp .ne 32, 3) := by decide +kernel
theorem dL_act_640 : decode cL_act 640 = .ok (.aload_n 0, 1) := by decide +kernel
theorem dL_act_641 : decode cL_act 641 = .ok (.iload 6, 2) := by decide +kernel
theorem dL_act_643 : decode cL_act 643 = .ok (.bipush 11, 2) := by decide +kernel
theorem dL_act_645 : decode cL_act 645 = .ok (.invokevirtual 20, 3) := by decide +kernel
theorem dL_act_648 : decode cL_act 648 = .ok (.ifCond .ne 21, 3) := by decide +kernel
theorem dL_act_651 : decode cL_act 651 = .ok (.aload_n 0, 1) := by decide +kernel
theorem dL_act_652 : decode cL_act 652 = .ok (.bipush 8, 2) := by decide +kernel
theorem dL_act_654 : decode cL_act 654 = .ok (.invokevirtual 14, 3) := by decide +kernel
theorem dL_act_657 : decode cL_act 657 = .ok (.iload 9, 2) := by decide +kernel
theorem dL_act_659 : decode cL_act 659 = .ok (.iconst 1, 1) := by decide +kernel
theorem dL_act_660 : decode cL_act 660 = .ok (.iadd, 1) := by decide +kernel
theorem dL_act_661 : decode cL_act 661 = .ok (.if_icmp .ne 8, 3) := by decide +kernel
theorem dL_act_664 : decode cL_act 664 = .ok (.iload 14, 2) := by decide +kernel
theorem dL_act_666 : decode cL_act 666 = .ok (.goto 110, 3) := by decide +kernel
theorem dL_act_669 : decode cL_act 669 = .ok (.bipush (-9), 2) := by decide +kernel
theorem dL_act_671 : decode cL_act 671 = .ok (.goto 105, 3) := by decide +kernel
theorem dL_act_674 : decode cL_act 674 = .ok (.iload 14, 2) := by decide +kernel
theorem dL_act_676 : decode cL_act 676 = .ok (.iconst 3, 1) := by decide +kernel
theorem dL_act_677 : decode cL_act 677 = .ok (.if_icmp .eq 17, 3) := by decide +kernel
theorem dL_act_680 : decode cL_act 680 = .ok (.iload 14, 2) := by decide +kernel
theorem dL_act_682 : decode cL_act 682 = .ok (.bipush 7, 2) := by decide +kernel
theorem dL_act_684 : decode cL_act 684 = .ok (.if_icmp .eq 10, 3) := by decide +kernel
theorem dL_act_687 : decode cL_act 687 = .ok (.iload 14, 2) := by decide +kernel
theorem dL_act_689 : decode cL_act 689 = .ok (.bipush 8, 2) := by decide +kernel
theorem dL_act_691 : decode cL_act 691 = .ok (.if_icmp .ne 83, 3) := by decide +kernel
theorem dL_act_694 : decode cL_act 694 = .ok (.iload 14, 2) := by decide +kernel
theorem dL_act_696 : decode cL_act 696 = .ok (.iconst 3, 1) := by decide +kernel
theorem dL_act_697 : decode cL_act 697 = .ok (.if_icmp .ne 7, 3) := by decide +kernel
theorem dL_act_700 : decode cL_act 700 = .ok (.iconst 1, 1) := by decide +kernel
theorem dL_act_701 : decode cL_act 701 = .ok (.goto 4, 3) := by decide +kernel
theorem dL_act_704 : decode cL_act 704 = .ok (.iconst 0, 1) := by decide +kernel
theorem dL_act_705 : decode cL_act 705 = .ok (.iload 12, 2) := by decide +kernel
theorem dL_act_707 : decode cL_act 707 = .ok (.if_icmp .ne 67, 3) := by decide +kernel
theorem dL_act_710 : decode cL_act 710 = .ok (.iload 14, 2) := by decide +kernel
theorem dL_act_712 : decode cL_act 712 = .ok (.bipush 7, 2) := by decide +kernel
theorem dL_act_714 : decode cL_act 714 = .ok (.if_icmp .ne 7, 3) := by decide +kernel
theorem dL_act_717 : decode cL_act 717 = .ok (.iconst 1, 1) := by decide +kernel
theorem dL_act_718 : decode cL_act 718 = .ok (.goto 4, 3) := by decide +kernel
theorem dL_act_721 : decode cL_act 721 = .ok (.iconst 0, 1) := by decide +kernel
theorem dL_act_722 : decode cL_act 722 = .ok (.iload 8, 2) := by decide +kernel
theorem dL_act_724 : decode cL_act 724 = .ok (.ifCond .lt 14, 3) := by decide +kernel
theorem dL_act_727 : decode cL_act 727 = .ok (.aload_n 0, 1) := by decide +kernel
theorem dL_act_728 : decode cL_act 728 = .ok (.iload 8, 2) := by decide +kernel
theorem dL_act_730 : decode cL_act 730 = .ok (.iconst 1, 1) := by decide +kernel
theorem dL_act_731 : decode cL_act 731 = .ok (.invokevirtual 20, 3) := by decide +kernel
theorem dL_act_734 : decode cL_act 734 = .ok (.iconst 1, 1) := by decide +kernel
theorem dL_act_735 : decode cL_act 735 = .ok (.if_icmp .ne 7, 3) := by decide +kernel
theorem dL_act_738 : decode cL_act 738 = .ok (.iconst 1, 1) := by decide +kernel
theorem dL_act_739 : decode cL_act 739 = .ok (.goto 4, 3) := by decide +kernel
theorem dL_act_742 : decode cL_act 742 = .ok (.iconst 0, 1) := by decide +kernel
theorem dL_act_743 : decode cL_act 743 = .ok (.if_icmp .ne 31, 3) := by decide +kernel
theorem dL_act_746 : decode cL_act 746 = .ok (.aload_n 0, 1) := by decide +kernel
theorem dL_act_747 : decode cL_act 747 = .ok (.iload 6, 2) := by decide +kernel
theorem dL_act_749 : decode cL_act 749 = .ok (.iconst 0, 1) := by decide +kernel
theorem dL_act_750 : decode cL_act 750 = .ok (.invokevirtual 20, 3) := by decide +kernel
theorem dL_act_753 : decode cL_act 753 = .ok (.iload 10, 2) := by decide +kernel
theorem dL_act_755 : decode cL_act 755 = .ok (.if_icmp .ne 19, 3) := by decide +kernel
theorem dL_act_758 : decode cL_act 758 = .ok (.aload_n 0, 1) := by decide +kernel
theorem dL_act_759 : decode cL_act 759 = .ok (.bipush 8, 2) := by decide +kernel
theorem dL_act_761 : decode cL_act 761 = .ok (.invokevirtual 14, 3) := by decide +kernel
theorem dL_act_764 : decode cL_act 764 = .ok (.iload 9, 2) := by decide +kernel
theorem dL_act_766 : decode cL_act 766 = .ok (.if_icmp .ne 8, 3) := by decide +kernel
theorem dL_act_769 : decode cL_act 769 = .ok (.iload 14, 2) := by decide +kernel
theorem dL_act_771 : decode cL_act 771 = .ok (.goto 5, 3) := by decide +kernel
theorem dL_act_774 : decode cL_act 774 = .ok (.bipush (-9), 2) := by decide +kernel
theorem dL_act_776 : decode cL_act 776 = .ok (.ireturn, 1) := by decide +kernel
theorem dL_law_0 : decode cL_law 0 = .ok (.new 15, 3) := by decide +kernel
theorem dL_law_3 : decode cL_law 3 = .ok (.dup, 1) := by decide +kernel
theorem dL_law_4 : decode cL_law 4 = .ok (.invokespecial 99, 3) := by decide +kernel
theorem dL_law_7 : decode cL_law 7 = .ok (.astore_n 1, 1) := by decide +kernel
theorem dL_law_8 : decode cL_law 8 = .ok (.aload_n 1, 1) := by decide +kernel
theorem dL_law_9 : decode cL_law 9 = .ok (.invokevirtual 100, 3) := by decide +kernel
theorem dL_law_12 : decode cL_law 12 = .ok (.bipush (-2), 2) := by decide +kernel
theorem dL_law_14 : decode cL_law 14 = .ok (.if_icmp .ne 49, 3) := by decide +kernel
theorem dL_law_17 : decode cL_law 17 = .ok (.aload_n 1, 1) := by decide +kernel
theorem dL_law_18 : decode cL_law 18 = .ok (.invokevirtual 103, 3) := by decide +kernel
theorem dL_law_21 : decode cL_law 21 = .ok (.bipush (-2), 2) := by decide +kernel
theorem dL_law_23 : decode cL_law 23 = .ok (.if_icmp .ne 40, 3) := by decide +kernel
theorem dL_law_26 : decode cL_law 26 = .ok (.aload_n 1, 1) := by decide +kernel
theorem dL_law_27 : decode cL_law 27 = .ok (.iconst 0, 1) := by decide +kernel
theorem dL_law_28 : decode cL_law 28 = .ok (.invokevirtual 75, 3) := by decide +kernel
theorem dL_law_31 : decode cL_law 31 = .ok (.bipush (-4), 2) := by decide +kernel
theorem dL_law_33 : decode cL_law 33 = .ok (.if_icmp .ne 30, 3) := by decide +kernel
theorem dL_law_36 : decode cL_law 36 = .ok (.aload_n 1, 1) := by decide +kernel
theorem dL_law_37 : decode cL_law 37 = .ok (.iconst 0, 1) := by decide +kernel
theorem dL_law_38 : decode cL_law 38 = .ok (.invokestatic 106, 3) := by decide +kernel
theorem dL_law_41 : decode cL_law 41 = .ok (.ifCond .eq 22, 3) := by decide +kernel
theorem dL_law_44 : decode cL_law 44 = .ok (.aload_n 1, 1) := by decide +kernel
theorem dL_law_45 : decode cL_law 45 = .ok (.iconst 1, 1) := by decide +kernel
theorem dL_law_46 : decode cL_law 46 = .ok (.invokestatic 106, 3) := by decide +kernel
theorem dL_law_49 : decode cL_law 49 = .ok (.ifCond .eq 14, 3) := by decide +kernel
theorem dL_law_52 : decode cL_law 52 = .ok (.aload_n 1, 1) := by decide +kernel
theorem dL_law_53 : decode cL_law 53 = .ok (.invokevirtual 109, 3) := by decide +kernel
theorem dL_law_56 : decode cL_law 56 = .ok (.ifCond .ne 7, 3) := by decide +kernel
theorem dL_law_59 : decode cL_law 59 = .ok (.iconst 1, 1) := by decide +kernel
theorem dL_law_60 : decode cL_law 60 = .ok (.goto 4, 3) := by decide +kernel
theorem dL_law_63 : decode cL_law 63 = .ok (.iconst 0, 1) := by decide +kernel
theorem dL_law_64 : decode cL_law 64 = .ok (.istore_n 2, 1) := by decide +kernel
theorem dL_law_65 : decode cL_law 65 = .ok (.aload_n 1, 1) := by decide +kernel
theorem dL_law_66 : decode cL_law 66 = .ok (.invokestatic 91, 3) := by decide +kernel
theorem dL_law_69 : decode cL_law 69 = .ok (.lstore_n 3, 1) := by decide +kernel
theorem dL_law_70 : decode cL_law 70 = .ok (.iconst 0, 1) := by decide +kernel
theorem dL_law_71 : decode cL_law 71 = .ok (.istore 5, 2) := by decide +kernel
theorem dL_law_73 : decode cL_law 73 = .ok (.iconst 0, 1) := by decide +kernel
theorem dL_law_74 : decode cL_law 74 = .ok (.istore 6, 2) := by decide +kernel
theorem dL_law_76 : decode cL_law 76 = .ok (.iload 6, 2) := by decide +kernel
theorem dL_law_78 : decode cL_law 78 = .ok (.bipush 50, 2) := by decide +kernel
theorem dL_law_80 : decode cL_law 80 = .ok (.if_icmp .ge 393, 3) := by decide +kernel
theorem dL_law_83 : decode cL_law 83 = .ok (.iload_n 2, 1) := by decide +kernel
theorem dL_law_84 : decode cL_law 84 = .ok (.ifCond .eq 389, 3) := by decide +kernel
theorem dL_law_87 : decode cL_law 87 = .ok (.aload_n 0, 1) := by decide +kernel
theorem dL_law_88 : decode cL_law 88 = .ok (.iload 6, 2) := by decide +kernel
theorem dL_law_90 : decode cL_law 90 = .ok (.invokestatic 112, 3) := by decide +kernel
theorem dL_law_93 : decode cL_law 93 = .ok (.istore 7, 2) := by decide +kernel
theorem dL_law_95 : decode cL_law 95 = .ok (.aload_n 1, 1) := by decide +kernel
theorem dL_law_96 : decode cL_law 96 = .ok (.invokestatic 91, 3) := by decide +kernel
theorem dL_law_99 : decode cL_law 99 = .ok (.lstore 8, 2) := by decide +kernel
theorem dL_law_101 : decode cL_law 101 = .ok (.aload_n 1, 1) := by decide +kernel
theorem dL_law_102 : decode cL_law 102 = .ok (.bipush 11, 2) := by decide +kernel
theorem dL_law_104 : decode cL_law 104 = .ok (.invokevirtual 14, 3) := by decide +kernel
theorem dL_law_107 : decode cL_law 107 = .ok (.istore 10, 2) := by decide +kernel
theorem dL_law_109 : decode cL_law 109 = .ok (.aload_n 1, 1) := by decide +kernel
theorem dL_law_110 : decode cL_law 110 = .ok (.bipush 9, 2) := by decide +kernel
theorem dL_law_112 : decode cL_law 112 = .ok (.invokevirtual 14, 3) := by decide +kernel
theorem dL_law_115 : decode cL_law 115 = .ok (.istore 11, 2) := by decide +kernel
theorem dL_law_117 : decode cL_law 117 = .ok (.aload_n 1, 1) := by decide +kernel
theorem dL_law_118 : decode cL_law 118 = .ok (.iload 7, 2) := by decide +kernel
theorem dL_law_120 : decode cL_law 120 = .ok (.invokestatic 116, 3) := by decide +kernel
theorem dL_law_123 : decode cL_law 123 = .ok (.istore 12, 2) := by decide +kernel
theorem dL_law_125 : decode cL_law 125 = .ok (.aload_n 1, 1) := by decide +kernel
theorem dL_law_126 : decode cL_law 126 = .ok (.bipush 11, 2) := by decide +kernel
theorem dL_law_128 : decode cL_law 128 = .ok (.invokevirtual 14, 3) := by decide +kernel
theorem dL_law_131 : decode cL_law 131 = .ok (.istore 13, 2) := by decide +kernel
theorem dL_law_133 : decode cL_law 133 = .ok (.iload 12, 2) := by decide +kernel
theorem dL_law_135 : decode cL_law 135 = .ok (.bipush (-9), 2) := by decide +kernel
theorem dL_law_137 : decode cL_law 137 = .ok (.if_icmp .eq 82, 3) := by decide +kernel
theorem dL_law_140 : decode cL_law 140 = .ok (.iload 12, 2) := by decide +kernel
theorem dL_law_142 : decode cL_law 142 = .ok (.ifCond .ge 23, 3) := by decide +kernel
theorem dL_law_145 : decode cL_law 145 = .ok (.iload 13, 2) := by decide +kernel
theorem dL_law_147 : decode cL_law 147 = .ok (.iload 10, 2) := by decide +kernel
theorem dL_law_149 : decode cL_law 149 = .ok (.if_icmp .ne 70, 3) := by decide +kernel
theorem dL_law_152 : decode cL_law 152 = .ok (.aload_n 1, 1) := by decide +kernel
theorem dL_law_153 : decode cL_law 153 = .ok (.invokestatic 91, 3) := by decide +kernel
theorem dL_law_156 : decode cL_law 156 = .ok (.lload 8, 2) := by decide +kernel
theorem dL_law_158 : decode cL_law 158 = .ok (.lcmp, 1) := by decide +kernel
theorem dL_law_159 : decode cL_law 159 = .ok (.ifCond .ne 60, 3) := by decide +kernel
theorem dL_law_162 : decode cL_law 162 = .ok (.goto 46, 3) := by decide +kernel
theorem dL_law_165 : decode cL_law 165 = .ok (.iload 13, 2) := by decide +kernel
theorem dL_law_167 : decode cL_law 167 = .ok (.iload 10, 2) := by decide +kernel
theorem dL_law_169 : decode cL_law 169 = .ok (.iconst 4, 1) := by decide +kernel
theorem dL_law_170 : decode cL_law 170 = .ok (.if_icmp .ge 10, 3) := by decide +kernel
theorem dL_law_173 : decode cL_law 173 = .ok (.iload 10, 2) := by decide +kernel
theorem dL_law_175 : decode cL_law 175 = .ok (.iconst 1, 1) := by decide +kernel
theorem dL_law_176 : decode cL_law 176 = .ok (.iadd, 1) := by decide +kernel
theorem dL_law_177 : decode cL_law 177 = .ok (.goto 4, 3) := by decide +kernel
theorem dL_law_180 : decode cL_law 180 = .ok (.iconst 4, 1) := by decide +kernel
theorem dL_law_181 : decode cL_law 181 = .ok (.if_icmp .ne 38, 3) := by decide +kernel
theorem dL_law_184 : decode cL_law 184 = .ok (.aload_n 1, 1) := by decide +kernel
theorem dL_law_185 : decode cL_law 185 = .ok (.bipush 9, 2) := by decide +kernel
theorem dL_law_187 : decode cL_law 187 = .ok (.invokevirtual 14, 3) := by decide +kernel
theorem dL_law_190 : decode cL_law 190 = .ok (.iload 11, 2) := by decide +kernel
theorem dL_law_192 : decode cL_law 192 = .ok (.iload 12, 2) := by decide +kernel
theorem dL_law_194 : decode cL_law 194 = .ok (.bipush 10, 2) := by decide +kernel
theorem dL_law_196 : decode cL_law 196 = .ok (.if_icmp .ge 7, 3) := by decide +kernel
theorem dL_law_199 : decode cL_law 199 = .ok (.iconst 1, 1) := by decide +kernel
theorem dL_law_200 : decode cL_law 200 = .ok (.goto 4, 3) := by decide +kernel
theorem dL_law_203 : decode cL_law 203 = .ok (.iconst 0, 1) := by decide +kernel
theorem dL_law_204 : decode cL_law 204 = .ok (.iadd, 1) := by decide +kernel
theorem dL_law_205 : decode cL_law 205 = .ok (.if_icmp .ne 14, 3) := by decide +kernel
theorem dL_law_208 : decode cL_law 208 = .ok (.aload_n 1, 1) := by decide +kernel
theorem dL_law_209 : decode cL_law 209 = .ok (.invokestatic 120, 3) := by decide +kernel
theorem dL_law_212 : decode cL_law 212 = .ok (.ifCond .eq 7, 3) := by decide +kernel
theorem dL_law_215 : decode cL_law 215 = .ok (.iconst 1, 1) := by decide +kernel
theorem dL_law_216 : decode cL_law 216 = .ok (.goto 4, 3) := by decide +kernel
theorem dL_law_219 : decode cL_law 219 = .ok (.iconst 0, 1) := by decide +kernel
theorem dL_law_220 : decode cL_law 220 = .ok (.istore_n 2, 1) := by decide +kernel
theorem dL_law_221 : decode cL_law 221 = .ok (.aload_n 1, 1) := by decide +kernel
theorem dL_law_222 : decode cL_law 222 = .ok (.iconst 0, 1) := by decide +kernel
theorem dL_law_223 : decode cL_law 223 = .ok (.invokevirtual 14, 3) := by decide +kernel
theorem dL_law_226 : decode cL_law 226 = .ok (.istore 14, 2) := by decide +kernel
theorem dL_law_228 : decode cL_law 228 = .ok (.iload_n 2, 1) := by decide +kernel
theorem dL_law_229 : decode cL_law 229 = .ok (.ifCond .eq 93, 3) := by decide +kernel
theorem dL_law_232 : decode cL_law 232 = .ok (.iload 14, 2) := by decide +kernel
theorem dL_law_234 : decode cL_law 234 = .ok (.ifCond .eq 34, 3) := by decide +kernel
theorem dL_law_237 : decode cL_law 237 = .ok (.aload_n 1, 1) := by decide +kernel
theorem dL_law_238 : decode cL_law 238 = .ok (.iload 7, 2) := by decide +kernel
theorem dL_law_240 : decode cL_law 240 = .ok (.iconst 3, 1) := by decide +kernel
theorem dL_law_241 : decode cL_law 241 = .ok (.idiv, 1) := by decide +kernel
theorem dL_law_242 : decode cL_law 242 = .ok (.iload 14, 2) := by decide +kernel
theorem dL_law_244 : decode cL_law 244 = .ok (.irem, 1) := by decide +kernel
theorem dL_law_245 : decode cL_law 245 = .ok (.iload 7, 2) := by decide +kernel
theorem dL_law_247 : decode cL_law 247 = .ok (.bipush 60, 2) := by decide +kernel
theorem dL_law_249 : decode cL_law 249 = .ok (.idiv, 1) := by decide +kernel
theorem dL_law_250 : decode cL_law 250 = .ok (.iload 14, 2) := by decide +kernel
theorem dL_law_252 : decode cL_law 252 = .ok (.irem, 1) := by decide +kernel
theorem dL_law_253 : decode cL_law 253 = .ok (.iload 7, 2) := by decide +kernel
theorem dL_law_255 : decode cL_law 255 = .ok (.sipush 1200, 3) := by decide +kernel
theorem dL_law_258 : decode cL_law 258 = .ok (.idiv, 1) := by decide +kernel
theorem dL_law_259 : decode cL_law 259 = .ok (.iload 14, 2) := by decide +kernel
theorem dL_law_261 : decode cL_law 261 = .ok (.irem, 1) := by decide +kernel
theorem dL_law_262 : decode cL_law 262 = .ok (.invokestatic 124, 3) := by decide +kernel
theorem dL_law_265 : decode cL_law 265 = .ok (.ifCond .eq 57, 3) := by decide +kernel
theorem dL_law_268 : decode cL_law 268 = .ok (.iload 6, 2) := by decide +kernel
theorem dL_law_270 : decode cL_law 270 = .ok (.bipush 8, 2) := by decide +kernel
theorem dL_law_272 : decode cL_law 272 = .ok (.irem, 1) := by decide +kernel
theorem dL_law_273 : decode cL_law 273 = .ok (.bipush 7, 2) := by decide +kernel
theorem dL_law_275 : decode cL_law 275 = .ok (.if_icmp .ne 43, 3) := by decide +kernel
theorem dL_law_278 : decode cL_law 278 = .ok (.aload_n 1, 1) := by decide +kernel
theorem dL_law_279 : decode cL_law 279 = .ok (.iload 7, 2) := by decide +kernel
theorem dL_law_281 : decode cL_law 281 = .ok (.bipush 7, 2) := by decide +kernel
theorem dL_law_283 : decode cL_law 283 = .ok (.idiv, 1) := by decide +kernel
theorem dL_law_284 : decode cL_law 284 = .ok (.invokestatic 106, 3) := by decide +kernel
theorem dL_law_287 : decode cL_law 287 = .ok (.ifCond .eq 35, 3) := by decide +kernel
theorem dL_law_290 : decode cL_law 290 = .ok (.iload 14, 2) := by decide +kernel
theorem dL_law_292 : decode cL_law 292 = .ok (.ifCond .eq 26, 3) := by decide +kernel
theorem dL_law_295 : decode cL_law 295 = .ok (.aload_n 1, 1) := by decide +kernel
theorem dL_law_296 : decode cL_law 296 = .ok (.iload 7, 2) := by decide +kernel
theorem dL_law_298 : decode cL_law 298 = .ok (.iconst 3, 1) := by decide +kernel
theorem dL_law_299 : decode cL_law 299 = .ok (.idiv, 1) := by decide +kernel
theorem dL_law_300 : decode cL_law 300 = .ok (.iload 14, 2) := by decide +kernel
theorem dL_law_302 : decode cL_law 302 = .ok (.irem, 1) := by decide +kernel
theorem dL_law_303 : decode cL_law 303 = .ok (.iload 7, 2) := by decide +kernel
theorem dL_law_305 : decode cL_law 305 = .ok (.bipush 60, 2) := by decide +kernel
theorem dL_law_307 : decode cL_law 307 = .ok (.idiv, 1) := by decide +kernel
theorem dL_law_308 : decode cL_law 308 = .ok (.sipush 15625, 3) := by decide +kernel
theorem dL_law_311 : decode cL_law 311 = .ok (.irem, 1) := by decide +kernel
theorem dL_law_312 : decode cL_law 312 = .ok (.invokestatic 128, 3) := by decide +kernel
theorem dL_law_315 : decode cL_law 315 = .ok (.ifCond .eq 7, 3) := by decide +kernel
theorem dL_law_318 : decode cL_law 318 = .ok (.iconst 1, 1) := by decide +kernel
theorem dL_law_319 : decode cL_law 319 = .ok (.goto 4, 3) := by decide +kernel
theorem dL_law_322 : decode cL_law 322 = .ok (.iconst 0, 1) := by decide +kernel
theorem dL_law_323 : decode cL_law 323 = .ok (.istore_n 2, 1) := by decide +kernel
theorem dL_law_324 : decode cL_law 324 = .ok (.iload_n 2, 1) := by decide +kernel
theorem dL_law_325 : decode cL_law 325 = .ok (.ifCond .eq 58, 3) := by decide +kernel
theorem dL_law_328 : decode cL_law 328 = .ok (.iload 12, 2) := by decide +kernel
theorem dL_law_330 : decode cL_law 330 = .ok (.ifCond .lt 53, 3) := by decide +kernel
theorem dL_law_333 : decode cL_law 333 = .ok (.iload 6, 2) := by decide +kernel
theorem dL_law_335 : decode cL_law 335 = .ok (.ifCond .le 48, 3) := by decide +kernel
theorem dL_law_338 : decode cL_law 338 = .ok (.iload 7, 2) := by decide +kernel
theorem dL_law_340 : decode cL_law 340 = .ok (.bipush 17, 2) := by decide +kernel
theorem dL_law_342 : decode cL_law 342 = .ok (.idiv, 1) := by decide +kernel
theorem dL_law_343 : decode cL_law 343 = .ok (.iconst 4, 1) := by decide +kernel
theorem dL_law_344 : decode cL_law 344 = .ok (.irem, 1) := by decide +kernel
theorem dL_law_345 : decode cL_law 345 = .ok (.ifCond .ne 38, 3) := by decide +kernel
theorem dL_law_348 : decode cL_law 348 = .ok (.aload_n 1, 1) := by decide +kernel
theorem dL_law_349 : decode cL_law 349 = .ok (.invokevirtual 100, 3) := by decide +kernel
theorem dL_law_352 : decode cL_law 352 = .ok (.iload 10, 2) := by decide +kernel
theorem dL_law_354 : decode cL_law 354 = .ok (.iconst 4, 1) := by decide +kernel
theorem dL_law_355 : decode cL_law 355 = .ok (.if_icmp .ge 8, 3) := by decide +kernel
theorem dL_law_358 : decode cL_law 358 = .ok (.iload 10, 2) := by decide +kernel
theorem dL_law_360 : decode cL_law 360 = .ok (.goto 4, 3) := by decide +kernel
theorem dL_law_363 : decode cL_law 363 = .ok (.iconst 3, 1) := by decide +kernel
theorem dL_law_364 : decode cL_law 364 = .ok (.if_icmp .ne 17, 3) := by decide +kernel
theorem dL_law_367 : decode cL_law 367 = .ok (.aload_n 1, 1) := by decide +kernel
theorem dL_law_368 : decode cL_law 368 = .ok (.invokestatic 91, 3) := by decide +kernel
theorem dL_law_371 : decode cL_law 371 = .ok (.lload 8, 2) := by decide +kernel
theorem dL_law_373 : decode cL_law 373 = .ok (.lcmp, 1) := by decide +kernel
theorem dL_law_374 : decode cL_law 374 = .ok (.ifCond .ne 7, 3) := by decide +kernel
theorem dL_law_377 : decode cL_law 377 = .ok (.iconst 1, 1) := by decide +kernel
theorem dL_law_378 : decode cL_law 378 = .ok (.goto 4, 3) := by decide +kernel
theorem dL_law_381 : decode cL_law 381 = .ok (.iconst 0, 1) := by decide +kernel
theorem dL_law_382 : decode cL_law 382 = .ok (.istore_n 2, 1) := by decide +kernel
theorem dL_law_383 : decode cL_law 383 = .ok (.iload_n 2, 1) := by decide +kernel
theorem dL_law_384 : decode cL_law 384 = .ok (.ifCond .eq 83, 3) := by decide +kernel
theorem dL_law_387 : decode cL_law 387 = .ok (.iload 6, 2) := by decide +kernel
theorem dL_law_389 : decode cL_law 389 = .ok (.bipush 12, 2) := by decide +kernel
theorem dL_law_391 : decode cL_law 391 = .ok (.irem, 1) := by decide +kernel
theorem dL_law_392 : decode cL_law 392 = .ok (.bipush 11, 2) := by decide +kernel
theorem dL_law_394 : decode cL_law 394 = .ok (.if_icmp .ne 73, 3) := by decide +kernel
theorem dL_law_397 : decode cL_law 397 = .ok (.aload_n 1, 1) := by decide +kernel
theorem dL_law_398 : decode cL_law 398 = .ok (.invokestatic 91, 3) := by decide +kernel
theorem dL_law_401 : decode cL_law 401 = .ok (.lstore 15, 2) := by decide +kernel
theorem dL_law_403 : decode cL_law 403 = .ok (.aload_n 1, 1) := by decide +kernel
theorem dL_law_404 : decode cL_law 404 = .ok (.iconst 1, 1) := by decide +kernel
theorem dL_law_405 : decode cL_law 405 = .ok (.invokevirtual 14, 3) := by decide +kernel
theorem dL_law_408 : decode cL_law 408 = .ok (.istore 17, 2) := by decide +kernel
theorem dL_law_410 : decode cL_law 410 = .ok (.aload_n 1, 1) := by decide +kernel
theorem dL_law_411 : decode cL_law 411 = .ok (.invokevirtual 103, 3) := by decide +kernel
theorem dL_law_414 : decode cL_law 414 = .ok (.iload 5, 2) := by decide +kernel
theorem dL_law_416 : decode cL_law 416 = .ok (.if_icmp .ne 42, 3) := by decide +kernel
theorem dL_law_419 : decode cL_law 419 = .ok (.aload_n 1, 1) := by decide +kernel
theorem dL_law_420 : decode cL_law 420 = .ok (.invokestatic 91, 3) := by decide +kernel
theorem dL_law_423 : decode cL_law 423 = .ok (.lload_n 3, 1) := by decide +kernel
theorem dL_law_424 : decode cL_law 424 = .ok (.lcmp, 1) := by decide +kernel
theorem dL_law_425 : decode cL_law 425 = .ok (.ifCond .ne 33, 3) := by decide +kernel
theorem dL_law_428 : decode cL_law 428 = .ok (.aload_n 1, 1) := by decide +kernel
theorem dL_law_429 : decode cL_law 429 = .ok (.invokevirtual 100, 3) := by decide +kernel
theorem dL_law_432 : decode cL_law 432 = .ok (.ifCond .lt 26, 3) := by decide +kernel
theorem dL_law_435 : decode cL_law 435 = .ok (.aload_n 1, 1) := by decide +kernel
theorem dL_law_436 : decode cL_law 436 = .ok (.invokestatic 91, 3) := by decide +kernel
theorem dL_law_439 : decode cL_law 439 = .ok (.lload 15, 2) := by decide +kernel
theorem dL_law_441 : decode cL_law 441 = .ok (.lcmp, 1) := by decide +kernel
theorem dL_law_442 : decode cL_law 442 = .ok (.ifCond .ne 16, 3) := by decide +kernel
theorem dL_law_445 : decode cL_law 445 = .ok (.aload_n 1, 1) := by decide +kernel
theorem dL_law_446 : decode cL_law 446 = .ok (.invokevirtual 109, 3) := by decide +kernel
theorem dL_law_449 : decode cL_law 449 = .ok (.iload 17, 2) := by decide +kernel
theorem dL_law_451 : decode cL_law 451 = .ok (.if_icmp .ne 7, 3) := by decide +kernel
theorem dL_law_454 : decode cL_law 454 = .ok (.iconst 1, 1) := by decide +kernel
theorem dL_law_455 : decode cL_law 455 = .ok (.goto 4, 3) := by decide +kernel
theorem dL_law_458 : decode cL_law 458 = .ok (.iconst 0, 1) := by decide +kernel
theorem dL_law_459 : decode cL_law 459 = .ok (.istore_n 2, 1) := by decide +kernel
theorem dL_law_460 : decode cL_law 460 = .ok (.lload 15, 2) := by decide +kernel
theorem dL_law_462 : decode cL_law 462 = .ok (.lstore_n 3, 1) := by decide +kernel
theorem dL_law_463 : decode cL_law 463 = .ok (.iload 17, 2) := by decide +kernel
theorem dL_law_465 : decode cL_law 465 = .ok (.istore 5, 2) := by decide +kernel
theorem dL_law_467 : decode cL_law 467 = .ok (.iinc 6 1, 3) := by decide +kernel
theorem dL_law_470 : decode cL_law 470 = .ok (.goto (-394), 3) := by decide +kernel
theorem dL_law_473 : decode cL_law 473 = .ok (.iload_n 2, 1) := by decide +kernel
theorem dL_law_474 : decode cL_law 474 = .ok (.ireturn, 1) := by decide +kernel
